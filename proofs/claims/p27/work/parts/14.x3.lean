/-! THE CLASS's WRITERS: the rows behind them -/
def wrS (σ : kS) (k : Nat) (g : Int32) : kS := su (su (su σ 19 0 (σ 19 0 + 1)) 14 k (σ 19 0 + 1)) 15 k g
def adS (σ : kS) (k : Nat) (pe q9 : Int32) : kS := if bc (σ 10 k) = 0 then su (su σ 11 k q9) 10 k (σ 10 k ||| 1 <<< (pe &&& 31)) else if bc (σ 10 k) = 1 then (if σ 11 k = q9 then su (su (su σ 12 k q9) 13 k q9) 10 k (σ 10 k ||| 1 <<< (pe &&& 31)) else su (su (su σ 12 k q9) 13 k (-1)) 10 k (σ 10 k ||| 1 <<< (pe &&& 31))) else su (su σ 13 k (midV (σ 11 k) (σ 12 k) q9)) 10 k (σ 10 k ||| 1 <<< (pe &&& 31))
def mvS (σ : kS) (nm : Nat) (f9 t9 a9 q9 i9 : Int32) : kS := su (su (su (su (su (su σ 2 nm f9) 3 nm t9) 4 nm a9) 5 nm q9) 6 nm i9) 17 0 (σ 17 0 + 1)
def shS (σ : kS) (ns : Nat) (pl i9 : Int32) : kS := su (su (su σ 7 ns pl) 8 ns i9) 18 0 (σ 18 0 + 1)
set_option maxHeartbeats 4000000 in
set_option maxRecDepth 100000 in
theorem c_checkIndex (l : Launch) (i n : Int32) (hst : l.stackTraces = false) : vx_Met l yX3_checkIndex [.code yX3_checkIndex cX3_checkIndex 2 none] ({ frames := 6, cells := 1, slots := 6, locals := 92 }) (va_Pc [.int i, .int n] (fun U => GL U ∧ ZS U U.heap)) (rV (ckI i n = true)) (tX (fun x => x = exN 1 ∧ ckI i n = false)) 1 6 NF := by
  refine kx_of (by decide) (Nat.le_of_ble_eq_true rfl) (fun U h => h.1) ?_
  intro p e s m below meth c ls S hr hlocks ht hB hl
  have hx := S.1
  have hb := S.2.1
  have hG : GL s := hB.1
  have hZ : ZS s s.heap := hB.2
  have hl : lv_has ls 2 [(0, .int i), (1, .int n)] := hl
  refine lv_iload_n hx hb dX3_checkIndex_0 rfl (lv_at hl 0 rfl) ?_
  refine lv_if_lt (tgt := 9) hx hb dX3_checkIndex_1 (by decide) (fun c1_1 => ?_) (fun c1_1 => ?_)
  · have bc1_1 := lt_nle c1_1
    exact k_thr S hG hZ hst at_IO m_225 m_32 (by decide +kernel) n_267 hl.1 ht hlocks ⟨Nat.le_of_ble_eq_true rfl, Nat.le_of_ble_eq_true rfl⟩ ⟨Nat.le_of_ble_eq_true rfl, Nat.le_of_ble_eq_true rfl⟩ ⟨Nat.le_of_ble_eq_true rfl, Nat.le_of_ble_eq_true rfl⟩ (Nat.le_of_ble_eq_true rfl) (by simp [ckI, c1_1, bc1_1, exN]) dX3_checkIndex_9 dX3_checkIndex_12 dX3_checkIndex_13 dX3_checkIndex_15 dX3_checkIndex_18
  · have bc1_1 := nlt_le c1_1
    refine lv_iload_n hx hb dX3_checkIndex_4 rfl (lv_at hl 0 rfl) ?_
    refine lv_iload_n hx hb dX3_checkIndex_5 rfl (lv_at hl 1 rfl) ?_
    refine lv_icmp_lt (tgt := 19) hx hb dX3_checkIndex_6 (by decide) (fun c6_2 => ?_) (fun c6_2 => ?_)
    · have bc6_2 := lt_nle c6_2
      refine W.widen (k := 1) (n := 6) (Nat.le_of_ble_eq_true rfl) (Nat.le_of_ble_eq_true rfl) ?_
      refine vx_ret ?_
      exact W.vret hx hb hr (fun t ht hW => ⟨rfl, (by simp [ckI, c1_1, bc1_1, c6_2, bc6_2]), ht⟩) (fun q h => by cases h) dX3_checkIndex_19
    · have bc6_2 := nlt_le c6_2
      exact k_thr S hG hZ hst at_IO m_225 m_32 (by decide +kernel) n_267 hl.1 ht hlocks ⟨Nat.le_of_ble_eq_true rfl, Nat.le_of_ble_eq_true rfl⟩ ⟨Nat.le_of_ble_eq_true rfl, Nat.le_of_ble_eq_true rfl⟩ ⟨Nat.le_of_ble_eq_true rfl, Nat.le_of_ble_eq_true rfl⟩ (Nat.le_of_ble_eq_true rfl) (by simp [ckI, c1_1, bc1_1, c6_2, bc6_2, exN]) dX3_checkIndex_9 dX3_checkIndex_12 dX3_checkIndex_13 dX3_checkIndex_15 dX3_checkIndex_18

set_option maxHeartbeats 4000000 in
set_option maxRecDepth 100000 in
theorem c_checkRange (l : Launch) (v a b : Int32) (hst : l.stackTraces = false) : vx_Met l yX3_checkRange [.code yX3_checkRange cX3_checkRange 3 none] ({ frames := 6, cells := 1, slots := 6, locals := 92 }) (va_Pc [.int v, .int a, .int b] (fun U => GL U ∧ ZS U U.heap)) (rV (ckR v a b = true)) (tX (fun x => x = exN 2 ∧ ckR v a b = false)) 1 6 NF := by
  refine kx_of (by decide) (Nat.le_of_ble_eq_true rfl) (fun U h => h.1) ?_
  intro p e s m below meth c ls S hr hlocks ht hB hl
  have hx := S.1
  have hb := S.2.1
  have hG : GL s := hB.1
  have hZ : ZS s s.heap := hB.2
  have hl : lv_has ls 3 [(0, .int v), (1, .int a), (2, .int b)] := hl
  refine lv_iload_n hx hb dX3_checkRange_0 rfl (lv_at hl 0 rfl) ?_
  refine lv_iload_n hx hb dX3_checkRange_1 rfl (lv_at hl 1 rfl) ?_
  refine lv_icmp_lt (tgt := 10) hx hb dX3_checkRange_2 (by decide) (fun c2_1 => ?_) (fun c2_1 => ?_)
  · have bc2_1 := lt_nle c2_1
    exact k_thr S hG hZ hst at_IA m_446 m_33 (by decide +kernel) n_455 hl.1 ht hlocks ⟨Nat.le_of_ble_eq_true rfl, Nat.le_of_ble_eq_true rfl⟩ ⟨Nat.le_of_ble_eq_true rfl, Nat.le_of_ble_eq_true rfl⟩ ⟨Nat.le_of_ble_eq_true rfl, Nat.le_of_ble_eq_true rfl⟩ (Nat.le_of_ble_eq_true rfl) (by simp [ckR, c2_1, bc2_1, exN]) dX3_checkRange_10 dX3_checkRange_13 dX3_checkRange_14 dX3_checkRange_16 dX3_checkRange_19
  · have bc2_1 := nlt_le c2_1
    refine lv_iload_n hx hb dX3_checkRange_5 rfl (lv_at hl 0 rfl) ?_
    refine lv_iload_n hx hb dX3_checkRange_6 rfl (lv_at hl 2 rfl) ?_
    refine lv_icmp_le (tgt := 20) hx hb dX3_checkRange_7 (by decide) (fun c7_2 => ?_) (fun c7_2 => ?_)
    · have bc7_2 := le_nlt c7_2
      refine W.widen (k := 1) (n := 6) (Nat.le_of_ble_eq_true rfl) (Nat.le_of_ble_eq_true rfl) ?_
      refine vx_ret ?_
      exact W.vret hx hb hr (fun t ht hW => ⟨rfl, (by simp [ckR, c2_1, bc2_1, c7_2, bc7_2]), ht⟩) (fun q h => by cases h) dX3_checkRange_20
    · have bc7_2 := nle_lt c7_2
      exact k_thr S hG hZ hst at_IA m_446 m_33 (by decide +kernel) n_455 hl.1 ht hlocks ⟨Nat.le_of_ble_eq_true rfl, Nat.le_of_ble_eq_true rfl⟩ ⟨Nat.le_of_ble_eq_true rfl, Nat.le_of_ble_eq_true rfl⟩ ⟨Nat.le_of_ble_eq_true rfl, Nat.le_of_ble_eq_true rfl⟩ (Nat.le_of_ble_eq_true rfl) (by simp [ckR, c2_1, bc2_1, c7_2, bc7_2, exN]) dX3_checkRange_10 dX3_checkRange_13 dX3_checkRange_14 dX3_checkRange_16 dX3_checkRange_19

set_option maxHeartbeats 4000000 in
set_option maxRecDepth 100000 in
theorem c_checkPlace (l : Launch) (i : Int32) (hst : l.stackTraces = false) : vx_Met l yX3_checkPlaceOrOutside [.code yX3_checkPlaceOrOutside cX3_checkPlaceOrOutside 1 none] ({ frames := 7, cells := 1, slots := 6, locals := 113 }) (va_Pc [.int i] (fun U => GL U ∧ ZS U U.heap)) (rV (ckP i = true)) (tX (fun x => x = exN 1 ∧ ckP i = false)) 1 6 NF := by
  refine kx_of (by decide) (Nat.le_of_ble_eq_true rfl) (fun U h => h.1) ?_
  intro p e s m below meth c ls S hr hlocks ht hB hl
  have hx := S.1
  have hb := S.2.1
  have hG : GL s := hB.1
  have hZ : ZS s s.heap := hB.2
  have hl : lv_has ls 1 [(0, .int i)] := hl
  refine lv_iload_n hx hb dX3_checkPlaceOrOutside_0 rfl (lv_at hl 0 rfl) ?_
  refine lv_iconst (v := (-1)) hx hb dX3_checkPlaceOrOutside_1 (by decide) ?_
  refine lv_icmp_eq (tgt := 11) hx hb dX3_checkPlaceOrOutside_2 (by decide) (fun c2_1 => ?_) (fun c2_1 => ?_)
  · have bc2_1 := c2_1
    refine W.widen (k := 1) (n := 6) (Nat.le_of_ble_eq_true rfl) (Nat.le_of_ble_eq_true rfl) ?_
    refine vx_ret ?_
    exact W.vret hx hb hr (fun t ht hW => ⟨rfl, (by simp [ckP, c2_1]), ht⟩) (fun q h => by cases h) dX3_checkPlaceOrOutside_11
  · have bc2_1 := c2_1
    refine lv_iload_n hx hb dX3_checkPlaceOrOutside_5 rfl (lv_at hl 0 rfl) ?_
    refine lv_bipush (v := 12) hx hb dX3_checkPlaceOrOutside_6 (by decide) ?_
    refine q_xv (rx_S S ⟨m_222, m_223, m_23, m_224⟩ ⟨rfl, by decide, by decide, by decide +kernel⟩ (c_checkIndex l i 12 hst) ⟨rfl, rfl, Nat.le_of_ble_eq_true rfl, Nat.le_of_ble_eq_true rfl⟩ (ps bl_GZ (bGZ hG hZ)) (n := 2) (As := [.int i, .int 12]) (rest := []) rfl hl.1 rfl (Nat.le_of_ble_eq_true rfl) ⟨Nat.le_of_ble_eq_true rfl, Nat.le_of_ble_eq_true rfl⟩ dX3_checkPlaceOrOutside_8) ht hlocks (by rintro x ⟨rfl, hf2⟩; simp [ckP, hf2, c2_1]) (Nat.le_of_ble_eq_true rfl) (Nat.le_of_ble_eq_true rfl) (fun (p2 : ckI i 12 = true) => ?_)
    refine vx_ret ?_
    exact W.vret hx hb hr (fun t ht hW => ⟨rfl, (by simp [ckP, c2_1, p2]), ht⟩) (fun q h => by cases h) dX3_checkPlaceOrOutside_11

set_option maxHeartbeats 4000000 in
set_option maxRecDepth 100000 in
theorem c_checkLine (l : Launch) (G : kG) (ad : Nat → Nat) (σ : kS) (sh ar : Int32) (hst : l.stackTraces = false) : vx_Met l yX3_checkLine [.code yX3_checkLine cX3_checkLine 3 none] ({ frames := 7, cells := 2, slots := 12, locals := 113 }) (va_Pc [.ref (ad 0), .int sh, .int ar] (fun U => PX G ad σ U U.heap ∧ ZS U U.heap)) (rV ((ckI sh (σ 18 0) && ckI ar 5) = true)) (tX (fun x => x = exN 1 ∧ (ckI sh (σ 18 0) && ckI ar 5) = false)) 2 12 NF := by
  refine kx_of (by decide) (Nat.le_of_ble_eq_true rfl) (fun U h => h.1.2.2) ?_
  intro p e s m below meth c ls S hr hlocks ht hB hl
  have hx := S.1
  have hb := S.2.1
  have hX : PX G ad σ s s.heap := hB.1
  have hG : GL s := hX.2.2
  have hZ : ZS s s.heap := hB.2
  have hl : lv_has ls 3 [(0, .ref (ad 0)), (1, .int sh), (2, .int ar)] := hl
  refine lv_iload_n hx hb dX3_checkLine_0 rfl (lv_at hl 1 rfl) ?_
  refine lv_aload_n hx hb dX3_checkLine_1 rfl (lv_at hl 0 rfl) ?_
  refine k_get S hX.2 hX.1 0 (C := RX3) (T := TX3) (N := 6) rfl rfl 3 (by decide) inX3 m_134 rfl dX3_checkLine_2 ?_
  refine k_getN S hX.2 hX.1 4 (C := RX2) (T := TX2) (N := 4) rfl rfl 3 (by decide) inX2 n_85 rfl dX3_checkLine_5 ?_
  refine q_xv (rx_S S ⟨m_222, m_223, m_23, m_224⟩ ⟨rfl, by decide, by decide, by decide +kernel⟩ (c_checkIndex l sh (σ 18 0) hst) ⟨rfl, rfl, Nat.le_of_ble_eq_true rfl, Nat.le_of_ble_eq_true rfl⟩ (ps bl_GZ (bGZ hX.2.2 hZ)) (n := 2) (As := [.int sh, .int (σ 18 0)]) (rest := []) rfl hl.1 rfl (Nat.le_of_ble_eq_true rfl) ⟨Nat.le_of_ble_eq_true rfl, Nat.le_of_ble_eq_true rfl⟩ dX3_checkLine_8) ht hlocks (by rintro x ⟨rfl, hf1⟩; simp [exN, hf1, exN]) (Nat.le_of_ble_eq_true rfl) (Nat.le_of_ble_eq_true rfl) (fun (p1 : ckI sh (σ 18 0) = true) => ?_)
  refine lv_iload_n hx hb dX3_checkLine_11 rfl (lv_at hl 2 rfl) ?_
  refine lv_iconst (v := 5) hx hb dX3_checkLine_12 (by decide) ?_
  refine q_xv (rx_S S ⟨m_222, m_223, m_23, m_224⟩ ⟨rfl, by decide, by decide, by decide +kernel⟩ (c_checkIndex l ar 5 hst) ⟨rfl, rfl, Nat.le_of_ble_eq_true rfl, Nat.le_of_ble_eq_true rfl⟩ (ps bl_GZ (bGZ hX.2.2 hZ)) (n := 2) (As := [.int ar, .int 5]) (rest := []) rfl hl.1 rfl (Nat.le_of_ble_eq_true rfl) ⟨Nat.le_of_ble_eq_true rfl, Nat.le_of_ble_eq_true rfl⟩ dX3_checkLine_13) ht hlocks (by rintro x ⟨rfl, hf2⟩; simp [exN, p1, hf2, exN]) (Nat.le_of_ble_eq_true rfl) (Nat.le_of_ble_eq_true rfl) (fun (p2 : ckI ar 5 = true) => ?_)
  refine vx_ret ?_
  exact W.vret hx hb hr (fun t ht hW => ⟨rfl, (by simp [exN, p1, p2]), ht⟩) (fun q h => by cases h) dX3_checkLine_16

set_option maxHeartbeats 4000000 in
set_option maxRecDepth 100000 in
theorem c_checkAgrees (l : Launch) (G : kG) (ad : Nat → Nat) (σ : kS) (sh ar : Nat) (hst : l.stackTraces = false) (hsh : sh < 40) (har : ar < 5) : vx_Met l yX3_checkAgrees [.code yX3_checkAgrees cX3_checkAgrees 3 none] ({ frames := 6, cells := 1, slots := 6, locals := 92 }) (va_Pc [.ref (ad 0), .int (nI sh), .int (nI ar)] (fun U => PX G ad σ U U.heap ∧ ZS U U.heap)) (rV (agB σ (sh * 5 + ar) = true)) (tX (fun x => x = exN 4 ∧ agB σ (sh * 5 + ar) = false)) 1 6 NF := by
  refine kx_of (by decide) (Nat.le_of_ble_eq_true rfl) (fun U h => h.1.2.2) ?_
  intro p e s m below meth c ls S hr hlocks ht hB hl
  have hx := S.1
  have hb := S.2.1
  have hX : PX G ad σ s s.heap := hB.1
  have hG : GL s := hX.2.2
  have hZ : ZS s s.heap := hB.2
  have hl : lv_has ls 3 [(0, .ref (ad 0)), (1, .int (nI sh)), (2, .int (nI ar))] := hl
  refine lv_aload_n hx hb dX3_checkAgrees_0 rfl (lv_at hl 0 rfl) ?_
  refine k_get S hX.2 hX.1 0 (C := RX3) (T := TX3) (N := 6) rfl rfl 4 (by decide) inX3 m_135 rfl dX3_checkAgrees_1 ?_
  refine lv_iload_n hx hb dX3_checkAgrees_4 rfl (lv_at hl 1 rfl) ?_
  refine lv_iload_n hx hb dX3_checkAgrees_5 rfl (lv_at hl 2 rfl) ?_
  refine q_i (r_S S ⟨m_183, m_184, m_23, m_185⟩ ⟨rfl, by decide, by decide, by decide +kernel⟩ (c_lineOf l sh ar) ⟨rfl, rfl, Nat.le_of_ble_eq_true rfl, Nat.le_of_ble_eq_true rfl⟩ (ps bl_GL (bG hX.2.2)) (n := 2) (As := [.int (nI sh), .int (nI ar)]) (rest := [.ref (ad 5)]) rfl hl.1 rfl (Nat.le_of_ble_eq_true rfl) ⟨Nat.le_of_ble_eq_true rfl, Nat.le_of_ble_eq_true rfl⟩ dX3_checkAgrees_6) (fun r1 (e1 : r1 = nI (sh * 5 + ar)) => ?_)
  subst e1
  refine q_i (r_VN S hX.2.2 ⟨n_358, m_360, m_14, m_26, m_361⟩ ⟨rfl, by decide, by decide, by decide +kernel⟩ (c_agrees l G ad σ (sh * 5 + ar) (by omega)) ⟨rfl, rfl, Nat.le_of_ble_eq_true rfl, Nat.le_of_ble_eq_true rfl⟩ (pv_X hX 5 rfl rfl bl_PX (bX hX)) (n := 1) (As := [.int (nI (sh * 5 + ar))]) (rest := []) rfl hl.1 rfl (Nat.le_of_ble_eq_true rfl) ⟨Nat.le_of_ble_eq_true rfl, Nat.le_of_ble_eq_true rfl⟩ dX3_checkAgrees_9) (fun r2 (e2 : r2 = bI (agB σ (sh * 5 + ar))) => ?_)
  subst e2
  refine lv_if_ne (tgt := 25) hx hb dX3_checkAgrees_12 (by decide) (fun c12_3 => ?_) (fun c12_3 => ?_)
  · have bc12_3 := bI_n c12_3
    refine W.widen (k := 1) (n := 6) (Nat.le_of_ble_eq_true rfl) (Nat.le_of_ble_eq_true rfl) ?_
    refine vx_ret ?_
    exact W.vret hx hb hr (fun t ht hW => ⟨rfl, bc12_3, ht⟩) (fun q h => by cases h) dX3_checkAgrees_25
  · have bc12_3 := bI_0 c12_3
    exact k_thrN S hG hZ hst at_NS m_378 m_36 (by decide +kernel) n_387 hl.1 ht hlocks ⟨Nat.le_of_ble_eq_true rfl, Nat.le_of_ble_eq_true rfl⟩ ⟨Nat.le_of_ble_eq_true rfl, Nat.le_of_ble_eq_true rfl⟩ ⟨Nat.le_of_ble_eq_true rfl, Nat.le_of_ble_eq_true rfl⟩ (Nat.le_of_ble_eq_true rfl) ⟨rfl, bc12_3⟩ dX3_checkAgrees_15 dX3_checkAgrees_18 dX3_checkAgrees_19 dX3_checkAgrees_21 dX3_checkAgrees_24

set_option maxHeartbeats 4000000 in
set_option maxRecDepth 100000 in
theorem c_write (l : Launch) (G : kG) (ad : Nat → Nat) (σ : kS) (k : Nat) (g : Int32) (hk : k < 200) (A : Nat → Prop) (hD : DD 20 A ad) : Met l yX0_write [.code yX0_write cX0_write 3 none] ({ frames := 1, cells := 0, slots := 0, locals := 40 }) (va_Pc [.ref (ad 5), .int (nI k), .int g] (fun U => PX G ad σ U U.heap)) (oV A True (fun H9 => va_P G.1 vwCl (wX G ad (wrS σ k g)) H9)) 0 0 A := by
  refine k_of (by decide) (Nat.le_of_ble_eq_true rfl) (fun U h => h.2.2) ?_
  intro p e s m below meth c ls S hr hlocks hmn hB hl
  have hx := S.1
  have hb := S.2.1
  have hX : PX G ad σ s s.heap := hB
  have hS0 : va_S A s.heap s.heap [] := va_S.rf
  have hl : lv_has ls 3 [(0, .ref (ad 5)), (1, .int (nI k)), (2, .int g)] := hl
  refine lv_aload_n hx hb dX0_write_0 rfl (lv_at hl 0 rfl) ?_
  refine lv_dup hx hb dX0_write_1 rfl ?_
  refine k_get S hX.2 hX.1 5 (C := RX0) (T := TX0) (N := 7) rfl rfl 6 (by decide) inX0 m_114 rfl dX0_write_2 ?_
  refine lv_iconst (v := 1) hx hb dX0_write_5 (by decide) ?_
  refine lv_iadd hx hb dX0_write_6 ?_
  refine k_put S hX.2 hX.1 (hD.w (wX_fst _ _ _)) hS0 5 (C := RX0) (T := TX0) (N := 7) rfl rfl 6 (by decide) inX0 tyX0 tyX0_ok nmX0 rfl rfl m_114 (Nat.le_of_ble_eq_true rfl) dX0_write_7 (fun H1 L1 h1 hS1 => ?_)
  have hX1 : PX G ad (su σ 19 0 ((σ 19 0) + 1)) s H1 := ⟨h1, hX.2⟩
  refine lv_aload_n hx hb dX0_write_10 rfl (lv_at hl 0 rfl) ?_
  refine k_get S hX1.2 hX1.1 5 (C := RX0) (T := TX0) (N := 7) rfl rfl 4 (by decide) inX0 m_110 rfl dX0_write_11 ?_
  refine lv_iload_n hx hb dX0_write_14 rfl (lv_at hl 1 rfl) ?_
  refine lv_aload_n hx hb dX0_write_15 rfl (lv_at hl 0 rfl) ?_
  refine k_get S hX1.2 hX1.1 5 (C := RX0) (T := TX0) (N := 7) rfl rfl 6 (by decide) inX0 m_114 rfl dX0_write_16 ?_
  refine k_eq (y := (σ 19 0) + 1) (by rfl) ?_
  refine k_ist S hX1.2 hX1.1 (hD.w (wX_fst _ _ _)) hS1 18 (i := k) rfl (by omega) (by decide) dX0_write_19 (fun H2 L2 h2 hS2 => ?_)
  have hX2 : PX G ad (su (su σ 19 0 ((σ 19 0) + 1)) 14 k ((σ 19 0) + 1)) s H2 := ⟨h2, hX1.2⟩
  refine lv_aload_n hx hb dX0_write_20 rfl (lv_at hl 0 rfl) ?_
  refine k_get S hX2.2 hX2.1 5 (C := RX0) (T := TX0) (N := 7) rfl rfl 5 (by decide) inX0 m_112 rfl dX0_write_21 ?_
  refine lv_iload_n hx hb dX0_write_24 rfl (lv_at hl 1 rfl) ?_
  refine lv_iload_n hx hb dX0_write_25 rfl (lv_at hl 2 rfl) ?_
  refine k_ist S hX2.2 hX2.1 (hD.w (wX_fst _ _ _)) hS2 19 (i := k) rfl (by omega) (by decide) dX0_write_26 (fun H3 L3 h3 hS3 => ?_)
  have hX3 : PX G ad (su (su (su σ 19 0 ((σ 19 0) + 1)) 14 k ((σ 19 0) + 1)) 15 k g) s H3 := ⟨h3, hX2.2⟩
  exact W.vret hx hb hr (fun t ht hW => ⟨rfl, trivial, (by have e9 : wrS σ k g = su (su (su σ 19 0 ((σ 19 0) + 1)) 14 k ((σ 19 0) + 1)) 15 k g := (by first | rfl | simp [wrS]); show va_P G.1 vwCl (wX G ad (wrS σ k g)) t.heap; rw [e9, ht]; exact hX3.1), hS3.F ht⟩) hS3.2.2 dX0_write_27

set_option maxHeartbeats 4000000 in
set_option maxRecDepth 100000 in
theorem c_lineAdd (l : Launch) (G : kG) (ad : Nat → Nat) (σ : kS) (k : Nat) (pe q9 : Int32) (hk : k < 200) (A : Nat → Prop) (hD : DD 20 A ad) : Met l yX0_add [.code yX0_add cX0_add 5 none] ({ frames := 3, cells := 0, slots := 0, locals := 83 }) (va_Pc [.ref (ad 5), .int (nI k), .int pe, .int q9] (fun U => PX G ad σ U U.heap)) (oV A True (fun H9 => va_P G.1 vwCl (wX G ad (adS σ k pe q9)) H9)) 0 0 A := by
  refine k_of (by decide) (Nat.le_of_ble_eq_true rfl) (fun U h => h.2.2) ?_
  intro p e s m below meth c ls S hr hlocks hmn hB hl
  have hx := S.1
  have hb := S.2.1
  have hX : PX G ad σ s s.heap := hB
  have hS0 : va_S A s.heap s.heap [] := va_S.rf
  have hl : lv_has ls 5 [(0, .ref (ad 5)), (1, .int (nI k)), (2, .int pe), (3, .int q9)] := hl
  refine lv_aload_n hx hb dX0_add_0 rfl (lv_at hl 0 rfl) ?_
  refine lv_iload_n hx hb dX0_add_1 rfl (lv_at hl 1 rfl) ?_
  refine q_i (r_V S ⟨m_565, m_328, m_11, m_26, m_329⟩ ⟨rfl, by decide, by decide, by decide +kernel⟩ (c_countsOn l G ad σ k (by omega)) ⟨rfl, rfl, Nat.le_of_ble_eq_true rfl, Nat.le_of_ble_eq_true rfl⟩ (pv_X hX 5 rfl rfl bl_PX (bX hX)) (n := 1) (As := [.int (nI k)]) (rest := []) rfl hl.1 rfl (Nat.le_of_ble_eq_true rfl) ⟨Nat.le_of_ble_eq_true rfl, Nat.le_of_ble_eq_true rfl⟩ dX0_add_2) (fun r1 (e1 : r1 = bc (σ 10 k)) => ?_)
  subst e1
  refine lv_istore (lv' := [(4, .int (bc (σ 10 k))), (0, .ref (ad 5)), (1, .int (nI k)), (2, .int pe), (3, .int q9)]) hx hb dX0_add_5 hl (by decide) rfl (fun ls hl => ?_)
  refine lv_iload hx hb dX0_add_7 (lv_at hl 0 rfl) ?_
  refine lv_if_ne (tgt := 22) hx hb dX0_add_9 (by decide) (fun c9_2 => ?_) (fun c9_2 => ?_)
  · have bc9_2 := c9_2
    refine lv_iload hx hb dX0_add_22 (lv_at hl 0 rfl) ?_
    refine lv_iconst (v := 1) hx hb dX0_add_24 (by decide) ?_
    refine lv_icmp_ne (tgt := 59) hx hb dX0_add_25 (by decide) (fun c25_3 => ?_) (fun c25_3 => ?_)
    · have bc25_3 := c25_3
      refine lv_aload_n hx hb dX0_add_59 rfl (lv_at hl 1 rfl) ?_
      refine k_get S hX.2 hX.1 5 (C := RX0) (T := TX0) (N := 7) rfl rfl 3 (by decide) inX0 m_108 rfl dX0_add_60 ?_
      refine lv_iload_n hx hb dX0_add_63 rfl (lv_at hl 2 rfl) ?_
      refine lv_aload_n hx hb dX0_add_64 rfl (lv_at hl 1 rfl) ?_
      refine k_get S hX.2 hX.1 5 (C := RX0) (T := TX0) (N := 7) rfl rfl 1 (by decide) inX0 m_106 rfl dX0_add_65 ?_
      refine lv_iload_n hx hb dX0_add_68 rfl (lv_at hl 2 rfl) ?_
      refine k_ild S hX.2 hX.1 15 (i := k) rfl (by omega) (by decide) dX0_add_69 ?_
      refine lv_aload_n hx hb dX0_add_70 rfl (lv_at hl 1 rfl) ?_
      refine k_get S hX.2 hX.1 5 (C := RX0) (T := TX0) (N := 7) rfl rfl 2 (by decide) inX0 m_107 rfl dX0_add_71 ?_
      refine lv_iload_n hx hb dX0_add_74 rfl (lv_at hl 2 rfl) ?_
      refine k_ild S hX.2 hX.1 16 (i := k) rfl (by omega) (by decide) dX0_add_75 ?_
      refine lv_iload_n hx hb dX0_add_76 rfl (lv_at hl 4 rfl) ?_
      refine q_i (r_S S ⟨m_566, m_567, m_26, m_568⟩ ⟨rfl, by decide, by decide, by decide +kernel⟩ (c_middleOf l (σ 11 k) (σ 12 k) q9) ⟨rfl, rfl, Nat.le_of_ble_eq_true rfl, Nat.le_of_ble_eq_true rfl⟩ (ps bl_GL (bG hX.2.2)) (n := 3) (As := [.int (σ 11 k), .int (σ 12 k), .int q9]) (rest := [.int (nI k), .ref (ad 17)]) rfl hl.1 rfl (Nat.le_of_ble_eq_true rfl) ⟨Nat.le_of_ble_eq_true rfl, Nat.le_of_ble_eq_true rfl⟩ dX0_add_77) (fun r4 (e4 : r4 = midV (σ 11 k) (σ 12 k) q9) => ?_)
      subst e4
      refine k_ist S hX.2 hX.1 (hD.w (wX_fst _ _ _)) hS0 17 (i := k) rfl (by omega) (by decide) dX0_add_80 (fun H5 L5 h5 hS5 => ?_)
      have hX5 : PX G ad (su σ 13 k (midV (σ 11 k) (σ 12 k) q9)) s H5 := ⟨h5, hX.2⟩
      refine lv_aload_n hx hb dX0_add_81 rfl (lv_at hl 1 rfl) ?_
      refine k_get S hX5.2 hX5.1 5 (C := RX0) (T := TX0) (N := 7) rfl rfl 0 (by decide) inX0 m_105 rfl dX0_add_82 ?_
      refine lv_iload_n hx hb dX0_add_85 rfl (lv_at hl 2 rfl) ?_
      refine lv_dup2_11 hx hb dX0_add_86 rfl rfl ?_
      refine k_ild S hX5.2 hX5.1 14 (i := k) rfl (by omega) (by decide) dX0_add_87 ?_
      refine k_eq (y := σ 10 k) (by rfl) ?_
      refine k_eq (y := σ 10 k) (rfl) ?_
      refine lv_iconst (v := 1) hx hb dX0_add_88 (by decide) ?_
      refine lv_iload_n hx hb dX0_add_89 rfl (lv_at hl 3 rfl) ?_
      refine lv_ishl hx hb dX0_add_90 ?_
      refine lv_ior hx hb dX0_add_91 ?_
      refine k_ist S hX5.2 hX5.1 (hD.w (wX_fst _ _ _)) hS5 14 (i := k) rfl (by omega) (by decide) dX0_add_92 (fun H6 L6 h6 hS6 => ?_)
      have hX6 : PX G ad (su (su σ 13 k (midV (σ 11 k) (σ 12 k) q9)) 10 k ((σ 10 k) ||| (1 <<< (pe &&& 31)))) s H6 := ⟨h6, hX5.2⟩
      exact W.vret hx hb hr (fun t ht hW => ⟨rfl, trivial, (by have e9 : adS σ k pe q9 = su (su σ 13 k (midV (σ 11 k) (σ 12 k) q9)) 10 k ((σ 10 k) ||| (1 <<< (pe &&& 31))) := (by first | rfl | simp [adS, c9_2, c25_3]); show va_P G.1 vwCl (wX G ad (adS σ k pe q9)) t.heap; rw [e9, ht]; exact hX6.1), hS6.F ht⟩) hS6.2.2 dX0_add_93
    · have bc25_3 := c25_3
      refine lv_aload_n hx hb dX0_add_28 rfl (lv_at hl 1 rfl) ?_
      refine k_get S hX.2 hX.1 5 (C := RX0) (T := TX0) (N := 7) rfl rfl 2 (by decide) inX0 m_107 rfl dX0_add_29 ?_
      refine lv_iload_n hx hb dX0_add_32 rfl (lv_at hl 2 rfl) ?_
      refine lv_iload_n hx hb dX0_add_33 rfl (lv_at hl 4 rfl) ?_
      refine k_ist S hX.2 hX.1 (hD.w (wX_fst _ _ _)) hS0 16 (i := k) rfl (by omega) (by decide) dX0_add_34 (fun H7 L7 h7 hS7 => ?_)
      have hX7 : PX G ad (su σ 12 k q9) s H7 := ⟨h7, hX.2⟩
      refine lv_aload_n hx hb dX0_add_35 rfl (lv_at hl 1 rfl) ?_
      refine k_get S hX7.2 hX7.1 5 (C := RX0) (T := TX0) (N := 7) rfl rfl 3 (by decide) inX0 m_108 rfl dX0_add_36 ?_
      refine lv_iload_n hx hb dX0_add_39 rfl (lv_at hl 2 rfl) ?_
      refine lv_aload_n hx hb dX0_add_40 rfl (lv_at hl 1 rfl) ?_
      refine k_get S hX7.2 hX7.1 5 (C := RX0) (T := TX0) (N := 7) rfl rfl 1 (by decide) inX0 m_106 rfl dX0_add_41 ?_
      refine lv_iload_n hx hb dX0_add_44 rfl (lv_at hl 2 rfl) ?_
      refine k_ild S hX7.2 hX7.1 15 (i := k) rfl (by omega) (by decide) dX0_add_45 ?_
      refine k_eq (y := σ 11 k) (by rfl) ?_
      refine k_eq (y := σ 11 k) (rfl) ?_
      refine lv_iload_n hx hb dX0_add_46 rfl (lv_at hl 4 rfl) ?_
      refine lv_icmp_ne (tgt := 54) hx hb dX0_add_47 (by decide) (fun c47_8 => ?_) (fun c47_8 => ?_)
      · have bc47_8 := c47_8
        refine lv_iconst (v := (-1)) hx hb dX0_add_54 (by decide) ?_
        refine k_ist S hX7.2 hX7.1 (hD.w (wX_fst _ _ _)) hS7 17 (i := k) rfl (by omega) (by decide) dX0_add_55 (fun H9 L9 h9 hS9 => ?_)
        have hX9 : PX G ad (su (su σ 12 k q9) 13 k (-1)) s H9 := ⟨h9, hX7.2⟩
        refine lv_goto (tgt := 81) hx hb dX0_add_56 (by decide) ?_
        refine lv_aload_n hx hb dX0_add_81 rfl (lv_at hl 1 rfl) ?_
        refine k_get S hX9.2 hX9.1 5 (C := RX0) (T := TX0) (N := 7) rfl rfl 0 (by decide) inX0 m_105 rfl dX0_add_82 ?_
        refine lv_iload_n hx hb dX0_add_85 rfl (lv_at hl 2 rfl) ?_
        refine lv_dup2_11 hx hb dX0_add_86 rfl rfl ?_
        refine k_ild S hX9.2 hX9.1 14 (i := k) rfl (by omega) (by decide) dX0_add_87 ?_
        refine k_eq (y := σ 10 k) (by rfl) ?_
        refine k_eq (y := σ 10 k) (rfl) ?_
        refine lv_iconst (v := 1) hx hb dX0_add_88 (by decide) ?_
        refine lv_iload_n hx hb dX0_add_89 rfl (lv_at hl 3 rfl) ?_
        refine lv_ishl hx hb dX0_add_90 ?_
        refine lv_ior hx hb dX0_add_91 ?_
        refine k_ist S hX9.2 hX9.1 (hD.w (wX_fst _ _ _)) hS9 14 (i := k) rfl (by omega) (by decide) dX0_add_92 (fun H10 L10 h10 hS10 => ?_)
        have hX10 : PX G ad (su (su (su σ 12 k q9) 13 k (-1)) 10 k ((σ 10 k) ||| (1 <<< (pe &&& 31)))) s H10 := ⟨h10, hX9.2⟩
        exact W.vret hx hb hr (fun t ht hW => ⟨rfl, trivial, (by have e9 : adS σ k pe q9 = su (su (su σ 12 k q9) 13 k (-1)) 10 k ((σ 10 k) ||| (1 <<< (pe &&& 31))) := (by first | rfl | simp [adS, c9_2, c25_3, c47_8]); show va_P G.1 vwCl (wX G ad (adS σ k pe q9)) t.heap; rw [e9, ht]; exact hX10.1), hS10.F ht⟩) hS10.2.2 dX0_add_93
      · have bc47_8 := c47_8
        refine lv_iload_n hx hb dX0_add_50 rfl (lv_at hl 4 rfl) ?_
        refine lv_goto (tgt := 55) hx hb dX0_add_51 (by decide) ?_
        refine k_ist S hX7.2 hX7.1 (hD.w (wX_fst _ _ _)) hS7 17 (i := k) rfl (by omega) (by decide) dX0_add_55 (fun H11 L11 h11 hS11 => ?_)
        have hX11 : PX G ad (su (su σ 12 k q9) 13 k q9) s H11 := ⟨h11, hX7.2⟩
        refine lv_goto (tgt := 81) hx hb dX0_add_56 (by decide) ?_
        refine lv_aload_n hx hb dX0_add_81 rfl (lv_at hl 1 rfl) ?_
        refine k_get S hX11.2 hX11.1 5 (C := RX0) (T := TX0) (N := 7) rfl rfl 0 (by decide) inX0 m_105 rfl dX0_add_82 ?_
        refine lv_iload_n hx hb dX0_add_85 rfl (lv_at hl 2 rfl) ?_
        refine lv_dup2_11 hx hb dX0_add_86 rfl rfl ?_
        refine k_ild S hX11.2 hX11.1 14 (i := k) rfl (by omega) (by decide) dX0_add_87 ?_
        refine k_eq (y := σ 10 k) (by rfl) ?_
        refine k_eq (y := σ 10 k) (rfl) ?_
        refine lv_iconst (v := 1) hx hb dX0_add_88 (by decide) ?_
        refine lv_iload_n hx hb dX0_add_89 rfl (lv_at hl 3 rfl) ?_
        refine lv_ishl hx hb dX0_add_90 ?_
        refine lv_ior hx hb dX0_add_91 ?_
        refine k_ist S hX11.2 hX11.1 (hD.w (wX_fst _ _ _)) hS11 14 (i := k) rfl (by omega) (by decide) dX0_add_92 (fun H12 L12 h12 hS12 => ?_)
        have hX12 : PX G ad (su (su (su σ 12 k q9) 13 k q9) 10 k ((σ 10 k) ||| (1 <<< (pe &&& 31)))) s H12 := ⟨h12, hX11.2⟩
        exact W.vret hx hb hr (fun t ht hW => ⟨rfl, trivial, (by have e9 : adS σ k pe q9 = su (su (su σ 12 k q9) 13 k q9) 10 k ((σ 10 k) ||| (1 <<< (pe &&& 31))) := (by first | rfl | simp [adS, c9_2, c25_3, c47_8]); show va_P G.1 vwCl (wX G ad (adS σ k pe q9)) t.heap; rw [e9, ht]; exact hX12.1), hS12.F ht⟩) hS12.2.2 dX0_add_93
  · have bc9_2 := c9_2
    refine lv_aload_n hx hb dX0_add_12 rfl (lv_at hl 1 rfl) ?_
    refine k_get S hX.2 hX.1 5 (C := RX0) (T := TX0) (N := 7) rfl rfl 1 (by decide) inX0 m_106 rfl dX0_add_13 ?_
    refine lv_iload_n hx hb dX0_add_16 rfl (lv_at hl 2 rfl) ?_
    refine lv_iload_n hx hb dX0_add_17 rfl (lv_at hl 4 rfl) ?_
    refine k_ist S hX.2 hX.1 (hD.w (wX_fst _ _ _)) hS0 15 (i := k) rfl (by omega) (by decide) dX0_add_18 (fun H13 L13 h13 hS13 => ?_)
    have hX13 : PX G ad (su σ 11 k q9) s H13 := ⟨h13, hX.2⟩
    refine lv_goto (tgt := 81) hx hb dX0_add_19 (by decide) ?_
    refine lv_aload_n hx hb dX0_add_81 rfl (lv_at hl 1 rfl) ?_
    refine k_get S hX13.2 hX13.1 5 (C := RX0) (T := TX0) (N := 7) rfl rfl 0 (by decide) inX0 m_105 rfl dX0_add_82 ?_
    refine lv_iload_n hx hb dX0_add_85 rfl (lv_at hl 2 rfl) ?_
    refine lv_dup2_11 hx hb dX0_add_86 rfl rfl ?_
    refine k_ild S hX13.2 hX13.1 14 (i := k) rfl (by omega) (by decide) dX0_add_87 ?_
    refine k_eq (y := σ 10 k) (by rfl) ?_
    refine k_eq (y := σ 10 k) (rfl) ?_
    refine lv_iconst (v := 1) hx hb dX0_add_88 (by decide) ?_
    refine lv_iload_n hx hb dX0_add_89 rfl (lv_at hl 3 rfl) ?_
    refine lv_ishl hx hb dX0_add_90 ?_
    refine lv_ior hx hb dX0_add_91 ?_
    refine k_ist S hX13.2 hX13.1 (hD.w (wX_fst _ _ _)) hS13 14 (i := k) rfl (by omega) (by decide) dX0_add_92 (fun H14 L14 h14 hS14 => ?_)
    have hX14 : PX G ad (su (su σ 11 k q9) 10 k ((σ 10 k) ||| (1 <<< (pe &&& 31)))) s H14 := ⟨h14, hX13.2⟩
    exact W.vret hx hb hr (fun t ht hW => ⟨rfl, trivial, (by have e9 : adS σ k pe q9 = su (su σ 11 k q9) 10 k ((σ 10 k) ||| (1 <<< (pe &&& 31))) := (by first | rfl | simp [adS, c9_2]); show va_P G.1 vwCl (wX G ad (adS σ k pe q9)) t.heap; rw [e9, ht]; exact hX14.1), hS14.F ht⟩) hS14.2.2 dX0_add_93

set_option maxHeartbeats 4000000 in
set_option maxRecDepth 100000 in
theorem c_moveAdd (l : Launch) (G : kG) (ad : Nat → Nat) (σ : kS) (nm : Nat) (f9 t9 a9 q9 i9 : Int32) (hnm : σ 17 0 = nI nm) (hnm2 : nm < 200) (A : Nat → Prop) (hD : DD 20 A ad) : Met l yX1_add [.code yX1_add cX1_add 7 (some .int)] ({ frames := 1, cells := 0, slots := 0, locals := 40 }) (va_Pc [.ref (ad 3), .int f9, .int t9, .int a9, .int q9, .int i9] (fun U => PX G ad σ U U.heap)) (oW A (fun r => r = nI nm) (fun H9 => va_P G.1 vwCl (wX G ad (mvS σ nm f9 t9 a9 q9 i9)) H9)) 0 0 A := by
  refine k_of (by decide) (Nat.le_of_ble_eq_true rfl) (fun U h => h.2.2) ?_
  intro p e s m below meth c ls S hr hlocks hmn hB hl
  have hx := S.1
  have hb := S.2.1
  have hX : PX G ad σ s s.heap := hB
  have hS0 : va_S A s.heap s.heap [] := va_S.rf
  have hl : lv_has ls 7 [(0, .ref (ad 3)), (1, .int f9), (2, .int t9), (3, .int a9), (4, .int q9), (5, .int i9)] := hl
  refine lv_aload_n hx hb dX1_add_0 rfl (lv_at hl 0 rfl) ?_
  refine k_get S hX.2 hX.1 3 (C := RX1) (T := TX1) (N := 6) rfl rfl 5 (by decide) inX1 m_56 rfl dX1_add_1 ?_
  refine k_eq hnm ?_
  refine lv_istore (lv' := [(6, .int (nI nm)), (0, .ref (ad 3)), (1, .int f9), (2, .int t9), (3, .int a9), (4, .int q9), (5, .int i9)]) hx hb dX1_add_4 hl (by decide) rfl (fun ls hl => ?_)
  refine lv_aload_n hx hb dX1_add_6 rfl (lv_at hl 1 rfl) ?_
  refine k_get S hX.2 hX.1 3 (C := RX1) (T := TX1) (N := 6) rfl rfl 0 (by decide) inX1 m_51 rfl dX1_add_7 ?_
  refine lv_iload hx hb dX1_add_10 (lv_at hl 0 rfl) ?_
  refine lv_iload_n hx hb dX1_add_12 rfl (lv_at hl 2 rfl) ?_
  refine k_ist S hX.2 hX.1 (hD.w (wX_fst _ _ _)) hS0 6 (i := nm) rfl (by omega) (by decide) dX1_add_13 (fun H1 L1 h1 hS1 => ?_)
  have hX1 : PX G ad (su σ 2 nm f9) s H1 := ⟨h1, hX.2⟩
  refine lv_aload_n hx hb dX1_add_14 rfl (lv_at hl 1 rfl) ?_
  refine k_get S hX1.2 hX1.1 3 (C := RX1) (T := TX1) (N := 6) rfl rfl 1 (by decide) inX1 m_52 rfl dX1_add_15 ?_
  refine lv_iload hx hb dX1_add_18 (lv_at hl 0 rfl) ?_
  refine lv_iload_n hx hb dX1_add_20 rfl (lv_at hl 3 rfl) ?_
  refine k_ist S hX1.2 hX1.1 (hD.w (wX_fst _ _ _)) hS1 7 (i := nm) rfl (by omega) (by decide) dX1_add_21 (fun H2 L2 h2 hS2 => ?_)
  have hX2 : PX G ad (su (su σ 2 nm f9) 3 nm t9) s H2 := ⟨h2, hX1.2⟩
  refine lv_aload_n hx hb dX1_add_22 rfl (lv_at hl 1 rfl) ?_
  refine k_get S hX2.2 hX2.1 3 (C := RX1) (T := TX1) (N := 6) rfl rfl 2 (by decide) inX1 m_53 rfl dX1_add_23 ?_
  refine lv_iload hx hb dX1_add_26 (lv_at hl 0 rfl) ?_
  refine lv_iload_n hx hb dX1_add_28 rfl (lv_at hl 4 rfl) ?_
  refine k_ist S hX2.2 hX2.1 (hD.w (wX_fst _ _ _)) hS2 8 (i := nm) rfl (by omega) (by decide) dX1_add_29 (fun H3 L3 h3 hS3 => ?_)
  have hX3 : PX G ad (su (su (su σ 2 nm f9) 3 nm t9) 4 nm a9) s H3 := ⟨h3, hX2.2⟩
  refine lv_aload_n hx hb dX1_add_30 rfl (lv_at hl 1 rfl) ?_
  refine k_get S hX3.2 hX3.1 3 (C := RX1) (T := TX1) (N := 6) rfl rfl 3 (by decide) inX1 m_54 rfl dX1_add_31 ?_
  refine lv_iload hx hb dX1_add_34 (lv_at hl 0 rfl) ?_
  refine lv_iload hx hb dX1_add_36 (lv_at hl 5 rfl) ?_
  refine k_ist S hX3.2 hX3.1 (hD.w (wX_fst _ _ _)) hS3 9 (i := nm) rfl (by omega) (by decide) dX1_add_38 (fun H4 L4 h4 hS4 => ?_)
  have hX4 : PX G ad (su (su (su (su σ 2 nm f9) 3 nm t9) 4 nm a9) 5 nm q9) s H4 := ⟨h4, hX3.2⟩
  refine lv_aload_n hx hb dX1_add_39 rfl (lv_at hl 1 rfl) ?_
  refine k_get S hX4.2 hX4.1 3 (C := RX1) (T := TX1) (N := 6) rfl rfl 4 (by decide) inX1 m_55 rfl dX1_add_40 ?_
  refine lv_iload hx hb dX1_add_43 (lv_at hl 0 rfl) ?_
  refine lv_iload hx hb dX1_add_45 (lv_at hl 6 rfl) ?_
  refine k_ist S hX4.2 hX4.1 (hD.w (wX_fst _ _ _)) hS4 10 (i := nm) rfl (by omega) (by decide) dX1_add_47 (fun H5 L5 h5 hS5 => ?_)
  have hX5 : PX G ad (su (su (su (su (su σ 2 nm f9) 3 nm t9) 4 nm a9) 5 nm q9) 6 nm i9) s H5 := ⟨h5, hX4.2⟩
  refine lv_aload_n hx hb dX1_add_48 rfl (lv_at hl 1 rfl) ?_
  refine lv_dup hx hb dX1_add_49 rfl ?_
  refine k_get S hX5.2 hX5.1 3 (C := RX1) (T := TX1) (N := 6) rfl rfl 5 (by decide) inX1 m_56 rfl dX1_add_50 ?_
  refine k_eq (y := σ 17 0) (by rfl) ?_
  refine k_eq (y := σ 17 0) rfl ?_
  refine lv_iconst (v := 1) hx hb dX1_add_53 (by decide) ?_
  refine lv_iadd hx hb dX1_add_54 ?_
  refine k_put S hX5.2 hX5.1 (hD.w (wX_fst _ _ _)) hS5 3 (C := RX1) (T := TX1) (N := 6) rfl rfl 5 (by decide) inX1 tyX1 tyX1_ok nmX1 rfl rfl m_56 (Nat.le_of_ble_eq_true rfl) dX1_add_55 (fun H6 L6 h6 hS6 => ?_)
  have hX6 : PX G ad (su (su (su (su (su (su σ 2 nm f9) 3 nm t9) 4 nm a9) 5 nm q9) 6 nm i9) 17 0 ((σ 17 0) + 1)) s H6 := ⟨h6, hX5.2⟩
  refine lv_iload hx hb dX1_add_58 (lv_at hl 0 rfl) ?_
  exact W.iret (v := nI nm) hx hb hr (fun t ht hW => ⟨⟨_, rfl, rfl⟩, (by have e9 : mvS σ nm f9 t9 a9 q9 i9 = su (su (su (su (su (su σ 2 nm f9) 3 nm t9) 4 nm a9) 5 nm q9) 6 nm i9) 17 0 ((σ 17 0) + 1) := (by first | rfl | simp [mvS]); show va_P G.1 vwCl (wX G ad (mvS σ nm f9 t9 a9 q9 i9)) t.heap; rw [e9, ht]; exact hX6.1), hS6.F ht⟩) hS6.2.2 dX1_add_60

set_option maxHeartbeats 4000000 in
set_option maxRecDepth 100000 in
theorem c_sheetAdd (l : Launch) (G : kG) (ad : Nat → Nat) (σ : kS) (ns : Nat) (pl i9 : Int32) (hns : σ 18 0 = nI ns) (hns4 : ns < 40) (A : Nat → Prop) (hD : DD 20 A ad) : Met l yX2_add [.code yX2_add cX2_add 4 (some .int)] ({ frames := 1, cells := 0, slots := 0, locals := 40 }) (va_Pc [.ref (ad 4), .int pl, .int i9] (fun U => PX G ad σ U U.heap)) (oW A (fun r => r = nI ns) (fun H9 => va_P G.1 vwCl (wX G ad (shS σ ns pl i9)) H9)) 0 0 A := by
  refine k_of (by decide) (Nat.le_of_ble_eq_true rfl) (fun U h => h.2.2) ?_
  intro p e s m below meth c ls S hr hlocks hmn hB hl
  have hx := S.1
  have hb := S.2.1
  have hX : PX G ad σ s s.heap := hB
  have hS0 : va_S A s.heap s.heap [] := va_S.rf
  have hl : lv_has ls 4 [(0, .ref (ad 4)), (1, .int pl), (2, .int i9)] := hl
  refine lv_aload_n hx hb dX2_add_0 rfl (lv_at hl 0 rfl) ?_
  refine k_get S hX.2 hX.1 4 (C := RX2) (T := TX2) (N := 4) rfl rfl 3 (by decide) inX2 m_84 rfl dX2_add_1 ?_
  refine k_eq hns ?_
  refine lv_istore_n (lv' := [(3, .int (nI ns)), (0, .ref (ad 4)), (1, .int pl), (2, .int i9)]) hx hb dX2_add_4 rfl hl (by decide) rfl (fun ls hl => ?_)
  refine lv_aload_n hx hb dX2_add_5 rfl (lv_at hl 1 rfl) ?_
  refine k_get S hX.2 hX.1 4 (C := RX2) (T := TX2) (N := 4) rfl rfl 0 (by decide) inX2 m_78 rfl dX2_add_6 ?_
  refine lv_iload_n hx hb dX2_add_9 rfl (lv_at hl 0 rfl) ?_
  refine lv_iload_n hx hb dX2_add_10 rfl (lv_at hl 2 rfl) ?_
  refine k_ist S hX.2 hX.1 (hD.w (wX_fst _ _ _)) hS0 11 (i := ns) rfl (by omega) (by decide) dX2_add_11 (fun H1 L1 h1 hS1 => ?_)
  have hX1 : PX G ad (su σ 7 ns pl) s H1 := ⟨h1, hX.2⟩
  refine lv_aload_n hx hb dX2_add_12 rfl (lv_at hl 1 rfl) ?_
  refine k_get S hX1.2 hX1.1 4 (C := RX2) (T := TX2) (N := 4) rfl rfl 1 (by decide) inX2 m_80 rfl dX2_add_13 ?_
  refine lv_iload_n hx hb dX2_add_16 rfl (lv_at hl 0 rfl) ?_
  refine lv_iload_n hx hb dX2_add_17 rfl (lv_at hl 3 rfl) ?_
  refine k_ist S hX1.2 hX1.1 (hD.w (wX_fst _ _ _)) hS1 12 (i := ns) rfl (by omega) (by decide) dX2_add_18 (fun H2 L2 h2 hS2 => ?_)
  have hX2 : PX G ad (su (su σ 7 ns pl) 8 ns i9) s H2 := ⟨h2, hX1.2⟩
  refine lv_aload_n hx hb dX2_add_19 rfl (lv_at hl 1 rfl) ?_
  refine lv_dup hx hb dX2_add_20 rfl ?_
  refine k_get S hX2.2 hX2.1 4 (C := RX2) (T := TX2) (N := 4) rfl rfl 3 (by decide) inX2 m_84 rfl dX2_add_21 ?_
  refine k_eq (y := σ 18 0) (by rfl) ?_
  refine k_eq (y := σ 18 0) rfl ?_
  refine lv_iconst (v := 1) hx hb dX2_add_24 (by decide) ?_
  refine lv_iadd hx hb dX2_add_25 ?_
  refine k_put S hX2.2 hX2.1 (hD.w (wX_fst _ _ _)) hS2 4 (C := RX2) (T := TX2) (N := 4) rfl rfl 3 (by decide) inX2 tyX2 tyX2_ok nmX2 rfl rfl m_84 (Nat.le_of_ble_eq_true rfl) dX2_add_26 (fun H3 L3 h3 hS3 => ?_)
  have hX3 : PX G ad (su (su (su σ 7 ns pl) 8 ns i9) 18 0 ((σ 18 0) + 1)) s H3 := ⟨h3, hX2.2⟩
  refine lv_iload_n hx hb dX2_add_29 rfl (lv_at hl 0 rfl) ?_
  exact W.iret (v := nI ns) hx hb hr (fun t ht hW => ⟨⟨_, rfl, rfl⟩, (by have e9 : shS σ ns pl i9 = su (su (su σ 7 ns pl) 8 ns i9) 18 0 ((σ 18 0) + 1) := (by first | rfl | simp [shS]); show va_P G.1 vwCl (wX G ad (shS σ ns pl i9)) t.heap; rw [e9, ht]; exact hX3.1), hS3.F ht⟩) hS3.2.2 dX2_add_30
