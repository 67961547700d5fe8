theorem and31 (x : Int32) : ∃ t : Nat, t < 32 ∧ x &&& 31 = nI t := by
  refine ⟨(x.toBitVec &&& 31#32).toNat, ?_, ?_⟩
  · rw [BitVec.toNat_and]
    exact Nat.lt_of_le_of_lt Nat.and_le_right (by decide)
  · apply Int32.toBitVec_inj.mp
    show x.toBitVec &&& 31#32 = BitVec.ofNat 32 _
    rw [BitVec.ofNat_toNat, BitVec.setWidth_eq]
theorem lp_sub {L : Nat} (h : 6 ≤ L) : nI L - 6 = nI (L - 6) := by
  have e : L = (L - 6) + 6 := by omega
  have e2 : nI ((L - 6) + 6) = nI (L - 6) + 6 := (nI_add (L - 6) 6).symm
  rw [← e] at e2
  rw [e2]
  exact Int32.add_sub_cancel _ _
theorem lp_go {L n : Nat} (hL : L ≤ 3072) (h : 6 * n + 6 ≤ L) : ¬ nI L - 6 < nI (6 * n) := by
  rw [lp_sub (by omega), nI_ltI (by omega) (by omega)]
  omega
theorem lp_end {L n : Nat} (hL : L ≤ 3072) (hn : 6 * n ≤ L) (h : ¬ 6 * n + 6 ≤ L) : nI L - 6 < nI (6 * n) := by
  rcases Nat.lt_or_ge L 6 with h6 | h6
  · refine Int32.lt_of_lt_of_le (b := 0) ?_ (nI_pos' (by omega))
    rcases (by omega : L = 0 ∨ L = 1 ∨ L = 2 ∨ L = 3 ∨ L = 4 ∨ L = 5) with rfl | rfl | rfl | rfl | rfl | rfl <;> decide
  · rw [lp_sub h6, nI_ltI (by omega) (by omega)]
    omega
set_option maxHeartbeats 4000000 in
set_option maxRecDepth 100000 in
theorem K_loop {p : Program} {l : Launch} {e : Env} {s : State} {m : MethodId} {below : List Frame} {meth : Method} {c : Code} {Q : State → Prop} {b L : Nat} {xs : Nat → Int32} {G : kG} {aX aM : Nat → Nat} {ao : Nat} (F : LFix p l s m meth c b L xs G aX aM ao) (Cb Sb : Nat) (hCb : Cb + 3100 ≤ room_1.cells) (hSb : Sb + 18600 ≤ room_1.slots)
    (fin : ∀ (H : Heap) (locs : List Loc) (cells slots : Nat) (ls : Array Slot), cells ≤ room_1.cells → slots ≤ room_1.slots → va_S (AL s) s.heap H locs → W p l e room_1 s m #[Value.ref b] below meth c H locs cells slots Q (F0 m 1597 ls [.int 1])) :
    ∀ (j n : Nat), L ≤ 6 * n + 6 * j + 5 → 6 * n ≤ L → ∀ (σ μ : kS) (H : Heap) (locs : List Loc), RR σ μ n → LI G aX aM ao s σ μ H locs → ∀ ls, lv_has ls 7 [(0, .ref b), (1, .ref (aX 0)), (2, .ref (aM 0)), (3, .ref ao), (4, .int (nI (6 * n)))] → W p l e room_1 s m #[Value.ref b] below meth c H locs (Cb + 6 * n) (Sb + 36 * n) Q (F0 m 23 ls []) := by
  have hx := F.S.1
  have hb := F.S.2.1
  have hL := F.hL
  intro j
  induction j with
  | zero =>
    intro n h1 h2 σ μ H locs hR hI ls hl
    have hS := hI.2.2.2
    refine lv_iload hx hb dL_law_23 (lv_at hl 4 rfl) ?_
    refine lv_aload_n hx hb dL_law_25 rfl (lv_at hl 0 rfl) ?_
    refine va_slen hx hb F.hX F.hbl (fun h => absurd F.hbl (Nat.not_lt.mpr h)) hS dL_law_26 ?_
    refine lv_bipush (v := 6) hx hb dL_law_27 (by decide) ?_
    refine lv_isub hx hb dL_law_29 ?_
    refine lv_icmp_gt (tgt := 1596) hx hb dL_law_30 (by decide) (fun c1 => ?_) (fun c1 => ?_)
    · refine lv_iconst (v := 1) hx hb dL_law_1596 (by decide) ?_
      exact fin _ _ _ _ _ (Nat.le_trans (by omega) hCb) (Nat.le_trans (by omega) hSb) hS
    · exact absurd (lp_end hL h2 (by omega)) c1
  | succ j ih =>
    intro n h1 h2 σ μ H locs hR hI ls hl
    have hS := hI.2.2.2
    refine lv_iload hx hb dL_law_23 (lv_at hl 4 rfl) ?_
    refine lv_aload_n hx hb dL_law_25 rfl (lv_at hl 0 rfl) ?_
    refine va_slen hx hb F.hX F.hbl (fun h => absurd F.hbl (Nat.not_lt.mpr h)) hS dL_law_26 ?_
    refine lv_bipush (v := 6) hx hb dL_law_27 (by decide) ?_
    refine lv_isub hx hb dL_law_29 ?_
    refine lv_icmp_gt (tgt := 1596) hx hb dL_law_30 (by decide) (fun c1 => ?_) (fun c1 => ?_)
    · refine lv_iconst (v := 1) hx hb dL_law_1596 (by decide) ?_
      exact fin _ _ _ _ _ (Nat.le_trans (by omega) hCb) (Nat.le_trans (by omega) hSb) hS
    · have hn : 6 * n + 6 ≤ L := by
        rcases Nat.lt_or_ge L (6 * n + 6) with h | h
        · exact absurd (lp_end hL h2 (by omega)) c1
        · exact h
      refine lv_aload_n hx hb dL_law_33 rfl (lv_at hl 0 rfl) ?_
      refine lv_iload hx hb dL_law_34 (lv_at hl 4 rfl) ?_
      refine k_sld F hS (k := 6 * n) (by omega) dL_law_36 ?_
      refine lv_bipush (v := 31) hx hb dL_law_37 (by decide) ?_
      refine lv_iand hx hb dL_law_39 ?_
      obtain ⟨t, ht, hy⟩ := and31 (xs (6 * n))
      refine k_eq hy ?_
      have hc : Cb + 6 * n + 6 ≤ room_1.cells := Nat.le_trans (by omega) hCb
      have hs : Sb + 36 * n + 36 ≤ room_1.slots := Nat.le_trans (by omega) hSb
      have next : ∀ (σ9 μ9 : kS) (H9 : Heap) (L9 : List Loc), RR σ9 μ9 (n + 1) → LI G aX aM ao s σ9 μ9 H9 L9 → ∀ ls, lv_has ls 7 [(0, .ref b), (1, .ref (aX 0)), (2, .ref (aM 0)), (3, .ref ao), (4, .int (nI (6 * n)))] → W p l e room_1 s m #[Value.ref b] below meth c H9 L9 (Cb + 6 * n + 6) (Sb + 36 * n + 36) Q (F0 m 1590 ls []) := by
        intro σ9 μ9 H9 L9 hR9 hI9 ls hl
        refine lv_iinc (v := nI (6 * (n + 1))) (lv' := [(4, .int (nI (6 * (n + 1)))), (0, .ref b), (1, .ref (aX 0)), (2, .ref (aM 0)), (3, .ref ao)]) hx hb dL_law_1590 hl (k := 4) rfl (nI_add (6 * n) 6) (by decide) rfl (fun ls hl => ?_)
        refine lv_goto (tgt := 23) hx hb dL_law_1593 (by decide) ?_
        have h9 := ih (n + 1) (by omega) (by omega) σ9 μ9 H9 L9 hR9 hI9 ls (lv_sub hl [1, 2, 3, 4, 0] rfl)
        rw [show Cb + 6 * (n + 1) = Cb + 6 * n + 6 by omega, show Sb + 36 * (n + 1) = Sb + 36 * n + 36 by omega] at h9
        exact h9
      rcases (by omega : t = 0 ∨ t = 1 ∨ t = 2 ∨ t = 3 ∨ t = 4 ∨ t = 5 ∨ t = 6 ∨ t = 7 ∨ t = 8 ∨ t = 9 ∨ t = 10 ∨ t = 11 ∨ t = 12 ∨ t = 13 ∨ t = 14 ∨ t = 15 ∨ t = 16 ∨ t = 17 ∨ t = 18 ∨ t = 19 ∨ t = 20 ∨ t = 21 ∨ t = 22 ∨ t = 23 ∨ 24 ≤ t) with rfl | rfl | rfl | rfl | rfl | rfl | rfl | rfl | rfl | rfl | rfl | rfl | rfl | rfl | rfl | rfl | rfl | rfl | rfl | rfl | rfl | rfl | rfl | rfl | h24
      · refine lv_tableIn (off := 112) (tgt := 152) hx hb dL_law_40 (by decide) (by decide) (by decide) (by decide) ?_
        exact K_setPrice F hn hR hI hc hs next hl
      · refine lv_tableIn (off := 180) (tgt := 220) hx hb dL_law_40 (by decide) (by decide) (by decide) (by decide) ?_
        exact K_setBound F hn hR hI hc hs next hl
      · refine lv_tableIn (off := 248) (tgt := 288) hx hb dL_law_40 (by decide) (by decide) (by decide) (by decide) ?_
        exact K_move F hn hR hI hc hs next hl
      · refine lv_tableIn (off := 352) (tgt := 392) hx hb dL_law_40 (by decide) (by decide) (by decide) (by decide) ?_
        exact K_pass F hn hR hI hc hs next hl
      · refine lv_tableIn (off := 408) (tgt := 448) hx hb dL_law_40 (by decide) (by decide) (by decide) (by decide) ?_
        exact K_open F hn hR hI hc hs next hl
      · refine lv_tableIn (off := 464) (tgt := 504) hx hb dL_law_40 (by decide) (by decide) (by decide) (by decide) ?_
        exact K_count F hn hR hI hc hs next hl
      · refine lv_tableIn (off := 563) (tgt := 603) hx hb dL_law_40 (by decide) (by decide) (by decide) (by decide) ?_
        exact K_close F hn hR hI hc hs next hl
      · refine lv_tableIn (off := 619) (tgt := 659) hx hb dL_law_40 (by decide) (by decide) (by decide) (by decide) ?_
        exact K_sign F hn hR hI hc hs next hl
      · refine lv_tableIn (off := 699) (tgt := 739) hx hb dL_law_40 (by decide) (by decide) (by decide) (by decide) ?_
        exact K_settle F hn hR hI hc hs next hl
      · refine lv_tableIn (off := 779) (tgt := 819) hx hb dL_law_40 (by decide) (by decide) (by decide) (by decide) ?_
        exact K_now F hn hR hI hc hs next hl
      · refine lv_tableIn (off := 792) (tgt := 832) hx hb dL_law_40 (by decide) (by decide) (by decide) (by decide) ?_
        exact K_moves F hn hR hI hc hs next hl
      · refine lv_tableIn (off := 805) (tgt := 845) hx hb dL_law_40 (by decide) (by decide) (by decide) (by decide) ?_
        exact K_book F hn hR hI hc hs next hl
      · refine lv_tableIn (off := 873) (tgt := 913) hx hb dL_law_40 (by decide) (by decide) (by decide) (by decide) ?_
        exact K_bookAt F hn hR hI hc hs next hl
      · refine lv_tableIn (off := 953) (tgt := 993) hx hb dL_law_40 (by decide) (by decide) (by decide) (by decide) ?_
        exact K_worth F hn hR hI hc hs next hl
      · refine lv_tableIn (off := 1009) (tgt := 1049) hx hb dL_law_40 (by decide) (by decide) (by decide) (by decide) ?_
        exact K_suggested F hn hR hI hc hs next hl
      · refine lv_tableIn (off := 1022) (tgt := 1062) hx hb dL_law_40 (by decide) (by decide) (by decide) (by decide) ?_
        exact K_sheets F hn hR hI hc hs next hl
      · refine lv_tableIn (off := 1035) (tgt := 1075) hx hb dL_law_40 (by decide) (by decide) (by decide) (by decide) ?_
        exact K_stateOf F hn hR hI hc hs next hl
      · refine lv_tableIn (off := 1091) (tgt := 1131) hx hb dL_law_40 (by decide) (by decide) (by decide) (by decide) ?_
        exact K_cutOf F hn hR hI hc hs next hl
      · refine lv_tableIn (off := 1147) (tgt := 1187) hx hb dL_law_40 (by decide) (by decide) (by decide) (by decide) ?_
        exact K_counts F hn hR hI hc hs next hl
      · refine lv_tableIn (off := 1215) (tgt := 1255) hx hb dL_law_40 (by decide) (by decide) (by decide) (by decide) ?_
        exact K_agreed F hn hR hI hc hs next hl
      · refine lv_tableIn (off := 1283) (tgt := 1323) hx hb dL_law_40 (by decide) (by decide) (by decide) (by decide) ?_
        exact K_gap F hn hR hI hc hs next hl
      · refine lv_tableIn (off := 1351) (tgt := 1391) hx hb dL_law_40 (by decide) (by decide) (by decide) (by decide) ?_
        exact K_isSigned F hn hR hI hc hs next hl
      · refine lv_tableIn (off := 1426) (tgt := 1466) hx hb dL_law_40 (by decide) (by decide) (by decide) (by decide) ?_
        exact K_likely F hn hR hI hc hs next hl
      · refine lv_tableIn (off := 1494) (tgt := 1534) hx hb dL_law_40 (by decide) (by decide) (by decide) (by decide) ?_
        exact K_exact F hn hR hI hc hs next hl
      · refine lv_tableOut (tgt := 1590) hx hb dL_law_40 (Or.inr (by rw [nI_toInt (by omega)]; omega)) (by decide) ?_
        exact W.widen (k := Cb + 6 * n + 6) (n := Sb + 36 * n + 36) (by omega) (by omega) (next σ μ H locs hR.mono hI ls hl)
