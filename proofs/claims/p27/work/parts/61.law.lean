/-! THE LAW'S BODY -/
def AL (s : State) : Nat → Prop := fun q => s.heap.size ≤ q
theorem lcmp_s {x : Int64} : lg_cmp x x = 0 := by simp [lg_cmp]
/-- prices and bounds as the law begins with them, the first q places -/
def eAA : Nat → kS
  | 0 => fun _ _ => 0
  | q + 1 => su (eAA q) 0 q (if q < 5 then 1 else 100)
theorem su0 : (suF S0 0 0 12).1 = 0 := by decide +kernel
theorem ex0 : hcV (eX_one 0 3) (exV S0 0 0) = -1 := by decide +kernel
theorem RI0 : RI S0 (eAA 11) 0 := by
  refine ⟨0, 0, 0, 0, ⟨rfl, by decide, rfl, by decide, rfl, by decide, rfl, by decide, fun k => ⟨0, rfl, Nat.le_refl _⟩, fun k hk h => ?_, fun k => ⟨Or.inl rfl, fun _ => rfl⟩, fun k => ⟨0, rfl, Nat.le_refl _⟩, fun k => ⟨0, rfl, by decide⟩, fun i j h1 h2 => by omega, fun k => ?_, fun k => ?_, fun k => ⟨0, rfl, by decide⟩, fun k hk => ?_, fun k h1 h2 => ⟨rfl, if_pos h2, rfl⟩⟩, by decide +kernel, by decide +kernel, fun k h => by omega, fun k h => by omega, by decide +kernel, by decide +kernel, by decide +kernel, by decide +kernel⟩
  · rw [hsB_f (show S0 14 k = 0 from rfl)] at h
    exact absurd h (by decide)
  · by_cases h : k < 5
    · exact ⟨1, if_pos h, by decide⟩
    · exact ⟨0, if_neg h, by decide⟩
  · by_cases h : k < 6
    · exact ⟨100, if_pos h, by decide⟩
    · exact ⟨0, if_neg h, by decide⟩
  · exact ⟨0, 0, 0, 0, by decide, by decide, rfl, by decide +kernel, rfl, by decide, rfl, by decide, Or.inl ⟨if_pos hk, by decide⟩⟩
set_option maxHeartbeats 4000000 in
set_option maxRecDepth 100000 in
theorem K_law {p : Program} {l : Launch} {e : Env} {s : State} {m : MethodId} {below : List Frame} {meth : Method} {c : Code} {b L : Nat} {xs : Nat → Int32} {G : kG} {o t a : Nat → Nat} {H : Heap} {locs : List Loc} {ls : Array Slot} (S : CallFix p m c cL_law 10 s #[Value.ref b] big RL) (hr : meth.sig.returnType = some .boolean) (hlocks : meth.locks = false) (hst : l.stackTraces = false) (hK : KK G s) (hX : va_X b L xs s s.heap) (hbl : b < s.heap.size) (hL : L ≤ 260) (hZ0 : ZQ (AL s) s s.heap) (hJ : JQ o t a) (hAQ : ∀ q, AQ o t a q → AL s q) (hW : WQ G o t a S0 S0 (fun _ _ => 0) H) (hS : va_S (AL s) s.heap H locs) (hl : lv_has ls 10 [(0, .ref b), (1, .ref (o 0)), (2, .ref (t 0)), (3, .ref (a 0)), (4, .ref (a 1)), (5, .ref (a 2)), (6, .ref (a 3)), (7, .ref (a 4))]) : W p l e room_1 s m #[Value.ref b] below meth c H locs 45 4800 (lw_Z below #[Value.ref b] s) (F0 m 44 ls []) := by
  have hx := S.1
  have hb := S.2.1
  have hns0 : S0 18 0 = nI 0 := rfl
  have hnm0 : S0 17 0 = nI 0 := rfl
  have L127 : ∀ (n9 k : Nat), k ≤ 110 → 110 + 1 ≤ k + n9 → ∀ (H9 : Heap) (L9 : List Loc), WI G o t a k H9 → va_S (AL s) s.heap H9 L9 → ∀ ls, lv_has ls 10 [(0, .ref b), (1, .ref (o 0)), (2, .ref (t 0)), (3, .ref (a 0)), (4, .ref (a 1)), (5, .ref (a 2)), (6, .ref (a 3)), (7, .ref (a 4)), (8, .int 1), (9, .int (nI k))] → W p l e room_1 s m #[Value.ref b] below meth c H9 L9 (45 + (10 + 2930 * k)) (4800 + (60 + 17580 * k)) (lw_Z below #[Value.ref b] s) (F0 m 127 ls []) := by
    intro n9
    induction n9 with
    | zero =>
      intro k h1 h2
      omega
    | succ n9 ihL =>
      intro k hik hink H9 L9 hWI hS ls hl
      obtain ⟨σ, α, ⟨nm, ns, N, S9, hI⟩, hW⟩ := hWI
      refine lv_iload hx hb dL_law_127 (lv_at hl 9 rfl) ?_
      refine lv_bipush (v := 110) hx hb dL_law_129 (by decide) ?_
      refine lv_icmp_ge (tgt := 227) hx hb dL_law_131 (by decide) (fun ck => ?_) (fun ck => ?_)
      · skip
        refine lv_iload hx hb dL_law_227 (lv_at hl 8 rfl) ?_
        refine va_forget (fun q hq => hS.2.2 q hq) ?_
        refine W.widen (k := 668492) (n := 7096223) (by omega) (by omega) ?_
        exact lw_ret hx hb hr hlocks dL_law_229
      · skip
        have hltk : k < 110 := by
          rcases Nat.lt_or_ge k 110 with h9 | h9
          · exact h9
          · exact absurd (nI_le (a := 110) h9 (by omega)) ck
        refine lv_iload hx hb dL_law_134 (lv_at hl 8 rfl) ?_
        refine lv_if_eq (tgt := 227) hx hb dL_law_136 (by decide) (fun c136_2 => absurd c136_2 (by decide)) (fun c136_2 => ?_)
        refine lv_aload_n hx hb dL_law_139 rfl (lv_at hl 1 rfl) ?_
        refine lv_aload_n hx hb dL_law_140 rfl (lv_at hl 2 rfl) ?_
        refine lv_aload_n hx hb dL_law_141 rfl (lv_at hl 3 rfl) ?_
        refine lv_aload hx hb dL_law_142 (lv_at hl 4 rfl) ?_
        refine lv_aload hx hb dL_law_144 (lv_at hl 5 rfl) ?_
        refine lv_aload hx hb dL_law_146 (lv_at hl 6 rfl) ?_
        refine lv_aload hx hb dL_law_148 (lv_at hl 7 rfl) ?_
        refine lv_aload_n hx hb dL_law_150 rfl (lv_at hl 0 rfl) ?_
        refine lv_iconst (v := 2) hx hb dL_law_151 (by decide) ?_
        refine lv_iload hx hb dL_law_152 (lv_at hl 9 rfl) ?_
        refine lv_imul hx hb dL_law_154 ?_
        refine k_eq (y := nI (2 * k)) (pk_mul 2 k) ?_
        refine q_i (r_S S ⟨m_205, m_206, m_22, m_207⟩ ⟨rfl, by decide, by decide, by decide +kernel⟩ (kL_at l b L xs (2 * k) (by omega) (by omega)) ⟨rfl, rfl, Nat.le_of_ble_eq_true rfl, Nat.le_of_ble_eq_true rfl⟩ (ps bl_at (fun U hU hW => by rw [hU]; exact ⟨(hX.kept (hS.2.1 b hbl (Nat.not_le.mpr hbl))).moved hW.alike, Nat.lt_of_lt_of_le hbl hS.1, hK.2.warm hW⟩)) (n := 2) (As := [.ref b, .int (nI (2 * k))]) (rest := [.ref (a 4), .ref (a 3), .ref (a 2), .ref (a 1), .ref (a 0), .ref (t 0), .ref (o 0)]) rfl hl.1 rfl (Nat.le_of_ble_eq_true rfl) ⟨by show _ ≤ (668492 : Nat); omega, by show _ ≤ (7096223 : Nat); omega⟩ dL_law_155) (fun xv _ => ?_)
        refine lv_aload_n hx hb dL_law_158 rfl (lv_at hl 0 rfl) ?_
        refine lv_iconst (v := 2) hx hb dL_law_159 (by decide) ?_
        refine lv_iload hx hb dL_law_160 (lv_at hl 9 rfl) ?_
        refine lv_imul hx hb dL_law_162 ?_
        refine k_eq (y := nI (2 * k)) (pk_mul 2 k) ?_
        refine lv_iconst (v := 1) hx hb dL_law_163 (by decide) ?_
        refine lv_iadd hx hb dL_law_164 ?_
        refine k_eq (y := nI (2 * k + 1)) (nI_add (2 * k) 1) ?_
        refine q_i (r_S S ⟨m_205, m_206, m_22, m_207⟩ ⟨rfl, by decide, by decide, by decide +kernel⟩ (kL_at l b L xs (2 * k + 1) (by omega) (by omega)) ⟨rfl, rfl, Nat.le_of_ble_eq_true rfl, Nat.le_of_ble_eq_true rfl⟩ (ps bl_at (fun U hU hW => by rw [hU]; exact ⟨(hX.kept (hS.2.1 b hbl (Nat.not_le.mpr hbl))).moved hW.alike, Nat.lt_of_lt_of_le hbl hS.1, hK.2.warm hW⟩)) (n := 2) (As := [.ref b, .int (nI (2 * k + 1))]) (rest := [.int xv, .ref (a 4), .ref (a 3), .ref (a 2), .ref (a 1), .ref (a 0), .ref (t 0), .ref (o 0)]) rfl hl.1 rfl (Nat.le_of_ble_eq_true rfl) ⟨by show _ ≤ (668492 : Nat); omega, by show _ ≤ (7096223 : Nat); omega⟩ dL_law_165) (fun yv _ => ?_)
        refine q_w (r_S S ⟨m_484, m_485, m_22, m_486⟩ ⟨rfl, by decide, by decide, by decide +kernel⟩ (kL_acts l G o t a σ α nm ns k N S9 xv yv hst hJ hI (by omega)) ⟨rfl, rfl, Nat.le_of_ble_eq_true rfl, Nat.le_of_ble_eq_true rfl⟩ (ps bl_PQ (hW.bq hK ((hZ0.at hS (fun _ h => h)).nar hAQ))) (n := 9) (As := [.ref (o 0), .ref (t 0), .ref (a 0), .ref (a 1), .ref (a 2), .ref (a 3), .ref (a 4), .int xv, .int yv]) (rest := []) rfl hl.1 rfl (Nat.le_of_ble_eq_true rfl) ⟨by show _ ≤ (668492 : Nat); omega, by show _ ≤ (7096223 : Nat); omega⟩ dL_law_168) hS (fun q h => hAQ q h) (fun rq5 Hq5 Lq5 eq5 hWI5 _ fq5 hSq5 => ?_)
        subst eq5
        refine lv_istore (lv' := [(8, .int 1), (0, .ref b), (1, .ref (o 0)), (2, .ref (t 0)), (3, .ref (a 0)), (4, .ref (a 1)), (5, .ref (a 2)), (6, .ref (a 3)), (7, .ref (a 4)), (9, .int (nI k))]) hx hb dL_law_171 hl (by decide) rfl (fun ls hl => ?_)
        refine lv_iload hx hb dL_law_173 (lv_at hl 0 rfl) ?_
        refine lv_if_eq (tgt := 221) hx hb dL_law_175 (by decide) (fun c175_6 => absurd c175_6 (by decide)) (fun c175_6 => ?_)
        refine lv_iload hx hb dL_law_178 (lv_at hl 9 rfl) ?_
        refine lv_iconst (v := 4) hx hb dL_law_180 (by decide) ?_
        refine lv_irem hx hb dL_law_181 (by decide) ?_
        refine k_eq (y := nI (k % 4)) (pk_rem (a := k) (d := 4) (by omega) (by decide) (by decide)) ?_
        refine lv_iconst (v := 3) hx hb dL_law_182 (by decide) ?_
        refine lv_icmp_ne (tgt := 221) hx hb dL_law_183 (by decide) (fun c4 => ?_) (fun c4 => ?_)
        · skip
          refine lv_iinc (v := nI (k + 1)) (lv' := [(9, .int (nI (k + 1))), (8, .int 1), (0, .ref b), (1, .ref (o 0)), (2, .ref (t 0)), (3, .ref (a 0)), (4, .ref (a 1)), (5, .ref (a 2)), (6, .ref (a 3)), (7, .ref (a 4))]) hx hb dL_law_221 hl (k := 9) rfl (nI_1 k) (by decide) rfl (fun ls hl => ?_)
          refine lv_goto (tgt := 127) hx hb dL_law_224 (by decide) ?_
          refine W.widen (k := 45 + (10 + 2930 * (k + 1))) (n := 4800 + (60 + 17580 * (k + 1))) (by omega) (by omega) ?_
          exact ihL (k + 1) hltk (by omega) Hq5 _ hWI5 hSq5 ls (lv_sub hl [2, 3, 4, 5, 6, 7, 8, 9, 1, 0] rfl)
        · skip
          obtain ⟨σ2, α2, ⟨nm2, ns2, N2, S2, hI2⟩, hW2⟩ := hWI5
          refine lv_aload_n hx hb dL_law_186 rfl (lv_at hl 2 rfl) ?_
          refine lv_aload_n hx hb dL_law_187 rfl (lv_at hl 4 rfl) ?_
          refine lv_aload hx hb dL_law_188 (lv_at hl 5 rfl) ?_
          refine lv_aload hx hb dL_law_190 (lv_at hl 6 rfl) ?_
          refine lv_aload hx hb dL_law_192 (lv_at hl 7 rfl) ?_
          refine lv_aload hx hb dL_law_194 (lv_at hl 8 rfl) ?_
          refine q_w (r_S S ⟨m_313, m_314, m_22, m_315⟩ ⟨rfl, by decide, by decide, by decide +kernel⟩ (kL_isSo l G o t a σ2 σ2 α2 nm2 ns2 (k + 1) N2 S2 hst hJ hI2 (by omega)) ⟨rfl, rfl, Nat.le_of_ble_eq_true rfl, Nat.le_of_ble_eq_true rfl⟩ (ps bl_PQ (hW2.bq hK ((hZ0.at hSq5 (fun _ h => h)).nar hAQ))) (n := 6) (As := [.ref (o 0), .ref (a 0), .ref (a 1), .ref (a 2), .ref (a 3), .ref (a 4)]) (rest := []) rfl hl.1 rfl (Nat.le_of_ble_eq_true rfl) ⟨by show _ ≤ (668492 : Nat); omega, by show _ ≤ (7096223 : Nat); omega⟩ dL_law_196) hSq5 (fun q h => hAQ q h) (fun rq8 Hq8 Lq8 eq8 hWq8 _ fq8 hSq8 => ?_)
          subst eq8
          refine lv_if_eq (tgt := 218) hx hb dL_law_199 (by decide) (fun c199_9 => absurd c199_9 (by decide)) (fun c199_9 => ?_)
          refine lv_aload_n hx hb dL_law_202 rfl (lv_at hl 2 rfl) ?_
          refine q_wl (r_S S ⟨m_302, m_303, m_22, m_304⟩ ⟨rfl, by decide, by decide, by decide +kernel⟩ (kL_print l G o σ2 nm2 ns2 hst hI2.1.hns (by have := hI2.1.ns12; omega) hI2.1.hnm (by have := hI2.1.nmn; omega)) ⟨rfl, rfl, Nat.le_of_ble_eq_true rfl, Nat.le_of_ble_eq_true rfl⟩ (ps bl_PXZ (bXZ (hWq8.xo hK) ((hZ0.at hSq8 (fun _ h => h)).zs))) (n := 1) (As := [.ref (o 0)]) (rest := []) rfl hl.1 rfl (Nat.le_of_ble_eq_true rfl) ⟨by show _ ≤ (668492 : Nat); omega, by show _ ≤ (7096223 : Nat); omega⟩ dL_law_203) hSq8 (fun _ h => h.elim) (fun rq10 Hq10 Lq10 eq10 fq10 hSq10 => ?_)
          subst eq10
          have hWq10 := hWq8.rd fq10
          refine lv_aload_n hx hb dL_law_206 rfl (lv_at hl 3 rfl) ?_
          refine q_wl (r_S S ⟨m_302, m_303, m_22, m_304⟩ ⟨rfl, by decide, by decide, by decide +kernel⟩ (kL_print l G t σ2 nm2 ns2 hst hI2.1.hns (by have := hI2.1.ns12; omega) hI2.1.hnm (by have := hI2.1.nmn; omega)) ⟨rfl, rfl, Nat.le_of_ble_eq_true rfl, Nat.le_of_ble_eq_true rfl⟩ (ps bl_PXZ (bXZ (hWq10.xt hK) ((hZ0.at hSq10 (fun _ h => h)).zs))) (n := 1) (As := [.ref (t 0)]) (rest := [.long (prV σ2 nm2 ns2 60)]) rfl hl.1 rfl (Nat.le_of_ble_eq_true rfl) ⟨by show _ ≤ (668492 : Nat); omega, by show _ ≤ (7096223 : Nat); omega⟩ dL_law_207) hSq10 (fun _ h => h.elim) (fun rq11 Hq11 Lq11 eq11 fq11 hSq11 => ?_)
          subst eq11
          have hWq11 := hWq10.rd fq11
          refine W.lcmp hx hb dL_law_210 ?_
          refine lv_if_ne (tgt := 218) hx hb dL_law_211 (by decide) (fun c211_12 => absurd lcmp_s c211_12) (fun c211_12 => ?_)
          refine lv_iconst (v := 1) hx hb dL_law_214 (by decide) ?_
          refine lv_goto (tgt := 219) hx hb dL_law_215 (by decide) ?_
          refine lv_istore (lv' := [(8, .int 1), (0, .ref b), (1, .ref (o 0)), (2, .ref (t 0)), (3, .ref (a 0)), (4, .ref (a 1)), (5, .ref (a 2)), (6, .ref (a 3)), (7, .ref (a 4)), (9, .int (nI k))]) hx hb dL_law_219 hl (by decide) rfl (fun ls hl => ?_)
          refine lv_iinc (v := nI (k + 1)) (lv' := [(9, .int (nI (k + 1))), (8, .int 1), (0, .ref b), (1, .ref (o 0)), (2, .ref (t 0)), (3, .ref (a 0)), (4, .ref (a 1)), (5, .ref (a 2)), (6, .ref (a 3)), (7, .ref (a 4))]) hx hb dL_law_221 hl (k := 9) rfl (nI_1 k) (by decide) rfl (fun ls hl => ?_)
          refine lv_goto (tgt := 127) hx hb dL_law_224 (by decide) ?_
          refine W.widen (k := 45 + (10 + 2930 * (k + 1))) (n := 4800 + (60 + 17580 * (k + 1))) (by omega) (by omega) ?_
          exact ihL (k + 1) hltk (by omega) Hq11 _ ⟨σ2, α2, ⟨nm2, ns2, N2, S2, hI2⟩, hWq11⟩ hSq11 ls (lv_sub hl [2, 3, 4, 5, 6, 7, 8, 9, 1, 0] rfl)
  have L47 : ∀ (n9 k : Nat), k ≤ 11 → 11 + 1 ≤ k + n9 → ∀ (H9 : Heap) (L9 : List Loc), WQ G o t a S0 S0 (eAA k) H9 → va_S (AL s) s.heap H9 L9 → ∀ ls, lv_has ls 10 [(0, .ref b), (1, .ref (o 0)), (2, .ref (t 0)), (3, .ref (a 0)), (4, .ref (a 1)), (5, .ref (a 2)), (6, .ref (a 3)), (7, .ref (a 4)), (8, .int (nI k))] → W p l e room_1 s m #[Value.ref b] below meth c H9 L9 (45 + (0)) (4800 + (0)) (lw_Z below #[Value.ref b] s) (F0 m 47 ls []) := by
    intro n9
    induction n9 with
    | zero =>
      intro k h1 h2
      omega
    | succ n9 ihL47 =>
      intro k hik hink  H9 L9 hW hS ls hl
      refine lv_iload hx hb dL_law_47 (lv_at hl 8 rfl) ?_
      refine lv_bipush (v := 11) hx hb dL_law_49 (by decide) ?_
      refine lv_icmp_ge (tgt := 76) hx hb dL_law_51 (by decide) (fun ce => ?_) (fun ce => ?_)
      · skip
        have hgek : k = 11 := by
          have h9 := ce
          rw [show (11 : Int32) = nI 11 from rfl, nI_leI (by omega) (by omega)] at h9
          omega
        subst hgek
        have hl : lv_has ls 10 [(0, .ref b), (1, .ref (o 0)), (2, .ref (t 0)), (3, .ref (a 0)), (4, .ref (a 1)), (5, .ref (a 2)), (6, .ref (a 3)), (7, .ref (a 4)), (8, .int (nI 11))] := hl
        refine lv_aload_n hx hb dL_law_76 rfl (lv_at hl 1 rfl) ?_
        refine q_i (r_V S ⟨m_150, m_151, m_152, m_23, m_153⟩ ⟨rfl, by decide, by decide, by decide +kernel⟩ (c_now l G o S0) ⟨rfl, rfl, Nat.le_of_ble_eq_true rfl, Nat.le_of_ble_eq_true rfl⟩ (pv_X (hW.xo hK) 0 rfl rfl bl_PX (bX (hW.xo hK))) (n := 0) (As := []) (rest := []) rfl hl.1 rfl (Nat.le_of_ble_eq_true rfl) ⟨by show _ ≤ (668492 : Nat); omega, by show _ ≤ (7096223 : Nat); omega⟩ dL_law_77) (fun rq14 eq14 => ?_)
        subst eq14
        refine k_eq (y := 0) (rfl) ?_
        refine lv_if_ne (tgt := 121) hx hb dL_law_80 (by decide) (fun c80_15 => absurd (by decide) c80_15) (fun c80_15 => ?_)
        refine lv_aload_n hx hb dL_law_83 rfl (lv_at hl 1 rfl) ?_
        refine q_i (r_V S ⟨m_154, m_155, m_156, m_23, m_157⟩ ⟨rfl, by decide, by decide, by decide +kernel⟩ (c_suggested l G o S0 0 0 hns0 (Nat.zero_le _) hnm0 (Nat.zero_le _)) ⟨rfl, rfl, Nat.le_of_ble_eq_true rfl, Nat.le_of_ble_eq_true rfl⟩ (pv_X (hW.xo hK) 0 rfl rfl bl_PX (bX (hW.xo hK))) (n := 0) (As := []) (rest := []) rfl hl.1 rfl (Nat.le_of_ble_eq_true rfl) ⟨by show _ ≤ (668492 : Nat); omega, by show _ ≤ (7096223 : Nat); omega⟩ dL_law_84) (fun rq16 eq16 => ?_)
        subst eq16
        refine k_eq (y := 0) (su0) ?_
        refine lv_if_ne (tgt := 121) hx hb dL_law_87 (by decide) (fun c87_17 => absurd (by decide) c87_17) (fun c87_17 => ?_)
        refine lv_aload_n hx hb dL_law_90 rfl (lv_at hl 1 rfl) ?_
        refine q_i (r_V S ⟨m_201, m_202, m_203, m_23, m_204⟩ ⟨rfl, by decide, by decide, by decide +kernel⟩ (c_sheets l G o S0) ⟨rfl, rfl, Nat.le_of_ble_eq_true rfl, Nat.le_of_ble_eq_true rfl⟩ (pv_X (hW.xo hK) 0 rfl rfl bl_PX (bX (hW.xo hK))) (n := 0) (As := []) (rest := []) rfl hl.1 rfl (Nat.le_of_ble_eq_true rfl) ⟨by show _ ≤ (668492 : Nat); omega, by show _ ≤ (7096223 : Nat); omega⟩ dL_law_91) (fun rq18 eq18 => ?_)
        subst eq18
        refine k_eq (y := 0) (rfl) ?_
        refine lv_if_ne (tgt := 121) hx hb dL_law_94 (by decide) (fun c94_19 => absurd (by decide) c94_19) (fun c94_19 => ?_)
        refine lv_aload_n hx hb dL_law_97 rfl (lv_at hl 1 rfl) ?_
        refine lv_iconst (v := 0) hx hb dL_law_98 (by decide) ?_
        refine q_wx (rx_SX S ⟨m_295, m_296, m_22, m_297⟩ ⟨rfl, by decide, by decide, by decide +kernel⟩ (kL_exact l G o S0 0 0 0 hst hns0 (Nat.zero_le _) hnm0 (Nat.zero_le _)) ⟨rfl, rfl, Nat.le_of_ble_eq_true rfl, Nat.le_of_ble_eq_true rfl⟩ (ps bl_PXZ (bXZ (hW.xo hK) ((hZ0.at hS (fun _ h => h)).zs))) (n := 2) (As := [.ref (o 0), .int 0]) (rest := []) rfl hl.1 rfl (Nat.le_of_ble_eq_true rfl) ⟨by show _ ≤ (668492 : Nat); omega, by show _ ≤ (7096223 : Nat); omega⟩ dL_law_99) hS (fun _ h => h.elim) (fun rq20 Hq20 Lq20 eq20 gq20 fq20 hSq20 => ?_)
        subst eq20
        have hWq20 := hW.rd fq20
        refine k_eq (y := (-1)) (ex0) ?_
        refine lv_iconst (v := (-1)) hx hb dL_law_102 (by decide) ?_
        refine lv_icmp_ne (tgt := 121) hx hb dL_law_103 (by decide) (fun c103_21 => absurd (by decide) c103_21) (fun c103_21 => ?_)
        refine lv_aload_n hx hb dL_law_106 rfl (lv_at hl 1 rfl) ?_
        refine lv_iconst (v := 0) hx hb dL_law_107 (by decide) ?_
        refine lv_iconst (v := 0) hx hb dL_law_108 (by decide) ?_
        refine q_wx (rx_SX S ⟨m_210, m_211, m_22, m_212⟩ ⟨rfl, by decide, by decide, by decide +kernel⟩ (kL_agreed l G o S0 0 0 0 0 hst hns0 (Nat.zero_le _) hnm0 (Nat.zero_le _)) ⟨rfl, rfl, Nat.le_of_ble_eq_true rfl, Nat.le_of_ble_eq_true rfl⟩ (ps bl_PXZ (bXZ (hWq20.xo hK) ((hZ0.at hSq20 (fun _ h => h)).zs))) (n := 3) (As := [.ref (o 0), .int 0, .int 0]) (rest := []) rfl hl.1 rfl (Nat.le_of_ble_eq_true rfl) ⟨by show _ ≤ (668492 : Nat); omega, by show _ ≤ (7096223 : Nat); omega⟩ dL_law_109) hSq20 (fun _ h => h.elim) (fun rq22 Hq22 Lq22 eq22 gq22 fq22 hSq22 => ?_)
        subst eq22
        have hWq22 := hWq20.rd fq22
        refine k_eq (y := (-1000001)) (hcV_1 (by decide +kernel)) ?_
        refine lv_ldc (v := (-1000001)) hx hb S.2.2.2.1 (S.2.2.2.2 _ m_294) dL_law_112 ?_
        refine lv_icmp_ne (tgt := 121) hx hb dL_law_114 (by decide) (fun c114_23 => absurd (by decide) c114_23) (fun c114_23 => ?_)
        refine lv_iconst (v := 1) hx hb dL_law_117 (by decide) ?_
        refine lv_goto (tgt := 122) hx hb dL_law_118 (by decide) ?_
        refine lv_istore (lv' := [(8, .int 1), (0, .ref b), (1, .ref (o 0)), (2, .ref (t 0)), (3, .ref (a 0)), (4, .ref (a 1)), (5, .ref (a 2)), (6, .ref (a 3)), (7, .ref (a 4))]) hx hb dL_law_122 hl (by decide) rfl (fun ls hl => ?_)
        refine lv_iconst (v := 0) hx hb dL_law_124 (by decide) ?_
        refine lv_istore (lv' := [(9, .int 0), (8, .int 1), (0, .ref b), (1, .ref (o 0)), (2, .ref (t 0)), (3, .ref (a 0)), (4, .ref (a 1)), (5, .ref (a 2)), (6, .ref (a 3)), (7, .ref (a 4))]) hx hb dL_law_125 hl (by decide) rfl (fun ls hl => ?_)
        refine W.widen (k := 45 + (10 + 2930 * 0)) (n := 4800 + (60 + 17580 * 0)) (by omega) (by omega) ?_
        have hl : lv_has ls 10 [(9, .int (nI 0)), (8, .int 1), (0, .ref b), (1, .ref (o 0)), (2, .ref (t 0)), (3, .ref (a 0)), (4, .ref (a 1)), (5, .ref (a 2)), (6, .ref (a 3)), (7, .ref (a 4))] := hl
        exact L127 111 0 (Nat.zero_le _) (by omega) Hq22 _ ⟨S0, eAA 11, RI0, hWq22⟩ hSq22 ls (lv_sub hl [2, 3, 4, 5, 6, 7, 8, 9, 1, 0] rfl)
      · skip
        have hltk : k < 11 := by
          rcases Nat.lt_or_ge k 11 with h9 | h9
          · exact h9
          · exact absurd (nI_le (a := 11) h9 (by omega)) ce
        refine lv_aload_n hx hb dL_law_54 rfl (lv_at hl 3 rfl) ?_
        refine lv_iload hx hb dL_law_55 (lv_at hl 8 rfl) ?_
        refine lv_iload hx hb dL_law_57 (lv_at hl 8 rfl) ?_
        refine lv_iconst (v := 5) hx hb dL_law_59 (by decide) ?_
        refine lv_icmp_ge (tgt := 67) hx hb dL_law_60 (by decide) (fun c5 => ?_) (fun c5 => ?_)
        · skip
          refine lv_bipush (v := 100) hx hb dL_law_67 (by decide) ?_
          refine k_stQ S hK hJ hW hS (fun q h => hAQ q h) 0 (by decide) (i := k) (show k < 11 by omega) dL_law_69 (fun Hq25 Lq25 hWq25 hSq25 => ?_)
          have hWq25 : WQ G o t a S0 S0 (eAA (k + 1)) Hq25 := by rw [show eAA (k + 1) = su (eAA k) 0 k 100 from (by rw [eAA, if_neg (fun h9 : k < 5 => absurd c5 (nI_ge h9 (by decide)))])]; exact hWq25
          refine lv_iinc (v := nI (k + 1)) (lv' := [(8, .int (nI (k + 1))), (0, .ref b), (1, .ref (o 0)), (2, .ref (t 0)), (3, .ref (a 0)), (4, .ref (a 1)), (5, .ref (a 2)), (6, .ref (a 3)), (7, .ref (a 4))]) hx hb dL_law_70 hl (k := 8) rfl (nI_1 k) (by decide) rfl (fun ls hl => ?_)
          refine lv_goto (tgt := 47) hx hb dL_law_73 (by decide) ?_
          refine W.widen (k := 45 + (0)) (n := 4800 + (0)) (by omega) (by omega) ?_
          exact ihL47 (k + 1) hltk (by omega) Hq25 Lq25 hWq25 hSq25 ls (lv_sub hl [1, 2, 3, 4, 5, 6, 7, 8, 0] rfl)
        · skip
          refine lv_iconst (v := 1) hx hb dL_law_63 (by decide) ?_
          refine lv_goto (tgt := 69) hx hb dL_law_64 (by decide) ?_
          refine k_stQ S hK hJ hW hS (fun q h => hAQ q h) 0 (by decide) (i := k) (show k < 11 by omega) dL_law_69 (fun Hq26 Lq26 hWq26 hSq26 => ?_)
          have hWq26 : WQ G o t a S0 S0 (eAA (k + 1)) Hq26 := by rw [show eAA (k + 1) = su (eAA k) 0 k 1 from (by rw [eAA, if_pos (show k < 5 from (Nat.lt_or_ge k 5).resolve_right (fun h9 => c5 (nI_le (a := 5) h9 (by omega))))])]; exact hWq26
          refine lv_iinc (v := nI (k + 1)) (lv' := [(8, .int (nI (k + 1))), (0, .ref b), (1, .ref (o 0)), (2, .ref (t 0)), (3, .ref (a 0)), (4, .ref (a 1)), (5, .ref (a 2)), (6, .ref (a 3)), (7, .ref (a 4))]) hx hb dL_law_70 hl (k := 8) rfl (nI_1 k) (by decide) rfl (fun ls hl => ?_)
          refine lv_goto (tgt := 47) hx hb dL_law_73 (by decide) ?_
          refine W.widen (k := 45 + (0)) (n := 4800 + (0)) (by omega) (by omega) ?_
          exact ihL47 (k + 1) hltk (by omega) Hq26 Lq26 hWq26 hSq26 ls (lv_sub hl [1, 2, 3, 4, 5, 6, 7, 8, 0] rfl)
  refine lv_iconst (v := 0) hx hb dL_law_44 (by decide) ?_
  refine lv_istore (lv' := [(8, .int 0), (0, .ref b), (1, .ref (o 0)), (2, .ref (t 0)), (3, .ref (a 0)), (4, .ref (a 1)), (5, .ref (a 2)), (6, .ref (a 3)), (7, .ref (a 4))]) hx hb dL_law_45 hl (by decide) rfl (fun ls hl => ?_)
  have hl : lv_has ls 10 [(8, .int (nI 0)), (0, .ref b), (1, .ref (o 0)), (2, .ref (t 0)), (3, .ref (a 0)), (4, .ref (a 1)), (5, .ref (a 2)), (6, .ref (a 3)), (7, .ref (a 4))] := hl
  exact L47 12 0 (Nat.zero_le _) (by omega) H locs hW hS ls (lv_sub hl [1, 2, 3, 4, 5, 6, 7, 8, 0] rfl)
