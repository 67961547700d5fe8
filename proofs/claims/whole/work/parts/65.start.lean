theorem sx9lu : Cond.laysStatic Bundle.tN "UNASSIGNED_STACK" Bundle.steD ∈ lw_tbl := by decide +kernel
theorem sx9ls : Cond.laysStatic Bundle.tN "SUPPRESSED_SENTINEL" Bundle.listD ∈ lw_tbl := by decide +kernel
theorem sx9in : Cond.initialized Bundle.tN ∈ lw_tbl := by decide +kernel
theorem sx9ru : Cond.isRef (.static Bundle.tN "UNASSIGNED_STACK" Bundle.steD) ∈ flatC (Jvm.Cond.and given_1 narrow_1) := by decide +kernel
theorem sx9rs : Cond.isRef (.static Bundle.tN "SUPPRESSED_SENTINEL" Bundle.listD) ∈ flatC (Jvm.Cond.and given_1 narrow_1) := by decide +kernel
theorem RR0 : RR S0 M0 0 := by
  have z2 : ∀ r i, 2 ≤ r → M0 r i = 0 := by
    intro r i h
    match r, h with
    | r + 2, _ => rfl
  refine ⟨0, 0, 0, 0, ?_, rfl, by omega, rfl, by omega, rfl, by omega, rfl, by omega, fun k => ⟨0, rfl, Nat.le_refl _⟩, fun k => ⟨Or.inl rfl, fun _ => rfl⟩, fun k => ⟨0, rfl, Nat.le_refl _⟩, fun i j _ h => by omega, ?_, fun k => ⟨0, rfl, by omega⟩, fun k => ⟨0, rfl, by omega⟩, ?_⟩
  · intro r i h
    match r, h with
    | 0, _ => rfl
    | 1, _ => rfl
    | 2, _ => rfl
    | 3, _ => rfl
    | 4, _ => rfl
    | 5, _ => rfl
    | 6, _ => rfl
    | 7, _ => rfl
    | 8, _ => rfl
    | 9, _ => rfl
    | 10, h => omega
    | 11, h => omega
    | 12, h => omega
    | 13, h => omega
    | k + 14, _ => rfl
  · intro k
    by_cases h : k < 5
    · exact ⟨1, if_pos h, by omega⟩
    · exact ⟨0, if_neg h, by omega⟩
  · intro k hk
    refine ⟨0, 0, by omega, by omega, rfl, rfl, by decide, ?_, ?_, fun h => by omega, fun h => by omega⟩
    · intro p hp
      show (if (0 : Int32) &&& ((1 : Int32) <<< (nI p &&& 31)) = 0 then false else true) = false
      rw [Int32.zero_and]
      rfl
    · have h1 : S0 13 k = -1 := if_pos hk
      rw [h1]
      rfl
set_option maxHeartbeats 4000000 in
set_option maxRecDepth 100000 in
/-- from the entry to the end -/
theorem whole_start {p : Program} {e : Env} {s : State} {m : MethodId} {below : List Frame} {meth : Method} {c : Code} (l : Launch) (hflags : l.flags = flags0) {b L : Nat} {xs : Nat → Int32} (hL : L ≤ 3072) (C0 : lw_At p s m meth c b L xs) : W p l e room_1 s m #[Value.ref b] below meth c s.heap [] 0 0 (lw_Z below #[Value.ref b] s) (entryFrame m ([Value.ref b] : List Value).toArray 7) := by
  obtain ⟨hx, hb, hr, hml, hown, hts, hX, hbl, hlocks, hgv⟩ := id C0
  have hA : ∀ q : Nat, s.heap.size ≤ q → AL s q := fun _ h => h
  have hbig : ∀ w ∈ big, w.before #[Value.ref b] s = true := fun w hw => hts w (List.mem_filter.mp hw).1
  have hGL : GL s := ⟨s, #[Value.ref b], hts, hgv, State.WarmedH.refl s⟩
  obtain ⟨cI, kI, pI, hI1, hI2, hI3⟩ := Cond.arrayClass_spec (hbig _ m_84)
  obtain ⟨cB, kB, pB, hB1, hB2, hB3⟩ := Cond.arrayClass_spec (hbig _ m_108)
  obtain ⟨cJ, kJ, pJ, hJ1, hJ2, hJ3⟩ := Cond.arrayClass_spec (hbig _ m_799)
  obtain ⟨c0, i0, K0⟩ := u_known (C := RX0) (T := TX0) (N := 7) (n := 7) hbig inX0 (hbig _ m_110)
  obtain ⟨c1, i1, K1⟩ := u_known (C := RX1) (T := TX1) (N := 6) (n := 6) hbig inX1 (hbig _ m_59)
  obtain ⟨c2, i2, K2⟩ := u_known (C := RX2) (T := TX2) (N := 4) (n := 4) hbig inX2 (hbig _ m_86)
  obtain ⟨c3, i3, K3⟩ := u_known (C := RX3) (T := TX3) (N := 6) (n := 6) hbig inX3 (hbig _ m_51)
  obtain ⟨c4, i4, K4⟩ := u_known (C := RX4) (T := TX4) (N := 20) (n := 20) hbig inX4 (hbig _ m_570)
  obtain ⟨dC, dI, hKc⟩ : ∃ (dC : Nat → ClassId) (dI : Nat → Nat → Nat), ∀ (k : Nat) (q : vw_C), vwCl[k]? = some q → u_Kn s q.1 q.2.1 q.2.2 (dC k) (dI k) := by
    refine ⟨fun k => match k with | 0 => c0 | 1 => c1 | 2 => c2 | 3 => c3 | _ => c4, fun k => match k with | 0 => i0 | 1 => i1 | 2 => i2 | 3 => i3 | _ => i4, ?_⟩
    intro k q hq
    match k, hq with
    | 0, hq => cases hq; exact K0
    | 1, hq => cases hq; exact K1
    | 2, hq => cases hq; exact K2
    | 3, hq => cases hq; exact K3
    | 4, hq => cases hq; exact K4
    | k + 5, hq => cases hq
  obtain ⟨G, hG⟩ : ∃ G : kG, G = ((dC, dI), cI, cB, cJ) := ⟨_, rfl⟩
  have hK : KK G s := by
    subst hG
    refine ⟨⟨hKc, fun k q h => ?_⟩, hGL⟩
    match k, h with
    | 0, h => cases h; exact ⟨fun n z => ⟨fun k h => (by cases h), kI, hI2, pI, hI3⟩, hI1⟩
    | 1, h => cases h; exact ⟨fun n z => ⟨fun k h => (by cases h), kB, hB2, pB, hB3⟩, hB1⟩
    | 2, h => cases h; exact ⟨fun n z => ⟨fun k h => (by cases h), kJ, hJ2, pJ, hJ3⟩, hJ1⟩
    | k + 3, h => cases h
  have S : CallFix p m c cL_law 7 s #[Value.ref b] big RL := ⟨hx, hb, hml, hown, hbig⟩
  have hst : l.stackTraces = false := by
    unfold Launch.stackTraces
    rw [hflags]
    decide
  have hS0 : va_S (AL s) s.heap s.heap [] := va_S.rf
  have hP0 : va_P G.1 vwCl [] s.heap := fun k q h => by cases h
  have hD0 : va_D (AL s) [] := ⟨fun i j p q h => (by cases h), fun k q h => (by cases h)⟩
  have hl := lv_entry ([.ref b]) (n := 7) (Nat.le_of_ble_eq_true rfl)
  rw [lg_entry_eq]
  generalize (lg_sl ([.ref b]) ++ List.replicate (7 - (lg_sl ([.ref b])).length) Slot.unset).toArray = ls at hl ⊢
  have hl : lv_has ls 7 [(0, .ref b)] := hl
  refine va_new (D := G.1) (ci := 3) (C := RX3) (T := TX3) (N := 6) (fs := [.null, .null, .null, .null, .null, .int 0]) hx hb hbig inX3 tyX3 tyX3_ok S.2.2.2.1 (hbig _ m_50) (hbig _ m_51) (hbig _ m_35) hK.1 hP0 hD0 hS0 hA rfl (by decide) (Nat.le_of_ble_eq_true rfl) (Nat.le_of_ble_eq_true rfl) dL_law_0 (fun q0 H1 hP1 hD1 hS1 => ?_)
  have hP1 : va_P G.1 vwCl [(q0, .inr (3, [.null, .null, .null, .null, .null, .int 0]))] H1 := hP1
  have hD1 : va_D (AL s) [(q0, .inr (3, [.null, .null, .null, .null, .null, .int 0]))] := hD1
  refine lv_dup hx hb dL_law_3 rfl ?_
  refine q_c (A1 := va_A [(q0, .inr (3, [.null, .null, .null, .null, .null, .int 0]))] H1.size) (r_I S ⟨m_52, m_53, m_35, m_54⟩ rfl ⟨by decide, by decide, by decide +kernel⟩ (c_initX l G q0 H1.size) ⟨rfl, rfl, Nat.le_of_ble_eq_true rfl, Nat.le_of_ble_eq_true rfl⟩ (ps bl_C (fun U hU hW => ⟨by rw [hU]; exact hP1, hK.warm hW, by rw [hU]⟩)) (rest := [.ref q0]) hl.1 rfl (Nat.le_of_ble_eq_true rfl) ⟨Nat.le_of_ble_eq_true rfl, Nat.le_of_ble_eq_true rfl⟩ dL_law_4) hS1 (va_free hD1 hS1 hA [0] rfl) (fun cX H2 L2 gP2 gD2 f2 hS2 => ?_)
  obtain ⟨jP2, jD2⟩ := va_join (wc := [(q0, .inr (3, [.null, .null, .null, .null, .null, .int 0]))]) (wr := []) hP1 hD1 [0] [] rfl rfl rfl (by decide) f2 (va_free hD1 hS1 hA [0] rfl) gP2 gD2
  obtain ⟨aX, haX⟩ : ∃ aX : Nat → Nat, aX = adC q0 cX := ⟨_, rfl⟩
  have hP2 : va_P G.1 vwCl (wX G aX S0) H2 := by rw [haX]; exact jP2
  have hD2 : va_D (AL s) (wX G aX S0) := by rw [haX]; exact jD2
  have hq0 : q0 = aX 0 := by rw [haX]; rfl
  clear haX gP2 gD2 f2 hP1 hD1 jP2 jD2
  subst hq0
  refine lv_astore_n (lv' := [(1, .ref (aX 0)), (0, .ref b)]) hx hb dL_law_7 rfl hl (by decide) rfl (fun ls hl => ?_)
  refine va_new (D := G.1) (ci := 4) (C := RX4) (T := TX4) (N := 20) (fs := [.int 0, .null, .null, .int 0, .null, .null, .null, .null, .null, .int 0, .null, .null, .null, .null, .null, .null, .int 0, .null, .null, .int 0]) hx hb hbig inX4 tyX4 tyX4_ok S.2.2.2.1 (hbig _ m_569) (hbig _ m_570) (hbig _ m_40) hK.1 hP2 hD2 hS2 hA rfl (by decide) (Nat.le_of_ble_eq_true rfl) (Nat.le_of_ble_eq_true rfl) dL_law_8 (fun q1 H3 hP3 hD3 hS3 => ?_)
  refine lv_dup hx hb dL_law_11 rfl ?_
  refine q_c (A1 := va_A [(q1, .inr (4, [.int 0, .null, .null, .int 0, .null, .null, .null, .null, .null, .int 0, .null, .null, .null, .null, .null, .null, .int 0, .null, .null, .int 0]))] H3.size) (r_I S ⟨m_571, m_572, m_40, m_573⟩ rfl ⟨by decide, by decide, by decide +kernel⟩ (c_initM l G q1 H3.size) ⟨rfl, rfl, Nat.le_of_ble_eq_true rfl, Nat.le_of_ble_eq_true rfl⟩ (ps bl_C (fun U hU hW => ⟨by rw [hU]; exact hP3.sub [20] rfl, hK.warm hW, by rw [hU]⟩)) (rest := [.ref q1]) hl.1 rfl (Nat.le_of_ble_eq_true rfl) ⟨Nat.le_of_ble_eq_true rfl, Nat.le_of_ble_eq_true rfl⟩ dL_law_12) hS3 (va_free hD3 hS3 hA [20] rfl) (fun cM H4 L4 gP4 gD4 f4 hS4 => ?_)
  obtain ⟨jP4, jD4⟩ := va_join (wc := [(q1, .inr (4, [.int 0, .null, .null, .int 0, .null, .null, .null, .null, .null, .int 0, .null, .null, .null, .null, .null, .null, .int 0, .null, .null, .int 0]))]) (wr := wX G aX S0) hP3 hD3 [20] [0, 1, 2, 3, 4, 5, 6, 7, 8, 9, 10, 11, 12, 13, 14, 15, 16, 17, 18, 19] rfl rfl (by decide) (by decide) f4 (va_free hD3 hS3 hA [20] rfl) gP4 gD4
  obtain ⟨aM, haM⟩ : ∃ aM : Nat → Nat, aM = adC q1 cM := ⟨_, rfl⟩
  have hP4 : va_P G.1 vwCl (wX G aX S0 ++ wM G aM M0) H4 := by rw [haM]; exact jP4
  have hD4 : va_D (AL s) (wX G aX S0 ++ wM G aM M0) := by rw [haM]; exact jD4
  have hq1 : q1 = aM 0 := by rw [haM]; rfl
  clear haM gP4 gD4 f4 hP3 hD3 jP4 jD4
  subst hq1
  refine lv_astore_n (lv' := [(2, .ref (aM 0)), (1, .ref (aX 0)), (0, .ref b)]) hx hb dL_law_15 rfl hl (by decide) rfl (fun ls hl => ?_)
  refine lv_iconst (v := 1) hx hb dL_law_16 (by decide) ?_
  refine k_newl S hK hP4 hD4 hS4 hA 1 (by decide) (by decide) (Nat.le_of_ble_eq_true rfl) (Nat.le_of_ble_eq_true rfl) (Nat.le_of_ble_eq_true rfl) dL_law_17 (fun ao H5 hP5 hD5 hS5 => ?_)
  refine lv_astore_n (lv' := [(3, .ref ao), (2, .ref (aM 0)), (1, .ref (aX 0)), (0, .ref b)]) hx hb dL_law_19 rfl hl (by decide) rfl (fun ls hl => ?_)
  refine lv_iconst (v := 0) hx hb dL_law_20 (by decide) ?_
  refine lv_istore (lv' := [(4, .int (nI (6 * 0))), (3, .ref ao), (2, .ref (aM 0)), (1, .ref (aX 0)), (0, .ref b)]) hx hb dL_law_21 hl (by decide) rfl (fun ls hl => ?_)
  have hw : ((wX G aX S0 ++ wM G aM M0 ++ [(ao, .inl (G.2.2.2, 1, .inr (.inl (fun _ => 0))))] : va_W)).map (fun q => q.1) = (List.range 37).map (fun i => if i < 20 then aX i else if i < 36 then aM (i - 20) else ao) := rfl
  have hDD := DD.of hD5 hw
  have eX : ∀ i, i < 20 → (fun i => if i < 20 then aX i else if i < 36 then aM (i - 20) else ao) i = aX i := fun i h => if_pos h
  have eM : ∀ i, i < 16 → (fun i => if i < 20 then aX i else if i < 36 then aM (i - 20) else ao) (i + 20) = aM i := fun i h => by
    show (if i + 20 < 20 then aX (i + 20) else if i + 20 < 36 then aM (i + 20 - 20) else ao) = aM i
    rw [if_neg (by omega), if_pos (by omega), Nat.add_sub_cancel]
  have eO : (fun i => if i < 20 then aX i else if i < 36 then aM (i - 20) else ao) 36 = ao := rfl
  have F : LFix p l s m meth c b L xs G aX aM ao := by
    refine ⟨S, hr, hlocks, hst, hK, hX, hbl, vx_Zqof (hts _ sx9lu) (hts _ sx9in) (flat_of_before _ hgv _ sx9ru) (fun a ha h => absurd ha (Nat.not_lt.mpr h)), vx_Zqof (hts _ sx9ls) (hts _ sx9in) (flat_of_before _ hgv _ sx9rs) (fun a ha h => absurd ha (Nat.not_lt.mpr h)), ?_, ?_, ?_, ?_, ?_, ?_, ?_, ?_, hL⟩
    · exact ⟨fun i j hi hj h => hDD.1 i j (by omega) (by omega) (by rw [eX i hi, eX j hj]; exact h), fun i hi => ⟨i, hi, rfl⟩⟩
    · exact ⟨fun i j hi hj h => by have := hDD.1 (i + 20) (j + 20) (by omega) (by omega) (by rw [eM i hi, eM j hj]; exact h); omega, fun i hi => ⟨i, hi, rfl⟩⟩
    · rintro q ⟨i, hi, h1⟩ ⟨j, hj, h2⟩
      have := hDD.1 i (j + 20) (by omega) (by omega) (by rw [eX i hi, eM j hj, ← h1, ← h2])
      omega
    · rintro ⟨i, hi, h1⟩
      have := hDD.1 i 36 (by omega) (by omega) (by rw [eX i hi, eO]; exact h1.symm)
      omega
    · rintro ⟨i, hi, h1⟩
      have := hDD.1 (i + 20) 36 (by omega) (by omega) (by rw [eM i hi, eO]; exact h1.symm)
      omega
    · rintro q ⟨i, hi, h1⟩
      have h2 := hDD.2 i (by omega)
      rw [eX i hi] at h2
      rw [h1]; exact h2
    · rintro q ⟨i, hi, h1⟩
      have h2 := hDD.2 (i + 20) (by omega)
      rw [eM i hi] at h2
      rw [h1]; exact h2
    · have h2 := hDD.2 36 (by omega)
      rw [eO] at h2
      exact h2
  have hI : LI G aX aM ao s S0 M0 H5 L4 := ⟨hP5.sub [0, 1, 2, 3, 4, 5, 6, 7, 8, 9, 10, 11, 12, 13, 14, 15, 16, 17, 18, 19] rfl, hP5.sub [20, 21, 22, 23, 24, 25, 26, 27, 28, 29, 30, 31, 32, 33, 34, 35] rfl, ⟨fun _ => 0, hP5.sub [36] rfl⟩, hS5⟩
  have hlp := K_loop F (e := e) (below := below) (Q := lw_Z below #[Value.ref b] s) 37 5306 (Nat.le_of_ble_eq_true rfl) (Nat.le_of_ble_eq_true rfl) (fun H9 L9 k9 n9 ls9 h1 h2 hS9 => by
    refine va_forget (fun q hq => hS9.2.2 q hq) ?_
    refine W.widen (k := 601024) (n := 7293034) h1 h2 ?_
    exact lw_ret hx hb hr hlocks dL_law_1597) (L / 6 + 1) 0 (by omega) (Nat.zero_le _) S0 M0 H5 L4 RR0 hI ls (lv_sub hl [4, 3, 2, 1, 0] rfl)
  exact hlp
