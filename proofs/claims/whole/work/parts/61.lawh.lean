/-! THE LAW's LOOP -/
def AX (aX : Nat → Nat) : Nat → Prop := fun q => ∃ i, i < 20 ∧ q = aX i
def AM (aM : Nat → Nat) : Nat → Prop := fun q => ∃ i, i < 16 ∧ q = aM i
def AL (s : State) : Nat → Prop := fun q => s.heap.size ≤ q
abbrev LFix (p : Program) (l : Launch) (s : State) (m : MethodId) (meth : Method) (c : Code) (b L : Nat) (xs : Nat → Int32) (G : kG) (aX aM : Nat → Nat) (ao : Nat) : Prop := (CallFix p m c cL_law 7 s #[Value.ref b] big RL) ∧ (meth.sig.returnType = some .boolean) ∧ (meth.locks = false) ∧ (l.stackTraces = false) ∧ (KK G s) ∧ (va_X b L xs s s.heap) ∧ (b < s.heap.size) ∧ (vx_Zq Bundle.tN "UNASSIGNED_STACK" Bundle.steD (AL s) s s.heap) ∧ (vx_Zq Bundle.tN "SUPPRESSED_SENTINEL" Bundle.listD (AL s) s s.heap) ∧ (DD 20 (AX aX) aX) ∧ (DD 16 (AM aM) aM) ∧ (∀ q, AX aX q → ¬ AM aM q) ∧ (¬ AX aX ao) ∧ (¬ AM aM ao) ∧ (∀ q, AX aX q → AL s q) ∧ (∀ q, AM aM q → AL s q) ∧ (AL s ao) ∧ (L ≤ 3072)
theorem LFix.S {p : Program} {l : Launch} {s : State} {m : MethodId} {meth : Method} {c : Code} {b L : Nat} {xs : Nat → Int32} {G : kG} {aX aM : Nat → Nat} {ao : Nat} (h : LFix p l s m meth c b L xs G aX aM ao) : CallFix p m c cL_law 7 s #[Value.ref b] big RL := h.1
theorem LFix.hr {p : Program} {l : Launch} {s : State} {m : MethodId} {meth : Method} {c : Code} {b L : Nat} {xs : Nat → Int32} {G : kG} {aX aM : Nat → Nat} {ao : Nat} (h : LFix p l s m meth c b L xs G aX aM ao) : meth.sig.returnType = some .boolean := h.2.1
theorem LFix.hlocks {p : Program} {l : Launch} {s : State} {m : MethodId} {meth : Method} {c : Code} {b L : Nat} {xs : Nat → Int32} {G : kG} {aX aM : Nat → Nat} {ao : Nat} (h : LFix p l s m meth c b L xs G aX aM ao) : meth.locks = false := h.2.2.1
theorem LFix.hst {p : Program} {l : Launch} {s : State} {m : MethodId} {meth : Method} {c : Code} {b L : Nat} {xs : Nat → Int32} {G : kG} {aX aM : Nat → Nat} {ao : Nat} (h : LFix p l s m meth c b L xs G aX aM ao) : l.stackTraces = false := h.2.2.2.1
theorem LFix.hK {p : Program} {l : Launch} {s : State} {m : MethodId} {meth : Method} {c : Code} {b L : Nat} {xs : Nat → Int32} {G : kG} {aX aM : Nat → Nat} {ao : Nat} (h : LFix p l s m meth c b L xs G aX aM ao) : KK G s := h.2.2.2.2.1
theorem LFix.hX {p : Program} {l : Launch} {s : State} {m : MethodId} {meth : Method} {c : Code} {b L : Nat} {xs : Nat → Int32} {G : kG} {aX aM : Nat → Nat} {ao : Nat} (h : LFix p l s m meth c b L xs G aX aM ao) : va_X b L xs s s.heap := h.2.2.2.2.2.1
theorem LFix.hbl {p : Program} {l : Launch} {s : State} {m : MethodId} {meth : Method} {c : Code} {b L : Nat} {xs : Nat → Int32} {G : kG} {aX aM : Nat → Nat} {ao : Nat} (h : LFix p l s m meth c b L xs G aX aM ao) : b < s.heap.size := h.2.2.2.2.2.2.1
theorem LFix.Z1 {p : Program} {l : Launch} {s : State} {m : MethodId} {meth : Method} {c : Code} {b L : Nat} {xs : Nat → Int32} {G : kG} {aX aM : Nat → Nat} {ao : Nat} (h : LFix p l s m meth c b L xs G aX aM ao) : vx_Zq Bundle.tN "UNASSIGNED_STACK" Bundle.steD (AL s) s s.heap := h.2.2.2.2.2.2.2.1
theorem LFix.Z2 {p : Program} {l : Launch} {s : State} {m : MethodId} {meth : Method} {c : Code} {b L : Nat} {xs : Nat → Int32} {G : kG} {aX aM : Nat → Nat} {ao : Nat} (h : LFix p l s m meth c b L xs G aX aM ao) : vx_Zq Bundle.tN "SUPPRESSED_SENTINEL" Bundle.listD (AL s) s s.heap := h.2.2.2.2.2.2.2.2.1
theorem LFix.dX {p : Program} {l : Launch} {s : State} {m : MethodId} {meth : Method} {c : Code} {b L : Nat} {xs : Nat → Int32} {G : kG} {aX aM : Nat → Nat} {ao : Nat} (h : LFix p l s m meth c b L xs G aX aM ao) : DD 20 (AX aX) aX := h.2.2.2.2.2.2.2.2.2.1
theorem LFix.dM {p : Program} {l : Launch} {s : State} {m : MethodId} {meth : Method} {c : Code} {b L : Nat} {xs : Nat → Int32} {G : kG} {aX aM : Nat → Nat} {ao : Nat} (h : LFix p l s m meth c b L xs G aX aM ao) : DD 16 (AM aM) aM := h.2.2.2.2.2.2.2.2.2.2.1
theorem LFix.xm {p : Program} {l : Launch} {s : State} {m : MethodId} {meth : Method} {c : Code} {b L : Nat} {xs : Nat → Int32} {G : kG} {aX aM : Nat → Nat} {ao : Nat} (h : LFix p l s m meth c b L xs G aX aM ao) : ∀ q, AX aX q → ¬ AM aM q := h.2.2.2.2.2.2.2.2.2.2.2.1
theorem LFix.xo {p : Program} {l : Launch} {s : State} {m : MethodId} {meth : Method} {c : Code} {b L : Nat} {xs : Nat → Int32} {G : kG} {aX aM : Nat → Nat} {ao : Nat} (h : LFix p l s m meth c b L xs G aX aM ao) : ¬ AX aX ao := h.2.2.2.2.2.2.2.2.2.2.2.2.1
theorem LFix.mo {p : Program} {l : Launch} {s : State} {m : MethodId} {meth : Method} {c : Code} {b L : Nat} {xs : Nat → Int32} {G : kG} {aX aM : Nat → Nat} {ao : Nat} (h : LFix p l s m meth c b L xs G aX aM ao) : ¬ AM aM ao := h.2.2.2.2.2.2.2.2.2.2.2.2.2.1
theorem LFix.nX {p : Program} {l : Launch} {s : State} {m : MethodId} {meth : Method} {c : Code} {b L : Nat} {xs : Nat → Int32} {G : kG} {aX aM : Nat → Nat} {ao : Nat} (h : LFix p l s m meth c b L xs G aX aM ao) : ∀ q, AX aX q → AL s q := h.2.2.2.2.2.2.2.2.2.2.2.2.2.2.1
theorem LFix.nM {p : Program} {l : Launch} {s : State} {m : MethodId} {meth : Method} {c : Code} {b L : Nat} {xs : Nat → Int32} {G : kG} {aX aM : Nat → Nat} {ao : Nat} (h : LFix p l s m meth c b L xs G aX aM ao) : ∀ q, AM aM q → AL s q := h.2.2.2.2.2.2.2.2.2.2.2.2.2.2.2.1
theorem LFix.nO {p : Program} {l : Launch} {s : State} {m : MethodId} {meth : Method} {c : Code} {b L : Nat} {xs : Nat → Int32} {G : kG} {aX aM : Nat → Nat} {ao : Nat} (h : LFix p l s m meth c b L xs G aX aM ao) : AL s ao := h.2.2.2.2.2.2.2.2.2.2.2.2.2.2.2.2.1
theorem LFix.hL {p : Program} {l : Launch} {s : State} {m : MethodId} {meth : Method} {c : Code} {b L : Nat} {xs : Nat → Int32} {G : kG} {aX aM : Nat → Nat} {ao : Nat} (h : LFix p l s m meth c b L xs G aX aM ao) : L ≤ 3072 := h.2.2.2.2.2.2.2.2.2.2.2.2.2.2.2.2.2
/-- the heap at the loop's head -/
def LI (G : kG) (aX aM : Nat → Nat) (ao : Nat) (s : State) (σ μ : kS) (H : Heap) (L0 : List Loc) : Prop := va_P G.1 vwCl (wX G aX σ) H ∧ va_P G.1 vwCl (wM G aM μ) H ∧ (∃ f, va_P G.1 vwCl (wO G ao f) H) ∧ va_S (AL s) s.heap H L0
section KLAW
variable {p : Program} {l : Launch} {e : Env} {R : Room} {s : State} {m : MethodId} {below : List Frame} {meth : Method} {c : Code} {H : Heap} {locs : List Loc} {cells slots mc ms : Nat} {Q : State → Prop}
variable {b L : Nat} {xs : Nat → Int32} {G : kG} {aX aM : Nat → Nat} {ao pc : Nat} {ls : Array Slot} {rest st0 : List Value} {a : Array Value} {args : Array Value}
theorem LFix.zs (F : LFix p l s m meth c b L xs G aX aM ao) (hS : va_S (AL s) s.heap H locs) : ZS s H :=
  ⟨(F.Z1.kept (fun a ha hn => hS.2.1 a ha hn)).narrow (fun _ h => h.elim), (F.Z2.kept (fun a ha hn => hS.2.1 a ha hn)).narrow (fun _ h => h.elim)⟩
/-- one of the script's ints -/
theorem k_sld (F : LFix p l s m meth c b L xs G aX aM ao) (hS : va_S (AL s) s.heap H locs) {k : Nat} (hk : k < L) (hdg : decode cL_law pc = .ok (.iaload, 1))
    (kk : W p l e R s m #[Value.ref b] below meth c H locs cells slots Q (F0 m (pc + 1) ls (.int (xs k) :: rest))) : W p l e R s m #[Value.ref b] below meth c H locs cells slots Q (F0 m pc ls (.int (nI k) :: .ref b :: rest)) := by
  have hL := F.hL
  have h31 : L < 2 ^ 31 := by omega
  refine va_sld F.S.1 F.S.2.1 F.hX F.hbl (fun h => absurd F.hbl (Nat.not_lt.mpr h)) hS (vp_in_nI hk h31) hdg ?_
  rw [nI_clamp (Nat.lt_trans hk h31)]
  exact kk
/-- behind a helper of the law -/
theorem q_lh {E : Nat} {pos : Int32} {v : Int64} {σ σ' : kS} {A9 A : Nat → Prop} {H0 : Heap} (hr : vx_Run p l e R s m args below meth c H locs cells slots mc ms (F0 m pc ls st0) rest (oL G aX ao A9 E pos v σ σ' a) (fun _ _ _ => False) A9) (hS : va_S A H0 H locs) (hA : ∀ q, A9 q → A q)
    (kk : ∀ (r : Int32) (f' : Nat → Int64) (H1 : Heap) (locs1 : List Loc), va_P G.1 vwCl (wO G ao f') H1 → ((E = 0 ∧ r = 0 ∧ f' 0 = v ∧ va_P G.1 vwCl (wX G aX σ') H1) ∨ (E ≠ 0 ∧ r = pos ∧ va_P G.1 vwCl (wX G aX σ) H1)) → (∀ q : Nat, q < H.size → ¬ A9 q → H1[q]? = H[q]?) → va_S A H0 H1 locs1 → W p l e R s m args below meth c H1 locs1 (cells + mc) (slots + ms) Q (F0 m (pc + 3) ls (.int r :: rest))) : W p l e R s m args below meth c H locs cells slots Q (F0 m pc ls st0) := by
  intro T hT X
  rcases hr T hT X with ⟨v, st₀, t, T', L, h0, X', hL, e1, -, ⟨r, f', hv, ho, hF, hd⟩, st⟩ | ⟨q, st₀, t, T', L, x, ce, h0, X', hL, e1, e2, h1, hce, hcv, hcl, st⟩
  · cases hv
    obtain ⟨k1, k2, k3⟩ := s_call h0 e1 hS hA hL hF
    obtain ⟨t2, a1, b1⟩ := kk r f' T'.heap (locs ++ L) (by rw [e1]; exact ho) (by rw [e1]; exact hd) k2 k3 T' rfl X'
    exact ⟨t2, st t2 a1, b1⟩
  · exact h1.elim
theorem wM_A {aM : Nat → Nat} {μ : kS} {k : Nat} {q : Nat × va_E} (h : (wM G aM μ)[k]? = some q) : AM aM q.1 := by
  have h1 : ((wM G aM μ).map (fun q => q.1))[k]? = some q.1 := by rw [List.getElem?_map, h]; rfl
  rw [wM_fst, List.getElem?_map] at h1
  by_cases hn : k < 16
  · rw [List.getElem?_range hn] at h1
    exact ⟨k, hn, (Option.some.inj h1).symm⟩
  · rw [List.getElem?_eq_none (by simp; omega)] at h1
    cases h1
theorem wX_A {aX : Nat → Nat} {σ : kS} {k : Nat} {q : Nat × va_E} (h : (wX G aX σ)[k]? = some q) : AX aX q.1 := by
  have h1 : ((wX G aX σ).map (fun q => q.1))[k]? = some q.1 := by rw [List.getElem?_map, h]; rfl
  rw [wX_fst, List.getElem?_map] at h1
  by_cases hn : k < 20
  · rw [List.getElem?_range hn] at h1
    exact ⟨k, hn, (Option.some.inj h1).symm⟩
  · rw [List.getElem?_eq_none (by simp; omega)] at h1
    cases h1
/-- the model's cells keep where only the class's and the out array change -/
theorem LFix.keepM (F : LFix p l s m meth c b L xs G aX aM ao) {μ : kS} {H1 : Heap} (h : va_P G.1 vwCl (wM G aM μ) H) (hk : ∀ q : Nat, q < H.size → ¬ (AX aX q ∨ q = ao) → H1[q]? = H[q]?) : va_P G.1 vwCl (wM G aM μ) H1 :=
  h.kept (fun k q hq => hk q.1 (h k q hq).lt (fun hz => hz.elim (fun h9 => F.xm _ h9 (wM_A hq)) (fun h9 => F.mo (by rw [← h9]; exact wM_A hq))))
theorem LFix.keepX (F : LFix p l s m meth c b L xs G aX aM ao) {σ : kS} {H1 : Heap} (h : va_P G.1 vwCl (wX G aX σ) H) (hk : ∀ q : Nat, q < H.size → ¬ AM aM q → H1[q]? = H[q]?) : va_P G.1 vwCl (wX G aX σ) H1 :=
  h.kept (fun k q hq => hk q.1 (h k q hq).lt (F.xm _ (wX_A hq)))
theorem LFix.keepO (F : LFix p l s m meth c b L xs G aX aM ao) {f : Nat → Int64} {H1 : Heap} (h : va_P G.1 vwCl (wO G ao f) H) (hk : ∀ q : Nat, q < H.size → ¬ AM aM q → H1[q]? = H[q]?) : va_P G.1 vwCl (wO G ao f) H1 := kpO h F.mo hk
theorem nI_nm1 (z : Nat) (h : z < 2 ^ 31) : nI z ≠ -1 := by
  intro h1
  have h2 := nI_pos' h
  rw [h1] at h2
  exact absurd h2 (by decide)
theorem lcmp_ne {x y : Int64} (h : x = y) : lg_cmp x y = 0 := by subst h; simp [lg_cmp]
end KLAW
