/-! THE LAW's HELPERS -/
theorem nc_of {C T : String} {i : Nat} (h : (flatC (Jvm.Cond.and given_1 narrow_1))[i]? = some (Cond.not (.castable C T))) : Cond.not (.castable C T) ∈ flatC (Jvm.Cond.and given_1 narrow_1) := List.mem_of_getElem? h
/-- the out array's cell -/
def wO (G : kG) (ao : Nat) (f : Nat → Int64) : va_W := [(ao, .inl (G.2.2.2, 1, .inr (.inl f)))]
/-- how a helper ends: E the kind of the exception, r its number, v what it has written -/
def oL (G : kG) (ad : Nat → Nat) (ao : Nat) (A9 : Nat → Prop) (E : Nat) (pos : Int32) (v : Int64) (σ σ' : kS) : Array Value → State → Outcome → State → Prop := fun _ st o t => ∃ (r : Int32) (f' : Nat → Int64), o = .returned (some (.int r)) ∧ va_P G.1 vwCl (wO G ao f') t.heap ∧ va_F A9 st t ∧ ((E = 0 ∧ r = 0 ∧ f' 0 = v ∧ va_P G.1 vwCl (wX G ad σ') t.heap) ∨ (E ≠ 0 ∧ r = pos ∧ va_P G.1 vwCl (wX G ad σ) t.heap))
def PL (G : kG) (ad : Nat → Nat) (ao : Nat) (σ : kS) (f : Nat → Int64) : State → Prop := fun U => PX G ad σ U U.heap ∧ ZS U U.heap ∧ va_P G.1 vwCl (wO G ao f) U.heap
theorem bl_PL {G : kG} {ad : Nat → Nat} {ao : Nat} {σ : kS} {f : Nat → Int64} : kBl (PL G ad ao σ f) := fun U U' h1 h2 h => by
  show PX G ad σ U' U'.heap ∧ ZS U' U'.heap ∧ va_P G.1 vwCl (wO G ao f) U'.heap
  rw [h1]; exact ⟨PX.warm h.1 (warm_vm h2), ZS.warm h.2.1 (warm_vm h2), h.2.2⟩
theorem wO_D {G : kG} {ao : Nat} {f : Nat → Int64} {A : Nat → Prop} (h : A ao) : va_D A (wO G ao f) := by
  refine ⟨fun i j x9 y9 hi hj _ => ?_, fun k q hk => ?_⟩
  · have h1 : i < 1 := (List.getElem?_eq_some_iff.mp hi).1
    have h2 : j < 1 := (List.getElem?_eq_some_iff.mp hj).1
    omega
  · have h1 : k < 1 := (List.getElem?_eq_some_iff.mp hk).1
    have h2 : k = 0 := by omega
    subst h2
    cases hk; exact h
section KL
variable {p : Program} {l : Launch} {e : Env} {R : Room} {s : State} {m : MethodId} {args : Array Value} {below : List Frame} {meth : Method} {c : Code} {H H0 : Heap} {locs : List Loc} {cells slots mc ms : Nat} {Q : State → Prop}
variable {cc : ByteArray} {pc nL : Nat} {ls : Array Slot} {rest st0 : List Value} {G : kG} {A A1 : Nat → Prop} {ad ao : Nat} {own : String} {a : Array Value} {E : String → Prop}
theorem q_hw {P : Int32 → Prop} {B : Heap → Prop} (hr : vx_Run p l e R s m args below meth c H locs cells slots mc ms (F0 m pc ls st0) rest (oW A1 P B a) (tX E) A1) (hS : va_S A H0 H locs) (hA : ∀ q, A1 q → A q)
    (kk : ∀ (r : Int32) (H1 : Heap) (locs1 : List Loc), P r → B H1 → (∀ q : Nat, q < H.size → ¬ A1 q → H1[q]? = H[q]?) → va_S A H0 H1 locs1 → W p l e R s m args below meth c H1 locs1 (cells + mc) (slots + ms) Q (F0 m (pc + 3) ls (.int r :: rest)))
    (kx : ∀ (x : String) (q : Addr) (ce : Cell) (H1 : Heap) (locs1 : List Loc), E x → (∀ q : Nat, q < H.size → H1[q]? = H[q]?) → va_S A H0 H1 locs1 → H1[q]? = some ce → ce.vm = .none → s.vm.findClass x = some ce.cls → vx_W p l e R s m args below meth c H1 locs1 (cells + mc) (slots + ms) Q (F0 m pc ls rest) q) : W p l e R s m args below meth c H locs cells slots Q (F0 m pc ls st0) := by
  intro T hT X
  rcases hr T hT X with ⟨v, st₀, t, T', L, h0, X', hL, e1, -, ⟨⟨r, hv, hp⟩, hb, hF⟩, st⟩ | ⟨q, st₀, t, T', L, x, ce, h0, X', hL, e1, e2, ⟨h1, h2, h3⟩, hce, hcv, hcl, st⟩
  · cases hv
    obtain ⟨k1, k2, k3⟩ := s_call h0 e1 hS hA hL hF
    obtain ⟨t2, a1, b1⟩ := kk r T'.heap (locs ++ L) hp (by rw [e1]; exact hb) k2 k3 T' rfl X'
    exact ⟨t2, st t2 a1, b1⟩
  · have hF : va_F A1 st₀ t := ⟨h2, fun q hq _ => h3 q hq⟩
    obtain ⟨k1, k2, k3⟩ := s_call h0 e1 hS hA hL hF
    rw [h0] at h3
    obtain ⟨t2, a1, b1⟩ := kx x q ce T'.heap (locs ++ L) h1 (fun q hq => by rw [e1]; exact h3 q hq) k3 (by rw [e1]; exact hce) hcv hcl T' rfl X'
    exact ⟨t2, st.trans a1, b1⟩
theorem q_hi {P : Int32 → Prop} (hr : vx_Run p l e R s m args below meth c H locs cells slots mc ms (F0 m pc ls st0) rest (vp_Si P a) (tX E) NF) (hS : va_S A H0 H locs)
    (kk : ∀ (r : Int32) (H1 : Heap) (locs1 : List Loc), P r → H1 = H → va_S A H0 H1 locs1 → W p l e R s m args below meth c H1 locs1 (cells + mc) (slots + ms) Q (F0 m (pc + 3) ls (.int r :: rest)))
    (kx : ∀ (x : String) (q : Addr) (ce : Cell) (H1 : Heap) (locs1 : List Loc), E x → (∀ q : Nat, q < H.size → H1[q]? = H[q]?) → va_S A H0 H1 locs1 → H1[q]? = some ce → ce.vm = .none → s.vm.findClass x = some ce.cls → vx_W p l e R s m args below meth c H1 locs1 (cells + mc) (slots + ms) Q (F0 m pc ls rest) q) : W p l e R s m args below meth c H locs cells slots Q (F0 m pc ls st0) := by
  intro T hT X
  rcases hr T hT X with ⟨v, st₀, t, T', L, h0, X', hL, e1, -, ⟨r, hv, hp, hh⟩, st⟩ | ⟨q, st₀, t, T', L, x, ce, h0, X', hL, e1, e2, ⟨h1, h2, h3⟩, hce, hcv, hcl, st⟩
  · cases hv
    have hF : va_F NF st₀ t := ⟨by rw [hh]; exact Nat.le_refl _, fun q _ _ => by rw [hh]⟩
    obtain ⟨k1, k2, k3⟩ := s_call h0 e1 hS (fun q hq => hq.elim) hL hF
    obtain ⟨t2, a1, b1⟩ := kk r T'.heap (locs ++ L) hp (by rw [e1, hh, h0]) k3 T' rfl X'
    exact ⟨t2, st t2 a1, b1⟩
  · have hF : va_F NF st₀ t := ⟨h2, fun q hq _ => h3 q hq⟩
    obtain ⟨k1, k2, k3⟩ := s_call h0 e1 hS (fun q hq => hq.elim) hL hF
    rw [h0] at h3
    obtain ⟨t2, a1, b1⟩ := kx x q ce T'.heap (locs ++ L) h1 (fun q hq => by rw [e1]; exact h3 q hq) k3 (by rw [e1]; exact hce) hcv hcl T' rfl X'
    exact ⟨t2, st.trans a1, b1⟩
theorem k_last (S : CallFix p m c cc nL s args big own) (hK : KK G s) {f : Nat → Int64} (hP : va_P G.1 vwCl (wO G ao f) H) (hS : va_S A H0 H locs) (hA : A ao) {x : Int64} (hdg : decode cc pc = .ok (.lastore, 1))
    (kk : ∀ (H1 : Heap) (locs1 : List Loc), va_P G.1 vwCl (wO G ao (vp_updL f 0 x)) H1 → (∀ q : Nat, q ≠ ao → H1[q]? = H[q]?) → va_S A H0 H1 locs1 → W p l e R s m args below meth c H1 locs1 cells slots Q (F0 m (pc + 1) ls rest)) : W p l e R s m args below meth c H locs cells slots Q (F0 m pc ls (.long x :: .int 0 :: .ref ao :: rest)) := by
  have hd : va_D A (wO G ao f) := wO_D hA
  have hin : vp_in (0 : Int32) 1 := vp_in_nI (n := 0) (N := 1) (by decide) (by decide)
  refine W.last S.1 S.2.1 (hP 0 _ rfl) ((hK.1.2 2 (G.2.2.2, .long) rfl).1 1 (fun j => .long (f j))) (fun q => by cases q) (by show ¬ ((0 : Int32) < 0 ∨ (arrV _ _ _).slots.size ≤ _); rw [arrV_size]; exact hin) rfl rfl hdg fun H1 e z oq => ?_
  refine kk H1 _ (va_P.set (A := A) (p := 0) (a := ao) (e := .inl (G.2.2.2, 1, .inr (.inl (vp_updL f 0 x)))) hP hd rfl ?_ oq) oq (hS.put z oq hA)
  show H1[ao]? = some (vp_cell _ _)
  rw [e]
  rw [vp_cell_l, vp_cell_l, arrV_store]
  congr 2
  funext q
  by_cases hq : q = 0
  · subst hq
    rfl
  · simp [updV, vp_updL, hq]
/-- a picture keeps where its cells do -/
theorem kp {ws : va_W} {H1 : Heap} (hP : va_P G.1 vwCl ws H) (hk : ∀ q : Nat, q < H.size → H1[q]? = H[q]?) : va_P G.1 vwCl ws H1 := hP.kept (fun k q h => hk q.1 (hP k q h).lt)
theorem kpX {aX : Nat → Nat} {σ : kS} {H1 : Heap} (hP : va_P G.1 vwCl (wX G aX σ) H) (hD : DD 20 A1 aX) (hao : ¬ A1 ao) (hk : ∀ q : Nat, q ≠ ao → H1[q]? = H[q]?) : va_P G.1 vwCl (wX G aX σ) H1 := hP.kept (fun k q h => hk q.1 (fun h9 => hao (by rw [← h9]; exact (hD.w (wX_fst G aX σ)).2 k q h)))
theorem kpO {f : Nat → Int64} {H1 : Heap} (hP : va_P G.1 vwCl (wO G ao f) H) (hao : ¬ A1 ao) (hk : ∀ q : Nat, q < H.size → ¬ A1 q → H1[q]? = H[q]?) : va_P G.1 vwCl (wO G ao f) H1 := hP.kept (fun k q h => by
  have h1 : k < 1 := (List.getElem?_eq_some_iff.mp h).1
  have h2 : k = 0 := by omega
  subst h2
  cases h
  exact hk ao (hP 0 _ rfl).lt hao)
end KL
theorem ncx21 : Cond.not (.castable "java/lang/IllegalArgumentException" "java/lang/IndexOutOfBoundsException") ∈ flatC (Jvm.Cond.and given_1 narrow_1) := by decide +kernel
theorem ncx31 : Cond.not (.castable "java/lang/IllegalStateException" "java/lang/IndexOutOfBoundsException") ∈ flatC (Jvm.Cond.and given_1 narrow_1) := by decide +kernel
theorem ncx32 : Cond.not (.castable "java/lang/IllegalStateException" "java/lang/IllegalArgumentException") ∈ flatC (Jvm.Cond.and given_1 narrow_1) := by decide +kernel
theorem ncx41 : Cond.not (.castable "java/util/NoSuchElementException" "java/lang/IndexOutOfBoundsException") ∈ flatC (Jvm.Cond.and given_1 narrow_1) := by decide +kernel
theorem ncx34 : Cond.not (.castable "java/lang/IllegalStateException" "java/util/NoSuchElementException") ∈ flatC (Jvm.Cond.and given_1 narrow_1) := by decide +kernel
theorem fcx1 : ((Cond.castable "java/lang/IndexOutOfBoundsException" "java/lang/IndexOutOfBoundsException").onTables && (Cond.castable "java/lang/IndexOutOfBoundsException" "java/lang/IndexOutOfBoundsException").keepsFace) = true := by decide +kernel
theorem fcx2 : ((Cond.castable "java/lang/IllegalArgumentException" "java/lang/IllegalArgumentException").onTables && (Cond.castable "java/lang/IllegalArgumentException" "java/lang/IllegalArgumentException").keepsFace) = true := by decide +kernel
theorem fcx3 : ((Cond.castable "java/lang/IllegalStateException" "java/lang/IllegalStateException").onTables && (Cond.castable "java/lang/IllegalStateException" "java/lang/IllegalStateException").keepsFace) = true := by decide +kernel
theorem fcx4 : ((Cond.castable "java/util/NoSuchElementException" "java/util/NoSuchElementException").onTables && (Cond.castable "java/util/NoSuchElementException" "java/util/NoSuchElementException").keepsFace) = true := by decide +kernel
