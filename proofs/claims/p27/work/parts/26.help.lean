/-! THE LAW's HELPERS: a call of the class, its exceptions as numbers -/
/-- what a helper tells: the answer, or the exception's number (E: which exception) -/
def hcV (E : Nat) (v : Int32) : Int32 := match E with
  | 0 => v
  | 1 => -1000001
  | 2 => -1000002
  | 3 => -1000003
  | _ => -1000002
theorem hcV_0 {E : Nat} {v : Int32} (h : E = 0) : hcV E v = v := by subst h; rfl
theorem hcV_1 {E : Nat} {v : Int32} (h : E = 1) : hcV E v = -1000001 := by subst h; rfl
theorem hcV_2 {E : Nat} {v : Int32} (h : E = 2) : hcV E v = -1000002 := by subst h; rfl
theorem hcV_3 {E : Nat} {v : Int32} (h : E = 3) : hcV E v = -1000003 := by subst h; rfl
theorem hcV_4 {E : Nat} {v : Int32} (h : E = 4) : hcV E v = -1000002 := by subst h; rfl
theorem bI_if {b : Bool} : (if bI b = 0 then (0 : Int32) else 1) = bI b := by cases b <;> rfl
section KL
variable {p : Program} {l : Launch} {e : Env} {R : Room} {s : State} {m : MethodId} {args : Array Value} {below : List Frame} {meth : Method} {c : Code} {H H0 : Heap} {locs : List Loc} {cells slots mc ms : Nat} {Q : State → Prop}
variable {cc : ByteArray} {pc nL : Nat} {ls : Array Slot} {rest st0 : List Value} {G : kG} {A A1 : Nat → Prop} {own : String} {a : Array Value} {E : String → Prop}
theorem q_hw {P : Int32 → Prop} {B : Heap → Prop} (hr : vx_Run p l e R s m args below meth c H locs cells slots mc ms (F0 m pc ls st0) rest (oW A1 P B a) (tX E) A1) (hS : va_S A H0 H locs) (hA : ∀ q, A1 q → A q)
    (kk : ∀ (r : Int32) (H1 : Heap) (locs1 : List Loc), P r → B H1 → (∀ q : Nat, q < H.size → ¬ A1 q → H1[q]? = H[q]?) → va_S A H0 H1 locs1 → W p l e R s m args below meth c H1 locs1 (cells + mc) (slots + ms) Q (F0 m (pc + 3) ls (.int r :: rest)))
    (kx : ∀ (x : String) (q : Addr) (ce : Cell) (H1 : Heap) (locs1 : List Loc), E x → (∀ q : Nat, q < H.size → H1[q]? = H[q]?) → va_S A H0 H1 locs1 → H1[q]? = some ce → ce.vm = .none → s.vm.findClass x = some ce.cls → vx_W p l e R s m args below meth c H1 locs1 (cells + mc) (slots + ms) Q (F0 m pc ls rest) q) : W p l e R s m args below meth c H locs cells slots Q (F0 m pc ls st0) := by
  intro T hT X
  rcases hr T hT X with ⟨v, st₀, t, T', L, h0, X', hL, e1, -, ⟨⟨r, hv, hp⟩, hb, hF⟩, st⟩ | ⟨q, st₀, t, T', L, x, ce, h0, X', hL, e1, e2, ⟨h1, h2, h3⟩, hce, hcv, hcl, st⟩
  · cases hv
    obtain ⟨k1, k2, k3⟩ := s_call h0 e1 hS hA hL hF
    obtain ⟨t2, a1, b1⟩ := kk r T'.heap (locs ++ L) hp (by rw [e1]; exact hb) k2 k3 T' rfl X'
    exact ⟨t2, st t2 a1, b1⟩
  · have hF : va_F A1 st₀ t := ⟨h2, fun q hq _ => h3 q hq⟩
    obtain ⟨k1, k2, k3⟩ := s_call h0 e1 hS hA hL hF
    rw [h0] at h3
    obtain ⟨t2, a1, b1⟩ := kx x q ce T'.heap (locs ++ L) h1 (fun q hq => by rw [e1]; exact h3 q hq) k3 (by rw [e1]; exact hce) hcv hcl T' rfl X'
    exact ⟨t2, st.trans a1, b1⟩
theorem q_hi {P : Int32 → Prop} (hr : vx_Run p l e R s m args below meth c H locs cells slots mc ms (F0 m pc ls st0) rest (vp_Si P a) (tX E) NF) (hS : va_S A H0 H locs)
    (kk : ∀ (r : Int32) (H1 : Heap) (locs1 : List Loc), P r → H1 = H → va_S A H0 H1 locs1 → W p l e R s m args below meth c H1 locs1 (cells + mc) (slots + ms) Q (F0 m (pc + 3) ls (.int r :: rest)))
    (kx : ∀ (x : String) (q : Addr) (ce : Cell) (H1 : Heap) (locs1 : List Loc), E x → (∀ q : Nat, q < H.size → H1[q]? = H[q]?) → va_S A H0 H1 locs1 → H1[q]? = some ce → ce.vm = .none → s.vm.findClass x = some ce.cls → vx_W p l e R s m args below meth c H1 locs1 (cells + mc) (slots + ms) Q (F0 m pc ls rest) q) : W p l e R s m args below meth c H locs cells slots Q (F0 m pc ls st0) := by
  intro T hT X
  rcases hr T hT X with ⟨v, st₀, t, T', L, h0, X', hL, e1, -, ⟨r, hv, hp, hh⟩, st⟩ | ⟨q, st₀, t, T', L, x, ce, h0, X', hL, e1, e2, ⟨h1, h2, h3⟩, hce, hcv, hcl, st⟩
  · cases hv
    have hF : va_F NF st₀ t := ⟨by rw [hh]; exact Nat.le_refl _, fun q _ _ => by rw [hh]⟩
    obtain ⟨k1, k2, k3⟩ := s_call h0 e1 hS (fun q hq => hq.elim) hL hF
    obtain ⟨t2, a1, b1⟩ := kk r T'.heap (locs ++ L) hp (by rw [e1, hh, h0]) k3 T' rfl X'
    exact ⟨t2, st t2 a1, b1⟩
  · have hF : va_F NF st₀ t := ⟨h2, fun q hq _ => h3 q hq⟩
    obtain ⟨k1, k2, k3⟩ := s_call h0 e1 hS (fun q hq => hq.elim) hL hF
    rw [h0] at h3
    obtain ⟨t2, a1, b1⟩ := kx x q ce T'.heap (locs ++ L) h1 (fun q hq => by rw [e1]; exact h3 q hq) k3 (by rw [e1]; exact hce) hcv hcl T' rfl X'
    exact ⟨t2, st.trans a1, b1⟩
theorem kp {ws : va_W} {H1 : Heap} (hP : va_P G.1 vwCl ws H) (hk : ∀ q : Nat, q < H.size → H1[q]? = H[q]?) : va_P G.1 vwCl ws H1 := hP.kept (fun k q h => hk q.1 (hP k q h).lt)
/-- behind a helper that has caught all that is thrown -/
theorem q_wx {P : Int32 → Prop} {B : Heap → Prop} (hr : vx_Run p l e R s m args below meth c H locs cells slots mc ms (F0 m pc ls st0) rest (oW A1 P B a) (fun _ _ _ => False) A1) (hS : va_S A H0 H locs) (hA : ∀ q, A1 q → A q)
    (kk : ∀ (r : Int32) (H1 : Heap) (locs1 : List Loc), P r → B H1 → (∀ q : Nat, q < H.size → ¬ A1 q → H1[q]? = H[q]?) → va_S A H0 H1 locs1 → W p l e R s m args below meth c H1 locs1 (cells + mc) (slots + ms) Q (F0 m (pc + 3) ls (.int r :: rest))) : W p l e R s m args below meth c H locs cells slots Q (F0 m pc ls st0) := by
  intro T hT X
  rcases hr T hT X with ⟨v, st₀, t, T', L, h0, X', hL, e1, -, ⟨⟨r, hv, hp⟩, hb, hF⟩, st⟩ | ⟨q, st₀, t, T', L, x, ce, h0, X', hL, e1, e2, h1, hce, hcv, hcl, st⟩
  · cases hv
    obtain ⟨k1, k2, k3⟩ := s_call h0 e1 hS hA hL hF
    obtain ⟨t2, a1, b1⟩ := kk r T'.heap (locs ++ L) hp (by rw [e1]; exact hb) k2 k3 T' rfl X'
    exact ⟨t2, st t2 a1, b1⟩
  · exact h1.elim
end KL
theorem ncx21 : Cond.not (.castable "java/lang/IllegalArgumentException" "java/lang/IndexOutOfBoundsException") ∈ flatC (Jvm.Cond.and given_1 narrow_1) := by decide +kernel
theorem ncx31 : Cond.not (.castable "java/lang/IllegalStateException" "java/lang/IndexOutOfBoundsException") ∈ flatC (Jvm.Cond.and given_1 narrow_1) := by decide +kernel
theorem ncx32 : Cond.not (.castable "java/lang/IllegalStateException" "java/lang/IllegalArgumentException") ∈ flatC (Jvm.Cond.and given_1 narrow_1) := by decide +kernel
theorem ncx41 : Cond.not (.castable "java/util/NoSuchElementException" "java/lang/IndexOutOfBoundsException") ∈ flatC (Jvm.Cond.and given_1 narrow_1) := by decide +kernel
theorem ncx34 : Cond.not (.castable "java/lang/IllegalStateException" "java/util/NoSuchElementException") ∈ flatC (Jvm.Cond.and given_1 narrow_1) := by decide +kernel
theorem fcx1 : ((Cond.castable "java/lang/IndexOutOfBoundsException" "java/lang/IndexOutOfBoundsException").onTables && (Cond.castable "java/lang/IndexOutOfBoundsException" "java/lang/IndexOutOfBoundsException").keepsFace) = true := by decide +kernel
theorem fcx2 : ((Cond.castable "java/lang/IllegalArgumentException" "java/lang/IllegalArgumentException").onTables && (Cond.castable "java/lang/IllegalArgumentException" "java/lang/IllegalArgumentException").keepsFace) = true := by decide +kernel
theorem fcx3 : ((Cond.castable "java/lang/IllegalStateException" "java/lang/IllegalStateException").onTables && (Cond.castable "java/lang/IllegalStateException" "java/lang/IllegalStateException").keepsFace) = true := by decide +kernel
theorem fcx4 : ((Cond.castable "java/util/NoSuchElementException" "java/util/NoSuchElementException").onTables && (Cond.castable "java/util/NoSuchElementException" "java/util/NoSuchElementException").keepsFace) = true := by decide +kernel
