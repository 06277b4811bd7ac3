/-! THE FRAME, eighth part: exact contracts of methods that may throw -/
abbrev zPv (base : Nat) (K : zK) (P : Prop) (L : List Nat) (f : Nat → va_E) := zQv base K (fun L1 f1 => P ∧ L1 = L ∧ f1 = f)
abbrev zPi (base : Nat) (K : zK) (P : Int32 → Prop) (L : List Nat) (f : Nat → va_E) := zQi base K (fun r L1 f1 => P r ∧ L1 = L ∧ f1 = f)
abbrev zPl (base : Nat) (K : zK) (P : Int64 → Prop) (L : List Nat) (f : Nat → va_E) := zQl base K (fun r L1 f1 => P r ∧ L1 = L ∧ f1 = f)
abbrev zPq (base : Nat) (K : zK) (P : Option Nat → Prop) (L : List Nat) (f : Nat → va_E) := zQq base K (fun r L1 f1 => P r ∧ L1 = L ∧ f1 = f)
abbrev zPx (X : String → Prop) (L : List Nat) (f : Nat → va_E) : String → List Nat → (Nat → va_E) → Prop := fun E L1 f1 => X E ∧ L1 = L ∧ f1 = f
section ZP
variable {p : Program} {l : Launch} {e : Env} {R : Room} {s : State} {m : MethodId} {args : Array Value} {below : List Frame} {meth : Method} {c : Code} {H : Heap} {locs : List Loc} {cells slots : Nat} {Q : State → Prop}
variable {cc : ByteArray} {nL pc : Nat} {own : String} {base : Nat} {K : zK} {L L' L2 : List Nat} {f f' f2 : Nat → va_E} {ls : Array Slot} {rest st0 : List Value} {a : Nat} {mc ms mc1 ms1 : Nat} {Qc : Array Value → State → Outcome → State → Prop} {px : String → List Nat → (Nat → va_E) → Prop} {av : Array Value} {X : String → Prop}
theorem z_xpcallv {P : Prop} (hQ : vx_MQ below Qc (zX base K px) args s mc ms (base ≤ ·) = Q) (hr : vx_Run p l e R s m args below meth c H locs cells slots mc1 ms1 (F0 m pc ls st0) rest (zPv base K P L' f' av) (zX base K (zPx X L2 f2)) (base ≤ ·)) (hM : zM base K L f s H locs) (hxt : ∀ x ∈ c.exceptionTable.toList, False) (hlk : meth.locks = false) (hc : cells + mc1 ≤ mc) (hs : slots + ms1 ≤ ms) (hpx : ∀ E, X E → px E L2 f2)
    (kk : P → ∀ (H1 : Heap) (locs1 : List Loc), zM base K L' f' s H1 locs1 → W p l e R s m args below meth c H1 locs1 (cells + mc1) (slots + ms1) Q (F0 m (pc + 3) ls rest)) : W p l e R s m args below meth c H locs cells slots Q (F0 m pc ls st0) := by
  subst hQ
  exact z_xcallv hr hM hxt hlk hc hs (fun E L1 f1 ⟨h1, h2, h3⟩ => by subst h2 h3; exact hpx E h1) (fun L1 f1 H1 locs1 ⟨h1, h2, h3⟩ hM1 => by subst h2 h3; exact kk h1 H1 locs1 hM1)
theorem z_xpcalli {P : Int32 → Prop} (hQ : vx_MQ below Qc (zX base K px) args s mc ms (base ≤ ·) = Q) (hr : vx_Run p l e R s m args below meth c H locs cells slots mc1 ms1 (F0 m pc ls st0) rest (zPi base K P L' f' av) (zX base K (zPx X L2 f2)) (base ≤ ·)) (hM : zM base K L f s H locs) (hxt : ∀ x ∈ c.exceptionTable.toList, False) (hlk : meth.locks = false) (hc : cells + mc1 ≤ mc) (hs : slots + ms1 ≤ ms) (hpx : ∀ E, X E → px E L2 f2)
    (kk : ∀ r, P r → ∀ (H1 : Heap) (locs1 : List Loc), zM base K L' f' s H1 locs1 → W p l e R s m args below meth c H1 locs1 (cells + mc1) (slots + ms1) Q (F0 m (pc + 3) ls (.int r :: rest))) : W p l e R s m args below meth c H locs cells slots Q (F0 m pc ls st0) := by
  subst hQ
  exact z_xcalli hr hM hxt hlk hc hs (fun E L1 f1 ⟨h1, h2, h3⟩ => by subst h2 h3; exact hpx E h1) (fun r L1 f1 H1 locs1 ⟨h1, h2, h3⟩ hM1 => by subst h2 h3; exact kk r h1 H1 locs1 hM1)
theorem z_xpcallq {P : Option Nat → Prop} (hQ : vx_MQ below Qc (zX base K px) args s mc ms (base ≤ ·) = Q) (hr : vx_Run p l e R s m args below meth c H locs cells slots mc1 ms1 (F0 m pc ls st0) rest (zPq base K P L' f' av) (zX base K (zPx X L2 f2)) (base ≤ ·)) (hM : zM base K L f s H locs) (hxt : ∀ x ∈ c.exceptionTable.toList, False) (hlk : meth.locks = false) (hc : cells + mc1 ≤ mc) (hs : slots + ms1 ≤ ms) (hpx : ∀ E, X E → px E L2 f2)
    (kk : ∀ r, P r → ∀ (H1 : Heap) (locs1 : List Loc), zM base K L' f' s H1 locs1 → W p l e R s m args below meth c H1 locs1 (cells + mc1) (slots + ms1) Q (F0 m (pc + 3) ls (va_rf r :: rest))) : W p l e R s m args below meth c H locs cells slots Q (F0 m pc ls st0) := by
  subst hQ
  exact z_xcallq hr hM hxt hlk hc hs (fun E L1 f1 ⟨h1, h2, h3⟩ => by subst h2 h3; exact hpx E h1) (fun r L1 f1 H1 locs1 ⟨h1, h2, h3⟩ hM1 => by subst h2 h3; exact kk r h1 H1 locs1 hM1)
end ZP
/-- in range -/
def inR (x : Int32) (a b : Int) : Prop := a ≤ x.toInt ∧ x.toInt ≤ b
theorem inR_nI {x : Int32} {a b : Int} (h0 : 0 ≤ a) (h : inR x a b) : ∃ j : Nat, a ≤ (j : Int) ∧ (j : Int) ≤ b ∧ x = nI j := nI_of_range h0 h.1 h.2
