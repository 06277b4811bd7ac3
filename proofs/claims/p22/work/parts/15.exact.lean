/-! THE FRAME, fifth part: exact contracts (a value and the world behind it), truth values on the stack -/
def zb (C : Prop) [Decidable C] : Int32 := if C then 1 else 0
theorem zb_t {C : Prop} [Decidable C] (h : C) : nI 1 = zb C := by unfold zb; rw [if_pos h]; rfl
theorem zb_f {C : Prop} [Decidable C] (h : ¬ C) : nI 0 = zb C := by unfold zb; rw [if_neg h]; rfl
theorem zb_c {C D : Prop} [Decidable C] [Decidable D] (h : C ↔ D) : zb C = zb D := by
  unfold zb
  by_cases c : C
  · rw [if_pos c, if_pos (h.mp c)]
  · rw [if_neg c, if_neg (fun d => c (h.mpr d))]
theorem zb_1 {C : Prop} [Decidable C] (h : ¬ zb C = 0) : C := by
  by_cases c : C
  · exact c
  · exact absurd (if_neg c) h
theorem zb_0 {C : Prop} [Decidable C] (h : zb C = 0) : ¬ C := by
  intro c
  unfold zb at h
  rw [if_pos c] at h
  exact absurd h (by decide)
theorem zb_nar {C : Prop} [Decidable C] : narrow .boolean (.int (zb C)) = .int (zb C) := by
  unfold zb; by_cases c : C
  · rw [if_pos c]; rfl
  · rw [if_neg c]; rfl
abbrev zr (fr ce sl lo : Nat) : Room := { frames := fr, cells := ce, slots := sl, locals := lo }
abbrev zMet (l : Launch) (y : MethodName) (b : ByteArray) (n : Nat) (r : Option FieldType) (rm : Room) (base : Nat) (K : zK) (L : List Nat) (f : Nat → va_E) (av : List Value) (Qc : Array Value → State → Outcome → State → Prop) : Prop := Met l y (wz y b n r) rm (va_Pc av (zPre base K L f)) Qc rm.cells rm.slots (base ≤ ·)
abbrev zXMet (l : Launch) (y : MethodName) (b : ByteArray) (n : Nat) (r : Option FieldType) (rm : Room) (base : Nat) (K : zK) (L : List Nat) (f : Nat → va_E) (av : List Value) (Qc : Array Value → State → Outcome → State → Prop) (px : String → List Nat → (Nat → va_E) → Prop) : Prop := vx_Met l y (wz y b n r) rm (va_Pc av (zPre base K L f)) Qc (zX base K px) rm.cells rm.slots (base ≤ ·)
abbrev zFi (base : Nat) (K : zK) (v : Int32) (L : List Nat) (f : Nat → va_E) := zQi base K (fun r L1 f1 => r = v ∧ L1 = L ∧ f1 = f)
abbrev zFl (base : Nat) (K : zK) (v : Int64) (L : List Nat) (f : Nat → va_E) := zQl base K (fun r L1 f1 => r = v ∧ L1 = L ∧ f1 = f)
abbrev zFd (base : Nat) (K : zK) (v : UInt64) (L : List Nat) (f : Nat → va_E) := zQd base K (fun r L1 f1 => r = v ∧ L1 = L ∧ f1 = f)
abbrev zFq (base : Nat) (K : zK) (v : Option Nat) (L : List Nat) (f : Nat → va_E) := zQq base K (fun r L1 f1 => r = v ∧ L1 = L ∧ f1 = f)
abbrev zFv (base : Nat) (K : zK) (L : List Nat) (f : Nat → va_E) := zQv base K (fun L1 f1 => L1 = L ∧ f1 = f)
section ZE
variable {p : Program} {l : Launch} {e : Env} {R : Room} {s : State} {m : MethodId} {args : Array Value} {below : List Frame} {meth : Method} {c : Code} {H : Heap} {locs : List Loc} {cells slots : Nat} {Q : State → Prop}
variable {cc : ByteArray} {nL pc : Nat} {own : String} {base : Nat} {K : zK} {L L' : List Nat} {f f' : Nat → va_E} {ls : Array Slot} {rest st0 : List Value} {a : Nat} {mc ms : Nat} {Qc : Array Value → State → Outcome → State → Prop} {px : String → List Nat → (Nat → va_E) → Prop}
theorem z_fcalli {mc1 ms1 : Nat} {av : Array Value} {v : Int32} (hr : va_Run p l e R s m args below meth c H locs cells slots mc1 ms1 (F0 m pc ls st0) rest (zFi base K v L' f' av) (base ≤ ·)) (hM : zM base K L f s H locs)
    (kk : ∀ (H1 : Heap) (locs1 : List Loc), zM base K L' f' s H1 locs1 → W p l e R s m args below meth c H1 locs1 (cells + mc1) (slots + ms1) Q (F0 m (pc + 3) ls (.int v :: rest))) : W p l e R s m args below meth c H locs cells slots Q (F0 m pc ls st0) :=
  z_calli hr hM (fun r L1 f1 H1 locs1 ⟨h1, h2, h3⟩ hM1 => by subst h1 h2 h3; exact kk H1 locs1 hM1)
theorem z_fcalll {mc1 ms1 : Nat} {av : Array Value} {v : Int64} (hr : va_Run p l e R s m args below meth c H locs cells slots mc1 ms1 (F0 m pc ls st0) rest (zFl base K v L' f' av) (base ≤ ·)) (hM : zM base K L f s H locs)
    (kk : ∀ (H1 : Heap) (locs1 : List Loc), zM base K L' f' s H1 locs1 → W p l e R s m args below meth c H1 locs1 (cells + mc1) (slots + ms1) Q (F0 m (pc + 3) ls (.long v :: rest))) : W p l e R s m args below meth c H locs cells slots Q (F0 m pc ls st0) :=
  z_calll hr hM (fun r L1 f1 H1 locs1 ⟨h1, h2, h3⟩ hM1 => by subst h1 h2 h3; exact kk H1 locs1 hM1)
theorem z_fcalld {mc1 ms1 : Nat} {av : Array Value} {v : UInt64} (hr : va_Run p l e R s m args below meth c H locs cells slots mc1 ms1 (F0 m pc ls st0) rest (zFd base K v L' f' av) (base ≤ ·)) (hM : zM base K L f s H locs)
    (kk : ∀ (H1 : Heap) (locs1 : List Loc), zM base K L' f' s H1 locs1 → W p l e R s m args below meth c H1 locs1 (cells + mc1) (slots + ms1) Q (F0 m (pc + 3) ls (.double v :: rest))) : W p l e R s m args below meth c H locs cells slots Q (F0 m pc ls st0) :=
  z_calld hr hM (fun r L1 f1 H1 locs1 ⟨h1, h2, h3⟩ hM1 => by subst h1 h2 h3; exact kk H1 locs1 hM1)
theorem z_fcallq {mc1 ms1 : Nat} {av : Array Value} {v : Option Nat} (hr : va_Run p l e R s m args below meth c H locs cells slots mc1 ms1 (F0 m pc ls st0) rest (zFq base K v L' f' av) (base ≤ ·)) (hM : zM base K L f s H locs)
    (kk : ∀ (H1 : Heap) (locs1 : List Loc), zM base K L' f' s H1 locs1 → W p l e R s m args below meth c H1 locs1 (cells + mc1) (slots + ms1) Q (F0 m (pc + 3) ls (va_rf v :: rest))) : W p l e R s m args below meth c H locs cells slots Q (F0 m pc ls st0) :=
  z_callq hr hM (fun r L1 f1 H1 locs1 ⟨h1, h2, h3⟩ hM1 => by subst h1 h2 h3; exact kk H1 locs1 hM1)
theorem z_fcallv {mc1 ms1 : Nat} {av : Array Value} (hr : va_Run p l e R s m args below meth c H locs cells slots mc1 ms1 (F0 m pc ls st0) rest (zFv base K L' f' av) (base ≤ ·)) (hM : zM base K L f s H locs)
    (kk : ∀ (H1 : Heap) (locs1 : List Loc), zM base K L' f' s H1 locs1 → W p l e R s m args below meth c H1 locs1 (cells + mc1) (slots + ms1) Q (F0 m (pc + 3) ls rest)) : W p l e R s m args below meth c H locs cells slots Q (F0 m pc ls st0) :=
  z_callv hr hM (fun L1 f1 H1 locs1 ⟨h2, h3⟩ hM1 => by subst h2 h3; exact kk H1 locs1 hM1)
theorem z_if_eqB (hexec : p.tables.exec = Jvm.exec) (hb : c.code = cc) {C : Prop} [Decidable C] {off : Int} {tgt : Nat} (hdg : decode cc pc = .ok (.ifCond .eq off, 3)) (ht : (pc : Int) + off = (tgt : Int))
    (kt : ¬ C → W p l e R s m args below meth c H locs cells slots Q (F0 m tgt ls rest)) (kf : C → W p l e R s m args below meth c H locs cells slots Q (F0 m (pc + 3) ls rest)) : W p l e R s m args below meth c H locs cells slots Q (F0 m pc ls (.int (zb C) :: rest)) :=
  lv_if_eq hexec hb hdg ht (fun h => kt (zb_0 h)) (fun h => kf (zb_1 h))
theorem z_if_neB (hexec : p.tables.exec = Jvm.exec) (hb : c.code = cc) {C : Prop} [Decidable C] {off : Int} {tgt : Nat} (hdg : decode cc pc = .ok (.ifCond .ne off, 3)) (ht : (pc : Int) + off = (tgt : Int))
    (kt : C → W p l e R s m args below meth c H locs cells slots Q (F0 m tgt ls rest)) (kf : ¬ C → W p l e R s m args below meth c H locs cells slots Q (F0 m (pc + 3) ls rest)) : W p l e R s m args below meth c H locs cells slots Q (F0 m pc ls (.int (zb C) :: rest)) :=
  lv_if_ne hexec hb hdg ht (fun h => kt (zb_1 h)) (fun h => kf (zb_0 h))
end ZE
