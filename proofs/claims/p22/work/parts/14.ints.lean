/-! THE FRAME, fourth part: whole numbers on the stack, comparisons by their whole values -/
def dc (x y : UInt64) : Int := match FP.dcmp x y with
  | none => -1
  | some .lt => -1
  | some .eq => 0
  | some .gt => 1
theorem i32_lt {x y : Int32} : x < y ↔ x.toInt < y.toInt := Int32.lt_iff_toInt_lt
theorem i32_le {x y : Int32} : x ≤ y ↔ x.toInt ≤ y.toInt := Int32.le_iff_toInt_le
theorem i32_eq {x y : Int32} : x = y ↔ x.toInt = y.toInt := ⟨fun h => by rw [h], fun h => Int32.toInt.inj h⟩
theorem nI_of_int {x : Int32} (h : 0 ≤ x.toInt) : x = nI x.toInt.toNat := by
  have h1 : x.toInt < 2 ^ 31 := Int32.toInt_lt x
  have h2 : x.toInt.toNat < 2 ^ 31 := by omega
  apply Int32.toInt.inj
  rw [nI_toInt h2]
  omega
theorem nI_of_range {x : Int32} {a b : Int} (h0 : 0 ≤ a) (h : a ≤ x.toInt) (h2 : x.toInt ≤ b) : ∃ j : Nat, a ≤ (j : Int) ∧ (j : Int) ≤ b ∧ x = nI j := ⟨x.toInt.toNat, by omega, by omega, nI_of_int (by omega)⟩
section ZI
variable {p : Program} {l : Launch} {e : Env} {R : Room} {s : State} {m : MethodId} {args : Array Value} {below : List Frame} {meth : Method} {c : Code} {H : Heap} {locs : List Loc} {cells slots : Nat} {Q : State → Prop}
variable {cc : ByteArray} {pc : Nat} {ls : Array Slot} {rest : List Value}
theorem z_iadd (hx : p.tables.exec = Jvm.exec) (hb : c.code = cc) {a b : Nat} (hdg : decode cc pc = .ok (.iadd, 1)) (k : W p l e R s m args below meth c H locs cells slots Q (F0 m (pc + 1) ls (.int (nI (a + b)) :: rest))) : W p l e R s m args below meth c H locs cells slots Q (F0 m pc ls (.int (nI b) :: .int (nI a) :: rest)) := by
  refine lv_iadd hx hb hdg ?_
  rw [nI_add]
  exact k
theorem z_isub (hx : p.tables.exec = Jvm.exec) (hb : c.code = cc) {a b : Nat} (h : b ≤ a) (hdg : decode cc pc = .ok (.isub, 1)) (k : W p l e R s m args below meth c H locs cells slots Q (F0 m (pc + 1) ls (.int (nI (a - b)) :: rest))) : W p l e R s m args below meth c H locs cells slots Q (F0 m pc ls (.int (nI b) :: .int (nI a) :: rest)) := by
  refine lv_isub hx hb hdg ?_
  rw [pk_sub h]
  exact k
theorem z_imul (hx : p.tables.exec = Jvm.exec) (hb : c.code = cc) {a b : Nat} (hdg : decode cc pc = .ok (.imul, 1)) (k : W p l e R s m args below meth c H locs cells slots Q (F0 m (pc + 1) ls (.int (nI (a * b)) :: rest))) : W p l e R s m args below meth c H locs cells slots Q (F0 m pc ls (.int (nI b) :: .int (nI a) :: rest)) := by
  refine lv_imul hx hb hdg ?_
  rw [pk_mul]
  exact k
theorem z_irem (hx : p.tables.exec = Jvm.exec) (hb : c.code = cc) {a b : Nat} (ha : a < 2 ^ 31) (h0 : 0 < b) (hb2 : b < 2 ^ 31) (hdg : decode cc pc = .ok (.irem, 1)) (k : W p l e R s m args below meth c H locs cells slots Q (F0 m (pc + 1) ls (.int (nI (a % b)) :: rest))) : W p l e R s m args below meth c H locs cells slots Q (F0 m pc ls (.int (nI b) :: .int (nI a) :: rest)) := by
  refine lv_irem hx hb hdg (nI_ne0 h0 hb2) ?_
  rw [pk_rem ha h0 hb2]
  exact k
theorem z_idiv (hx : p.tables.exec = Jvm.exec) (hb : c.code = cc) {a b : Nat} (ha : a < 2 ^ 31) (h0 : 0 < b) (hb2 : b < 2 ^ 31) (hdg : decode cc pc = .ok (.idiv, 1)) (k : W p l e R s m args below meth c H locs cells slots Q (F0 m (pc + 1) ls (.int (nI (a / b)) :: rest))) : W p l e R s m args below meth c H locs cells slots Q (F0 m pc ls (.int (nI b) :: .int (nI a) :: rest)) := by
  refine lv_idiv hx hb hdg (nI_ne0 h0 hb2) ?_
  rw [pk_div ha h0 hb2]
  exact k
theorem z_if_eq (hexec : p.tables.exec = Jvm.exec) (hb : c.code = cc) {x : Int32} {ex : Int} (hx : x.toInt = ex) {off : Int} {tgt : Nat} (hdg : decode cc pc = .ok (.ifCond .eq off, 3)) (ht : (pc : Int) + off = (tgt : Int))
    (kt : ex = 0 → W p l e R s m args below meth c H locs cells slots Q (F0 m tgt ls rest)) (kf : ex ≠ 0 → W p l e R s m args below meth c H locs cells slots Q (F0 m (pc + 3) ls rest)) : W p l e R s m args below meth c H locs cells slots Q (F0 m pc ls (.int x :: rest)) :=
  lv_if_eq hexec hb hdg ht (fun h => kt (by rw [← hx, h]; rfl)) (fun h => kf (fun h2 => h (i32_eq.mpr (by rw [hx, h2]; rfl))))
theorem z_if_ne (hexec : p.tables.exec = Jvm.exec) (hb : c.code = cc) {x : Int32} {ex : Int} (hx : x.toInt = ex) {off : Int} {tgt : Nat} (hdg : decode cc pc = .ok (.ifCond .ne off, 3)) (ht : (pc : Int) + off = (tgt : Int))
    (kt : ex ≠ 0 → W p l e R s m args below meth c H locs cells slots Q (F0 m tgt ls rest)) (kf : ex = 0 → W p l e R s m args below meth c H locs cells slots Q (F0 m (pc + 3) ls rest)) : W p l e R s m args below meth c H locs cells slots Q (F0 m pc ls (.int x :: rest)) :=
  lv_if_ne hexec hb hdg ht (fun h => kt (fun h2 => h (i32_eq.mpr (by rw [hx, h2]; rfl)))) (fun h => kf (by rw [← hx, h]; rfl))
theorem z_if_lt (hexec : p.tables.exec = Jvm.exec) (hb : c.code = cc) {x : Int32} {ex : Int} (hx : x.toInt = ex) {off : Int} {tgt : Nat} (hdg : decode cc pc = .ok (.ifCond .lt off, 3)) (ht : (pc : Int) + off = (tgt : Int))
    (kt : ex < 0 → W p l e R s m args below meth c H locs cells slots Q (F0 m tgt ls rest)) (kf : 0 ≤ ex → W p l e R s m args below meth c H locs cells slots Q (F0 m (pc + 3) ls rest)) : W p l e R s m args below meth c H locs cells slots Q (F0 m pc ls (.int x :: rest)) :=
  lv_if_lt hexec hb hdg ht (fun h => kt (by have := i32_lt.mp h; rw [hx] at this; exact this)) (fun h => kf (by have := mt i32_lt.mpr h; rw [hx] at this; exact Int.not_lt.mp this))
theorem z_if_ge (hexec : p.tables.exec = Jvm.exec) (hb : c.code = cc) {x : Int32} {ex : Int} (hx : x.toInt = ex) {off : Int} {tgt : Nat} (hdg : decode cc pc = .ok (.ifCond .ge off, 3)) (ht : (pc : Int) + off = (tgt : Int))
    (kt : 0 ≤ ex → W p l e R s m args below meth c H locs cells slots Q (F0 m tgt ls rest)) (kf : ex < 0 → W p l e R s m args below meth c H locs cells slots Q (F0 m (pc + 3) ls rest)) : W p l e R s m args below meth c H locs cells slots Q (F0 m pc ls (.int x :: rest)) :=
  lv_if_ge hexec hb hdg ht (fun h => kt (by have := i32_le.mp h; rw [hx] at this; exact this)) (fun h => kf (by have := mt i32_le.mpr h; rw [hx] at this; exact Int.not_le.mp this))
theorem z_if_gt (hexec : p.tables.exec = Jvm.exec) (hb : c.code = cc) {x : Int32} {ex : Int} (hx : x.toInt = ex) {off : Int} {tgt : Nat} (hdg : decode cc pc = .ok (.ifCond .gt off, 3)) (ht : (pc : Int) + off = (tgt : Int))
    (kt : 0 < ex → W p l e R s m args below meth c H locs cells slots Q (F0 m tgt ls rest)) (kf : ex ≤ 0 → W p l e R s m args below meth c H locs cells slots Q (F0 m (pc + 3) ls rest)) : W p l e R s m args below meth c H locs cells slots Q (F0 m pc ls (.int x :: rest)) :=
  lv_if_gt hexec hb hdg ht (fun h => kt (by have := i32_lt.mp h; rw [hx] at this; exact this)) (fun h => kf (by have := mt i32_lt.mpr h; rw [hx] at this; exact Int.not_lt.mp this))
theorem z_if_le (hexec : p.tables.exec = Jvm.exec) (hb : c.code = cc) {x : Int32} {ex : Int} (hx : x.toInt = ex) {off : Int} {tgt : Nat} (hdg : decode cc pc = .ok (.ifCond .le off, 3)) (ht : (pc : Int) + off = (tgt : Int))
    (kt : ex ≤ 0 → W p l e R s m args below meth c H locs cells slots Q (F0 m tgt ls rest)) (kf : 0 < ex → W p l e R s m args below meth c H locs cells slots Q (F0 m (pc + 3) ls rest)) : W p l e R s m args below meth c H locs cells slots Q (F0 m pc ls (.int x :: rest)) :=
  lv_if_le hexec hb hdg ht (fun h => kt (by have := i32_le.mp h; rw [hx] at this; exact this)) (fun h => kf (by have := mt i32_le.mpr h; rw [hx] at this; exact Int.not_le.mp this))
theorem z_icmp_eq (hexec : p.tables.exec = Jvm.exec) (hb : c.code = cc) {x y : Int32} {ex ey : Int} (hx : x.toInt = ex) (hy : y.toInt = ey) {off : Int} {tgt : Nat} (hdg : decode cc pc = .ok (.if_icmp .eq off, 3)) (ht : (pc : Int) + off = (tgt : Int))
    (kt : ex = ey → W p l e R s m args below meth c H locs cells slots Q (F0 m tgt ls rest)) (kf : ex ≠ ey → W p l e R s m args below meth c H locs cells slots Q (F0 m (pc + 3) ls rest)) : W p l e R s m args below meth c H locs cells slots Q (F0 m pc ls (.int y :: .int x :: rest)) :=
  lv_icmp_eq hexec hb hdg ht (fun h => kt (by rw [← hx, ← hy, h])) (fun h => kf (fun h2 => h (i32_eq.mpr (by rw [hx, hy, h2]))))
theorem z_icmp_ne (hexec : p.tables.exec = Jvm.exec) (hb : c.code = cc) {x y : Int32} {ex ey : Int} (hx : x.toInt = ex) (hy : y.toInt = ey) {off : Int} {tgt : Nat} (hdg : decode cc pc = .ok (.if_icmp .ne off, 3)) (ht : (pc : Int) + off = (tgt : Int))
    (kt : ex ≠ ey → W p l e R s m args below meth c H locs cells slots Q (F0 m tgt ls rest)) (kf : ex = ey → W p l e R s m args below meth c H locs cells slots Q (F0 m (pc + 3) ls rest)) : W p l e R s m args below meth c H locs cells slots Q (F0 m pc ls (.int y :: .int x :: rest)) :=
  lv_icmp_ne hexec hb hdg ht (fun h => kt (fun h2 => h (i32_eq.mpr (by rw [hx, hy, h2])))) (fun h => kf (by rw [← hx, ← hy, h]))
theorem z_icmp_lt (hexec : p.tables.exec = Jvm.exec) (hb : c.code = cc) {x y : Int32} {ex ey : Int} (hx : x.toInt = ex) (hy : y.toInt = ey) {off : Int} {tgt : Nat} (hdg : decode cc pc = .ok (.if_icmp .lt off, 3)) (ht : (pc : Int) + off = (tgt : Int))
    (kt : ex < ey → W p l e R s m args below meth c H locs cells slots Q (F0 m tgt ls rest)) (kf : ey ≤ ex → W p l e R s m args below meth c H locs cells slots Q (F0 m (pc + 3) ls rest)) : W p l e R s m args below meth c H locs cells slots Q (F0 m pc ls (.int y :: .int x :: rest)) :=
  lv_icmp_lt hexec hb hdg ht (fun h => kt (by have := i32_lt.mp h; rw [hx, hy] at this; exact this)) (fun h => kf (by have := mt i32_lt.mpr h; rw [hx, hy] at this; exact Int.not_lt.mp this))
theorem z_icmp_ge (hexec : p.tables.exec = Jvm.exec) (hb : c.code = cc) {x y : Int32} {ex ey : Int} (hx : x.toInt = ex) (hy : y.toInt = ey) {off : Int} {tgt : Nat} (hdg : decode cc pc = .ok (.if_icmp .ge off, 3)) (ht : (pc : Int) + off = (tgt : Int))
    (kt : ey ≤ ex → W p l e R s m args below meth c H locs cells slots Q (F0 m tgt ls rest)) (kf : ex < ey → W p l e R s m args below meth c H locs cells slots Q (F0 m (pc + 3) ls rest)) : W p l e R s m args below meth c H locs cells slots Q (F0 m pc ls (.int y :: .int x :: rest)) :=
  lv_icmp_ge hexec hb hdg ht (fun h => kt (by have := i32_le.mp h; rw [hx, hy] at this; exact this)) (fun h => kf (by have := mt i32_le.mpr h; rw [hx, hy] at this; exact Int.not_le.mp this))
theorem z_icmp_gt (hexec : p.tables.exec = Jvm.exec) (hb : c.code = cc) {x y : Int32} {ex ey : Int} (hx : x.toInt = ex) (hy : y.toInt = ey) {off : Int} {tgt : Nat} (hdg : decode cc pc = .ok (.if_icmp .gt off, 3)) (ht : (pc : Int) + off = (tgt : Int))
    (kt : ey < ex → W p l e R s m args below meth c H locs cells slots Q (F0 m tgt ls rest)) (kf : ex ≤ ey → W p l e R s m args below meth c H locs cells slots Q (F0 m (pc + 3) ls rest)) : W p l e R s m args below meth c H locs cells slots Q (F0 m pc ls (.int y :: .int x :: rest)) :=
  lv_icmp_gt hexec hb hdg ht (fun h => kt (by have := i32_lt.mp h; rw [hx, hy] at this; exact this)) (fun h => kf (by have := mt i32_lt.mpr h; rw [hx, hy] at this; exact Int.not_lt.mp this))
theorem z_icmp_le (hexec : p.tables.exec = Jvm.exec) (hb : c.code = cc) {x y : Int32} {ex ey : Int} (hx : x.toInt = ex) (hy : y.toInt = ey) {off : Int} {tgt : Nat} (hdg : decode cc pc = .ok (.if_icmp .le off, 3)) (ht : (pc : Int) + off = (tgt : Int))
    (kt : ex ≤ ey → W p l e R s m args below meth c H locs cells slots Q (F0 m tgt ls rest)) (kf : ey < ex → W p l e R s m args below meth c H locs cells slots Q (F0 m (pc + 3) ls rest)) : W p l e R s m args below meth c H locs cells slots Q (F0 m pc ls (.int y :: .int x :: rest)) :=
  lv_icmp_le hexec hb hdg ht (fun h => kt (by have := i32_le.mp h; rw [hx, hy] at this; exact this)) (fun h => kf (by have := mt i32_le.mpr h; rw [hx, hy] at this; exact Int.not_le.mp this))
theorem dc_l (x y : UInt64) : (Op.cmpValue (FP.dcmp x y) .l).toInt = dc x y := by
  unfold dc
  cases FP.dcmp x y with
  | none => decide
  | some o => cases o <;> decide
theorem dc_g {x y : UInt64} (h : FP.dcmp x y ≠ none) : (Op.cmpValue (FP.dcmp x y) .g).toInt = dc x y := by
  unfold dc
  cases h2 : FP.dcmp x y with
  | none => exact absurd h2 h
  | some o => cases o <;> decide
/-- downward: what holds at the end holds from any beginning -/
theorem z_down {P : Nat → Prop} (e : Nat) (he : P e) (hs : ∀ i, i < e → P (i + 1) → P i) : ∀ i, i ≤ e → P i := by
  have key : ∀ d i, i + d = e → P i := by
    intro d
    induction d with
    | zero => intro i h; have : i = e := by omega
              subst this; exact he
    | succ d ih => intro i h; exact hs i (by omega) (ih (i + 1) (by omega))
  exact fun i h => key (e - i) i (by omega)
end ZI
