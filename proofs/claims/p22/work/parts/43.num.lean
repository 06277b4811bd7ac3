/-! NUMBERS of the law: longs by whole numbers, bits of longs, ints of a script -/
abbrev iJ (z : Int) : Int64 := Int64.ofInt z
theorem lN_z (n : Nat) : lN n = iJ (n : Int) := Int64.ofInt_eq_ofNat.symm
theorem jN_toInt {n : Nat} (h : n < 2 ^ 63) : (lN n).toInt = (n : Int) := lg_ofNat_toInt h
theorem iJ_toInt {z : Int} (h1 : -2 ^ 63 ≤ z) (h2 : z < 2 ^ 63) : (iJ z).toInt = z := Int64.toInt_ofInt_of_le h1 h2
theorem iJ_add (a b : Int) : iJ a + iJ b = iJ (a + b) := (Int64.ofInt_add a b).symm
theorem iJ_sub (a b : Int) : iJ a - iJ b = iJ (a - b) := (Int64.ofInt_sub a b).symm
theorem iJ_mul (a b : Int) : iJ a * iJ b = iJ (a * b) := (Int64.ofInt_mul a b).symm
theorem iJ_neg (a : Int) : -iJ a = iJ (-a) := (Int64.ofInt_neg a).symm
theorem nI_long {n : Nat} (h : n < 2 ^ 31) : (nI n).toInt64 = lN n := Int32.toInt64_ofNat' (by rw [show Int32.maxValue.toInt = 2147483647 from rfl]; omega)
theorem lN_int {n : Nat} : (lN n).toInt32 = nI n := Int64.toInt32_ofNat'
theorem lN_div {a b : Nat} (ha : a < 2 ^ 63) (h0 : 0 < b) (hb : b < 2 ^ 63) : lN a / lN b = lN (a / b) := by
  apply Int64.toInt.inj
  have hd : a / b ≤ a := Nat.div_le_self _ _
  have e : lN b ≠ -1 := fun h => by
    have h2 := congrArg Int64.toInt h
    rw [jN_toInt hb, show (-1 : Int64).toInt = -1 from by decide] at h2
    omega
  rw [Int64.toInt_div_of_ne_right _ _ e, jN_toInt ha, jN_toInt hb, jN_toInt (by omega)]
  exact (Int.ofNat_tdiv a b).symm
/-- `>>` at a long's number below 2^64, masked -/
theorem lw_c : ∀ k, k < 64 → ((nI k).toInt64 &&& 63) = lN k := by decide +kernel
theorem lw_sm : ∀ k, k < 64 → (lN k).toBitVec.smod 64 = BitVec.ofNat 64 k := by decide +kernel
theorem lw_ssh (x : Int64) {k : Nat} (hk : k < 64) : (x >>> ((nI k).toInt64 &&& 63)).toBitVec = x.toBitVec.sshiftRight k := by
  rw [lw_c k hk, Int64.toBitVec_shiftRight, lw_sm k hk]
  show x.toBitVec.sshiftRight (BitVec.ofNat 64 k).toNat = _
  rw [BitVec.toNat_ofNat, Nat.mod_eq_of_lt (by omega)]
abbrev jB (x : Int64) (k : Nat) : Bool := x.toBitVec.getLsbD k
theorem jB_test (x : Int64) {k : Nat} (hk : k < 64) : x >>> ((nI k).toInt64 &&& 63) &&& 1 = lN (jB x k).toNat := by
  apply Int64.toBitVec_inj.mp
  rw [Int64.toBitVec_and, lw_ssh x hk]
  apply BitVec.eq_of_getLsbD_eq
  intro i hi
  rw [BitVec.getLsbD_and, BitVec.getLsbD_sshiftRight]
  show _ = (BitVec.ofNat 64 (jB x k).toNat).getLsbD i
  rw [show (1 : Int64).toBitVec = 1#64 from rfl]
  cases i with
  | zero =>
    rw [Nat.add_zero, decide_eq_false (by omega : ¬ 64 ≤ 0), if_pos hk]
    cases h : x.toBitVec.getLsbD k <;> simp [jB, h]
  | succ i =>
    have h1 : (1#64).getLsbD (i + 1) = false := by simp
    rw [h1, Bool.and_false]
    cases h : x.toBitVec.getLsbD k <;> simp [jB, h]
theorem one_shl : ∀ k, k < 64 → ((1 : Int64) <<< ((nI k).toInt64 &&& 63)).toBitVec = BitVec.twoPow 64 k := by decide +kernel
theorem jB_set (x : Int64) {k j : Nat} (hk : k < 64) (hj : j < 64) : jB (x ||| (1 : Int64) <<< ((nI k).toInt64 &&& 63)) j = (jB x j || decide (j = k)) := by
  unfold jB
  rw [Int64.toBitVec_or, one_shl k hk, BitVec.getLsbD_or, BitVec.getLsbD_twoPow]
  congr 1
  by_cases h : k = j
  · subst h; simp [hk]
  · rw [decide_eq_false h, Bool.and_false]
    exact (decide_eq_false (fun z => h (Eq.symm z))).symm
/-- a script's int, made a number below n -/
def lowN (v : Int32) (n : Nat) : Nat := v.toBitVec.toNat % 2 ^ 31 % n
theorem lowN_lt {v : Int32} {n : Nat} (h : 0 < n) : lowN v n < n := Nat.mod_lt _ h
theorem low_and (v : Int32) : v &&& 2147483647 = nI (v.toBitVec.toNat % 2 ^ 31) := by
  apply Int32.toBitVec_inj.mp
  rw [Int32.toBitVec_and]
  show v.toBitVec &&& 2147483647#32 = BitVec.ofNat 32 _
  apply BitVec.eq_of_toNat_eq
  rw [BitVec.toNat_and, BitVec.toNat_ofNat, BitVec.toNat_ofNat, show 2147483647 % 2 ^ 32 = 2 ^ 31 - 1 from rfl, Nat.and_two_pow_sub_one_eq_mod, Nat.mod_eq_of_lt (Nat.lt_trans (Nat.mod_lt _ (by decide)) (by decide))]
def cellV (L9 : Nat) (xs : Nat → Int32) (k : Nat) : Int32 := if k < L9 then xs k else 1000308331 * (nI k + 1) + 751363505
/-- kept or not: 0, or 1 more than the time -/
def wnV (k : Nat) : Int32 := if k = 0 then -1 else nI (k - 1)
theorem wnV_toInt {k : Nat} (h : k < 2 ^ 31) : (wnV k).toInt = (k : Int) - 1 := by
  unfold wnV
  split
  · rename_i e; subst e; decide
  · rw [nI_toInt (by omega)]; omega
/-- how many of the first h hours are in fold j and have a t -/
def cN (t : Nat → Nat) (p : Nat) : Nat → Nat → Nat
  | 0, _ => 0
  | h + 1, j => if t h ≠ 0 ∧ h % p = j then cN t p h j + 1 else cN t p h j
def sN (G : Nat → Nat) (p : Nat) : Nat → Nat → Nat
  | 0, _ => 0
  | h + 1, j => if h % p = j then sN G p h j + G h else sN G p h j
theorem cN_le (t : Nat → Nat) (p : Nat) : ∀ h j, cN t p h j ≤ h
  | 0, _ => Nat.le_refl 0
  | h + 1, j => by
    have := cN_le t p h j
    unfold cN; split <;> omega
theorem sN_le {G : Nat → Nat} {b : Nat} (hG : ∀ h, G h ≤ b) (p : Nat) : ∀ h j, sN G p h j ≤ b * h
  | 0, _ => Nat.zero_le _
  | h + 1, j => by
    have := sN_le hG p h j
    have := hG h
    rw [Nat.mul_succ]
    unfold sN; split <;> omega
theorem mod_gap {h p i : Nat} (h0 : 0 < i) (hi : i < p) : (h + i) % p ≠ h % p := by
  intro e
  have h1 := Nat.div_add_mod h p
  have h2 := Nat.div_add_mod (h + i) p
  rw [e] at h2
  have h3 : p * ((h + i) / p) = p * (h / p) + i := by omega
  rcases Nat.lt_or_ge (h / p) ((h + i) / p) with c | c
  · have h4 : p * (h / p + 1) ≤ p * ((h + i) / p) := Nat.mul_le_mul_left _ c
    rw [Nat.mul_succ] at h4
    omega
  · have h4 := Nat.mul_le_mul_left p c
    omega
theorem cN_gap {t : Nat → Nat} {p h : Nat} : ∀ i, 0 < i → i ≤ p → cN t p (h + i) (h % p) = cN t p (h + 1) (h % p)
  | 0, h0, _ => absurd h0 (Nat.lt_irrefl 0)
  | 1, _, _ => rfl
  | i + 2, _, hi => by
    rw [show h + (i + 2) = (h + (i + 1)) + 1 by omega, cN, if_neg (fun z => mod_gap (by omega) (by omega : i + 1 < p) z.2)]
    exact cN_gap (i + 1) (by omega) (by omega)
theorem sN_gap {G : Nat → Nat} {p h : Nat} : ∀ i, 0 < i → i ≤ p → sN G p (h + i) (h % p) = sN G p (h + 1) (h % p)
  | 0, h0, _ => absurd h0 (Nat.lt_irrefl 0)
  | 1, _, _ => rfl
  | i + 2, _, hi => by
    rw [show h + (i + 2) = (h + (i + 1)) + 1 by omega, sN, if_neg (mod_gap (by omega) (by omega : i + 1 < p))]
    exact sN_gap (i + 1) (by omega) (by omega)
theorem cN_step {t : Nat → Nat} {p h j : Nat} (hp : 0 < p) (hj : h % p = j) : cN t p (h + p) j = if t h ≠ 0 then cN t p h j + 1 else cN t p h j := by
  subst hj
  rw [cN_gap p hp (Nat.le_refl p), cN]
  by_cases c : t h ≠ 0
  · rw [if_pos ⟨c, rfl⟩, if_pos c]
  · rw [if_neg (fun z => c z.1), if_neg c]
theorem sN_step {G : Nat → Nat} {p h j : Nat} (hp : 0 < p) (hj : h % p = j) : sN G p (h + p) j = sN G p h j + G h := by
  subst hj
  rw [sN_gap p hp (Nat.le_refl p), sN, if_pos rfl]
theorem cN_top {t : Nat → Nat} {p j : Nat} (ht : ∀ h, 1000 ≤ h → t h = 0) : ∀ i, cN t p (1000 + i) j = cN t p 1000 j
  | 0 => rfl
  | i + 1 => by
    rw [show 1000 + (i + 1) = (1000 + i) + 1 by omega, cN, if_neg (fun z => z.1 (ht _ (by omega)))]
    exact cN_top ht i
theorem sN_top {G : Nat → Nat} {p j : Nat} (ht : ∀ h, 1000 ≤ h → G h = 0) : ∀ i, sN G p (1000 + i) j = sN G p 1000 j
  | 0 => rfl
  | i + 1 => by
    rw [show 1000 + (i + 1) = (1000 + i) + 1 by omega, sN, ht _ (by omega), Nat.add_zero, ite_self]
    exact sN_top ht i
theorem cN_end {t : Nat → Nat} {p j h : Nat} (ht : ∀ h, 1000 ≤ h → t h = 0) (hh : 1000 ≤ h) : cN t p h j = cN t p 1000 j := by
  have := cN_top (p := p) (j := j) ht (h - 1000)
  rwa [show 1000 + (h - 1000) = h by omega] at this
theorem sN_end {G : Nat → Nat} {p j h : Nat} (ht : ∀ h, 1000 ≤ h → G h = 0) (hh : 1000 ≤ h) : sN G p h j = sN G p 1000 j := by
  have := sN_top (p := p) (j := j) ht (h - 1000)
  rwa [show 1000 + (h - 1000) = h by omega] at this
/-- ahead of the first of its hours a fold has none -/
theorem cN_0 {t : Nat → Nat} {p j : Nat} (hj : j < p) : ∀ h, h ≤ j → cN t p h j = 0
  | 0, _ => rfl
  | h + 1, hh => by
    rw [cN, if_neg (fun z => by have := z.2; rw [Nat.mod_eq_of_lt (by omega)] at this; omega)]
    exact cN_0 hj h (by omega)
theorem sN_0 {G : Nat → Nat} {p j : Nat} (hj : j < p) : ∀ h, h ≤ j → sN G p h j = 0
  | 0, _ => rfl
  | h + 1, hh => by
    rw [sN, if_neg (fun z => by rw [Nat.mod_eq_of_lt (by omega)] at z; omega)]
    exact sN_0 hj h (by omega)
theorem z_lp {P : Nat → Prop} (e d : Nat) (hd : 0 < d) (hs : ∀ i, (i < e → P (i + d)) → P i) : ∀ i, P i := by
  have key : ∀ n i, e - i ≤ n → P i := by
    intro n
    induction n with
    | zero => intro i h; exact hs i (fun h2 => absurd h2 (by omega))
    | succ n ih => intro i h; exact hs i (fun h2 => ih (i + d) (by omega))
  exact fun i => key (e - i) i (Nat.le_refl _)
section ZJ
variable {p : Program} {l : Launch} {e : Env} {R : Room} {s : State} {m : MethodId} {args : Array Value} {below : List Frame} {meth : Method} {c : Code} {H : Heap} {locs : List Loc} {cells slots : Nat} {Q : State → Prop}
variable {cc : ByteArray} {pc pc1 pc4 : Nat} {ls : Array Slot} {rest : List Value}
theorem z_lif_le (hexec : p.tables.exec = Jvm.exec) (hb : c.code = cc) {x y : Int64} {ex ey : Int} (hx : x.toInt = ex) (hy : y.toInt = ey) {off : Int} {tgt : Nat} (hd0 : decode cc pc = .ok (.lcmp, 1)) (hdg : decode cc (pc + 1) = .ok (.ifCond .le off, 3)) (ht : ((pc + 1 : Nat) : Int) + off = (tgt : Int))
    (kt : ex ≤ ey → W p l e R s m args below meth c H locs cells slots Q (F0 m tgt ls rest)) (kf : ey < ex → W p l e R s m args below meth c H locs cells slots Q (F0 m (pc + 1 + 3) ls rest)) : W p l e R s m args below meth c H locs cells slots Q (F0 m pc ls (.long y :: .long x :: rest)) :=
  W.lcmp hexec hb hd0 (lv_if_le hexec hb hdg ht (fun h => kt (by have := Int64.le_iff_toInt_le.mp ((lg_cmp_le x y).mp h); rwa [hx, hy] at this)) (fun h => kf (by have := mt (fun z => (lg_cmp_le x y).mpr (Int64.le_iff_toInt_le.mpr z)) h; rw [hx, hy] at this; omega)))
theorem z_lif_lt (hexec : p.tables.exec = Jvm.exec) (hb : c.code = cc) {x y : Int64} {ex ey : Int} (hx : x.toInt = ex) (hy : y.toInt = ey) {off : Int} {tgt : Nat} (hd0 : decode cc pc = .ok (.lcmp, 1)) (hdg : decode cc (pc + 1) = .ok (.ifCond .lt off, 3)) (ht : ((pc + 1 : Nat) : Int) + off = (tgt : Int))
    (kt : ex < ey → W p l e R s m args below meth c H locs cells slots Q (F0 m tgt ls rest)) (kf : ey ≤ ex → W p l e R s m args below meth c H locs cells slots Q (F0 m (pc + 1 + 3) ls rest)) : W p l e R s m args below meth c H locs cells slots Q (F0 m pc ls (.long y :: .long x :: rest)) :=
  W.lcmp hexec hb hd0 (lv_if_lt hexec hb hdg ht (fun h => kt (by have := Int64.lt_iff_toInt_lt.mp ((lg_cmp_lt x y).mp h); rwa [hx, hy] at this)) (fun h => kf (by have := mt (fun z => (lg_cmp_lt x y).mpr (Int64.lt_iff_toInt_lt.mpr z)) h; rw [hx, hy] at this; omega)))
theorem z_lif_ge (hexec : p.tables.exec = Jvm.exec) (hb : c.code = cc) {x y : Int64} {ex ey : Int} (hx : x.toInt = ex) (hy : y.toInt = ey) {off : Int} {tgt : Nat} (hd0 : decode cc pc = .ok (.lcmp, 1)) (hdg : decode cc (pc + 1) = .ok (.ifCond .ge off, 3)) (ht : ((pc + 1 : Nat) : Int) + off = (tgt : Int))
    (kt : ey ≤ ex → W p l e R s m args below meth c H locs cells slots Q (F0 m tgt ls rest)) (kf : ex < ey → W p l e R s m args below meth c H locs cells slots Q (F0 m (pc + 1 + 3) ls rest)) : W p l e R s m args below meth c H locs cells slots Q (F0 m pc ls (.long y :: .long x :: rest)) :=
  W.lcmp hexec hb hd0 (lv_if_ge hexec hb hdg ht (fun h => kt (by have := Int64.le_iff_toInt_le.mp ((lg_cmp_ge x y).mp h); rwa [hx, hy] at this)) (fun h => kf (by have := mt (fun z => (lg_cmp_ge x y).mpr (Int64.le_iff_toInt_le.mpr z)) h; rw [hx, hy] at this; omega)))
theorem z_lif_gt (hexec : p.tables.exec = Jvm.exec) (hb : c.code = cc) {x y : Int64} {ex ey : Int} (hx : x.toInt = ex) (hy : y.toInt = ey) {off : Int} {tgt : Nat} (hd0 : decode cc pc = .ok (.lcmp, 1)) (hdg : decode cc (pc + 1) = .ok (.ifCond .gt off, 3)) (ht : ((pc + 1 : Nat) : Int) + off = (tgt : Int))
    (kt : ey < ex → W p l e R s m args below meth c H locs cells slots Q (F0 m tgt ls rest)) (kf : ex ≤ ey → W p l e R s m args below meth c H locs cells slots Q (F0 m (pc + 1 + 3) ls rest)) : W p l e R s m args below meth c H locs cells slots Q (F0 m pc ls (.long y :: .long x :: rest)) :=
  W.lcmp hexec hb hd0 (lv_if_gt hexec hb hdg ht (fun h => kt (by have := Int64.lt_iff_toInt_lt.mp ((lg_cmp_gt x y).mp h); rwa [hx, hy] at this)) (fun h => kf (by have := mt (fun z => (lg_cmp_gt x y).mpr (Int64.lt_iff_toInt_lt.mpr z)) h; rw [hx, hy] at this; omega)))
theorem z_lif_eq (hexec : p.tables.exec = Jvm.exec) (hb : c.code = cc) {x y : Int64} {ex ey : Int} (hx : x.toInt = ex) (hy : y.toInt = ey) {off : Int} {tgt : Nat} (hd0 : decode cc pc = .ok (.lcmp, 1)) (hdg : decode cc (pc + 1) = .ok (.ifCond .eq off, 3)) (ht : ((pc + 1 : Nat) : Int) + off = (tgt : Int))
    (kt : ex = ey → W p l e R s m args below meth c H locs cells slots Q (F0 m tgt ls rest)) (kf : ex ≠ ey → W p l e R s m args below meth c H locs cells slots Q (F0 m (pc + 1 + 3) ls rest)) : W p l e R s m args below meth c H locs cells slots Q (F0 m pc ls (.long y :: .long x :: rest)) :=
  W.lcmp hexec hb hd0 (lv_if_eq hexec hb hdg ht (fun h => kt (by have := (lg_cmp_eq x y).mp h; rw [← hx, ← hy, this])) (fun h => kf (fun z => h ((lg_cmp_eq x y).mpr (Int64.toInt.inj (by rw [hx, hy, z]))))))
theorem z_lif_ne (hexec : p.tables.exec = Jvm.exec) (hb : c.code = cc) {x y : Int64} {ex ey : Int} (hx : x.toInt = ex) (hy : y.toInt = ey) {off : Int} {tgt : Nat} (hd0 : decode cc pc = .ok (.lcmp, 1)) (hdg : decode cc (pc + 1) = .ok (.ifCond .ne off, 3)) (ht : ((pc + 1 : Nat) : Int) + off = (tgt : Int))
    (kt : ex ≠ ey → W p l e R s m args below meth c H locs cells slots Q (F0 m tgt ls rest)) (kf : ex = ey → W p l e R s m args below meth c H locs cells slots Q (F0 m (pc + 1 + 3) ls rest)) : W p l e R s m args below meth c H locs cells slots Q (F0 m pc ls (.long y :: .long x :: rest)) :=
  W.lcmp hexec hb hd0 (lv_if_ne hexec hb hdg ht (fun h => kt (fun z => h ((lg_cmp_eq x y).mpr (Int64.toInt.inj (by rw [hx, hy, z]))))) (fun h => kf (by have := (lg_cmp_eq x y).mp h; rw [← hx, ← hy, this])))
end ZJ
