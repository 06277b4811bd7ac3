/-! OF DOUBLES: magnitudes in units of the least number; one is O1 of them -/
abbrev O1 : Nat := FP.Core.one64
def Q1 : Nat := 2 ^ 1026
def H1 : Nat := 2 ^ 1073
def TOP : Nat := FP.Core.b64.tails * 2 ^ (FP.Core.b64.exps - 2)
theorem O1_pos : 0 < O1 := FP.Core.one64_pos
theorem O1_H : O1 = 2 * H1 := by decide +kernel
theorem O1_Q : O1 = 2 ^ 48 * Q1 := by decide +kernel
theorem lt_top {n : Nat} (h : n ≤ 2 ^ 53) : n * O1 < TOP := Nat.lt_of_le_of_lt (Nat.mul_le_mul_right _ h) (show 2 ^ 53 * O1 < TOP by decide +kernel)
def Mg (lo hi : Nat) (x : UInt64) : Prop := FP.Core.DFin x ∧ lo ≤ FP.Core.zmag FP.Core.b64 (FP.Core.val64 x) ∧ FP.Core.zmag FP.Core.b64 (FP.Core.val64 x) ≤ hi
/-- and not below zero -/
def Ps (lo hi : Nat) (x : UInt64) : Prop := Mg lo hi x ∧ x.toNat < 2 ^ 63
def Rp (v : Nat) : Prop := ∃ V, FP.Core.fits FP.Core.b64 V ∧ V ≠ .nan ∧ FP.Core.zmag FP.Core.b64 V = v ∧ FP.Core.zval FP.Core.b64 V = (v : Int)
theorem Mg.mono {a b c d : Nat} {x : UInt64} (h : Mg a b x) (h1 : c ≤ a) (h2 : b ≤ d) : Mg c d x := ⟨h.1, Nat.le_trans h1 h.2.1, Nat.le_trans h.2.2 h2⟩
theorem Ps.mono {a b c d : Nat} {x : UInt64} (h : Ps a b x) (h1 : c ≤ a) (h2 : b ≤ d) : Ps c d x := ⟨h.1.mono h1 h2, h.2⟩
theorem Mg.n64 {a b : Nat} {x : UInt64} (h : Mg a b x) : vf_n64 x := (n64_iff x).mpr h.1.ne_nan
theorem zv_abs (d : FP.Core.Datum) : (FP.Core.zval FP.Core.b64 d).natAbs = FP.Core.zmag FP.Core.b64 d := FP.Core.natAbs_signed _ _
theorem zv_pos {x : UInt64} (h : FP.Core.val64 x ≠ .nan) (hs : x.toNat < 2 ^ 63) : FP.Core.zval FP.Core.b64 (FP.Core.val64 x) = (FP.Core.zmag FP.Core.b64 (FP.Core.val64 x) : Int) := by
  have h1 := FP.Core.zval_nonneg h hs
  have h2 := zv_abs (FP.Core.val64 x)
  omega
theorem fin_of_top {z : UInt64} (hn : FP.Core.val64 z ≠ .nan) (h : FP.Core.zmag FP.Core.b64 (FP.Core.val64 z) < TOP) : FP.Core.DFin z := by
  cases hv : FP.Core.val64 z with
  | nan => exact absurd hv hn
  | inf s =>
    rw [hv, show FP.Core.zmag FP.Core.b64 (.inf s) = TOP from rfl] at h
    exact absurd h (Nat.lt_irrefl _)
  | fin s c q => exact ⟨s, c, q, hv⟩
theorem Rp_w {n : Nat} (h : n ≤ 2 ^ 53) : Rp (n * O1) := by
  have hi : (Int64.ofNat n).toInt = (n : Int) := by
    rw [Int64.toInt_ofNat']
    have e9 : Int64.size = 2 ^ 64 := rfl
    rw [e9]
    exact Int.bmod_eq_of_le (by omega) (by omega)
  have hd := FP.Core.l2d_int (a := Int64.ofNat n) (by rw [hi]; omega)
  rw [hi] at hd
  have hz := FP.Core.DInt_zval hd
  refine ⟨_, FP.Core.val64_fits _, FP.Core.DInt_ne_nan hd, ?_, ?_⟩
  · rw [← zv_abs, hz, Int.natAbs_mul, Int.natAbs_natCast, Int.natAbs_natCast]
  · rw [hz, Int.natCast_mul]
theorem Rp_p {j : Nat} (h1 : 52 ≤ j) (h2 : j ≤ 2045) : Rp (2 ^ j) := by
  have e1 := FP.Core.qmin_b64
  have e2 : FP.Core.b64.qmax = 971 := by decide
  have e3 := FP.Core.tails_b64
  have e4 : FP.Core.b64.p = 53 := rfl
  have hm : FP.Core.zmag FP.Core.b64 (.fin false (2 ^ 52) ((j : Int) - 52 - 1074)) = 2 ^ j := by
    show 2 ^ 52 * 2 ^ ((j : Int) - 52 - 1074 - FP.Core.b64.qmin).toNat = 2 ^ j
    rw [e1, ← Nat.pow_add]
    congr 1
    omega
  refine ⟨.fin false (2 ^ 52) ((j : Int) - 52 - 1074), ⟨?_, ?_, ?_, Or.inr ?_⟩, FP.Core.Datum.noConfusion, hm, ?_⟩
  · rw [e4]; decide
  · rw [e1]; omega
  · rw [e2]; omega
  · rw [e3]; decide
  · rw [← hm]; rfl
theorem Rp_Q : Rp Q1 := Rp_p (j := 1026) (by decide) (by decide)
theorem Rp_H : Rp H1 := Rp_p (j := 1073) (by decide) (by decide)
theorem sg_pos {x : UInt64} {s : Bool} {c : Nat} {q : Int} (h : FP.Core.val64 x = .fin s c q) (hs : x.toNat < 2 ^ 63) : s = false := by
  cases s with
  | false => rfl
  | true => exact absurd ((FP.Core.sign_bits (Or.inl ⟨c, q, h⟩)).mp rfl) (by omega)
theorem sg_rr {x : UInt64} {A B : Nat} {e : Int} (h : FP.Core.val64 x = FP.Core.roundRatio FP.Core.b64 false A B e) : x.toNat < 2 ^ 63 := by
  have hn : FP.Core.val64 x ≠ .nan := by rw [h]; exact FP.Core.roundRatio_ne_nan _ _ _ _ _
  have h1 := FP.Core.sgn_bits hn
  rw [h, FP.Core.sgn_roundRatio] at h1
  have := of_decide_eq_false h1.symm
  omega
theorem pow_O : 2 ^ (FP.Core.b64.qmin - 2 * FP.Core.b64.qmin).toNat = O1 := congrArg (2 ^ ·) (show (FP.Core.b64.qmin - 2 * FP.Core.b64.qmin).toNat = 1074 by decide +kernel)
theorem Mg_mul {x y : UInt64} {a b c d lo hi : Nat} (hx : Mg a b x) (hy : Mg c d y) (hl : Rp lo) (hh : Rp hi) (h1 : lo * O1 ≤ a * c) (h2 : b * d ≤ hi * O1) (ht : hi < TOP) : Mg lo hi (FP.dmul x y) ∧ (x.toNat < 2 ^ 63 → y.toNat < 2 ^ 63 → (FP.dmul x y).toNat < 2 ^ 63) := by
  obtain ⟨⟨s, u, q, vx⟩, x1, x2⟩ := hx
  obtain ⟨⟨t, w, r, vy⟩, y1, y2⟩ := hy
  have fx := FP.Core.val64_fits x
  have fy := FP.Core.val64_fits y
  rw [vx] at fx x1 x2
  rw [vy] at fy y1 y2
  obtain ⟨p1, p2, p3⟩ := FP.Core.product_units fx fy
  have hv : FP.Core.val64 (FP.dmul x y) = FP.Core.roundRatio FP.Core.b64 (s != t) (u * w) 1 (q + r) := by
    rw [FP.Core.val64_dmul, vx, vy, p1]; rfl
  obtain ⟨VL, l1, l2, l3, -⟩ := hl
  obtain ⟨VH, k1, k2, k3, -⟩ := hh
  have e0 : 2 * FP.Core.b64.qmin ≤ FP.Core.b64.qmin := by rw [FP.Core.qmin_b64]; decide
  have hb := FP.Core.zmag_roundRatio_le FP.Core.good_b64 (s := s != t) (A := u * w) (B := 1) (e := q + r) (e0 := 2 * FP.Core.b64.qmin) (by decide) k1 k2 e0 p2 (by rw [p3, pow_O, k3, Nat.mul_one]; exact Nat.le_trans (Nat.mul_le_mul x2 y2) h2)
  have ha := FP.Core.zmag_roundRatio_ge FP.Core.good_b64 (s := s != t) (A := u * w) (B := 1) (e := q + r) (e0 := 2 * FP.Core.b64.qmin) (by decide) l1 e0 p2 (by rw [p3, pow_O, l3, Nat.mul_one]; exact Nat.le_trans h1 (Nat.mul_le_mul x1 y1))
  rw [k3, ← hv] at hb
  rw [l3, ← hv] at ha
  refine ⟨⟨fin_of_top (by rw [hv]; exact FP.Core.roundRatio_ne_nan _ _ _ _ _) (Nat.lt_of_le_of_lt hb ht), ha, hb⟩, fun hs1 hs2 => ?_⟩
  rw [sg_pos vx hs1, sg_pos vy hs2] at hv
  exact sg_rr hv
theorem Ps_mul {x y : UInt64} {a b c d lo hi : Nat} (hx : Ps a b x) (hy : Ps c d y) (hl : Rp lo) (hh : Rp hi) (h1 : lo * O1 ≤ a * c) (h2 : b * d ≤ hi * O1) (ht : hi < TOP) : Ps lo hi (FP.dmul x y) :=
  ⟨(Mg_mul hx.1 hy.1 hl hh h1 h2 ht).1, (Mg_mul hx.1 hy.1 hl hh h1 h2 ht).2 hx.2 hy.2⟩
theorem Ps_div {x y : UInt64} {a b c d lo hi : Nat} (hx : Ps a b x) (hy : Ps c d y) (hc : 0 < c) (hl : Rp lo) (hh : Rp hi) (h1 : lo * d ≤ a * O1) (h2 : b * O1 ≤ hi * c) (ht : hi < TOP) : Ps lo hi (FP.ddiv x y) := by
  obtain ⟨⟨⟨s, u, q, vx⟩, x1, x2⟩, sx⟩ := hx
  obtain ⟨⟨⟨t, w, r, vy⟩, y1, y2⟩, sy⟩ := hy
  have fx := FP.Core.val64_fits x
  have fy := FP.Core.val64_fits y
  rw [vx] at fx x1 x2
  rw [vy] at fy y1 y2
  have hw0 : w ≠ 0 := by
    rintro rfl
    have : FP.Core.zmag FP.Core.b64 (.fin t 0 r) = 0 := Nat.zero_mul _
    omega
  have hv : FP.Core.val64 (FP.ddiv x y) = FP.Core.roundRatio FP.Core.b64 (s != t) u w (q - r) := by
    rw [FP.Core.val64_ddiv, vx, vy]
    simp only [FP.Core.quotient, if_neg hw0]
  have q1 := fx.2.1
  have r1 := fy.2.1
  have e9 := FP.Core.qmin_b64
  have e1 : FP.Core.inUnits u (q - r) (2 * FP.Core.b64.qmin - r) = FP.Core.zmag FP.Core.b64 (.fin s u q) * O1 := by
    rw [← pow_O]
    show u * _ = u * _ * _
    rw [Nat.mul_assoc, ← Nat.pow_add]; congr 2; omega
  have e2 : 2 ^ (FP.Core.b64.qmin - (2 * FP.Core.b64.qmin - r)).toNat * w = FP.Core.zmag FP.Core.b64 (.fin t w r) := by
    show _ = w * _
    rw [Nat.mul_comm]; congr 2; omega
  obtain ⟨VL, l1, l2, l3, -⟩ := hl
  obtain ⟨VH, k1, k2, k3, -⟩ := hh
  have hb := FP.Core.zmag_roundRatio_le FP.Core.good_b64 (s := s != t) (A := u) (B := w) (e := q - r) (e0 := 2 * FP.Core.b64.qmin - r) (by omega) k1 k2 (by omega) (by omega) (by
    rw [e1, Nat.mul_assoc, e2, k3]
    exact Nat.le_trans (Nat.mul_le_mul_right _ x2) (Nat.le_trans h2 (Nat.mul_le_mul_left _ y1)))
  have ha := FP.Core.zmag_roundRatio_ge FP.Core.good_b64 (s := s != t) (A := u) (B := w) (e := q - r) (e0 := 2 * FP.Core.b64.qmin - r) (by omega) l1 (by omega) (by omega) (by
    rw [e1, Nat.mul_assoc, e2, l3]
    exact Nat.le_trans (Nat.mul_le_mul_left _ y2) (Nat.le_trans h1 (Nat.mul_le_mul_right _ x1)))
  rw [k3, ← hv] at hb
  rw [l3, ← hv] at ha
  refine ⟨⟨fin_of_top (by rw [hv]; exact FP.Core.roundRatio_ne_nan _ _ _ _ _) (Nat.lt_of_le_of_lt hb ht), ha, hb⟩, ?_⟩
  rw [sg_pos vx sx, sg_pos vy sy] at hv
  exact sg_rr hv
theorem Ps_add {x y : UInt64} {a b c d : Nat} (hx : Ps a b x) (hy : Ps c d y) (h0 : 0 < a + c) (hl : Rp (a + c)) (hh : Rp (b + d)) (ht : b + d < TOP) : Ps (a + c) (b + d) (FP.dadd x y) := by
  obtain ⟨⟨xf, x1, x2⟩, sx⟩ := hx
  obtain ⟨⟨yf, y1, y2⟩, sy⟩ := hy
  have zx := zv_pos xf.ne_nan sx
  have zy := zv_pos yf.ne_nan sy
  have hn : FP.Core.val64 (FP.Core.dadd x y) ≠ .nan := (FP.Core.notNaN_iff _).mp (FP.Core.dadd_out xf.notNaN yf)
  obtain ⟨VL, l1, l2, l3, l4⟩ := hl
  obtain ⟨VH, k1, k2, k3, k4⟩ := hh
  have A := FP.Core.sum_ge FP.Core.good_b64 xf yf (FP.Core.val64_fits x) (FP.Core.val64_fits y) l1 l2 (by rw [l4, zx, zy]; omega)
  have B := FP.Core.sum_le FP.Core.good_b64 xf yf (FP.Core.val64_fits x) (FP.Core.val64_fits y) k1 k2 (by rw [k4, zx, zy]; omega)
  rw [← FP.Core.val64_dadd, l4] at A
  rw [← FP.Core.val64_dadd, k4] at B
  have sz : (FP.Core.dadd x y).toNat < 2 ^ 63 := by
    by_cases h : 2 ^ 63 ≤ (FP.Core.dadd x y).toNat
    · have := FP.Core.zval_nonpos hn h
      omega
    · omega
  have zz := zv_pos hn sz
  rw [zz] at A B
  have A' := Int.ofNat_le.mp A
  have B' := Int.ofNat_le.mp B
  exact ⟨⟨fin_of_top hn (Nat.lt_of_le_of_lt B' ht), A', B'⟩, sz⟩
theorem P0 : Ps 0 0 (0 : UInt64) := by
  have h : FP.Core.val64 0 = .fin false 0 FP.Core.b64.qmin := FP.Core.val64_zero
  have hz : FP.Core.zmag FP.Core.b64 (FP.Core.val64 0) = 0 := by rw [h]; exact Nat.zero_mul _
  exact ⟨⟨⟨_, _, _, h⟩, Nat.zero_le _, Nat.le_of_eq hz⟩, by decide⟩
theorem Ps_n {n : Nat} (h : n < 2 ^ 31) : Ps (n * O1) (n * O1) (nD n) := by
  have h1 : FP.Core.DInt (n : Int) (nD n) := by
    have := FP.Core.i2d_int (nI n)
    rw [nI_toInt h] at this
    exact this
  have hz := FP.Core.DInt_zval h1
  have hm : FP.Core.zmag FP.Core.b64 (FP.Core.val64 (nD n)) = n * O1 := by
    rw [← zv_abs, hz, Int.natAbs_mul, Int.natAbs_natCast, Int.natAbs_natCast]
  refine ⟨⟨FP.Core.i2d_fin _, Nat.le_of_eq hm.symm, Nat.le_of_eq hm⟩, ?_⟩
  have hv : FP.Core.val64 (nD n) = FP.Core.roundRatio FP.Core.b64 (decide ((nI n).toInt < 0)) (nI n).toInt.natAbs 1 0 := FP.Core.val64_i2d (nI n)
  rw [decide_eq_false (by rw [nI_toInt h]; omega)] at hv
  exact sg_rr hv
theorem un_at (K : Nat) (h : 1 ≤ K) : FP.Core.unitsOf FP.Core.b64 (K * 2 ^ 52) = 2 ^ 52 * 2 ^ (K - 1) := by
  have := FP.Core.unitsOf_start (f := FP.Core.b64) h
  rw [FP.Core.tails_b64] at this
  exact this
theorem un_27 : FP.Core.unitsOf FP.Core.b64 (1027 * 2 ^ 52) = 16 * O1 := (un_at 1027 (by decide)).trans (by decide +kernel)
theorem un_45 : FP.Core.unitsOf FP.Core.b64 (1045 * 2 ^ 52) = 2 ^ 22 * O1 := (un_at 1045 (by decide)).trans (by decide +kernel)
theorem un_44 : FP.Core.unitsOf FP.Core.b64 (1044 * 2 ^ 52) = 2 ^ 21 * O1 := (un_at 1044 (by decide)).trans (by decide +kernel)
theorem un_Q : FP.Core.unitsOf FP.Core.b64 (975 * 2 ^ 52) = Q1 := (un_at 975 (by decide)).trans (by decide +kernel)
theorem Lb_Ps {x : UInt64} (h : Lb x) : Ps (16 * O1) (2 ^ 22 * O1) x := by
  have hf : FP.Core.DFin x := by
    rw [FP.Core.fin_bits]; have := h.1; have := h.2; omega
  have hm := FP.Core.zmag_bits hf.ne_nan
  have e : x.toNat % 2 ^ 63 = x.toNat := Nat.mod_eq_of_lt (by have := h.2; omega)
  rw [e] at hm
  refine ⟨⟨hf, ?_, ?_⟩, by have := h.2; omega⟩
  · rw [hm, ← un_27]; exact FP.Core.unitsOf_le_iff.mpr h.1
  · rw [hm, ← un_45]; exact FP.Core.unitsOf_le_iff.mpr (Nat.le_of_lt h.2)
theorem Ps_Lb {x : UInt64} (h : Ps (16 * O1) (2 ^ 21 * O1) x) : Lb x := by
  obtain ⟨⟨hf, h1, h2⟩, hs⟩ := h
  have hm := FP.Core.zmag_bits hf.ne_nan
  have e : x.toNat % 2 ^ 63 = x.toNat := Nat.mod_eq_of_lt hs
  rw [e] at hm
  rw [hm, ← un_27] at h1
  rw [hm, ← un_44] at h2
  have h3 := FP.Core.unitsOf_le_iff.mp h1
  have h4 := FP.Core.unitsOf_le_iff.mp h2
  exact ⟨h3, by omega⟩
theorem big_dvd {x : UInt64} {hi : Nat} (h : Ps (16 * O1) hi x) : Q1 ∣ FP.Core.zmag FP.Core.b64 (FP.Core.val64 x) := by
  obtain ⟨⟨hf, h1, h2⟩, hs⟩ := h
  have hm := FP.Core.zmag_bits hf.ne_nan
  rw [hm, ← un_27] at h1
  have h3 := FP.Core.unitsOf_le_iff.mp h1
  rw [hm]
  generalize x.toNat % 2 ^ 63 = m at *
  unfold FP.Core.unitsOf
  rw [FP.Core.tails_b64, if_neg (by omega)]
  show 2 ^ 1026 ∣ _
  exact Nat.dvd_mul_left_of_dvd (Nat.pow_dvd_pow 2 (by omega)) _
theorem BOK_of {x : UInt64} {hi : Nat} (h : Mg Q1 hi x) : BOK x := by
  obtain ⟨hf, h1, -⟩ := h
  have hm := FP.Core.zmag_bits hf.ne_nan
  rw [hm, ← un_Q] at h1
  have h3 := FP.Core.unitsOf_le_iff.mp h1
  have h4 := (FP.Core.fin_bits x).mp hf
  have hx := x.toNat_lt
  have k1 : 1 ≤ x.toNat % 2 ^ 63 / 2 ^ 52 := by omega
  have k2 : x.toNat % 2 ^ 63 / 2 ^ 52 ≤ 2046 := by omega
  have k3 : x.toNat % 2 ^ 63 % 2 ^ 52 < 2 ^ 52 := Nat.mod_lt _ (by decide)
  refine Or.inr ⟨x.toNat % 2 ^ 63 / 2 ^ 52, x.toNat % 2 ^ 63 % 2 ^ 52, k1, k2, k3, ?_⟩
  by_cases hs : x.toNat < 2 ^ 63
  · refine Or.inl (UInt64.toNat.inj ?_)
    rw [nx_nat (by omega) k3]; omega
  · refine Or.inr (UInt64.toNat.inj ?_)
    rw [dneg_nat k1 k2 k3]; omega
theorem Mg_sub {x y : UInt64} {lo hi : Nat} (hx : Ps lo hi x) (hy : Ps lo hi y) (dx : Q1 ∣ FP.Core.zmag FP.Core.b64 (FP.Core.val64 x)) (dy : Q1 ∣ FP.Core.zmag FP.Core.b64 (FP.Core.val64 y)) (hh : Rp hi) (ht : hi < TOP) : FP.dsub x y = 0 ∨ Mg Q1 hi (FP.dsub x y) := by
  obtain ⟨⟨xf, x1, x2⟩, sx⟩ := hx
  obtain ⟨⟨yf, y1, y2⟩, sy⟩ := hy
  by_cases e : x = y
  · subst e
    obtain ⟨s, c, q, h⟩ := xf
    exact Or.inl (FP.Core.dsub_self h)
  refine Or.inr ?_
  have hne : FP.Core.zmag FP.Core.b64 (FP.Core.val64 x) ≠ FP.Core.zmag FP.Core.b64 (FP.Core.val64 y) := by
    intro h
    rw [FP.Core.zmag_bits xf.ne_nan, FP.Core.zmag_bits yf.ne_nan] at h
    have h1 := FP.Core.unitsOf_le_iff.mp (Nat.le_of_eq h)
    have h2 := FP.Core.unitsOf_le_iff.mp (Nat.le_of_eq h.symm)
    exact e (UInt64.toNat.inj (by omega))
  have zx := zv_pos xf.ne_nan sx
  have zy := zv_pos yf.ne_nan sy
  have zy2 : FP.Core.zval FP.Core.b64 (FP.Core.negate (FP.Core.val64 y)) = -(FP.Core.zmag FP.Core.b64 (FP.Core.val64 y) : Int) := by rw [FP.Core.zval_negate, zy]
  have yf2 : ∃ s c q, FP.Core.negate (FP.Core.val64 y) = .fin s c q := by
    obtain ⟨s, c, q, h⟩ := yf
    exact ⟨!s, c, q, by rw [h]; rfl⟩
  have hn : FP.Core.val64 (FP.Core.dsub x y) ≠ .nan := (FP.Core.notNaN_iff _).mp (FP.Core.dsub_out xf.notNaN yf)
  have hab := zv_abs (FP.Core.val64 (FP.Core.dsub x y))
  obtain ⟨VQ, l1, l2, l3, l4⟩ := Rp_Q
  obtain ⟨VH, k1, k2, k3, k4⟩ := hh
  have nH : FP.Core.zval FP.Core.b64 (FP.Core.negate VH) = -(hi : Int) := by rw [FP.Core.zval_negate, k4]
  have nQ : FP.Core.zval FP.Core.b64 (FP.Core.negate VQ) = -(Q1 : Int) := by rw [FP.Core.zval_negate, l4]
  obtain ⟨i, di⟩ := dx
  obtain ⟨j, dj⟩ := dy
  have fin : Q1 ≤ FP.Core.zmag FP.Core.b64 (FP.Core.val64 (FP.Core.dsub x y)) ∧ FP.Core.zmag FP.Core.b64 (FP.Core.val64 (FP.Core.dsub x y)) ≤ hi := by
    rcases Nat.lt_or_ge i j with hij | hij
    · have h1 : FP.Core.zmag FP.Core.b64 (FP.Core.val64 x) + Q1 ≤ FP.Core.zmag FP.Core.b64 (FP.Core.val64 y) := by
        rw [di, dj, ← Nat.mul_succ]; exact Nat.mul_le_mul_left _ hij
      have A := FP.Core.sum_ge FP.Core.good_b64 xf yf2 (FP.Core.val64_fits x) (FP.Core.negate_fits (FP.Core.val64_fits y)) (FP.Core.negate_fits k1) (FP.Core.negate_ne_nan k2) (by rw [nH, zx, zy2]; omega)
      have B := FP.Core.sum_le FP.Core.good_b64 xf yf2 (FP.Core.val64_fits x) (FP.Core.negate_fits (FP.Core.val64_fits y)) (FP.Core.negate_fits l1) (FP.Core.negate_ne_nan l2) (by rw [nQ, zx, zy2]; omega)
      rw [← FP.Core.val64_dsub, nH] at A
      rw [← FP.Core.val64_dsub, nQ] at B
      omega
    · have h1 : FP.Core.zmag FP.Core.b64 (FP.Core.val64 y) + Q1 ≤ FP.Core.zmag FP.Core.b64 (FP.Core.val64 x) := by
        have : j ≠ i := fun h => hne (by rw [di, dj, h])
        rw [di, dj, ← Nat.mul_succ]; exact Nat.mul_le_mul_left _ (by omega)
      have A := FP.Core.sum_ge FP.Core.good_b64 xf yf2 (FP.Core.val64_fits x) (FP.Core.negate_fits (FP.Core.val64_fits y)) l1 l2 (by rw [l4, zx, zy2]; omega)
      have B := FP.Core.sum_le FP.Core.good_b64 xf yf2 (FP.Core.val64_fits x) (FP.Core.negate_fits (FP.Core.val64_fits y)) k1 k2 (by rw [k4, zx, zy2]; omega)
      rw [← FP.Core.val64_dsub, l4] at A
      rw [← FP.Core.val64_dsub, k4] at B
      omega
  exact ⟨fin_of_top hn (Nat.lt_of_le_of_lt fin.2 ht), fin.1, fin.2⟩
/-! the folds' doubles -/
theorem w_add (a n : Nat) : a * n * O1 + a * O1 = a * (n + 1) * O1 := by rw [Nat.mul_succ, Nat.add_mul]
theorem fS_b {g : Nat → UInt64} (hg : Gok g) (p j : Nat) : ∀ h, h ≤ 1000 → Ps (16 * fC g p h j * O1) (2 ^ 22 * fC g p h j * O1) (fS g p h j)
  | 0, _ => by
    have e : ∀ a, a * fC g p 0 j * O1 = 0 := fun a => by rw [show fC g p 0 j = 0 from rfl, Nat.mul_zero, Nat.zero_mul]
    rw [e, e]; exact P0
  | h + 1, hh => by
    have ih := fS_b hg p j h (by omega)
    have hc := fC_le g p h j
    unfold fS fC
    by_cases c : g h ≠ 0 ∧ h % p = j
    · rw [if_pos c, if_pos c, ← w_add 16, ← w_add (2 ^ 22)]
      refine Ps_add ih (Lb_Ps ((hg h).resolve_left c.1)) ?_ ?_ ?_ ?_
      · exact Nat.add_pos_right _ (Nat.mul_pos (by decide) O1_pos)
      · rw [w_add 16]; exact Rp_w (by omega)
      · rw [w_add (2 ^ 22)]; exact Rp_w (by omega)
      · rw [w_add (2 ^ 22)]; exact lt_top (by omega)
    · rw [if_neg c, if_neg c]; exact ih
theorem fT_b {g : Nat → UInt64} (hg : Gok g) : ∀ h, h ≤ 1000 → Ps (16 * fN g h * O1) (2 ^ 22 * fN g h * O1) (fT g h)
  | 0, _ => by
    have e : ∀ a, a * fN g 0 * O1 = 0 := fun a => by rw [show fN g 0 = 0 from rfl, Nat.mul_zero, Nat.zero_mul]
    rw [e, e]; exact P0
  | h + 1, hh => by
    have ih := fT_b hg h (by omega)
    have hc := fN_le g h
    unfold fT fN
    by_cases c : g h ≠ 0
    · rw [if_pos c, if_pos c, ← w_add 16, ← w_add (2 ^ 22)]
      refine Ps_add ih (Lb_Ps ((hg h).resolve_left c)) ?_ ?_ ?_ ?_
      · exact Nat.add_pos_right _ (Nat.mul_pos (by decide) O1_pos)
      · rw [w_add 16]; exact Rp_w (by omega)
      · rw [w_add (2 ^ 22)]; exact Rp_w (by omega)
      · rw [w_add (2 ^ 22)]; exact lt_top (by omega)
    · rw [if_neg c, if_neg c]; exact ih
theorem fC_fN (g : Nat → UInt64) (p j : Nat) : ∀ h, fC g p h j ≤ fN g h
  | 0 => Nat.le_refl 0
  | h + 1 => by
    have ih := fC_fN g p j h
    unfold fC fN
    by_cases c : g h ≠ 0
    · rw [if_pos c]; split <;> omega
    · rw [if_neg c, if_neg (fun z => c z.1)]; exact ih
theorem ac1 (a o n : Nat) : a * o * (n * o) = a * n * o * o := by ac_rfl
theorem ac2 {o h : Nat} (a : Nat) (e : o = 2 * h) : a * o * o = 2 * a * o * h := by
  have h2 : a * o * (2 * h) = 2 * a * o * h := by ac_rfl
  rw [← h2, ← e]
theorem ac3 {o h : Nat} (e : o = 2 * h) : h * 1000 = 500 * o := by omega
theorem mean_b {x : UInt64} {n : Nat} (h1 : 0 < n) (h2 : n ≤ 1000) (hx : Ps (16 * n * O1) (2 ^ 22 * n * O1) x) : Ps (16 * O1) (2 ^ 22 * O1) (FP.ddiv x (nD n)) := by
  have e : ∀ a, a * O1 * (n * O1) = a * n * O1 * O1 := fun a => ac1 a O1 n
  exact Ps_div hx (Ps_n (by omega)) (Nat.mul_pos h1 O1_pos) (Rp_w (by decide)) (Rp_w (by decide)) (Nat.le_of_eq (e 16)) (Nat.le_of_eq (e (2 ^ 22)).symm) (lt_top (by decide))
theorem mnT_b {g : Nat → UInt64} (hg : Gok g) (h : 0 < fN g 1000) : Ps (16 * O1) (2 ^ 22 * O1) (FP.ddiv (fT g 1000) (nD (fN g 1000))) := mean_b h (fN_le g 1000) (fT_b hg 1000 (Nat.le_refl _))
theorem mnF_b {g : Nat → UInt64} (hg : Gok g) {p j : Nat} (h : 0 < fC g p 1000 j) : Ps (16 * O1) (2 ^ 22 * O1) (FP.ddiv (fS g p 1000 j) (nD (fC g p 1000 j))) := mean_b h (fC_le g p 1000 j) (fS_b hg p j 1000 (Nat.le_refl _))
theorem mnT_e {g : Nat → UInt64} (h : 0 < fN g 1000) : mnT g = FP.ddiv (fT g 1000) (nD (fN g 1000)) := if_pos h
theorem mf_e {g : Nat → UInt64} {p j : Nat} (h : 0 < fC g p 1000 j) : mf (fS g p 1000) (fC g p 1000) j = FP.ddiv (fS g p 1000 j) (nD (fC g p 1000 j)) := if_pos h
/-- a difference of two means, by a count -/
theorem df_b {x y : UInt64} (hx : Ps (16 * O1) (2 ^ 22 * O1) x) (hy : Ps (16 * O1) (2 ^ 22 * O1) y) : FP.dsub x y = 0 ∨ Mg Q1 (2 ^ 22 * O1) (FP.dsub x y) :=
  Mg_sub hx hy (big_dvd hx) (big_dvd hy) (Rp_w (by decide)) (lt_top (by decide))
theorem zero_mul {n : Nat} (h : n < 2 ^ 31) : FP.dmul 0 (nD n) = 0 := by
  obtain ⟨⟨⟨t, w, r, vy⟩, -, -⟩, sy⟩ := Ps_n h
  refine (FP.Core.val64_inj (a := 0) (by rw [FP.Core.val64_zero]; exact FP.Core.Datum.noConfusion) ?_).symm
  rw [FP.Core.val64_dmul, FP.Core.val64_zero, vy, sg_pos vy sy]
  show _ = FP.Core.roundRatio FP.Core.b64 (false != false) (0 * w) 1 _
  rw [Nat.zero_mul]
  rfl
theorem sc_b {x y : UInt64} (hx : Ps (16 * O1) (2 ^ 22 * O1) x) (hy : Ps (16 * O1) (2 ^ 22 * O1) y) {n : Nat} (h1 : 0 < n) (h2 : n ≤ 1000) : BOK (FP.dmul (FP.dsub x y) (nD n)) := by
  rcases df_b hx hy with h | h
  · rw [h, zero_mul (by omega)]; exact Or.inl rfl
  · refine BOK_of (hi := 2 ^ 32 * O1) (Mg_mul h (Ps_n (by omega)).1 Rp_Q (Rp_w (by decide)) ?_ ?_ (lt_top (by decide))).1
    · exact Nat.mul_le_mul_left _ (Nat.le_mul_of_pos_left _ h1)
    · rw [Nat.mul_assoc (2 ^ 22), Nat.mul_left_comm O1 n O1, ← Nat.mul_assoc, ← Nat.mul_assoc]
      exact Nat.mul_le_mul_right _ (Nat.mul_le_mul_right _ (by omega))
theorem BOK_nn {v : UInt64} (h : BOK v) : FP.Core.val64 v ≠ .nan := by
  rcases h with rfl | ⟨k, m, h1, h2, h3, rfl | rfl⟩
  · rw [FP.Core.val64_zero]; exact FP.Core.Datum.noConfusion
  · exact nx_nan h1 h2 h3
  · exact dneg_nan h1 h2 h3
theorem d_fp_ok {g : Nat → UInt64} (h : Gok g) : FPok g := by
  refine ⟨fun k _ => ?_, fun p k j hk h0 => ?_, fun k hk h0 => ?_, fun k hk => ?_, fun h0 => (mnT_b h h0).1.n64, fun p j _ h0 => ?_, fun p i j _ hi hj => ?_⟩
  · rcases h k with e | e
    · rw [e]; decide +kernel
    · refine iff_of_true ?_ (fun e2 => by rw [e2] at e; have := e.1; exact absurd this (by decide))
      have hp := Lb_Ps e
      rw [(dc_key hp.1.1.ne_nan zero_nan).1, zero_key]
      unfold FP.Core.dkey
      have := e.1
      have := e.2
      rw [if_neg (by omega)]; omega
  · have hb := fS_b h p j k (by omega)
    have hc := fC_le g p k j
    refine (Ps_add hb (Lb_Ps ((h k).resolve_left h0)) ?_ ?_ ?_ ?_).1.n64
    · exact Nat.add_pos_right _ (Nat.mul_pos (by decide) O1_pos)
    · rw [w_add 16]; exact Rp_w (by omega)
    · rw [w_add (2 ^ 22)]; exact Rp_w (by omega)
    · rw [w_add (2 ^ 22)]; exact lt_top (by omega)
  · have hb := fT_b h k (by omega)
    have hc := fN_le g k
    refine (Ps_add hb (Lb_Ps ((h k).resolve_left h0)) ?_ ?_ ?_ ?_).1.n64
    · exact Nat.add_pos_right _ (Nat.mul_pos (by decide) O1_pos)
    · rw [w_add 16]; exact Rp_w (by omega)
    · rw [w_add (2 ^ 22)]; exact Rp_w (by omega)
    · rw [w_add (2 ^ 22)]; exact lt_top (by omega)
  · have hb := fT_b h k (by omega)
    have e : FP.dadd (fT g k) FP.dconst0 = fT g k := FP.Core.dadd_zero hb.1.1.ne_nan (fun e => by
      have := hb.2
      rw [e] at this
      exact absurd this (by decide))
    rw [e]
    exact ⟨rfl, hb.1.n64⟩
  · have hN : 0 < fN g 1000 := Nat.lt_of_lt_of_le h0 (fC_fN g p j 1000)
    have a := mnT_b h hN
    have b := mnF_b h h0
    unfold mnF
    rw [mnT_e hN, mf_e h0]
    refine ⟨b.1.n64, ?_, (n64_iff _).mpr (BOK_nn (sc_b a b h0 (fC_le g p 1000 j)))⟩
    rcases df_b a b with e | e
    · rw [e]; exact P0.1.n64
    · exact e.n64
  · unfold mnF
    rw [mf_e hi, mf_e hj]
    rcases df_b (mnF_b h hi) (mnF_b h hj) with e | e
    · rw [e]; exact P0.1.n64
    · exact e.n64
theorem d_sc_bits {g : Nat → UInt64} (h : Gok g) (p : Nat) : BOK (scB g p) := by
  unfold scB
  cases hb : bFo g p with
  | none => exact Or.inl rfl
  | some b =>
    have h0 := (bfG_lt p b hb).2
    have hN : 0 < fN g 1000 := Nat.lt_of_lt_of_le h0 (fC_fN g p b 1000)
    show BOK (sf (mnT g) (fS g p 1000) (fC g p 1000) b)
    unfold sf
    rw [if_pos h0, mnT_e hN, mf_e h0]
    exact sc_b (mnT_b h hN) (mnF_b h h0) h0 (fC_le g p 1000 b)
theorem d_oe_bits {g : Nat → UInt64} (h : Gok g) (p : Nat) : BOK (oeF g p) := by
  unfold oeF
  cases hb : bFo g p with
  | none => exact Or.inl rfl
  | some b =>
    show BOK (if 0 < fC g (2 * p) 1000 b ∧ 0 < fC g (2 * p) 1000 (b + p) then FP.dsub (mnF g (2 * p) b) (mnF g (2 * p) (b + p)) else 0)
    split
    · rename_i hc
      unfold mnF
      rw [mf_e hc.1, mf_e hc.2]
      rcases df_b (mnF_b h hc.1) (mnF_b h hc.2) with e | e
      · exact Or.inl e
      · exact BOK_of e
    · exact Or.inl rfl
/-- the class's search and the reference's -/
theorem pdS_ge (g : Nat → UInt64) : ∀ k, 2 ≤ (pdS g k).1
  | 0 => Nat.le_refl 2
  | k + 1 => by
    unfold pdS
    split
    · exact Nat.le_add_left 2 (k + 1)
    · exact pdS_ge g k
theorem pdS_nn {g : Nat → UInt64} (h : Gok g) : ∀ k, FP.Core.val64 (pdS g k).2 ≠ .nan
  | 0 => BOK_nn (d_sc_bits h 2)
  | k + 1 => by
    unfold pdS
    split
    · exact BOK_nn (d_sc_bits h (k + 3))
    · exact pdS_nn h k
theorem bp_rel {g : Nat → UInt64} (h : Gok g) {t : Int32} : ∀ k, bpS g t (k + 1) = if 0 < dc (pdS g k).2 (FP.i2d t) then (some (pdS g k).1, (pdS g k).2) else (none, FP.i2d t)
  | 0 => rfl
  | k + 1 => by
    have ih := bp_rel h (t := t) k
    have nt : FP.Core.val64 (FP.i2d t) ≠ .nan := (FP.Core.i2d_fin t).ne_nan
    have np := pdS_nn h k
    have ns := BOK_nn (d_sc_bits h (k + 3))
    have d1 := (dc_key np nt).1
    have d2 := (dc_key ns np).1
    have d3 := (dc_key ns nt).1
    rw [bpS, ih]
    show (if 0 < dc (scB g (k + 3)) (if 0 < dc (pdS g k).2 (FP.i2d t) then (some (pdS g k).1, (pdS g k).2) else ((none : Option Nat), FP.i2d t)).2 then (some (k + 3), scB g (k + 3)) else (if 0 < dc (pdS g k).2 (FP.i2d t) then (some (pdS g k).1, (pdS g k).2) else ((none : Option Nat), FP.i2d t))) = _
    by_cases c1 : 0 < dc (pdS g k).2 (FP.i2d t)
    · rw [if_pos c1]
      by_cases c2 : 0 < dc (scB g (k + 3)) (pdS g k).2
      · have e : pdS g (k + 1) = (k + 3, scB g (k + 3)) := if_pos c2
        have c4 : 0 < dc (pdS g (k + 1)).2 (FP.i2d t) := by
          rw [e]; exact d3.mpr (by have := d1.mp c1; have := d2.mp c2; omega)
        exact (if_pos c2).trans ((if_pos c4).trans (by rw [e])).symm
      · have e : pdS g (k + 1) = pdS g k := if_neg c2
        exact (if_neg c2).trans (by rw [e, if_pos c1])
    · rw [if_neg c1]
      have c1' : ¬ FP.Core.dkey (FP.i2d t) < FP.Core.dkey (pdS g k).2 := fun z => c1 (d1.mpr z)
      by_cases c3 : 0 < dc (scB g (k + 3)) (FP.i2d t)
      · have e : pdS g (k + 1) = (k + 3, scB g (k + 3)) := if_pos (d2.mpr (by have := d3.mp c3; omega))
        have c4 : 0 < dc (pdS g (k + 1)).2 (FP.i2d t) := by
          rw [e]; exact c3
        exact (if_pos c3).trans ((if_pos c4).trans (by rw [e])).symm
      · refine (if_neg c3).trans ?_
        by_cases c2 : 0 < dc (scB g (k + 3)) (pdS g k).2
        · have e : pdS g (k + 1) = (k + 3, scB g (k + 3)) := if_pos c2
          have c4 : ¬ 0 < dc (pdS g (k + 1)).2 (FP.i2d t) := by
            rw [e]; exact c3
          exact (if_neg c4).symm
        · have e : pdS g (k + 1) = pdS g k := if_neg c2
          rw [e, if_neg c1]
theorem d_bp_pd {g : Nat → UInt64} (h : Gok g) (t : Int32) : bpT g t = if pdT g t = 0 then none else some (pdT g t) := by
  unfold bpT pdT
  by_cases c : fN g 1000 < 20
  · rw [if_pos c, if_pos c, if_pos rfl]
  · rw [if_neg c, if_neg c, bp_rel h 58]
    by_cases d : 0 < dc (pdS g 58).2 (FP.i2d t)
    · have := pdS_ge g 58
      rw [if_pos d, if_pos d, if_neg (by omega)]
    · rw [if_neg d, if_neg d, if_pos rfl]
/-! light -/
theorem quo_b {d : Nat} (h : d ≤ 200) : Ps H1 O1 (quo d) := by
  have e : (4652007308841189376 : UInt64) = nD 1000 := by decide +kernel
  have e2 : quo d = FP.ddiv (nD (1000 - d)) (nD 1000) := by rw [← e]; rfl
  rw [e2]
  refine Ps_div (Ps_n (n := 1000 - d) (by omega)) (Ps_n (n := 1000) (by decide)) (Nat.mul_pos (by decide) O1_pos) Rp_H (by have := Rp_w (n := 1) (by decide); rwa [Nat.one_mul] at this) ?_ ?_ (by have := lt_top (n := 1) (by decide); rwa [Nat.one_mul] at this)
  · rw [← Nat.mul_assoc]
    refine Nat.mul_le_mul_right _ ?_
    rw [ac3 O1_H]
    exact Nat.mul_le_mul_right _ (by omega)
  · rw [Nat.mul_comm O1 (1000 * O1)]
    exact Nat.mul_le_mul_right _ (Nat.mul_le_mul_right _ (by omega))
theorem d_quo_n {d : Nat} (h : d ≤ 200) : vf_n64 (quo d) := (quo_b h).1.n64
theorem dim_b {x q : UInt64} {a b : Nat} (hb : b ≤ 2 ^ 53) (hab : a ≤ b) (hx : Ps (2 * a * O1) (b * O1) x) (hq : Ps H1 O1 q) : Ps (a * O1) (b * O1) (FP.dmul x q) := by
  refine Ps_mul hx hq (Rp_w (by omega)) (Rp_w hb) ?_ (Nat.le_refl _) (lt_top hb)
  exact Nat.le_of_eq (ac2 a O1_H)
theorem lF_b {own h : Nat} {per ph len dep : Nat → Nat} (h1 : 1000 ≤ own) (h2 : own ≤ 1000000) : ∀ k, k ≤ 4 → (∀ i, i < k → dep i ≤ 200) → Ps (2 ^ (9 - k) * O1) (2 ^ 20 * O1) (lF own h per ph len dep k)
  | 0, _, _ => (Ps_n (n := own) (by omega)).mono (Nat.mul_le_mul_right _ (Nat.le_trans (show 2 ^ (9 - 0) ≤ 1000 by decide) h1)) (Nat.mul_le_mul_right _ (by omega))
  | k + 1, hk, hd => by
    have ih := lF_b (h := h) (per := per) (ph := ph) (len := len) (dep := dep) h1 h2 k (by omega) (fun i hi => hd i (by omega))
    have e : 2 ^ (9 - k) = 2 * 2 ^ (9 - (k + 1)) := by
      rw [show 9 - k = (9 - (k + 1)) + 1 by omega, Nat.pow_succ, Nat.mul_comm]
    have e3 : 2 ^ (9 - (k + 1)) ≤ 2 ^ 20 := Nat.pow_le_pow_right (by decide) (by omega)
    unfold lF
    split
    · rw [e] at ih
      exact dim_b (by decide) e3 ih (quo_b (hd k (by omega)))
    · exact ih.mono (Nat.mul_le_mul_right _ (Nat.pow_le_pow_right (by decide) (by omega))) (Nat.le_refl _)
theorem d_lt {own h np spin sd bl : Nat} {per ph len dep : Nat → Nat} (h1 : 1000 ≤ own) (h2 : own ≤ 1000000) (h3 : np ≤ 4) (hd : ∀ i, i < np → dep i ≤ 200) (h4 : sd ≤ 200) (h5 : bl ≤ 1000000) : LTok own h np spin sd bl per ph len dep ∧ Lb (lV own h np spin sd bl per ph len dep) := by
  have hF : ∀ k, k ≤ np → Ps (2 * 16 * O1) (2 ^ 20 * O1) (lF own h per ph len dep k) := fun k hk =>
    (lF_b h1 h2 k (by omega) (fun i hi => hd i (by omega))).mono (Nat.mul_le_mul_right _ (show 2 * 16 ≤ 2 ^ (9 - k) from Nat.le_trans (show 2 * 16 ≤ 2 ^ 5 by decide) (Nat.pow_le_pow_right (by decide) (by omega)))) (Nat.le_refl _)
  have hM : ∀ k d, k ≤ np → d ≤ 200 → Ps (16 * O1) (2 ^ 20 * O1) (FP.dmul (lF own h per ph len dep k) (quo d)) := fun k d hk hd => dim_b (by decide) (by decide) (hF k hk) (quo_b hd)
  have hS : Ps (16 * O1) (2 ^ 20 * O1) (lS own h np spin sd per ph len dep) := by
    unfold lS
    split
    · exact hM np sd (Nat.le_refl _) h4
    · exact (hF np (Nat.le_refl _)).mono (Nat.mul_le_mul_right _ (by decide)) (Nat.le_refl _)
  have hB : Ps 0 (2 ^ 20 * O1) (nD bl) := (Ps_n (n := bl) (by omega)).mono (Nat.zero_le _) (Nat.mul_le_mul_right _ (by omega))
  have e21 : 2 ^ 20 * O1 + 2 ^ 20 * O1 = 2 ^ 21 * O1 := by rw [← Nat.add_mul]
  have hV : Ps (16 * O1 + 0) (2 ^ 20 * O1 + 2 ^ 20 * O1) (lV own h np spin sd bl per ph len dep) := by
    unfold lV
    refine Ps_add hS hB ?_ ?_ ?_ ?_
    · exact Nat.add_pos_left (Nat.mul_pos (by decide) O1_pos) _
    · rw [Nat.add_zero]
      exact Rp_w (by decide)
    · rw [e21]; exact Rp_w (by decide)
    · rw [e21]; exact lt_top (by decide)
  rw [e21] at hV
  refine ⟨⟨fun k hk => ⟨d_quo_n (hd k hk), (hM k _ (Nat.le_of_lt hk) (hd k hk)).1.n64⟩, d_quo_n h4, (hM np _ (Nat.le_refl _) h4).1.n64, hV.1.n64⟩, Ps_Lb (hV.mono (Nat.le_add_right _ _) (Nat.le_refl _))⟩
