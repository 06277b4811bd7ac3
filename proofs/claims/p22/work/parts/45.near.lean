/-! NEARNESS: how far means, differences and scores lie from the true ones; Z in units of the least double -/
abbrev zZ (x : UInt64) : Int := FP.Core.zval FP.Core.b64 (FP.Core.val64 x)
def zR (v : Int) : Prop := ∃ V, FP.Core.fits FP.Core.b64 V ∧ V ≠ .nan ∧ FP.Core.zval FP.Core.b64 V = v
theorem zR.neg {v : Int} (h : zR v) : zR (-v) := by
  obtain ⟨V, h1, h2, h3⟩ := h
  exact ⟨FP.Core.negate V, FP.Core.negate_fits h1, FP.Core.negate_ne_nan h2, by rw [FP.Core.zval_negate, h3]⟩
theorem zR_nat {n k : Nat} (hn : n ≤ 2 ^ 53) (hk : k ≤ 1000) : zR ((n * 2 ^ (1074 - k) : Nat) : Int) ∧ Rp (n * 2 ^ (1074 - k)) := by
  have e1 := FP.Core.qmin_b64
  have e2 : FP.Core.b64.qmax = 971 := by decide
  have e3 := FP.Core.tails_b64
  have e4 : FP.Core.b64.p = 53 := rfl
  obtain ⟨c, q, ⟨h1, h2, h3, h4⟩, h5⟩ := FP.Core.natFit FP.Core.good_b64 FP.Core.wide_b64 false (n := n) (by rw [e4]; exact hn)
  rw [e4] at h1
  rw [e1] at h2 h4
  rw [e2] at h3
  rw [e3] at h4
  rw [Nat.mul_one] at h5
  rcases Nat.eq_zero_or_pos n with h0 | h0
  · subst h0
    have hz : FP.Core.zmag FP.Core.b64 (.fin false 0 FP.Core.b64.qmin) = 0 := Nat.zero_mul _
    rw [Nat.zero_mul]
    refine ⟨⟨.fin false 0 FP.Core.b64.qmin, FP.Core.zero_fits FP.Core.good_b64 false, FP.Core.Datum.noConfusion, ?_⟩, ⟨.fin false 0 FP.Core.b64.qmin, FP.Core.zero_fits FP.Core.good_b64 false, FP.Core.Datum.noConfusion, hz, ?_⟩⟩
    all_goals (show FP.Core.signed false (FP.Core.zmag FP.Core.b64 (.fin false 0 FP.Core.b64.qmin)) = _; rw [hz]; rfl)
  have hq : -52 ≤ q := by
    apply Int.le_of_not_gt
    intro hq
    have c1 : 2 ^ 53 ≤ 2 ^ (0 - q).toNat := Nat.pow_le_pow_right (by decide) (by omega)
    have c2 := Nat.mul_le_mul (show 1 ≤ n from h0) c1
    rw [show (q - 0).toNat = 0 by omega, Nat.pow_zero, Nat.mul_one] at h5
    omega
  have hc : 2 ^ 52 ≤ c := by
    rcases h4 with h4 | h4
    · omega
    · exact h4
  have hm : FP.Core.zmag FP.Core.b64 (.fin false c (q - k)) = n * 2 ^ (1074 - k) := by
    show c * 2 ^ (q - k - FP.Core.b64.qmin).toNat = _
    rw [e1]
    rcases Int.lt_or_le q 0 with hs | hs
    · rw [show (q - 0).toNat = 0 by omega, Nat.pow_zero, Nat.mul_one] at h5
      rw [← h5, Nat.mul_assoc, ← Nat.pow_add]
      congr 2
      omega
    · rw [show (0 - q).toNat = 0 by omega, Nat.pow_zero, Nat.mul_one] at h5
      rw [h5, Nat.mul_assoc, ← Nat.pow_add]
      congr 2
      omega
  have hf : FP.Core.fits FP.Core.b64 (.fin false c (q - k)) := by
    refine ⟨by rw [e4]; exact h1, by rw [e1]; omega, by rw [e2]; omega, Or.inr ?_⟩
    rw [e3]; exact hc
  have hv : FP.Core.zval FP.Core.b64 (.fin false c (q - k)) = ((n * 2 ^ (1074 - k) : Nat) : Int) := by rw [← hm]; rfl
  exact ⟨⟨_, hf, FP.Core.Datum.noConfusion, hv⟩, ⟨_, hf, FP.Core.Datum.noConfusion, hm, hv⟩⟩
theorem zR_int {z : Int} {k : Nat} (hz : z.natAbs ≤ 2 ^ 53) (hk : k ≤ 1000) : zR (z * ((2 ^ (1074 - k) : Nat) : Int)) := by
  have h := (zR_nat (k := k) hz hk).1
  rw [Int.natCast_mul] at h
  rcases Int.natAbs_eq z with e | e
  · rwa [← e] at h
  · have h2 := h.neg
    rw [← Int.neg_mul, ← e] at h2
    exact h2
/-- the floor on a grid of u -/
theorem grid {v : Int} {u : Nat} (hu : 0 < u) : ∃ z : Int, z * (u : Int) ≤ v ∧ v < (z + 1) * (u : Int) := by
  have hu' : (0 : Int) < u := by omega
  refine ⟨v / u, Int.ediv_mul_le v (by omega), ?_⟩
  exact Int.lt_ediv_add_one_mul_self v hu'
theorem grid_abs {v z : Int} {u B : Nat} (h1 : z * (u : Int) ≤ v) (h2 : v < (z + 1) * (u : Int)) (hb : v.natAbs ≤ B * u) : z.natAbs ≤ B + 1 ∧ (z + 1).natAbs ≤ B + 1 := by
  have b1 : v ≤ (B : Int) * u := by
    have : ((B * u : Nat) : Int) = (B : Int) * u := Int.natCast_mul _ _
    omega
  have b2 : -((B : Int) * u) ≤ v := by
    have : ((B * u : Nat) : Int) = (B : Int) * u := Int.natCast_mul _ _
    omega
  have hu0 : 0 ≤ (u : Int) := by omega
  have c1 : z ≤ B := by
    apply Int.le_of_not_gt
    intro c
    have := Int.mul_le_mul_of_nonneg_right (show (B : Int) + 1 ≤ z by omega) hu0
    rw [Int.add_mul, Int.one_mul] at this h2
    have h3 : z * (u : Int) ≤ (B : Int) * u := by omega
    have h4 : (u : Int) = 0 := by omega
    rw [h4] at h1 h2 this
    omega
  have c2 : -(B : Int) ≤ z + 1 := by
    apply Int.le_of_not_gt
    intro c
    have := Int.mul_le_mul_of_nonneg_right (show z + 1 ≤ -(B : Int) by omega) hu0
    rw [Int.neg_mul] at this
    omega
  omega
/-- the difference of two doubles -/
theorem dsub_err {x y : UInt64} {k B : Nat} (hx : FP.Core.DFin x) (hy : FP.Core.DFin y) (hk : k ≤ 1000) (hB : B + 1 ≤ 2 ^ 53) (hb : (zZ x - zZ y).natAbs ≤ B * 2 ^ (1074 - k)) (ht : (B + 1) * 2 ^ (1074 - k) < TOP) : FP.Core.DFin (FP.dsub x y) ∧ (zZ (FP.dsub x y) - (zZ x - zZ y)).natAbs ≤ 2 ^ (1074 - k) := by
  obtain ⟨u, hu⟩ : ∃ u, u = 2 ^ (1074 - k) := ⟨_, rfl⟩
  have hu0 : 0 < u := by rw [hu]; exact Nat.two_pow_pos _
  rw [← hu] at hb ht ⊢
  obtain ⟨z, z1, z2⟩ := grid (v := zZ x - zZ y) hu0
  obtain ⟨a1, a2⟩ := grid_abs z1 z2 hb
  have r1 : zR (z * (u : Int)) := by rw [hu]; exact zR_int (by omega) hk
  have r2 : zR ((z + 1) * (u : Int)) := by rw [hu]; exact zR_int (by omega) hk
  obtain ⟨V, v1, v2, v3⟩ := r1
  obtain ⟨U, u1, u2, u3⟩ := r2
  have hn : FP.Core.val64 (FP.Core.dsub x y) ≠ .nan := (FP.Core.notNaN_iff _).mp (FP.Core.dsub_out hx.notNaN hy)
  have yf2 : ∃ s c q, FP.Core.negate (FP.Core.val64 y) = .fin s c q := by
    obtain ⟨s, c, q, h⟩ := hy
    exact ⟨!s, c, q, by rw [h]; rfl⟩
  have zy : FP.Core.zval FP.Core.b64 (FP.Core.negate (FP.Core.val64 y)) = -zZ y := FP.Core.zval_negate _ _
  have A := FP.Core.sum_ge FP.Core.good_b64 hx yf2 (FP.Core.val64_fits x) (FP.Core.negate_fits (FP.Core.val64_fits y)) v1 v2 (by rw [v3, zy]; show _ ≤ zZ x + -zZ y; omega)
  have B' := FP.Core.sum_le FP.Core.good_b64 hx yf2 (FP.Core.val64_fits x) (FP.Core.negate_fits (FP.Core.val64_fits y)) u1 u2 (by rw [u3, zy]; show zZ x + -zZ y ≤ _; omega)
  rw [← FP.Core.val64_dsub, v3] at A
  rw [← FP.Core.val64_dsub, u3] at B'
  have A : z * (u : Int) ≤ zZ (FP.dsub x y) := A
  have B' : zZ (FP.dsub x y) ≤ (z + 1) * (u : Int) := B'
  have e9 : (z + 1) * (u : Int) = z * u + u := by rw [Int.add_mul, Int.one_mul]
  refine ⟨fin_of_top hn ?_, by omega⟩
  have hab := zv_abs (FP.Core.val64 (FP.Core.dsub x y))
  rw [← hab]
  have g1 : (z * (u : Int)).natAbs ≤ (B + 1) * u := by rw [Int.natAbs_mul, Int.natAbs_natCast]; exact Nat.mul_le_mul_right _ a1
  have g2 : ((z + 1) * (u : Int)).natAbs ≤ (B + 1) * u := by rw [Int.natAbs_mul, Int.natAbs_natCast]; exact Nat.mul_le_mul_right _ a2
  show (zZ (FP.dsub x y)).natAbs < TOP
  omega
/-- a double times a whole number's -/
theorem dmul_err {x : UInt64} {k B c : Nat} (hx : FP.Core.DFin x) (hc : c < 2 ^ 31) (hk : k ≤ 1000) (hB : B + 1 ≤ 2 ^ 53) (hb : (zZ x * (c : Int)).natAbs ≤ B * 2 ^ (1074 - k)) (ht : (B + 1) * 2 ^ (1074 - k) < TOP) : FP.Core.DFin (FP.dmul x (nD c)) ∧ (zZ (FP.dmul x (nD c)) - zZ x * (c : Int)).natAbs ≤ 2 ^ (1074 - k) := by
  obtain ⟨u, hu⟩ : ∃ u, u = 2 ^ (1074 - k) := ⟨_, rfl⟩
  have hu0 : 0 < u := by rw [hu]; exact Nat.two_pow_pos _
  rw [← hu] at hb ht ⊢
  obtain ⟨z, z1, z2⟩ := grid (v := zZ x * (c : Int)) hu0
  obtain ⟨a1, a2⟩ := grid_abs z1 z2 hb
  have r1 : zR (z * (u : Int)) := by rw [hu]; exact zR_int (by omega) hk
  have r2 : zR ((z + 1) * (u : Int)) := by rw [hu]; exact zR_int (by omega) hk
  obtain ⟨V, v1, v2, v3⟩ := r1
  obtain ⟨U, u1, u2, u3⟩ := r2
  obtain ⟨⟨yf, y1, y2⟩, sy⟩ := Ps_n hc
  have hy0 := zv_pos yf.ne_nan sy
  have hym := Nat.le_antisymm y2 y1
  obtain ⟨s, w, q, vx⟩ := hx
  obtain ⟨t, w2, r, vy⟩ := yf
  have fx := FP.Core.val64_fits x
  have fy := FP.Core.val64_fits (nD c)
  rw [vx] at fx
  have ht2 := sg_pos vy sy
  subst ht2
  rw [vy] at fy hym
  obtain ⟨p1, p2, p3⟩ := FP.Core.product_units fx fy
  have e0 : 2 * FP.Core.b64.qmin ≤ FP.Core.b64.qmin := by rw [FP.Core.qmin_b64]; decide
  have hv : FP.Core.val64 (FP.dmul x (nD c)) = FP.Core.round FP.Core.b64 (.fin (s != false) (w * w2) (q + r)) := by
    rw [FP.Core.val64_dmul, vx, vy, p1]
  have hsx : zZ x = FP.Core.signed s (FP.Core.zmag FP.Core.b64 (.fin s w q)) := by
    show FP.Core.zval FP.Core.b64 (FP.Core.val64 x) = _
    rw [vx]; rfl
  have hs : (s != false) = s := by cases s <;> rfl
  have hsg : FP.Core.signed (s != false) (FP.Core.inUnits (w * w2) (q + r) (2 * FP.Core.b64.qmin)) = zZ x * (c : Int) * (O1 : Int) := by
    rw [p3, hym, hs, FP.Core.signed_mul, ← hsx, Int.natCast_mul, Int.mul_assoc]
  have A := FP.Core.zval_round_ge FP.Core.good_b64 (s := s != false) (c := w * w2) (q := q + r) (e0 := 2 * FP.Core.b64.qmin) v1 v2 e0 p2 (by
    rw [hsg, v3, pow_O]; exact Int.mul_le_mul_of_nonneg_right z1 (Int.natCast_nonneg _))
  have B' := FP.Core.zval_round_le FP.Core.good_b64 (s := s != false) (c := w * w2) (q := q + r) (e0 := 2 * FP.Core.b64.qmin) u1 u2 e0 p2 (by
    rw [hsg, u3, pow_O]; exact Int.mul_le_mul_of_nonneg_right (Int.le_of_lt z2) (Int.natCast_nonneg _))
  rw [← hv, v3] at A
  rw [← hv, u3] at B'
  have A : z * (u : Int) ≤ zZ (FP.dmul x (nD c)) := A
  have B' : zZ (FP.dmul x (nD c)) ≤ (z + 1) * (u : Int) := B'
  have e9 : (z + 1) * (u : Int) = z * u + u := by rw [Int.add_mul, Int.one_mul]
  have hn : FP.Core.val64 (FP.dmul x (nD c)) ≠ .nan := by rw [hv]; exact FP.Core.roundRatio_ne_nan _ _ _ _ _
  refine ⟨fin_of_top hn ?_, by omega⟩
  have hab := zv_abs (FP.Core.val64 (FP.dmul x (nD c)))
  rw [← hab]
  have g1 : (z * (u : Int)).natAbs ≤ (B + 1) * u := by rw [Int.natAbs_mul, Int.natAbs_natCast]; exact Nat.mul_le_mul_right _ a1
  have g2 : ((z + 1) * (u : Int)).natAbs ≤ (B + 1) * u := by rw [Int.natAbs_mul, Int.natAbs_natCast]; exact Nat.mul_le_mul_right _ a2
  show (zZ (FP.dmul x (nD c))).natAbs < TOP
  omega
