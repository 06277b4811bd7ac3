/-! DOUBLES: normal ones by exponent and fraction; halving, doubling, and what their bits are -/
theorem n64_iff (r : UInt64) : vf_n64 r ↔ FP.Core.val64 r ≠ .nan := by
  rw [FP.Core.ne_nan]
  unfold vf_n64
  rw [UInt64.le_iff_toNat_le, FP.Core.mask_toNat]
  exact Iff.rfl
def nx (k m : Nat) : UInt64 := UInt64.ofNat (k * 2 ^ 52 + m)
theorem nx_nat {k m : Nat} (h : k ≤ 2047) (hm : m < 2 ^ 52) : (nx k m).toNat = k * 2 ^ 52 + m := by
  unfold nx
  rw [UInt64.toNat_ofNat']
  exact Nat.mod_eq_of_lt (by omega)
theorem nx_fits {k m : Nat} (h1 : 1 ≤ k) (h : k ≤ 2046) (hm : m < 2 ^ 52) (s : Bool) : FP.Core.fits FP.Core.b64 (.fin s (2 ^ 52 + m) ((k : Int) - 1075)) := by
  have e1 := FP.Core.qmin_b64
  have e2 : FP.Core.b64.qmax = 971 := by decide
  have e3 := FP.Core.tails_b64
  have e4 : FP.Core.b64.p = 53 := rfl
  refine ⟨?_, ?_, ?_, Or.inr ?_⟩
  · rw [e4]; omega
  · rw [e1]; omega
  · rw [e2]; omega
  · rw [e3]; omega
theorem nx_val {k m : Nat} (h1 : 1 ≤ k) (h : k ≤ 2046) (hm : m < 2 ^ 52) : FP.Core.val64 (nx k m) = .fin false (2 ^ 52 + m) ((k : Int) - 1075) := by
  have ht : FP.Core.b64.tails = 2 ^ 52 := FP.Core.tails_b64
  have he : FP.Core.b64.exps = 2048 := by decide
  have h2 := FP.Core.decode_assemble FP.Core.b64 false k m (by rw [he]; omega) (by rw [ht]; exact hm)
  have h3 : FP.Core.assemble FP.Core.b64 false k m = (nx k m).toNat := by
    rw [nx_nat (by omega) hm]
    unfold FP.Core.assemble
    rw [ht]; simp
  unfold FP.Core.val64
  rw [← h3, h2, he, if_neg (by omega), if_neg (by omega), ht, FP.Core.qmin_b64]
  congr 1
  omega
theorem nx_of {k m : Nat} (h1 : 1 ≤ k) (h : k ≤ 2046) (hm : m < 2 ^ 52) {x : UInt64} (hx : FP.Core.val64 x = .fin false (2 ^ 52 + m) ((k : Int) - 1075)) : x = nx k m :=
  FP.Core.val64_inj (by rw [hx]; exact FP.Core.Datum.noConfusion) (hx.trans (nx_val h1 h hm).symm)
theorem nx_nan {k m : Nat} (h1 : 1 ≤ k) (h : k ≤ 2046) (hm : m < 2 ^ 52) : FP.Core.val64 (nx k m) ≠ .nan := by rw [nx_val h1 h hm]; exact FP.Core.Datum.noConfusion
def two64 : UInt64 := 4611686018427387904
theorem two_nx : two64 = nx 1024 0 := by decide +kernel
theorem two_val : FP.Core.val64 two64 = .fin false (2 ^ 52) (-51) := by decide +kernel
theorem nx_half {k m : Nat} (h1 : 1 ≤ k) (h : k ≤ 2045) (hm : m < 2 ^ 52) : FP.ddiv (nx (k + 1) m) two64 = nx k m := by
  refine nx_of h1 (by omega) hm ?_
  rw [FP.Core.val64_ddiv, nx_val (by omega) (by omega) hm, two_val]
  show (if (2 ^ 52 : Nat) = 0 then (if 2 ^ 52 + m = 0 then FP.Core.Datum.nan else FP.Core.Datum.inf (false != false)) else FP.Core.roundRatio FP.Core.b64 (false != false) (2 ^ 52 + m) (2 ^ 52) ((((k + 1 : Nat) : Int) - 1075) - (-51))) = _
  rw [if_neg (show ¬ (2 ^ 52 : Nat) = 0 by decide)]
  refine FP.Core.roundRatio_exact FP.Core.good_b64 (by decide) (nx_fits h1 (by omega) hm false) ?_
  rw [show ((((k + 1 : Nat) : Int) - 1075) - (-51) - ((k : Int) - 1075)).toNat = 52 by omega, show ((k : Int) - 1075 - ((((k + 1 : Nat) : Int) - 1075) - (-51))).toNat = 0 by omega]
  omega
theorem nx_twice {k m : Nat} (h1 : 1 ≤ k) (h : k ≤ 2045) (hm : m < 2 ^ 52) : FP.dmul (nx k m) two64 = nx (k + 1) m := by
  refine nx_of (by omega) (by omega) hm ?_
  rw [FP.Core.val64_dmul, nx_val h1 (by omega) hm, two_val]
  show FP.Core.roundRatio FP.Core.b64 (false != false) ((2 ^ 52 + m) * 2 ^ 52) 1 (((k : Int) - 1075) + (-51)) = _
  refine FP.Core.roundRatio_exact FP.Core.good_b64 (by decide) (nx_fits (by omega) (by omega) hm false) ?_
  rw [show (((k : Int) - 1075) + (-51) - (((k + 1 : Nat) : Int) - 1075)).toNat = 0 by omega, show ((((k + 1 : Nat) : Int) - 1075) - (((k : Int) - 1075) + (-51))).toNat = 52 by omega]
  omega
/-- comparing by the bits -/
theorem dc_key {x y : UInt64} (hx : FP.Core.val64 x ≠ .nan) (hy : FP.Core.val64 y ≠ .nan) : (0 < dc x y ↔ FP.Core.dkey y < FP.Core.dkey x) ∧ (dc x y < 0 ↔ FP.Core.dkey x < FP.Core.dkey y) ∧ (dc x y = 0 ↔ FP.Core.dkey x = FP.Core.dkey y) := by
  have h := FP.Core.dcmp_key hx hy
  have h1 := @FP.Core.compare_lt_iff (FP.Core.dkey x) (FP.Core.dkey y)
  have h2 := @FP.Core.compare_gt_iff (FP.Core.dkey x) (FP.Core.dkey y)
  have h3 := @FP.Core.compare_eq_iff (FP.Core.dkey x) (FP.Core.dkey y)
  unfold dc
  rw [show FP.dcmp x y = some (compare (FP.Core.dkey x) (FP.Core.dkey y)) from h]
  cases hc : compare (FP.Core.dkey x) (FP.Core.dkey y) <;> rw [hc] at h1 h2 h3 <;> simp at h1 h2 h3 ⊢ <;> omega
theorem dc_some {x y : UInt64} (hx : FP.Core.val64 x ≠ .nan) (hy : FP.Core.val64 y ≠ .nan) : FP.dcmp x y ≠ none := by
  rw [show FP.dcmp x y = some (compare (FP.Core.dkey x) (FP.Core.dkey y)) from FP.Core.dcmp_key hx hy]
  exact fun h => by cases h
theorem nx_key {k m : Nat} (h : k ≤ 2046) (hm : m < 2 ^ 52) : FP.Core.dkey (nx k m) = ((k * 2 ^ 52 + m : Nat) : Int) := by
  unfold FP.Core.dkey
  rw [nx_nat (by omega) hm, if_neg (by omega)]
theorem two_key : FP.Core.dkey two64 = ((1024 * 2 ^ 52 : Nat) : Int) := by decide +kernel
theorem one_key : FP.Core.dkey FP.dconst1 = ((1023 * 2 ^ 52 : Nat) : Int) := by decide +kernel
theorem zero_key : FP.Core.dkey FP.dconst0 = 0 := by decide +kernel
theorem two_nan : FP.Core.val64 two64 ≠ .nan := by decide +kernel
theorem one_nan : FP.Core.val64 FP.dconst1 ≠ .nan := by decide +kernel
theorem zero_nan : FP.Core.val64 FP.dconst0 ≠ .nan := by decide +kernel
theorem nx_dc2 {k m : Nat} (h1 : 1 ≤ k) (h : k ≤ 2046) (hm : m < 2 ^ 52) : dc (nx k m) two64 < 0 ↔ k < 1024 := by
  rw [(dc_key (nx_nan h1 h hm) two_nan).2.1, nx_key h hm, two_key]; omega
theorem nx_dc1 {k m : Nat} (h1 : 1 ≤ k) (h : k ≤ 2046) (hm : m < 2 ^ 52) : dc (nx k m) FP.dconst1 < 0 ↔ k < 1023 := by
  rw [(dc_key (nx_nan h1 h hm) one_nan).2.1, nx_key h hm, one_key]; omega
/-- the last step: (1.f - 1) * 2^52 is f -/
def big52 : UInt64 := 4841369599423283200
theorem big_val : FP.Core.val64 big52 = .fin false (2 ^ 52) 0 := by decide +kernel
theorem nx_sub1 {m : Nat} (hm : m < 2 ^ 52) : ∃ c' q', FP.Core.val64 (FP.dsub (nx 1023 m) FP.dconst1) = .fin false c' q' ∧ FP.Core.inUnits c' q' FP.Core.b64.qmin = FP.Core.inUnits m (-52) FP.Core.b64.qmin ∧ FP.Core.b64.qmin ≤ q' := by
  have hs : FP.Core.exactSum (.fin false (2 ^ 52 + m) (((1023 : Nat) : Int) - 1075)) (FP.Core.negate (.fin false (2 ^ 52) (-52))) = .fin false m (-52) := by
    show FP.Core.Datum.fin _ _ _ = _
    have hu : FP.Core.sumUnits false (2 ^ 52 + m) (((1023 : Nat) : Int) - 1075) (!false) (2 ^ 52) (-52) (min (((1023 : Nat) : Int) - 1075) (-52)) = (m : Int) := by
      unfold FP.Core.sumUnits FP.Core.inUnits FP.Core.signed
      rw [show (((1023 : Nat) : Int) - 1075) = -52 by omega, show (((-52 : Int) - min (-52) (-52)).toNat) = 0 by decide]
      simp
      omega
    rw [hu]
    have h1 : FP.Core.sumSign false (!false) (m : Int) = false := by
      unfold FP.Core.sumSign
      split
      · rfl
      · exact decide_eq_false (by omega)
    rw [h1, Int.natAbs_natCast]
    rfl
  have hv : FP.Core.val64 (FP.dsub (nx 1023 m) FP.dconst1) = FP.Core.round FP.Core.b64 (.fin false m (-52)) := by
    rw [FP.Core.val64_dsub, nx_val (by omega) (by omega) hm, show FP.Core.val64 FP.dconst1 = .fin false (2 ^ 52) (-52) from FP.Core.val64_dconst1, hs]
  obtain ⟨c', q', h1, h2⟩ := FP.Core.round_exact FP.Core.good_b64 false (c := m) (q := -52) (by have : FP.Core.b64.p = 53 := rfl; rw [this]; omega) (by decide) (by decide)
  have hf := FP.Core.val64_fits (FP.dsub (nx 1023 m) FP.dconst1)
  rw [hv, h1] at hf
  exact ⟨c', q', hv.trans h1, h2, hf.2.1⟩
theorem nx_last {m : Nat} (hm : m < 2 ^ 52) : FP.d2l (FP.dmul (FP.dsub (nx 1023 m) FP.dconst1) big52) = Int64.ofNat m ∧ vf_n64 (FP.dmul (FP.dsub (nx 1023 m) FP.dconst1) big52) ∧ vf_n64 (FP.dsub (nx 1023 m) FP.dconst1) := by
  obtain ⟨c', q', h1, h2, h3⟩ := nx_sub1 hm
  have hw : FP.Core.Whole (m : Int) (.fin false (c' * 2 ^ 52) q') := by
    show FP.Core.signed false (c' * 2 ^ 52 * 2 ^ q'.toNat) = (m : Int) * ((2 ^ (-q').toNat : Nat) : Int)
    rw [show FP.Core.signed false (c' * 2 ^ 52 * 2 ^ q'.toNat) = ((c' * 2 ^ 52 * 2 ^ q'.toNat : Nat) : Int) from rfl, ← Int.natCast_mul]
    congr 1
    rw [FP.Core.qmin_b64] at h2 h3
    unfold FP.Core.inUnits at h2
    rw [show ((-52 : Int) - -1074).toNat = 1022 by decide] at h2
    rcases Int.le_total 0 q' with hq | hq
    · rw [show (-q').toNat = 0 by omega]
      rw [show (q' - -1074).toNat = q'.toNat + 52 + 1022 by omega, Nat.pow_add, Nat.pow_add, ← Nat.mul_assoc] at h2
      have h4 := Nat.eq_of_mul_eq_mul_right (Nat.two_pow_pos 1022) h2
      rw [← h4]; simp [Nat.mul_assoc, Nat.mul_comm, Nat.mul_left_comm]
    · rw [show q'.toNat = 0 by omega]
      have hj : ∃ j : Nat, (-q').toNat = j ∧ j ≤ 1074 ∧ (q' - -1074).toNat = 1074 - j := ⟨(-q').toNat, rfl, by omega, by omega⟩
      obtain ⟨j, e1, e2, e3⟩ := hj
      rw [e1]; rw [e3] at h2
      refine Nat.eq_of_mul_eq_mul_right (Nat.two_pow_pos (1074 - j)) ?_
      have h5 : c' * 2 ^ (1074 - j) * 2 ^ 52 = m * 2 ^ 1022 * 2 ^ 52 := by rw [h2]
      have h6 : m * 2 ^ j * 2 ^ (1074 - j) = m * 2 ^ 1022 * 2 ^ 52 := by
        rw [Nat.mul_assoc, ← Nat.pow_add, show j + (1074 - j) = 1022 + 52 by omega, Nat.pow_add, Nat.mul_assoc]
      rw [h6, ← h5]; simp [Nat.mul_assoc, Nat.mul_comm, Nat.mul_left_comm]
  have hv : FP.Core.val64 (FP.dmul (FP.dsub (nx 1023 m) FP.dconst1) big52) = FP.Core.round FP.Core.b64 (.fin false (c' * 2 ^ 52) q') := by
    rw [FP.Core.val64_dmul, h1, big_val]
    show FP.Core.round FP.Core.b64 (.fin (false != false) (c' * 2 ^ 52) (q' + 0)) = _
    rw [Int.add_zero]; rfl
  have hW := FP.Core.whole_round FP.Core.good_b64 FP.Core.wide_b64 (by rw [Int.natAbs_natCast, show FP.Core.b64.p = 53 from rfl]; omega) hw
  rw [← hv] at hW
  have hm9 : (Int64.ofNat m).toInt = (m : Int) := by
    rw [Int64.toInt_ofNat']
    have e9 : Int64.size = 2 ^ 64 := rfl
    rw [e9]
    exact Int.bmod_eq_of_le (by omega) (by omega)
  refine ⟨FP.Core.d2l_int (a := Int64.ofNat m) (by rw [hm9]; exact hW), (n64_iff _).mpr hW.ne_nan, (n64_iff _).mpr ?_⟩
  rw [h1]; exact FP.Core.Datum.noConfusion
theorem nx_dc0 {k m : Nat} (h1 : 1 ≤ k) (h : k ≤ 2046) (hm : m < 2 ^ 52) : 0 < dc (nx k m) FP.dconst0 := by
  rw [(dc_key (nx_nan h1 h hm) zero_nan).1, nx_key h hm, zero_key]; omega
theorem dneg_nat {k m : Nat} (h1 : 1 ≤ k) (h : k ≤ 2046) (hm : m < 2 ^ 52) : (FP.dneg (nx k m)).toNat = 2 ^ 63 + (k * 2 ^ 52 + m) := by
  have h9 : (UInt64.ofNat (2 ^ 63 + (k * 2 ^ 52 + m))).toNat = 2 ^ 63 + (k * 2 ^ 52 + m) := by rw [UInt64.toNat_ofNat']; exact Nat.mod_eq_of_lt (by omega)
  have h2 : FP.Core.val64 (UInt64.ofNat (2 ^ 63 + (k * 2 ^ 52 + m))) = FP.Core.negate (FP.Core.val64 (nx k m)) := FP.Core.val64_neg_bits (Or.inr (by rw [nx_nat (by omega) hm, h9]; omega))
  have h3 : FP.dneg (nx k m) = UInt64.ofNat (2 ^ 63 + (k * 2 ^ 52 + m)) := FP.Core.val64_inj (by rw [FP.val64_dneg, nx_val h1 h hm]; exact FP.Core.Datum.noConfusion) ((FP.val64_dneg _).trans h2.symm)
  rw [h3, h9]
theorem dneg_nan {k m : Nat} (h1 : 1 ≤ k) (h : k ≤ 2046) (hm : m < 2 ^ 52) : FP.Core.val64 (FP.dneg (nx k m)) ≠ .nan := by rw [FP.val64_dneg, nx_val h1 h hm]; exact FP.Core.Datum.noConfusion
theorem dneg_dc0 {k m : Nat} (h1 : 1 ≤ k) (h : k ≤ 2046) (hm : m < 2 ^ 52) : dc (FP.dneg (nx k m)) FP.dconst0 < 0 := by
  rw [(dc_key (dneg_nan h1 h hm) zero_nan).2.1, zero_key]
  unfold FP.Core.dkey
  rw [dneg_nat h1 h hm, if_pos (by omega)]; omega
theorem dneg2 {k m : Nat} (h1 : 1 ≤ k) (h : k ≤ 2046) (hm : m < 2 ^ 52) : FP.dneg (FP.dneg (nx k m)) = nx k m := by
  unfold FP.dneg
  rw [UInt64.xor_assoc, UInt64.xor_self, UInt64.xor_zero]
theorem j_add (x : Nat) : Int64.ofNat x + 1 = Int64.ofNat (x + 1) := (Int64.ofNat_add x 1).symm
theorem j_sub (x : Nat) : Int64.ofNat (x + 1) - 1 = Int64.ofNat x := by rw [← j_add]; exact Int64.add_sub_cancel _ _
theorem or_nat {i a m : Nat} (hm : m < 2 ^ i) (h : a * 2 ^ i + m < 2 ^ 64) : Int64.ofNat (a * 2 ^ i) ||| Int64.ofNat m = Int64.ofNat (a * 2 ^ i + m) := by
  apply Int64.toBitVec_inj.mp
  show BitVec.ofNat 64 (a * 2 ^ i) ||| BitVec.ofNat 64 m = BitVec.ofNat 64 (a * 2 ^ i + m)
  apply BitVec.eq_of_toNat_eq
  rw [BitVec.toNat_or, BitVec.toNat_ofNat, BitVec.toNat_ofNat, BitVec.toNat_ofNat, Nat.mod_eq_of_lt (show a * 2 ^ i < 2 ^ 64 by omega), Nat.mod_eq_of_lt (show m < 2 ^ 64 by omega), Nat.mod_eq_of_lt h, ← Nat.shiftLeft_eq]
  exact (Nat.shiftLeft_add_eq_or_of_lt hm a).symm
theorem shl_nat {k : Nat} (h : k ≤ 2046) : Int64.ofNat k <<< ((nI 52).toInt64 &&& 63) = Int64.ofNat (k * 2 ^ 52) := by
  rw [show ((nI 52).toInt64 &&& 63) = (52 : Int64) by decide]
  apply Int64.toBitVec_inj.mp
  apply BitVec.eq_of_toNat_eq
  show (BitVec.ofNat 64 k <<< ((52#64).smod 64#64).toNat).toNat = (BitVec.ofNat 64 (k * 2 ^ 52)).toNat
  rw [show ((52#64).smod 64#64).toNat = 52 by decide, BitVec.toNat_shiftLeft, BitVec.toNat_ofNat, BitVec.toNat_ofNat, Nat.mod_eq_of_lt (show k < 2 ^ 64 by omega), Nat.shiftLeft_eq]
theorem bits_pos {k m : Nat} (h : k ≤ 2046) (hm : m < 2 ^ 52) : (0 : Int64) ||| Int64.ofNat (k * 2 ^ 52) ||| Int64.ofNat m = (nx k m).toInt64 := by
  rw [show (0 : Int64) ||| Int64.ofNat (k * 2 ^ 52) = Int64.ofNat (k * 2 ^ 52) from Int64.zero_or, or_nat hm (by omega)]
  rfl
theorem bits_neg {k m : Nat} (h1 : 1 ≤ k) (h : k ≤ 2046) (hm : m < 2 ^ 52) : (-9223372036854775808 : Int64) ||| Int64.ofNat (k * 2 ^ 52) ||| Int64.ofNat m = (FP.dneg (nx k m)).toInt64 := by
  rw [show (-9223372036854775808 : Int64) = Int64.ofNat (1 * 2 ^ 63) by decide, or_nat (by omega) (by omega), show 1 * 2 ^ 63 + k * 2 ^ 52 = (2048 + k) * 2 ^ 52 by omega, or_nat hm (by omega)]
  have h9 : FP.dneg (nx k m) = UInt64.ofNat ((2048 + k) * 2 ^ 52 + m) := UInt64.toNat.inj (by rw [dneg_nat h1 h hm, UInt64.toNat_ofNat', Nat.mod_eq_of_lt (by omega)]; omega)
  rw [h9]
  rfl
