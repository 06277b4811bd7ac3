/-! DOUBLES of whole numbers: products, sums, bits -/
theorem nD_l {n : Nat} (h : n < 2 ^ 31) : nD n = FP.Core.l2d (lN n) := (FP.Core.i2d_l2d (nI n)).trans (by rw [nI_long h])
theorem lN_53 {n : Nat} (h : n < 2 ^ 31) : FP.Core.Small53 (lN n) := by
  unfold FP.Core.Small53
  rw [jN_toInt (by omega)]
  omega
theorem nD_add {a b : Nat} (h : a + b < 2 ^ 31) : FP.dadd (nD a) (nD b) = nD (a + b) := by
  rw [nD_l (show a < 2 ^ 31 by omega), nD_l (show b < 2 ^ 31 by omega), nD_l h]
  exact (FP.Core.dadd_l2d (lN_53 (by omega)) (lN_53 (by omega))).trans (by rw [lN_add])
theorem nD_0 : nD 0 = 0 := by decide +kernel
theorem Ps_nD {n : Nat} {x : UInt64} (hn : n < 2 ^ 31) (h : Ps (n * O1) (n * O1) x) : x = nD n := by
  obtain ⟨⟨xf, x1, x2⟩, sx⟩ := h
  obtain ⟨⟨yf, y1, y2⟩, sy⟩ := Ps_n hn
  have e := Nat.le_antisymm (Nat.le_trans x2 y1) (Nat.le_trans y2 x1)
  rw [FP.Core.zmag_bits xf.ne_nan, FP.Core.zmag_bits yf.ne_nan] at e
  have h1 := FP.Core.unitsOf_le_iff.mp (Nat.le_of_eq e)
  have h2 := FP.Core.unitsOf_le_iff.mp (Nat.le_of_eq e.symm)
  exact UInt64.toNat.inj (by omega)
def E8 : Nat := 2 ^ 1071
theorem O1_8 : O1 = 8 * E8 := by decide +kernel
theorem quo_125 : quo 125 = 4606056518893174784 := by decide +kernel
theorem quo_z : quo 0 = FP.Core.dconst1 := by decide +kernel
theorem Ps_78 : Ps (7 * E8) (7 * E8) 4606056518893174784 := by
  have hf : FP.Core.DFin 4606056518893174784 := (FP.Core.fin_bits _).mpr (by decide +kernel)
  have hz : FP.Core.zmag FP.Core.b64 (FP.Core.val64 4606056518893174784) = 7 * E8 := by decide +kernel
  exact ⟨⟨hf, Nat.le_of_eq hz.symm, Nat.le_of_eq hz⟩, by decide⟩
theorem ac_78 (m z y : Nat) : 7 * m * z * (8 * y) = 8 * m * z * (7 * y) := by ac_rfl
theorem dmul_78 {m : Nat} (h : 8 * m < 2 ^ 31) : FP.dmul (nD (8 * m)) (quo 125) = nD (7 * m) := by
  rw [quo_125]
  have e : 7 * m * O1 * O1 = 8 * m * O1 * (7 * E8) := by
    have := ac_78 m O1 E8
    rwa [← O1_8] at this
  exact Ps_nD (by omega) (Ps_mul (Ps_n h) Ps_78 (Rp_w (by omega)) (Rp_w (by omega)) (Nat.le_of_eq e) (Nat.le_of_eq e.symm) (lt_top (by omega)))
theorem dmul_qz {n : Nat} : FP.dmul (nD n) (quo 0) = nD n := by
  rw [quo_z]
  exact FP.Core.dmul_one (FP.Core.i2d_fin _).ne_nan
/-- the light behind the first k planets, each taking an eighth -/
def lwF (own h : Nat) (per ph len : Nat → Nat) : Nat → Nat
  | 0 => own
  | k + 1 => if (h + per k - ph k) % per k < len k then lwF own h per ph len k / 8 * 7 else lwF own h per ph len k
theorem lwF_le (own h : Nat) (per ph len : Nat → Nat) : ∀ k, lwF own h per ph len k ≤ own
  | 0 => Nat.le_refl _
  | k + 1 => by
    have := lwF_le own h per ph len k
    unfold lwF
    split <;> omega
theorem lwF_dvd {own h m : Nat} {per ph len : Nat → Nat} (ho : own = 4096 * m) : ∀ k, k ≤ 4 → ∃ r, lwF own h per ph len k = 8 ^ (4 - k) * r ∧ (0 < m → 0 < r)
  | 0, _ => ⟨m, ho, id⟩
  | k + 1, hk => by
    obtain ⟨r, hr, h0⟩ := lwF_dvd (h := h) (per := per) (ph := ph) (len := len) ho k (by omega)
    have e : 8 ^ (4 - k) = 8 * 8 ^ (4 - (k + 1)) := by rw [show 4 - k = (4 - (k + 1)) + 1 by omega, Nat.pow_succ, Nat.mul_comm]
    rw [e] at hr
    unfold lwF
    split
    · refine ⟨7 * r, ?_, fun z => by have := h0 z; omega⟩
      rw [hr, show 8 * 8 ^ (4 - (k + 1)) * r = 8 * (8 ^ (4 - (k + 1)) * r) from Nat.mul_assoc _ _ _, Nat.mul_div_cancel_left _ (by decide : 0 < 8)]
      ac_rfl
    · refine ⟨8 * r, ?_, fun z => by have := h0 z; omega⟩
      rw [hr]; ac_rfl
theorem lwF_8 {own h m : Nat} {per ph len : Nat → Nat} (ho : own = 4096 * m) {k : Nat} (hk : k < 4) : ∃ x, lwF own h per ph len k = 8 * x := by
  obtain ⟨r, hr, -⟩ := lwF_dvd (h := h) (per := per) (ph := ph) (len := len) ho k (by omega)
  refine ⟨8 ^ (4 - (k + 1)) * r, ?_⟩
  rw [hr, show 4 - k = (4 - (k + 1)) + 1 by omega, Nat.pow_succ]
  ac_rfl
theorem lwF_pos {own h m : Nat} {per ph len : Nat → Nat} (ho : own = 4096 * m) (hm : 0 < m) {k : Nat} (hk : k ≤ 4) : 0 < lwF own h per ph len k := by
  obtain ⟨r, hr, h0⟩ := lwF_dvd (h := h) (per := per) (ph := ph) (len := len) ho k hk
  rw [hr]
  exact Nat.mul_pos (Nat.pow_pos (by decide)) (h0 hm)
theorem lF_nat {own h m n : Nat} {per ph len dep : Nat → Nat} (ho : own = 4096 * m) (hb : own < 2 ^ 31) (hn : n ≤ 4) (hd : ∀ k, k < n → dep k = 125) : ∀ k, k ≤ n → lF own h per ph len dep k = nD (lwF own h per ph len k)
  | 0, _ => rfl
  | k + 1, hk => by
    have ih := lF_nat (h := h) (per := per) (ph := ph) (len := len) ho hb hn hd k (by omega)
    obtain ⟨x, hx⟩ := lwF_8 (h := h) (per := per) (ph := ph) (len := len) ho (k := k) (by omega)
    have hl := lwF_le own h per ph len k
    rw [lF, lwF, ih, hd k (by omega), hx]
    split
    · rw [dmul_78 (by omega), Nat.mul_div_cancel_left _ (by decide : 0 < 8), Nat.mul_comm]
    · rfl
theorem lV_nat {own h m n spin bl : Nat} {per ph len dep : Nat → Nat} (ho : own = 4096 * m) (hb : own + bl < 2 ^ 31) (hn : n ≤ 4) (hd : ∀ k, k < n → dep k = 125) : lV own h n spin 0 bl per ph len dep = nD (lwF own h per ph len n + bl) := by
  have e := lF_nat (h := h) (per := per) (ph := ph) (len := len) ho (by omega) hn hd n (Nat.le_refl n)
  have hl := lwF_le own h per ph len n
  have e2 : lS own h n spin 0 per ph len dep = nD (lwF own h per ph len n) := by
    unfold lS
    rw [e, dmul_qz, ite_self]
  rw [lV, e2, nD_add (by omega)]
/-- the bits of a whole number's double -/
theorem units_1 {M : Nat} (h : 2 ^ 52 ≤ M) : FP.Core.unitsOf FP.Core.b64 M = (2 ^ 52 + M % 2 ^ 52) * 2 ^ (M / 2 ^ 52 - 1) := by
  unfold FP.Core.unitsOf
  rw [FP.Core.tails_b64, if_neg (by omega)]
theorem units_0 {M : Nat} (h : M < 2 ^ 52) : FP.Core.unitsOf FP.Core.b64 M = M := by
  unfold FP.Core.unitsOf
  rw [FP.Core.tails_b64, if_pos h]
theorem O1_pow : O1 = 2 ^ 1074 := by decide +kernel
theorem O1_big : 2 ^ 52 < O1 := by decide +kernel
theorem wp_pw {a b : Nat} (h : a ≤ b) : 2 ^ b = 2 ^ a * 2 ^ (b - a) := by rw [← Nat.pow_add]; congr 1; omega
theorem cut_pow {a n : Nat} {k j : Nat} (hk : k ≤ j) (h : a * 2 ^ k = n * 2 ^ j) : a = n * 2 ^ (j - k) := by
  rw [wp_pw hk, ← Nat.mul_assoc, Nat.mul_right_comm] at h
  exact Nat.eq_of_mul_eq_mul_right (Nat.two_pow_pos k) h
theorem by_of {n M T : Nat} (hT : 52 ≤ T) (h0 : 0 < n) (hn : n < 2 ^ 31) (h : FP.Core.unitsOf FP.Core.b64 M = n * 2 ^ T) : ∃ b, 21 ≤ b ∧ b ≤ 52 ∧ M / 2 ^ 52 + b = T + 1 ∧ 2 ^ 52 + M % 2 ^ 52 = n * 2 ^ b := by
  have hP : 2 ^ 52 ≤ 2 ^ T := Nat.pow_le_pow_right (by decide) hT
  have hM : 2 ^ 52 ≤ M := by
    apply Nat.le_of_not_lt
    intro c
    rw [units_0 c] at h
    have := Nat.mul_le_mul_right (2 ^ T) (show 1 ≤ n from h0)
    omega
  rw [units_1 hM] at h
  obtain ⟨E, hE⟩ : ∃ E, M / 2 ^ 52 = E + 1 := ⟨M / 2 ^ 52 - 1, by omega⟩
  rw [hE, Nat.add_sub_cancel] at h
  have hET : E ≤ T := by
    apply Nat.le_of_not_lt
    intro c
    have c1 : 2 ^ T * 2 ≤ 2 ^ E := by rw [← Nat.pow_succ]; exact Nat.pow_le_pow_right (by decide) c
    have c2 : 2 ^ 52 * (2 ^ T * 2) ≤ (2 ^ 52 + M % 2 ^ 52) * 2 ^ E := Nat.mul_le_mul (Nat.le_add_right _ _) c1
    rw [h] at c2
    have c3 : n * 2 ^ T < 2 ^ 31 * 2 ^ T := Nat.mul_lt_mul_of_pos_right hn (Nat.two_pow_pos T)
    generalize n * 2 ^ T = x at *
    generalize 2 ^ T = y at *
    omega
  have e := cut_pow hET h
  have hF : M % 2 ^ 52 < 2 ^ 52 := Nat.mod_lt _ (by decide)
  refine ⟨T - E, ?_, ?_, by omega, e⟩
  · apply Nat.le_of_not_lt
    intro c
    have c1 : 2 ^ (T - E) ≤ 2 ^ 20 := Nat.pow_le_pow_right (by decide) (by omega)
    have c2 := Nat.mul_le_mul (Nat.le_of_lt hn) c1
    omega
  · apply Nat.le_of_not_lt
    intro c
    have c1 : 2 ^ 53 ≤ 2 ^ (T - E) := Nat.pow_le_pow_right (by decide) (by omega)
    have c2 := Nat.mul_le_mul (show 1 ≤ n from h0) c1
    omega
theorem nD_bits {n : Nat} (h0 : 0 < n) (hn : n < 2 ^ 31) : (nD n).toNat < 2 ^ 63 ∧ ∃ b, 21 ≤ b ∧ b ≤ 52 ∧ (nD n).toNat / 2 ^ 52 + b = 1075 ∧ 2 ^ 52 + (nD n).toNat % 2 ^ 52 = n * 2 ^ b := by
  obtain ⟨⟨yf, y1, y2⟩, sy⟩ := Ps_n hn
  have e := Nat.le_antisymm y2 y1
  rw [FP.Core.zmag_bits yf.ne_nan, Nat.mod_eq_of_lt sy, O1_pow] at e
  exact ⟨sy, by_of (T := 1074) (by decide) h0 hn e⟩
/-- the whole part of a double, by its bits -/
def wholeN (n : Nat) : Nat := if n % 2 ^ 63 = 0 then 0 else if 60 < 1075 - n / 2 ^ 52 % 2048 then 0 else (2 ^ 52 + n % 2 ^ 52) / 2 ^ (1075 - n / 2 ^ 52 % 2048)
theorem wh_T {M T : Nat} (hT : 60 ≤ T) (h : FP.Core.unitsOf FP.Core.b64 M < 2 ^ 53 * 2 ^ T) : M / 2 ^ 52 ≤ T + 1 ∧ FP.Core.unitsOf FP.Core.b64 M / 2 ^ T = if M = 0 then 0 else if 60 < T + 1 - M / 2 ^ 52 then 0 else (2 ^ 52 + M % 2 ^ 52) / 2 ^ (T + 1 - M / 2 ^ 52) := by
  have hP : 2 ^ 60 ≤ 2 ^ T := Nat.pow_le_pow_right (by decide) hT
  rcases Nat.lt_or_ge M (2 ^ 52) with c | c
  · have e0 : M / 2 ^ 52 = 0 := Nat.div_eq_of_lt c
    rw [units_0 c, e0, Nat.div_eq_of_lt (by omega)]
    refine ⟨Nat.zero_le _, ?_⟩
    split
    · rfl
    · rw [if_pos (by omega)]
  · obtain ⟨E, hE⟩ : ∃ E, M / 2 ^ 52 = E + 1 := ⟨M / 2 ^ 52 - 1, by omega⟩
    rw [units_1 c, hE, Nat.add_sub_cancel] at h ⊢
    have hF : M % 2 ^ 52 < 2 ^ 52 := Nat.mod_lt _ (by decide)
    have hET : E ≤ T := by
      apply Nat.le_of_not_lt
      intro d
      have c1 : 2 ^ T * 2 ≤ 2 ^ E := by rw [← Nat.pow_succ]; exact Nat.pow_le_pow_right (by decide) d
      have c2 : 2 ^ 52 * (2 ^ T * 2) ≤ (2 ^ 52 + M % 2 ^ 52) * 2 ^ E := Nat.mul_le_mul (Nat.le_add_right _ _) c1
      have c3 := Nat.lt_of_le_of_lt c2 h
      generalize 2 ^ T = y at *
      omega
    refine ⟨by omega, ?_⟩
    rw [wp_pw hET, Nat.mul_comm (2 ^ E), Nat.mul_div_mul_right _ _ (Nat.two_pow_pos E), if_neg (by omega), show T + 1 - (E + 1) = T - E by omega]
    split
    · rename_i d
      have c1 : 2 ^ 61 ≤ 2 ^ (T - E) := Nat.pow_le_pow_right (by decide) d
      exact Nat.div_eq_of_lt (by omega)
    · rfl
theorem wholeN_eq {x : UInt64} (hf : FP.Core.DFin x) (hb : FP.Core.zmag FP.Core.b64 (FP.Core.val64 x) < 2 ^ 53 * O1) : x.toNat / 2 ^ 52 % 2048 ≤ 1075 ∧ wholeN x.toNat = FP.Core.zmag FP.Core.b64 (FP.Core.val64 x) / O1 := by
  rw [FP.Core.zmag_bits hf.ne_nan, O1_pow] at hb ⊢
  have h := wh_T (T := 1074) (by decide) hb
  have e1 : x.toNat % 2 ^ 63 / 2 ^ 52 = x.toNat / 2 ^ 52 % 2048 := by omega
  have e2 : x.toNat % 2 ^ 63 % 2 ^ 52 = x.toNat % 2 ^ 52 := by omega
  rw [e1, e2] at h
  exact ⟨h.1, h.2.symm⟩
