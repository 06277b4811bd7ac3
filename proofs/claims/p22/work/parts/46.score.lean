/-! SCORES: the class's folds of whole light, and the law's products -/
def G1 : Nat := 2 ^ 1044
theorem G1_def : G1 = 2 ^ (1074 - 30) := rfl
theorem G1_pos : 0 < G1 := Nat.two_pow_pos _
theorem O1_G : O1 = 2 ^ 30 * G1 := by decide +kernel
theorem G2_G : 2 ^ (1074 - 21) = 512 * G1 := by decide +kernel
theorem div_ac1 {n c S K G O : Nat} (hO : O = K * G) (h : n * c ≤ S * K) : n * G * (c * O) ≤ S * O * O := by
  have e1 : n * G * (c * O) = n * c * (G * O) := by ac_rfl
  have e2 : S * O * O = S * K * (G * O) := by
    rw [show S * O * O = S * (O * O) from Nat.mul_assoc _ _ _]
    conv => lhs; arg 2; arg 1; rw [hO]
    ac_rfl
  rw [e1, e2]
  exact Nat.mul_le_mul_right _ h
theorem div_ac2 {n c S K G O : Nat} (hO : O = K * G) (h : S * K ≤ n * c) : S * O * O ≤ n * G * (c * O) := by
  have e1 : n * G * (c * O) = n * c * (G * O) := by ac_rfl
  have e2 : S * O * O = S * K * (G * O) := by
    rw [show S * O * O = S * (O * O) from Nat.mul_assoc _ _ _]
    conv => lhs; arg 2; arg 1; rw [hO]
    ac_rfl
  rw [e1, e2]
  exact Nat.mul_le_mul_right _ h
theorem mean_lin {Z n c S K G O : Nat} (hO : O = K * G) (h1 : n * c ≤ S * K) (h2 : S * K < (n + 1) * c) (z1 : n * G ≤ Z) (z2 : Z ≤ (n + 1) * G) : ((Z : Int) * c - S * O).natAbs ≤ c * G := by
  have a1 : n * G * c ≤ Z * c := Nat.mul_le_mul_right _ z1
  have a2 : Z * c ≤ (n + 1) * G * c := Nat.mul_le_mul_right _ z2
  have b1 : n * c * G ≤ S * K * G := Nat.mul_le_mul_right _ h1
  have b2 : S * K * G ≤ (n + 1) * c * G := Nat.mul_le_mul_right _ (Nat.le_of_lt h2)
  have e1 : S * O = S * K * G := by rw [hO, Nat.mul_assoc]
  have e2 : n * G * c = n * c * G := by ac_rfl
  have e3 : (n + 1) * G * c = n * c * G + c * G := by rw [Nat.add_mul, Nat.add_mul, Nat.one_mul, e2, Nat.mul_comm G c]
  have e4 : (n + 1) * c * G = n * c * G + c * G := by rw [Nat.add_mul, Nat.add_mul, Nat.one_mul]
  rw [← Int.natCast_mul, ← Int.natCast_mul, e1]
  omega
theorem mean_err {S c : Nat} (hc : 0 < c) (hc2 : c ≤ 1000) (hS : S ≤ 2 ^ 20 * c) : FP.Core.DFin (FP.ddiv (nD S) (nD c)) ∧ 0 ≤ zZ (FP.ddiv (nD S) (nD c)) ∧ zZ (FP.ddiv (nD S) (nD c)) ≤ ((2 ^ 51 * G1 : Nat) : Int) ∧ (zZ (FP.ddiv (nD S) (nD c)) * c - S * (O1 : Int)).natAbs ≤ c * G1 := by
  obtain ⟨n, hn⟩ : ∃ n, n = S * 2 ^ 30 / c := ⟨_, rfl⟩
  have h1 : n * c ≤ S * 2 ^ 30 := by rw [hn]; exact Nat.div_mul_le_self _ _
  have h2 : S * 2 ^ 30 < (n + 1) * c := Nat.lt_of_lt_of_eq (Nat.lt_mul_div_succ (S * 2 ^ 30) hc) (by rw [hn]; exact Nat.mul_comm _ _)
  have hn2 : n ≤ 2 ^ 50 := by
    rw [hn]
    apply Nat.div_le_of_le_mul
    rw [Nat.mul_comm c]
    have := Nat.mul_le_mul_right (2 ^ 30) hS
    omega
  have hO : O1 * 1 = O1 := Nat.mul_one _
  have r1 : Rp (n * G1) := by rw [G1_def]; exact (zR_nat (by omega) (by decide)).2
  have r2 : Rp ((n + 1) * G1) := by rw [G1_def]; exact (zR_nat (by omega) (by decide)).2
  have ht : (n + 1) * G1 < TOP := Nat.lt_of_le_of_lt (Nat.mul_le_mul_right _ (show n + 1 ≤ 2 ^ 51 by omega)) (by decide +kernel)
  have P := Ps_div (Ps_n (n := S) (by omega)) (Ps_n (n := c) (by omega)) (Nat.mul_pos hc O1_pos) r1 r2 (div_ac1 O1_G h1) (div_ac2 O1_G (Nat.le_of_lt h2)) ht
  obtain ⟨⟨qf, q1, q2⟩, sq⟩ := P
  have hz : zZ (FP.ddiv (nD S) (nD c)) = (FP.Core.zmag FP.Core.b64 (FP.Core.val64 (FP.ddiv (nD S) (nD c))) : Int) := zv_pos qf.ne_nan sq
  refine ⟨qf, by rw [hz]; omega, ?_, by rw [hz]; exact mean_lin O1_G h1 h2 q1 q2⟩
  rw [hz]
  exact Int.ofNat_le.mpr (Nat.le_trans q2 (Nat.mul_le_mul_right _ (by omega)))
theorem sc_lin {M m D P : Int} {T S H c G O : Nat} (hO : O = 2 ^ 30 * G) (hG : 0 < G) (hH : H ≤ 1000) (hc : c ≤ 1000) (e1 : (M * H - T * (O : Int)).natAbs ≤ H * G) (e0 : (m * c - S * (O : Int)).natAbs ≤ c * G) (e2 : (D - (M - m)).natAbs ≤ G) (e3 : (P - D * c).natAbs ≤ 512 * G) : 2 * ((H : Int) * P - ((T : Int) * c - S * H) * (O : Int)).natAbs < O := by
  have id : (H : Int) * P - ((T : Int) * c - S * H) * (O : Int) = (H : Int) * (P - D * c) + (H : Int) * c * (D - (M - m)) + c * (M * H - T * (O : Int)) - H * (m * c - S * (O : Int)) := by grind
  have b1 : ((H : Int) * (P - D * c)).natAbs ≤ 1000 * (512 * G) := by rw [Int.natAbs_mul, Int.natAbs_natCast]; exact Nat.mul_le_mul hH e3
  have b2 : ((H : Int) * c * (D - (M - m))).natAbs ≤ 1000 * 1000 * G := by rw [Int.natAbs_mul, Int.natAbs_mul, Int.natAbs_natCast, Int.natAbs_natCast]; exact Nat.mul_le_mul (Nat.mul_le_mul hH hc) e2
  have b3 : ((c : Int) * (M * H - T * (O : Int))).natAbs ≤ 1000 * (1000 * G) := by rw [Int.natAbs_mul, Int.natAbs_natCast]; exact Nat.mul_le_mul hc (Nat.le_trans e1 (Nat.mul_le_mul_right _ hH))
  have b4 : ((H : Int) * (m * c - S * (O : Int))).natAbs ≤ 1000 * (1000 * G) := by rw [Int.natAbs_mul, Int.natAbs_natCast]; exact Nat.mul_le_mul hH (Nat.le_trans e0 (Nat.mul_le_mul_right _ hc))
  rw [id]
  generalize (H : Int) * (P - D * c) = x1 at *
  generalize (H : Int) * c * (D - (M - m)) = x2 at *
  generalize (c : Int) * (M * H - T * (O : Int)) = x3 at *
  generalize (H : Int) * (m * c - S * (O : Int)) = x4 at *
  omega
theorem oe_lin {m1 m2 D : Int} {S1 S2 c1 c2 G O : Nat} (hO : O = 2 ^ 30 * G) (hG : 0 < G) (h1 : c1 ≤ 1000) (h2 : c2 ≤ 1000) (e1 : (m1 * c1 - S1 * (O : Int)).natAbs ≤ c1 * G) (e0 : (m2 * c2 - S2 * (O : Int)).natAbs ≤ c2 * G) (e2 : (D - (m1 - m2)).natAbs ≤ G) : 2 * (((c1 * c2 : Nat) : Int) * D - ((S1 : Int) * c2 - S2 * c1) * (O : Int)).natAbs < O := by
  have id : ((c1 * c2 : Nat) : Int) * D - ((S1 : Int) * c2 - S2 * c1) * (O : Int) = (c1 : Int) * c2 * (D - (m1 - m2)) + c2 * (m1 * c1 - S1 * (O : Int)) - c1 * (m2 * c2 - S2 * (O : Int)) := by
    rw [Int.natCast_mul]
    grind
  have b2 : ((c1 : Int) * c2 * (D - (m1 - m2))).natAbs ≤ 1000 * 1000 * G := by rw [Int.natAbs_mul, Int.natAbs_mul, Int.natAbs_natCast, Int.natAbs_natCast]; exact Nat.mul_le_mul (Nat.mul_le_mul h1 h2) e2
  have b3 : ((c2 : Int) * (m1 * c1 - S1 * (O : Int))).natAbs ≤ 1000 * (1000 * G) := by rw [Int.natAbs_mul, Int.natAbs_natCast]; exact Nat.mul_le_mul h2 (Nat.le_trans e1 (Nat.mul_le_mul_right _ h1))
  have b4 : ((c1 : Int) * (m2 * c2 - S2 * (O : Int))).natAbs ≤ 1000 * (1000 * G) := by rw [Int.natAbs_mul, Int.natAbs_natCast]; exact Nat.mul_le_mul h1 (Nat.le_trans e0 (Nat.mul_le_mul_right _ h2))
  rw [id]
  generalize (c1 : Int) * c2 * (D - (m1 - m2)) = x2 at *
  generalize (c2 : Int) * (m1 * c1 - S1 * (O : Int)) = x3 at *
  generalize (c1 : Int) * (m2 * c2 - S2 * (O : Int)) = x4 at *
  omega
/-- z is within half a part of N parts -/
def Nr (H : Nat) (z N : Int) : Prop := 2 * ((H : Int) * z - N * (O1 : Int)).natAbs < O1
theorem near_g {N Z : Int} {q O : Nat} (h : 2 * ((q : Int) * Z - N * (O : Int)).natAbs < O) : Z.natAbs / O * q ≤ N.natAbs + q ∧ N.natAbs ≤ (Z.natAbs / O + 2) * q := by
  have hO : 0 < O := by omega
  obtain ⟨w, hw⟩ : ∃ w, w = Z.natAbs / O := ⟨_, rfl⟩
  have w1 : w * O ≤ Z.natAbs := by rw [hw]; exact Nat.div_mul_le_self _ _
  have w2 : Z.natAbs < (w + 1) * O := by rw [hw, Nat.mul_comm]; exact Nat.lt_mul_div_succ _ hO
  rw [← hw]
  have e1 : ((q : Int) * Z).natAbs = q * Z.natAbs := by rw [Int.natAbs_mul, Int.natAbs_natCast]
  have e2 : (N * (O : Int)).natAbs = N.natAbs * O := by rw [Int.natAbs_mul, Int.natAbs_natCast]
  have v1 : q * (w * O) ≤ q * Z.natAbs := Nat.mul_le_mul_left _ w1
  have v2 : q * Z.natAbs ≤ q * ((w + 1) * O) := Nat.mul_le_mul_left _ (Nat.le_of_lt w2)
  have f1 : q * (w * O) = w * q * O := by ac_rfl
  have f2 : q * ((w + 1) * O) = w * q * O + q * O := by rw [Nat.add_mul, Nat.one_mul, Nat.mul_add, f1]
  rw [f1] at v1
  rw [f2] at v2
  have k1 : q * Z.natAbs ≤ N.natAbs * O + ((q : Int) * Z - N * (O : Int)).natAbs := by omega
  have k2 : N.natAbs * O ≤ q * Z.natAbs + ((q : Int) * Z - N * (O : Int)).natAbs := by omega
  constructor
  · apply Nat.le_of_not_lt
    intro c
    have c1 : (N.natAbs + q + 1) * O ≤ w * q * O := Nat.mul_le_mul_right _ c
    rw [Nat.add_mul, Nat.add_mul, Nat.one_mul] at c1
    omega
  · apply Nat.le_of_not_lt
    intro c
    have c1 : ((w + 2) * q + 1) * O ≤ N.natAbs * O := Nat.mul_le_mul_right _ c
    rw [Nat.add_mul, Nat.add_mul, Nat.add_mul, Nat.one_mul, Nat.mul_assoc 2 q O] at c1
    omega
theorem near_le {N1 N2 Z1 Z2 : Int} {H O : Nat} (h1 : 2 * ((H : Int) * Z1 - N1 * (O : Int)).natAbs < O) (h2 : 2 * ((H : Int) * Z2 - N2 * (O : Int)).natAbs < O) (h : Z1 ≤ Z2) : N1 ≤ N2 := by
  apply Int.le_of_not_gt
  intro c
  have a1 : (H : Int) * Z1 ≤ H * Z2 := Int.mul_le_mul_of_nonneg_left h (Int.natCast_nonneg _)
  have a2 : (N2 + 1) * (O : Int) ≤ N1 * O := Int.mul_le_mul_of_nonneg_right c (Int.natCast_nonneg _)
  rw [Int.add_mul, Int.one_mul] at a2
  omega
theorem Nr.le {N1 N2 Z1 Z2 : Int} {H : Nat} (h1 : Nr H Z1 N1) (h2 : Nr H Z2 N2) (h : Z1 ≤ Z2) : N1 ≤ N2 := near_le h1 h2 h
theorem Nr.lt {N1 N2 Z1 Z2 : Int} {H : Nat} (h1 : Nr H Z1 N1) (h2 : Nr H Z2 N2) (h : N1 < N2) : Z1 < Z2 := by
  apply Int.lt_of_not_ge
  intro c
  have := near_le h2 h1 c
  omega
theorem Nr.near {N Z : Int} {q : Nat} (h : Nr q Z N) : Z.natAbs / O1 * q ≤ N.natAbs + q ∧ N.natAbs ≤ (Z.natAbs / O1 + 2) * q := near_g h
theorem Nr_nat (H t : Nat) : Nr H ((t * O1 : Nat) : Int) ((t * H : Nat) : Int) := by
  unfold Nr
  have e : (H : Int) * ((t * O1 : Nat) : Int) - ((t * H : Nat) : Int) * (O1 : Int) = 0 := by
    rw [← Int.natCast_mul, ← Int.natCast_mul, show H * (t * O1) = t * H * O1 from (Nat.mul_left_comm H t O1).trans (Nat.mul_assoc t H O1).symm, Int.sub_self]
  rw [e]
  exact O1_pos
theorem zZ_n {t : Nat} (h : t < 2 ^ 31) : zZ (nD t) = ((t * O1 : Nat) : Int) := by
  obtain ⟨⟨yf, y1, y2⟩, sy⟩ := Ps_n h
  show FP.Core.zval FP.Core.b64 (FP.Core.val64 (nD t)) = _
  rw [zv_pos yf.ne_nan sy, Nat.le_antisymm y2 y1]
theorem dc_pos {x y : UInt64} (hx : FP.Core.DFin x) (hy : FP.Core.DFin y) : 0 < dc x y ↔ zZ y < zZ x := by
  have h : FP.dcmp x y = some (compare (zZ x) (zZ y)) := FP.Core.dcmp_zval hx.ne_nan hy.ne_nan
  unfold dc
  rw [h, FP.Core.compare_ite]
  by_cases c : zZ x < zZ y
  · rw [if_pos c]
    exact ⟨fun z => absurd z (by decide), fun z => by omega⟩
  · rw [if_neg c]
    by_cases d : zZ x = zZ y
    · rw [if_pos d]
      exact ⟨fun z => absurd z (by decide), fun z => by omega⟩
    · rw [if_neg d]
      exact ⟨fun _ => by omega, fun _ => by decide⟩
/-- the class's folds at whole light G -/
def gD (G : Nat → Nat) : Nat → UInt64 := fun h => nD (G h)
theorem nD_ne {n : Nat} (hn : n < 2 ^ 31) : nD n ≠ 0 ↔ n ≠ 0 := by
  constructor
  · rintro h rfl; exact h nD_0
  · intro h0 e
    obtain ⟨-, b, b1, b2, b3, b4⟩ := nD_bits (n := n) (by omega) hn
    rw [e] at b3
    have : (0 : UInt64).toNat / 2 ^ 52 = 0 := by decide
    omega
/-- t tells the hours that have light, G what light -/
def GT (G t : Nat → Nat) : Prop := (∀ h, G h ≤ 2 ^ 20) ∧ (∀ h, t h ≠ 0 ↔ G h ≠ 0) ∧ ∀ h, 1000 ≤ h → t h = 0
theorem gD_ne {G t : Nat → Nat} (h : GT G t) (x : Nat) : gD G x ≠ 0 ↔ t x ≠ 0 := (nD_ne (by have := h.1 x; omega)).trans (h.2.1 x).symm
theorem fC_c {G t : Nat → Nat} (h : GT G t) (p : Nat) : ∀ n j, fC (gD G) p n j = cN t p n j
  | 0, _ => rfl
  | n + 1, j => by
    rw [fC, cN, fC_c h p n j]
    by_cases c : t n ≠ 0 ∧ n % p = j
    · rw [if_pos c, if_pos ⟨(gD_ne h n).mpr c.1, c.2⟩]
    · rw [if_neg c, if_neg (fun z => c ⟨(gD_ne h n).mp z.1, z.2⟩)]
theorem fN_c {G t : Nat → Nat} (h : GT G t) : ∀ n, fN (gD G) n = cN t 1 n 0
  | 0 => rfl
  | n + 1 => by
    rw [fN, cN, fN_c h n]
    by_cases c : t n ≠ 0
    · rw [if_pos ((gD_ne h n).mpr c), if_pos ⟨c, Nat.mod_one n⟩]
    · rw [if_neg (fun z => c ((gD_ne h n).mp z)), if_neg (fun z => c z.1)]
theorem fS_s {G t : Nat → Nat} (h : GT G t) (p : Nat) : ∀ n j, n ≤ 1000 → fS (gD G) p n j = nD (sN G p n j)
  | 0, _, _ => nD_0.symm
  | n + 1, j, hn => by
    have ih := fS_s h p n j (by omega)
    have hb := sN_le h.1 p n j
    have hg := h.1 n
    rw [fS, sN, ih]
    by_cases c : t n ≠ 0
    · by_cases d : n % p = j
      · rw [if_pos ⟨(gD_ne h n).mpr c, d⟩, if_pos d]
        exact nD_add (by omega)
      · rw [if_neg (fun z => d z.2), if_neg d]
    · have e : G n = 0 := Decidable.byContradiction (fun z => c ((h.2.1 n).mpr z))
      rw [if_neg (fun z => c ((gD_ne h n).mp z.1)), e, Nat.add_zero, ite_self]
theorem fT_s {G t : Nat → Nat} (h : GT G t) : ∀ n, n ≤ 1000 → fT (gD G) n = nD (sN G 1 n 0)
  | 0, _ => nD_0.symm
  | n + 1, hn => by
    have ih := fT_s h n (by omega)
    have hb := sN_le h.1 1 n 0
    have hg := h.1 n
    rw [fT, sN, ih, if_pos (Nat.mod_one n)]
    by_cases c : t n ≠ 0
    · rw [if_pos ((gD_ne h n).mpr c)]
      exact nD_add (by omega)
    · have e : G n = 0 := Decidable.byContradiction (fun z => c ((h.2.1 n).mpr z))
      rw [if_neg (fun z => c ((gD_ne h n).mp z)), e, Nat.add_zero]
theorem sN_cN {G t : Nat → Nat} (h : GT G t) (p : Nat) : ∀ n j, sN G p n j ≤ 2 ^ 20 * cN t p n j
  | 0, _ => Nat.le_refl _
  | n + 1, j => by
    have ih := sN_cN h p n j
    have hg := h.1 n
    rw [sN, cN]
    by_cases d : n % p = j
    · by_cases c : t n ≠ 0
      · rw [if_pos d, if_pos ⟨c, d⟩]; omega
      · have e : G n = 0 := Decidable.byContradiction (fun z => c ((h.2.1 n).mpr z))
        rw [if_pos d, if_neg (fun z => c z.1), e]; omega
    · rw [if_neg d, if_neg (fun z => d z.2)]; exact ih
/-- hours kept, all light; a fold's score times the hours -/
def hG (t : Nat → Nat) : Nat := cN t 1 1000 0
def tG (G : Nat → Nat) : Nat := sN G 1 1000 0
def scN (G t : Nat → Nat) (p j : Nat) : Int := (tG G : Int) * cN t p 1000 j - (sN G p 1000 j : Int) * hG t
theorem scN_b {G t : Nat → Nat} (h : GT G t) (p j : Nat) : -2 ^ 60 < scN G t p j ∧ scN G t p j < 2 ^ 60 := by
  have a1 := sN_le h.1 p 1000 j
  have a2 : tG G ≤ 2 ^ 20 * 1000 := sN_le h.1 1 1000 0
  have a3 := cN_le t p 1000 j
  have a4 : hG t ≤ 1000 := cN_le t 1 1000 0
  have b1 := Nat.mul_le_mul a2 a3
  have b2 := Nat.mul_le_mul a1 a4
  unfold scN
  rw [← Int.natCast_mul, ← Int.natCast_mul]
  omega
theorem sc_near {G t : Nat → Nat} (h : GT G t) {p j : Nat} (hc : 0 < cN t p 1000 j) (hh : 0 < hG t) : FP.Core.DFin (scF (gD G) p j) ∧ Nr (hG t) (zZ (scF (gD G) p j)) (scN G t p j) ∧ (zZ (scF (gD G) p j)).natAbs < 2 ^ 53 * O1 := by
  have hc2 := cN_le t p 1000 j
  have hh2 : hG t ≤ 1000 := cN_le t 1 1000 0
  have hT : tG G ≤ 2 ^ 20 * hG t := sN_cN h 1 1000 0
  have e1 : mnT (gD G) = FP.ddiv (nD (tG G)) (nD (hG t)) := by
    unfold mnT
    rw [fN_c h, if_pos (show 0 < cN t 1 1000 0 from hh), fT_s h 1000 (Nat.le_refl _)]
    rfl
  have e2 : mf (fS (gD G) p 1000) (fC (gD G) p 1000) j = FP.ddiv (nD (sN G p 1000 j)) (nD (cN t p 1000 j)) := by
    unfold mf
    rw [fC_c h, if_pos hc, fS_s h p 1000 j (Nat.le_refl _)]
  have e3 : scF (gD G) p j = FP.dmul (FP.dsub (FP.ddiv (nD (tG G)) (nD (hG t))) (FP.ddiv (nD (sN G p 1000 j)) (nD (cN t p 1000 j)))) (nD (cN t p 1000 j)) := by
    unfold scF sf
    rw [fC_c h, if_pos hc, e1, e2]
  obtain ⟨f1, p1, q1, r1⟩ := mean_err hh hh2 hT
  obtain ⟨f2, p2, q2, r2⟩ := mean_err hc hc2 (sN_cN h p 1000 j)
  generalize FP.ddiv (nD (tG G)) (nD (hG t)) = M at *
  generalize FP.ddiv (nD (sN G p 1000 j)) (nD (cN t p 1000 j)) = m at *
  obtain ⟨f3, r3⟩ := dsub_err (k := 30) (B := 2 ^ 51) f1 f2 (by decide) (by decide) (by rw [← G1_def]; omega) (by decide +kernel)
  have r3 : (zZ (FP.dsub M m) - (zZ M - zZ m)).natAbs ≤ G1 := r3
  generalize FP.dsub M m = D at *
  have hD : (zZ D * (cN t p 1000 j : Int)).natAbs ≤ 2 ^ 52 * 2 ^ (1074 - 21) := by
    rw [G2_G, Int.natAbs_mul, Int.natAbs_natCast]
    have a1 : (zZ D).natAbs ≤ (2 ^ 51 + 1) * G1 := by
      rw [Nat.add_mul, Nat.one_mul]
      omega
    have a2 := Nat.mul_le_mul a1 hc2
    have a3 : (2 ^ 51 + 1) * G1 * 1000 = ((2 ^ 51 + 1) * 1000) * G1 := by rw [Nat.mul_right_comm]
    rw [a3] at a2
    refine Nat.le_trans a2 ?_
    rw [← Nat.mul_assoc]
    exact Nat.mul_le_mul_right _ (by decide)
  obtain ⟨f4, r4⟩ := dmul_err (k := 21) (B := 2 ^ 52) (c := cN t p 1000 j) f3 (by omega) (by decide) (by decide) hD (by decide +kernel)
  rw [G2_G] at r4
  rw [e3]
  refine ⟨f4, ?_, ?_⟩
  · unfold Nr scN
    exact sc_lin O1_G G1_pos hh2 hc2 r1 r2 r3 r4
  · rw [G2_G, ← Nat.mul_assoc] at hD
    have e9 : 2 ^ 53 * O1 = 2 ^ 53 * 2 ^ 30 * G1 := by rw [O1_G, Nat.mul_assoc]
    rw [e9]
    have hg := G1_pos
    omega
