/-! BEST FOLDS, best periods, odd dips beside even ones, at whole light -/
theorem bfG_max {mn : UInt64} {sg : Nat → UInt64} {cg : Nat → Nat} (hf : ∀ j, 0 < cg j → FP.Core.DFin (sf mn sg cg j)) : ∀ k b, bfG mn sg cg k = some b → ∀ j, j < k → 0 < cg j → zZ (sf mn sg cg j) ≤ zZ (sf mn sg cg b)
  | 0, _, h, _, _, _ => by cases h
  | k + 1, b, h, j, hj, hc => by
    by_cases ck : 0 < cg k
    · cases hb : bfG mn sg cg k with
      | none =>
        rw [bfG_1 ck hb] at h
        cases h
        by_cases e : j = k
        · subst e; exact Int.le_refl _
        · have := bfG_none k hb j (by omega); omega
      | some b2 =>
        have ih := bfG_max hf k b2 hb
        have hb2 := (bfG_lt k b2 hb).2
        by_cases hd : 0 < dc (sf mn sg cg k) (sf mn sg cg b2)
        · rw [bfG_2 ck hb hd] at h
          cases h
          have h1 := (dc_pos (hf k ck) (hf b2 hb2)).mp hd
          by_cases e : j = k
          · subst e; exact Int.le_refl _
          · have := ih j (by omega) hc; omega
        · rw [bfG_3 ck hb (by omega)] at h
          cases h
          have h1 := mt (dc_pos (hf k ck) (hf b hb2)).mpr hd
          by_cases e : j = k
          · subst e; omega
          · exact ih j (by omega) hc
    · rw [bfG_no ck] at h
      by_cases e : j = k
      · subst e; exact absurd hc ck
      · exact bfG_max hf k b h j (by omega) hc
theorem bf_facts {G t : Nat → Nat} (h : GT G t) (hh : 0 < hG t) {p : Nat} (hp : 0 < p) : ∃ b, bFo (gD G) p = some b ∧ b < p ∧ 0 < cN t p 1000 b ∧ scB (gD G) p = scF (gD G) p b ∧ ∀ j, j < p → 0 < cN t p 1000 j → scN G t p j ≤ scN G t p b := by
  obtain ⟨b, h1, h2, h3⟩ := bFo_some (g := gD G) hp (by rw [fN_c h]; exact hh)
  have hcb : 0 < cN t p 1000 b := by rw [← fC_c h]; exact h3
  refine ⟨b, h1, h2, hcb, (scB_at h1).symm, fun j hj hc => ?_⟩
  have hm := bfG_max (mn := mnT (gD G)) (sg := fS (gD G) p 1000) (cg := fC (gD G) p 1000) (fun i hi => (sc_near h (by rw [← fC_c h]; exact hi) hh).1) p b h1 j hj (by rw [fC_c h]; exact hc)
  exact (sc_near h hc hh).2.1.le (sc_near h hcb hh).2.1 hm
/-- the greatest score of a period, as the law finds it -/
def moN (G t : Nat → Nat) (p : Nat) : Nat → Int
  | 0 => -2 ^ 60
  | k + 1 => if cN t p 1000 k = 0 then moN G t p k else if moN G t p k < scN G t p k then scN G t p k else moN G t p k
def moP (G t : Nat → Nat) (p : Nat) : Int := moN G t p p
theorem moN_b {G t : Nat → Nat} (h : GT G t) (p : Nat) : ∀ k, -2 ^ 60 ≤ moN G t p k ∧ moN G t p k < 2 ^ 60
  | 0 => by unfold moN; omega
  | k + 1 => by
    have := moN_b h p k
    have := scN_b h p k
    unfold moN
    split
    · assumption
    · split <;> omega
theorem moN_le {G t : Nat → Nat} {p : Nat} {B : Int} (hB : -2 ^ 60 ≤ B) : ∀ k, (∀ j, j < k → 0 < cN t p 1000 j → scN G t p j ≤ B) → moN G t p k ≤ B
  | 0, _ => hB
  | k + 1, h => by
    have ih := moN_le hB k (fun j hj => h j (by omega))
    unfold moN
    split
    · exact ih
    · rename_i c
      have := h k (by omega) (by omega)
      split <;> omega
theorem moN_ge {G t : Nat → Nat} {p : Nat} : ∀ k j, j < k → 0 < cN t p 1000 j → scN G t p j ≤ moN G t p k
  | 0, _, hj, _ => absurd hj (Nat.not_lt_zero _)
  | k + 1, j, hj, hc => by
    unfold moN
    by_cases e : j = k
    · subst e
      rw [if_neg (by omega)]
      split <;> omega
    · have ih := moN_ge (G := G) (t := t) (p := p) k j (by omega) hc
      split
      · exact ih
      · split <;> omega
theorem moP_at {G t : Nat → Nat} (h : GT G t) (hh : 0 < hG t) {p : Nat} (hp : 0 < p) {b : Nat} (hb : bFo (gD G) p = some b) : moP G t p = scN G t p b := by
  obtain ⟨b2, h1, h2, h3, h4, h5⟩ := bf_facts h hh hp
  rw [hb] at h1
  cases h1
  have a1 := moN_le (G := G) (t := t) (p := p) (B := scN G t p b) (by have := scN_b h p b; omega) p h5
  have a2 := moN_ge (G := G) (t := t) (p := p) p b h2 h3
  unfold moP
  omega
theorem scB_near {G t : Nat → Nat} (h : GT G t) (hh : 0 < hG t) {p : Nat} (hp : 0 < p) : FP.Core.DFin (scB (gD G) p) ∧ Nr (hG t) (zZ (scB (gD G) p)) (moP G t p) ∧ (zZ (scB (gD G) p)).natAbs < 2 ^ 53 * O1 := by
  obtain ⟨b, h1, h2, h3, h4, h5⟩ := bf_facts h hh hp
  rw [h4, moP_at h hh hp h1]
  exact sc_near h h3 hh
theorem pdS_max {g : Nat → UInt64} (hf : ∀ p, 0 < p → FP.Core.DFin (scB g p)) : ∀ k, ∃ q, pdS g k = (q, scB g q) ∧ 2 ≤ q ∧ q ≤ k + 2 ∧ ∀ p, 2 ≤ p → p ≤ k + 2 → zZ (scB g p) ≤ zZ (scB g q)
  | 0 => ⟨2, rfl, Nat.le_refl _, Nat.le_refl _, fun p h1 h2 => by rw [show p = 2 by omega]; exact Int.le_refl _⟩
  | k + 1 => by
    obtain ⟨q, h1, h2, h3, h4⟩ := pdS_max hf k
    have e : pdS g (k + 1) = if 0 < dc (scB g (k + 3)) (scB g q) then (k + 3, scB g (k + 3)) else (q, scB g q) := by rw [pdS, h1]
    by_cases c : 0 < dc (scB g (k + 3)) (scB g q)
    · rw [if_pos c] at e
      have h5 := (dc_pos (hf _ (by omega)) (hf _ (by omega))).mp c
      refine ⟨k + 3, e, by omega, by omega, fun p p1 p2 => ?_⟩
      by_cases d : p = k + 3
      · subst d; exact Int.le_refl _
      · have := h4 p p1 (by omega); omega
    · rw [if_neg c] at e
      have h5 := mt (dc_pos (hf _ (by omega)) (hf _ (by omega))).mpr c
      refine ⟨q, e, h2, by omega, fun p p1 p2 => ?_⟩
      by_cases d : p = k + 3
      · subst d; omega
      · exact h4 p p1 (by omega)
/-- the greatest score of all periods, as the law finds it: behind 2 .. k + 1 -/
def moA (G t : Nat → Nat) : Nat → Int
  | 0 => -2 ^ 60
  | k + 1 => if moA G t k < moP G t (k + 2) then moP G t (k + 2) else moA G t k
theorem moA_b {G t : Nat → Nat} (h : GT G t) : ∀ k, -2 ^ 60 ≤ moA G t k ∧ moA G t k < 2 ^ 60
  | 0 => by unfold moA; omega
  | k + 1 => by
    have := moA_b h k
    have := moN_b h (k + 2) (k + 2)
    unfold moA moP
    split <;> omega
theorem moA_le {G t : Nat → Nat} {B : Int} (hB : -2 ^ 60 ≤ B) : ∀ k, (∀ p, 2 ≤ p → p < k + 2 → moP G t p ≤ B) → moA G t k ≤ B
  | 0, _ => hB
  | k + 1, h => by
    have ih := moA_le hB k (fun p h1 h2 => h p h1 (by omega))
    have := h (k + 2) (by omega) (by omega)
    unfold moA
    split <;> omega
theorem moA_ge {G t : Nat → Nat} : ∀ k p, 2 ≤ p → p < k + 2 → moP G t p ≤ moA G t k
  | 0, _, h1, h2 => by omega
  | k + 1, p, h1, h2 => by
    unfold moA
    by_cases e : p = k + 2
    · subst e; split <;> omega
    · have ih := moA_ge (G := G) (t := t) k p h1 (by omega)
      split <;> omega
theorem pd_case {G t : Nat → Nat} (h : GT G t) (hh : 20 ≤ hG t) {x : Nat} (hx : x ≤ 1000000) :
    (((x * hG t : Nat) : Int) < moA G t 59 → ∃ q, pdT (gD G) (nI x) = q ∧ 2 ≤ q ∧ q ≤ 60 ∧ moP G t q = moA G t 59) ∧ (moA G t 59 < ((x * hG t : Nat) : Int) → pdT (gD G) (nI x) = 0) := by
  have hh0 : 0 < hG t := by omega
  obtain ⟨q, h1, h2, h3, h4⟩ := pdS_max (g := gD G) (fun p hp => (scB_near h hh0 hp).1) 58
  have n1 := scB_near h hh0 (p := q) (by omega)
  have e1 : moA G t 59 = moP G t q := by
    have a1 := moA_ge (G := G) (t := t) 59 q h2 (by omega)
    have a2 := moA_le (G := G) (t := t) (B := moP G t q) (moN_b h q q).1 59 (fun p p1 p2 => (scB_near h hh0 (p := p) (by omega)).2.1.le n1.2.1 (h4 p p1 (by omega)))
    omega
  have n2 := Nr_nat (hG t) x
  rw [← zZ_n (t := x) (by omega)] at n2
  have e2 : pdT (gD G) (nI x) = if 0 < dc (scB (gD G) q) (nD x) then q else 0 := by
    unfold pdT
    rw [if_neg (by rw [fN_c h]; show ¬ hG t < 20; omega), h1]
    rfl
  have hi : 0 < dc (scB (gD G) q) (nD x) ↔ zZ (nD x) < zZ (scB (gD G) q) := dc_pos n1.1 (FP.Core.i2d_fin _)
  rw [e1, e2]
  constructor
  · intro c
    have := n2.lt n1.2.1 c
    rw [if_pos (hi.mpr this)]
    exact ⟨q, rfl, h2, h3, rfl⟩
  · intro c
    have := n1.2.1.lt n2 c
    exact if_neg (fun z => by have := hi.mp z; omega)
/-- odd dips beside even ones -/
theorem oe_near {G t : Nat → Nat} (h : GT G t) {p b : Nat} (hb : bFo (gD G) p = some b) (h1 : 0 < cN t (2 * p) 1000 b) (h2 : 0 < cN t (2 * p) 1000 (b + p)) : FP.Core.DFin (oeF (gD G) p) ∧ Nr (cN t (2 * p) 1000 b * cN t (2 * p) 1000 (b + p)) (zZ (oeF (gD G) p)) ((sN G (2 * p) 1000 b : Int) * cN t (2 * p) 1000 (b + p) - (sN G (2 * p) 1000 (b + p) : Int) * cN t (2 * p) 1000 b) ∧ (zZ (oeF (gD G) p)).natAbs < 2 ^ 53 * O1 := by
  have hc1 := cN_le t (2 * p) 1000 b
  have hc2 := cN_le t (2 * p) 1000 (b + p)
  have e1 : ∀ j, 0 < cN t (2 * p) 1000 j → mnF (gD G) (2 * p) j = FP.ddiv (nD (sN G (2 * p) 1000 j)) (nD (cN t (2 * p) 1000 j)) := fun j hj => by
    unfold mnF mf
    rw [fC_c h, if_pos hj, fS_s h (2 * p) 1000 j (Nat.le_refl _)]
  have e2 : oeF (gD G) p = FP.dsub (FP.ddiv (nD (sN G (2 * p) 1000 b)) (nD (cN t (2 * p) 1000 b))) (FP.ddiv (nD (sN G (2 * p) 1000 (b + p))) (nD (cN t (2 * p) 1000 (b + p)))) := by
    unfold oeF
    rw [hb]
    show (if 0 < fC (gD G) (2 * p) 1000 b ∧ 0 < fC (gD G) (2 * p) 1000 (b + p) then _ else _) = _
    rw [fC_c h, fC_c h, if_pos ⟨h1, h2⟩, e1 b h1, e1 (b + p) h2]
  obtain ⟨f1, p1, q1, r1⟩ := mean_err h1 hc1 (sN_cN h (2 * p) 1000 b)
  obtain ⟨f2, p2, q2, r2⟩ := mean_err h2 hc2 (sN_cN h (2 * p) 1000 (b + p))
  rw [e2]
  generalize FP.ddiv (nD (sN G (2 * p) 1000 b)) (nD (cN t (2 * p) 1000 b)) = M at *
  generalize FP.ddiv (nD (sN G (2 * p) 1000 (b + p))) (nD (cN t (2 * p) 1000 (b + p))) = m at *
  obtain ⟨f3, r3⟩ := dsub_err (k := 30) (B := 2 ^ 51) f1 f2 (by decide) (by decide) (by rw [← G1_def]; omega) (by decide +kernel)
  have r3 : (zZ (FP.dsub M m) - (zZ M - zZ m)).natAbs ≤ G1 := r3
  refine ⟨f3, oe_lin O1_G G1_pos hc1 hc2 r1 r2 r3, ?_⟩
  have e9 : 2 ^ 53 * O1 = 2 ^ 53 * 2 ^ 30 * G1 := by rw [O1_G, Nat.mul_assoc]
  rw [e9]
  have hg := G1_pos
  omega
theorem oe_zero {G t : Nat → Nat} (h : GT G t) {p b : Nat} (hb : bFo (gD G) p = some b) (h1 : cN t (2 * p) 1000 b = 0 ∨ cN t (2 * p) 1000 (b + p) = 0) : oeF (gD G) p = 0 := by
  unfold oeF
  rw [hb]
  show (if 0 < fC (gD G) (2 * p) 1000 b ∧ 0 < fC (gD G) (2 * p) 1000 (b + p) then _ else _) = _
  rw [fC_c h, fC_c h, if_neg (fun z => by omega)]
/-- a double's whole part and sign by its bits -/
theorem wh_near {x : UInt64} {q : Nat} {N : Int} (hf : FP.Core.DFin x) (hn : Nr q (zZ x) N) (hb : (zZ x).natAbs < 2 ^ 53 * O1) : x.toNat / 2 ^ 52 % 2048 ≤ 1075 ∧ wholeN x.toNat < 2 ^ 53 ∧ wholeN x.toNat * q ≤ N.natAbs + q ∧ N.natAbs ≤ (wholeN x.toNat + 2) * q := by
  have hm := zv_abs (FP.Core.val64 x)
  have hb2 : FP.Core.zmag FP.Core.b64 (FP.Core.val64 x) < 2 ^ 53 * O1 := by rw [← hm]; exact hb
  obtain ⟨w1, w2⟩ := wholeN_eq hf hb2
  have h := hn.near
  have e : (zZ x).natAbs = FP.Core.zmag FP.Core.b64 (FP.Core.val64 x) := hm
  rw [e, ← w2] at h
  refine ⟨w1, ?_, h⟩
  rw [w2]
  exact Nat.div_lt_of_lt_mul (by rw [Nat.mul_comm]; exact hb2)
theorem sg_near {x : UInt64} {q : Nat} {N : Int} (hf : FP.Core.DFin x) (hn : Nr q (zZ x) N) : (0 < N → x.toNat < 2 ^ 63) ∧ (N < 0 → 2 ^ 63 ≤ x.toNat) := by
  unfold Nr at hn
  have hO := O1_pos
  constructor
  · intro h
    apply Nat.lt_of_not_le
    intro c
    have hz : zZ x ≤ 0 := FP.Core.zval_nonpos hf.ne_nan c
    have a1 : (1 : Int) * O1 ≤ N * (O1 : Int) := Int.mul_le_mul_of_nonneg_right (by omega) (Int.natCast_nonneg _)
    have a2 := Int.mul_le_mul_of_nonneg_left hz (Int.natCast_nonneg q)
    rw [Int.mul_zero] at a2
    rw [Int.one_mul] at a1
    generalize (q : Int) * zZ x = X at *
    generalize N * (O1 : Int) = Y at *
    omega
  · intro h
    apply Nat.le_of_not_lt
    intro c
    have hz : 0 ≤ zZ x := FP.Core.zval_nonneg hf.ne_nan c
    have a1 : N * (O1 : Int) ≤ (-1) * O1 := Int.mul_le_mul_of_nonneg_right (by omega) (Int.natCast_nonneg _)
    have a2 := Int.mul_le_mul_of_nonneg_left hz (Int.natCast_nonneg q)
    rw [Int.mul_zero] at a2
    generalize (q : Int) * zZ x = X at *
    generalize N * (O1 : Int) = Y at *
    omega
