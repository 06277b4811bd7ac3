/-! WHAT THE FOLDS ARE: one mathematical value for class and reference. g: the light by hours, 0 where none was kept -/
def fS (g : Nat → UInt64) (p : Nat) : Nat → Nat → UInt64
  | 0, _ => 0
  | h + 1, j => if g h ≠ 0 ∧ h % p = j then FP.dadd (fS g p h j) (g h) else fS g p h j
def fC (g : Nat → UInt64) (p : Nat) : Nat → Nat → Nat
  | 0, _ => 0
  | h + 1, j => if g h ≠ 0 ∧ h % p = j then fC g p h j + 1 else fC g p h j
def fT (g : Nat → UInt64) : Nat → UInt64
  | 0 => 0
  | h + 1 => if g h ≠ 0 then FP.dadd (fT g h) (g h) else fT g h
/-- how many hours of the first h were kept -/
def fN (g : Nat → UInt64) : Nat → Nat
  | 0 => 0
  | h + 1 => if g h ≠ 0 then fN g h + 1 else fN g h
def nD (n : Nat) : UInt64 := FP.i2d (nI n)
def mnT (g : Nat → UInt64) : UInt64 := if 0 < fN g 1000 then FP.ddiv (fT g 1000) (nD (fN g 1000)) else 0
/-- of any sums, counts and mean: a fold's mean, its score, the best fold of the first k -/
def mf (sg : Nat → UInt64) (cg : Nat → Nat) (j : Nat) : UInt64 := if 0 < cg j then FP.ddiv (sg j) (nD (cg j)) else 0
def sf (mn : UInt64) (sg : Nat → UInt64) (cg : Nat → Nat) (j : Nat) : UInt64 := if 0 < cg j then FP.dmul (FP.dsub mn (mf sg cg j)) (nD (cg j)) else 0
def bfG (mn : UInt64) (sg : Nat → UInt64) (cg : Nat → Nat) : Nat → Option Nat
  | 0 => none
  | k + 1 => if 0 < cg k then (match bfG mn sg cg k with
      | none => some k
      | some b => if 0 < dc (sf mn sg cg k) (sf mn sg cg b) then some k else some b) else bfG mn sg cg k
/-- the score at the best fold -/
def grG (mn : UInt64) (sg : Nat → UInt64) (cg : Nat → Nat) (r : Option Nat) : UInt64 := match r with
  | none => 0
  | some b => sf mn sg cg b
def mnF (g : Nat → UInt64) (p j : Nat) : UInt64 := mf (fS g p 1000) (fC g p 1000) j
def scF (g : Nat → UInt64) (p j : Nat) : UInt64 := sf (mnT g) (fS g p 1000) (fC g p 1000) j
def bfS (g : Nat → UInt64) (p k : Nat) : Option Nat := bfG (mnT g) (fS g p 1000) (fC g p 1000) k
def bFo (g : Nat → UInt64) (p : Nat) : Option Nat := bfS g p p
/-- none as the class and the reference write it -/
def oN (r : Option Nat) : Int32 := match r with
  | none => -1
  | some k => nI k
def scB (g : Nat → UInt64) (p : Nat) : UInt64 := grG (mnT g) (fS g p 1000) (fC g p 1000) (bFo g p)
/-- the reference's search: periods 2 .. k+2 -/
def pdS (g : Nat → UInt64) : Nat → Nat × UInt64
  | 0 => (2, scB g 2)
  | k + 1 => if 0 < dc (scB g (k + 3)) (pdS g k).2 then (k + 3, scB g (k + 3)) else pdS g k
/-- the period by a threshold, 0 if there is none -/
def pdT (g : Nat → UInt64) (t : Int32) : Nat := if fN g 1000 < 20 then 0 else if 0 < dc (pdS g 58).2 (FP.i2d t) then (pdS g 58).1 else 0
def oeF (g : Nat → UInt64) (p : Nat) : UInt64 := match bFo g p with
  | none => 0
  | some b => if 0 < fC g (2 * p) 1000 b ∧ 0 < fC g (2 * p) 1000 (b + p) then FP.dsub (mnF g (2 * p) b) (mnF g (2 * p) (b + p)) else 0
/-- what the rows ask of the doubles: no NaN is made, and kept light is above 0 -/
def FPok (g : Nat → UInt64) : Prop :=
  (∀ h, h < 1000 → (0 < dc (g h) FP.dconst0 ↔ g h ≠ 0)) ∧
  (∀ p h j, h < 1000 → g h ≠ 0 → vf_n64 (FP.dadd (fS g p h j) (g h))) ∧
  (∀ h, h < 1000 → g h ≠ 0 → vf_n64 (FP.dadd (fT g h) (g h))) ∧
  (∀ h, h < 1000 → FP.dadd (fT g h) FP.dconst0 = fT g h ∧ vf_n64 (FP.dadd (fT g h) FP.dconst0)) ∧
  (0 < fN g 1000 → vf_n64 (FP.ddiv (fT g 1000) (nD (fN g 1000)))) ∧
  (∀ p j, 0 < p → 0 < fC g p 1000 j → vf_n64 (FP.ddiv (fS g p 1000 j) (nD (fC g p 1000 j))) ∧ vf_n64 (FP.dsub (mnT g) (mnF g p j)) ∧ vf_n64 (FP.dmul (FP.dsub (mnT g) (mnF g p j)) (nD (fC g p 1000 j)))) ∧
  (∀ p i j, 0 < p → 0 < fC g p 1000 i → 0 < fC g p 1000 j → vf_n64 (FP.dsub (mnF g p i) (mnF g p j)))
theorem fS_up {g : Nat → UInt64} {p h : Nat} (hk : g h ≠ 0) : va_up (fS g p h) (h % p) (FP.dadd (fS g p h (h % p)) (g h)) = fS g p (h + 1) := by
  funext j
  by_cases e : j = h % p
  · subst e; simp [va_up, fS, hk]
  · have e' : ¬ h % p = j := fun q => e q.symm
    simp [va_up, fS, e, e']
theorem fS_no {g : Nat → UInt64} {p h : Nat} (hk : ¬ g h ≠ 0) : fS g p h = fS g p (h + 1) := by
  funext j
  simp only [fS, hk, false_and, if_false]
theorem fC_up {g : Nat → UInt64} {p h : Nat} (hk : g h ≠ 0) : va_up (fun j => nI (fC g p h j)) (h % p) (nI (fC g p h (h % p) + 1)) = fun j => nI (fC g p (h + 1) j) := by
  funext j
  by_cases e : j = h % p
  · subst e; simp [va_up, fC, hk]
  · have e' : ¬ h % p = j := fun q => e q.symm
    simp [va_up, fC, e, e']
theorem fC_no {g : Nat → UInt64} {p h : Nat} (hk : ¬ g h ≠ 0) : (fun j => nI (fC g p h j)) = fun j => nI (fC g p (h + 1) j) := by
  funext j
  simp only [fC, hk, false_and, if_false]
theorem fT_up {g : Nat → UInt64} {h : Nat} (hk : g h ≠ 0) : FP.dadd (fT g h) (g h) = fT g (h + 1) := by simp [fT, hk]
theorem fT_no {g : Nat → UInt64} {h : Nat} (hk : ¬ g h ≠ 0) : fT g h = fT g (h + 1) := by simp only [fT, hk, if_false]
theorem fC_le (g : Nat → UInt64) (p : Nat) : ∀ h j, fC g p h j ≤ h
  | 0, _ => Nat.le_refl 0
  | h + 1, j => by
    have := fC_le g p h j
    unfold fC
    split <;> omega
theorem fN_le (g : Nat → UInt64) : ∀ h, fN g h ≤ h
  | 0 => Nat.le_refl 0
  | h + 1 => by
    have := fN_le g h
    unfold fN
    split <;> omega
theorem bfG_lt {mn : UInt64} {sg : Nat → UInt64} {cg : Nat → Nat} : ∀ k b, bfG mn sg cg k = some b → b < k ∧ 0 < cg b
  | 0, b, h => by cases h
  | k + 1, b, h => by
    have ih := bfG_lt (mn := mn) (sg := sg) (cg := cg) k
    unfold bfG at h
    split at h
    · rename_i hc
      split at h
      · cases h; exact ⟨by omega, hc⟩
      · rename_i b' hb'
        have i2 := ih b' hb'
        split at h
        · cases h; exact ⟨by omega, hc⟩
        · cases h; exact ⟨by omega, i2.2⟩
    · have i2 := ih b h
      exact ⟨by omega, i2.2⟩
theorem bfG_no {mn : UInt64} {sg : Nat → UInt64} {cg : Nat → Nat} {k : Nat} (h : ¬ 0 < cg k) : bfG mn sg cg (k + 1) = bfG mn sg cg k := by
  rw [bfG, if_neg h]
theorem bfG_1 {mn : UInt64} {sg : Nat → UInt64} {cg : Nat → Nat} {k : Nat} (h : 0 < cg k) (hn : bfG mn sg cg k = none) : bfG mn sg cg (k + 1) = some k := by
  rw [bfG, if_pos h, hn]
theorem bfG_2 {mn : UInt64} {sg : Nat → UInt64} {cg : Nat → Nat} {k b : Nat} (h : 0 < cg k) (hn : bfG mn sg cg k = some b) (hd : 0 < dc (sf mn sg cg k) (sf mn sg cg b)) : bfG mn sg cg (k + 1) = some k := by
  rw [bfG, if_pos h, hn]; exact if_pos hd
theorem bfG_3 {mn : UInt64} {sg : Nat → UInt64} {cg : Nat → Nat} {k b : Nat} (h : 0 < cg k) (hn : bfG mn sg cg k = some b) (hd : dc (sf mn sg cg k) (sf mn sg cg b) ≤ 0) : bfG mn sg cg (k + 1) = some b := by
  rw [bfG, if_pos h, hn]; exact if_neg (by omega)
/-- two places written, the rest as it was -/
theorem up2_ext {α : Type} {f f1 : Nat → α} {a b : Nat} {x y : α} (hab : a ≠ b) (ha : f1 a = x) (hb : f1 b = y) (h : ∀ q, q ≠ a → q ≠ b → f1 q = f q) : f1 = va_up (va_up f a x) b y := by
  funext j; unfold va_up
  by_cases h1 : j = b
  · subst h1; simp [hb]
  · by_cases h2 : j = a
    · subst h2; simp [ha, h1]
    · simp [h1, h2, h j h2 h1]
theorem up1_ext {α : Type} {f f1 : Nat → α} {a : Nat} {x : α} (ha : f1 a = x) (h : ∀ q, q ≠ a → f1 q = f q) : f1 = va_up f a x := by
  funext j; unfold va_up
  by_cases h2 : j = a
  · subst h2; simp [ha]
  · simp [h2, h j h2]
theorem up3_ext {α : Type} {f f1 : Nat → α} {a b c : Nat} {x y z : α} (hac : a ≠ c) (hbc : b ≠ c) (hab : a ≠ b) (ha : f1 a = x) (hb : f1 b = y) (hc : f1 c = z) (h : ∀ q, q ≠ a → q ≠ b → q ≠ c → f1 q = f q) : f1 = va_up (va_up (va_up f a x) b y) c z := by
  funext j; unfold va_up
  by_cases h0 : j = c
  · subst h0; simp [hc]
  · by_cases h1 : j = b
    · subst h1; simp [hb, h0]
    · by_cases h2 : j = a
      · subst h2; simp [ha, h1, h0]
      · simp [h0, h1, h2, h j h2 h1 h0]
theorem m1_toInt : (-1 : Int32).toInt = -1 := by decide
/-- two writes at one place, writes at two places -/
theorem up_up {α : Type} (f : Nat → α) (k : Nat) (v w : α) : va_up (va_up f k v) k w = va_up f k w := by
  funext j; unfold va_up; by_cases h : j = k <;> simp [h]
theorem up_com {α : Type} (f : Nat → α) {a b : Nat} (h : a ≠ b) (v w : α) : va_up (va_up f a v) b w = va_up (va_up f b w) a v := by
  funext j; unfold va_up
  by_cases h1 : j = a
  · subst h1; simp [h]
  · simp [h1]
theorem up_id {α : Type} (f : Nat → α) (a : Nat) {v : α} (h : f a = v) : va_up f a v = f := by
  funext j; unfold va_up
  by_cases h1 : j = a
  · subst h1; simp [h]
  · simp [h1]
