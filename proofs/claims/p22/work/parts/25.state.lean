/-! THE STATE: whole numbers by the reference's fields (A.1 k j; 0: how many stars, worlds, papers), the kept light (A.2), and the class's cells by places (ad) -/
abbrev zA : Type := (Nat → Nat → Nat) × (Nat → UInt64)
def ns (A : zA) : Nat := A.1 0 0
def nw (A : zA) : Nat := A.1 0 1
def np (A : zA) : Nat := A.1 0 2
/-- the light kept of star i, by hours, 0 where none was kept -/
def gk (A : zA) (i h : Nat) : UInt64 := if h < 1000 ∧ A.1 12 (1000 * i + h) = 1 then A.2 (1000 * i + h) else 0
def fellN (A : zA) : Nat → Nat → Bool
  | 0, _ => false
  | n + 1, j => decide (A.1 23 (A.1 25 j) = 1) || (decide (A.1 26 j ≠ 0) && fellN A n (A.1 26 j - 1))
def fell (A : zA) (j : Nat) : Bool := fellN A (j + 1) j
def b2 (b : Bool) : Nat := if b then 1 else 0
/-- a light: from 16 to below 4194304 -/
def Lb (x : UInt64) : Prop := 1027 * 2 ^ 52 ≤ x.toNat ∧ x.toNat < 1045 * 2 ^ 52
def Gok (g : Nat → UInt64) : Prop := ∀ h, g h = 0 ∨ Lb (g h)
/-- how many of the first n hours are hidden -/
def hN (A : zA) : Nat → Nat
  | 0 => 0
  | n + 1 => if A.1 11 n = 1 then hN A n + 1 else hN A n
/-- which places there are -/
def live (A : zA) (t : Nat) : Prop :=
  (1 ≤ t ∧ t ≤ 6) ∨ t = 8 ∨ t = 10 ∨ (t = 7 ∧ 0 < ns A) ∨ (t = 9 ∧ 0 < nw A) ∨ (t = 11 ∧ 0 < np A) ∨
  (∃ i, i < ns A ∧ (t = 100 + 10 * i ∨ t = 101 + 10 * i ∨ t = 103 + 10 * i ∨ t = 104 + 10 * i ∨ (t = 102 + 10 * i ∧ 0 < A.1 3 i) ∨ ∃ k, k < A.1 3 i ∧ t = 200 + 10 * i + k)) ∨
  (∃ w, w < nw A ∧ (t = 300 + 10 * w ∨ t = 301 + 10 * w ∨ t = 302 + 10 * w)) ∨ (∃ j, j < np A ∧ t = 500 + j)
def VS (A : zA) (i : Nat) : Prop := 1000 ≤ A.1 2 i ∧ A.1 2 i ≤ 1000000 ∧ A.1 3 i ≤ 4 ∧ A.1 8 i ≤ 60 ∧ A.1 9 i ≤ 100 ∧ A.1 10 i ≤ 1000000 ∧ A.1 14 i = fN (gk A i) 1000 ∧ ∀ k, k < A.1 3 i → 2 ≤ A.1 4 (4 * i + k) ∧ A.1 4 (4 * i + k) ≤ 60 ∧ A.1 5 (4 * i + k) < A.1 4 (4 * i + k) ∧ 1 ≤ A.1 6 (4 * i + k) ∧ A.1 6 (4 * i + k) ≤ 4 ∧ 1 ≤ A.1 7 (4 * i + k) ∧ A.1 7 (4 * i + k) ≤ 200
/-- what the numbers keep to -/
def VA (A : zA) : Prop :=
  ns A ≤ 6 ∧ nw A ≤ 12 ∧ np A ≤ 30 ∧ (∀ i, i < ns A → VS A i) ∧
  (∀ i, ns A ≤ i → A.1 3 i = 0 ∧ A.1 8 i = 0 ∧ A.1 9 i = 0 ∧ A.1 10 i = 0 ∧ A.1 14 i = 0) ∧ (∀ j, 1000 * ns A ≤ j → A.1 12 j = 0) ∧
  (∀ j, A.1 12 j ≤ 1) ∧ (∀ j, A.1 12 j = 1 → Lb (A.2 j)) ∧ (∀ j, A.1 11 j ≤ 1) ∧
  (∀ w, w < nw A → A.1 20 w < ns A ∧ 2 ≤ A.1 21 w ∧ A.1 21 w ≤ 60 ∧ A.1 22 w < 60) ∧ (∀ w, A.1 23 w ≤ 1) ∧ (∀ w, nw A ≤ w → A.1 23 w = 0) ∧
  (∀ j, j < np A → A.1 25 j < nw A ∧ A.1 26 j ≤ j)
/-- star i's cells -/
def CS (K : zK) (L : List Nat) (f : Nat → va_E) (A : zA) (ad : Nat → Nat) (i : Nat) : Prop :=
  f (ad (100 + 10 * i)) = eS 5 [.int (nI (A.1 2 i)), .ref (ad (101 + 10 * i)), .int (nI (A.1 8 i)), .int (nI (A.1 9 i)), .int (nI (A.1 10 i)), .ref (ad (103 + 10 * i))] ∧
  LI K L f (ad (101 + 10 * i)) (ad (102 + 10 * i)) (A.1 3 i) (fun k => ad (200 + 10 * i + k)) ∧
  f (ad (103 + 10 * i)) = eS 2 [.ref (ad (104 + 10 * i)), .int (nI (A.1 14 i))] ∧ f (ad (104 + 10 * i)) = eD K 1000 (gk A i) ∧
  ∀ k, k < A.1 3 i → f (ad (200 + 10 * i + k)) = eS 4 [.int (nI (A.1 4 (4 * i + k))), .int (nI (A.1 5 (4 * i + k))), .int (nI (A.1 6 (4 * i + k))), .double (quo (A.1 7 (4 * i + k)))]
/-- world w's cells: its threshold t, its light g -/
def CW (K : zK) (f : Nat → va_E) (A : zA) (ad : Nat → Nat) (w t : Nat) (g : Nat → UInt64) : Prop :=
  f (ad (300 + 10 * w)) = eS 6 [.int (nI (A.1 20 w)), .int (nI t), .int (nI (A.1 21 w)), .int (nI (A.1 22 w)), .ref (ad (301 + 10 * w)), .int (nI (A.1 23 w))] ∧
  f (ad (301 + 10 * w)) = eS 2 [.ref (ad (302 + 10 * w)), .int (nI (fN g 1000))] ∧ f (ad (302 + 10 * w)) = eD K 1000 g ∧
  t ≤ 1000000 ∧ Gok g ∧ pdT g (nI t) = A.1 21 w
def CP (f : Nat → va_E) (A : zA) (ad : Nat → Nat) (j : Nat) : Prop :=
  f (ad (500 + j)) = eS 3 [.ref (ad (300 + 10 * A.1 25 j)), va_rf (if A.1 26 j = 0 then none else some (ad (500 + (A.1 26 j - 1)))), .int (nI (b2 (fell A j)))]
def CX (f : Nat → va_E) (A : zA) (ad : Nat → Nat) : Prop := f (ad 1) = eS 7 [.ref (ad 6), .ref (ad 8), .ref (ad 10), .ref (ad 5), .int (nI (hN A 1000)), .ref (ad 2)]
def CF (K : zK) (f : Nat → va_E) (ad : Nat → Nat) : Prop := ∃ (fl : Nat) (mn : UInt64) (sg : Nat → UInt64) (cg : Nat → Nat), f (ad 2) = eS 1 [.ref (ad 3), .ref (ad 4), .int (nI fl), .double mn] ∧ f (ad 3) = eD K 120 sg ∧ f (ad 4) = eI K 120 (fun j => nI (cg j)) ∧ (∀ j, 120 ≤ j → sg j = FP.dconst0) ∧ (∀ j, 120 ≤ j → cg j = 0) ∧ ∀ j, cg j < 2 ^ 31
def CI (K : zK) (L : List Nat) (f : Nat → va_E) (A : zA) (ad : Nat → Nat) : Prop :=
  VA A ∧ (∀ t, live A t → ad t ∈ L) ∧ (∀ t u, live A t → live A u → ad t = ad u → t = u) ∧ CX f A ad ∧ CF K f ad ∧ f (ad 5) = eZ K 1000 (fun h => nI (A.1 11 h)) ∧
  LI K L f (ad 6) (ad 7) (ns A) (fun i => ad (100 + 10 * i)) ∧ LI K L f (ad 8) (ad 9) (nw A) (fun w => ad (300 + 10 * w)) ∧ LI K L f (ad 10) (ad 11) (np A) (fun j => ad (500 + j)) ∧
  (∀ i, i < ns A → CS K L f A ad i) ∧ (∀ w, w < nw A → ∃ (t : Nat) (g : Nat → UInt64), CW K f A ad w t g) ∧ (∀ j, j < np A → CP f A ad j)
theorem ad_ne {A : zA} {ad : Nat → Nat} (h : ∀ t u, live A t → live A u → ad t = ad u → t = u) {t u : Nat} (ht : live A t) (hu : live A u) (hn : t ≠ u) : ad t ≠ ad u := fun e => hn (h t u ht hu e)
theorem live_s {A : zA} {i : Nat} (hi : i < ns A) {t : Nat} (h : t = 100 + 10 * i ∨ t = 101 + 10 * i ∨ t = 103 + 10 * i ∨ t = 104 + 10 * i) : live A t :=
  Or.inr (Or.inr (Or.inr (Or.inr (Or.inr (Or.inr (Or.inl ⟨i, hi, by rcases h with h | h | h | h <;> simp [h]⟩))))))
theorem live_p {A : zA} {i k : Nat} (hi : i < ns A) (hk : k < A.1 3 i) : live A (200 + 10 * i + k) :=
  Or.inr (Or.inr (Or.inr (Or.inr (Or.inr (Or.inr (Or.inl ⟨i, hi, Or.inr (Or.inr (Or.inr (Or.inr (Or.inr ⟨k, hk, rfl⟩))))⟩))))))
theorem live_w {A : zA} {w : Nat} (hw : w < nw A) {t : Nat} (h : t = 300 + 10 * w ∨ t = 301 + 10 * w ∨ t = 302 + 10 * w) : live A t :=
  Or.inr (Or.inr (Or.inr (Or.inr (Or.inr (Or.inr (Or.inr (Or.inl ⟨w, hw, h⟩)))))))
theorem live_q {A : zA} {j : Nat} (hj : j < np A) : live A (500 + j) :=
  Or.inr (Or.inr (Or.inr (Or.inr (Or.inr (Or.inr (Or.inr (Or.inr ⟨j, hj, rfl⟩)))))))
theorem live_c {A : zA} {t : Nat} (h : (1 ≤ t ∧ t ≤ 6) ∨ t = 8 ∨ t = 10) : live A t := by
  rcases h with h | h | h
  · exact Or.inl h
  · exact Or.inr (Or.inl h)
  · exact Or.inr (Or.inr (Or.inl h))
/-- the folding's cells, whatever they hold -/
def CFx (K : zK) (f : Nat → va_E) (fo so co : Nat) : Prop := ∃ (fl : Nat) (mn : UInt64) (sg : Nat → UInt64) (cg : Nat → Nat), f fo = eS 1 [.ref so, .ref co, .int (nI fl), .double mn] ∧ f so = eD K 120 sg ∧ f co = eI K 120 (fun j => nI (cg j)) ∧ (∀ j, 120 ≤ j → sg j = FP.dconst0) ∧ (∀ j, 120 ≤ j → cg j = 0) ∧ ∀ j, cg j < 2 ^ 31
/-- the class's search: behind the periods 2 .. k+1 -/
def bpS (g : Nat → UInt64) (t : Int32) : Nat → Option Nat × UInt64
  | 0 => (none, FP.i2d t)
  | k + 1 => if 0 < dc (scB g (k + 2)) (bpS g t k).2 then (some (k + 2), scB g (k + 2)) else bpS g t k
def bpT (g : Nat → UInt64) (t : Int32) : Option Nat := if fN g 1000 < 20 then none else (bpS g t 59).1
theorem bpS_1 {g : Nat → UInt64} {t : Int32} {k : Nat} (h : 0 < dc (scB g (k + 2)) (bpS g t k).2) : bpS g t (k + 1) = (some (k + 2), scB g (k + 2)) := by rw [bpS, if_pos h]
theorem bpS_0 {g : Nat → UInt64} {t : Int32} {k : Nat} (h : dc (scB g (k + 2)) (bpS g t k).2 ≤ 0) : bpS g t (k + 1) = bpS g t k := by rw [bpS, if_neg (by omega)]
theorem fC_some {g : Nat → UInt64} {p : Nat} (hp : 0 < p) : ∀ h, 0 < fN g h → ∃ j, j < p ∧ 0 < fC g p h j
  | 0, h0 => absurd h0 (Nat.lt_irrefl 0)
  | h + 1, h0 => by
    by_cases hk : g h ≠ 0
    · refine ⟨h % p, Nat.mod_lt _ hp, ?_⟩
      rw [fC, if_pos ⟨hk, rfl⟩]; omega
    · rw [fN, if_neg hk] at h0
      obtain ⟨j, hj, h1⟩ := fC_some hp h h0
      refine ⟨j, hj, ?_⟩
      rw [fC, if_neg (fun z => hk z.1)]; exact h1
theorem bfG_none {mn : UInt64} {sg : Nat → UInt64} {cg : Nat → Nat} : ∀ k, bfG mn sg cg k = none → ∀ j, j < k → cg j = 0
  | 0, _, j, hj => absurd hj (Nat.not_lt_zero j)
  | k + 1, h, j, hj => by
    by_cases hc : 0 < cg k
    · rw [bfG, if_pos hc] at h
      split at h
      · cases h
      · split at h <;> cases h
    · rw [bfG_no hc] at h
      have := bfG_none k h
      by_cases e : j = k
      · subst e; omega
      · exact this j (by omega)
theorem bFo_some {g : Nat → UInt64} {p : Nat} (hp : 0 < p) (h : 0 < fN g 1000) : ∃ b, bfG (mnT g) (fS g p 1000) (fC g p 1000) p = some b ∧ b < p ∧ 0 < fC g p 1000 b := by
  cases hb : bfG (mnT g) (fS g p 1000) (fC g p 1000) p with
  | none =>
    obtain ⟨j, hj, h1⟩ := fC_some hp 1000 h
    have := bfG_none p hb j hj
    omega
  | some b => exact ⟨b, rfl, bfG_lt _ _ hb⟩
theorem scB_at {g : Nat → UInt64} {p b : Nat} (h : bfG (mnT g) (fS g p 1000) (fC g p 1000) p = some b) : sf (mnT g) (fS g p 1000) (fC g p 1000) b = scB g p := by
  rw [scB, bFo, bfS, h]; rfl
theorem FP_fold {g : Nat → UInt64} (h : FPok g) {p : Nat} (hp : 0 < p) (x : Nat) (hx : 0 < fC g p 1000 x) : vf_n64 (FP.ddiv (fS g p 1000 x) (nD (fC g p 1000 x))) ∧ vf_n64 (FP.dsub (mnT g) (mf (fS g p 1000) (fC g p 1000) x)) ∧ vf_n64 (FP.dmul (FP.dsub (mnT g) (mf (fS g p 1000) (fC g p 1000) x)) (nD (fC g p 1000 x))) := h.2.2.2.2.2.1 p x hp hx
theorem bpS_lt {g : Nat → UInt64} {t : Int32} : ∀ k b, (bpS g t k).1 = some b → 2 ≤ b ∧ b < k + 2
  | 0, b, h => by cases h
  | k + 1, b, h => by
    by_cases hc : 0 < dc (scB g (k + 2)) (bpS g t k).2
    · rw [bpS_1 hc] at h; cases h; omega
    · rw [bpS_0 (by omega)] at h
      have := bpS_lt k b h
      omega
theorem bpT_lt {g : Nat → UInt64} {t : Int32} {b : Nat} (h : bpT g t = some b) : 2 ≤ b ∧ b ≤ 60 := by
  unfold bpT at h
  split at h
  · cases h
  · have := bpS_lt 59 b h; omega
theorem bpT_few {g : Nat → UInt64} {t : Int32} {b : Nat} (h : bpT g t = some b) : 20 ≤ fN g 1000 := by
  unfold bpT at h
  split at h
  · cases h
  · omega
theorem oN_m1 {r : Option Nat} (hr : ∀ k, r = some k → k ≤ 60) (h : (oN r).toInt = -1) : r = none := by
  cases r with
  | none => rfl
  | some k =>
    have h1 : (nI k).toInt = k := nI_toInt (by have := hr k rfl; omega)
    have h2 : (nI k).toInt = -1 := h
    omega
theorem oN_n1 {r : Option Nat} (h : (oN r).toInt ≠ -1) : ∃ k, r = some k := by
  cases r with
  | none => exact absurd rfl h
  | some k => exact ⟨k, rfl⟩
