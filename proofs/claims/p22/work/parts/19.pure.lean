/-! PURE FACTS: remainders, light, lists -/
theorem xor_neg {x y : Int32} (hy : 0 ≤ y.toInt) : (x ^^^ y).toInt < 0 ↔ x.toInt < 0 := by
  have e1 : ∀ z : Int32, decide (z.toInt < 0) = z.toBitVec.msb := fun z => (BitVec.msb_eq_toInt (x := z.toBitVec)).symm
  have h1 := e1 (x ^^^ y)
  have h2 := e1 x
  have h3 := e1 y
  rw [show (x ^^^ y).toBitVec = x.toBitVec ^^^ y.toBitVec from rfl, BitVec.msb_xor, ← h2, ← h3] at h1
  have h4 : decide (y.toInt < 0) = false := decide_eq_false (by omega)
  rw [h4, Bool.xor_false] at h1
  exact decide_eq_decide.mp h1
theorem rm_int {h ph per : Nat} (hh : h < 1000) (hp : ph < per) (hp2 : per ≤ 60) : (nI h - nI ph - (nI h - nI ph) / nI per * nI per).toInt = ((h : Int) - ph).tmod per := by
  rw [rem_toInt, pk_sub_toInt (by omega) (by omega), nI_toInt (by omega)]
theorem rm_pos {h ph per : Nat} (hh : h < 1000) (hp : ph < per) (hp2 : per ≤ 60) (h0 : ph ≤ h) : nI h - nI ph - (nI h - nI ph) / nI per * nI per = nI ((h + per - ph) % per) := by
  apply Int32.toInt.inj
  have e : (h + per - ph) % per = (h - ph) % per := by
    rw [show h + per - ph = (h - ph) + per by omega, Nat.add_mod_right]
  rw [rm_int hh hp hp2, nI_toInt (by have := Nat.mod_lt (h + per - ph) (by omega : 0 < per); omega), e, show (h : Int) - ph = ((h - ph : Nat) : Int) by omega]
  exact (Int.ofNat_tmod _ _).symm
theorem rm_neg {h ph per : Nat} (hh : h < 1000) (hp : ph < per) (hp2 : per ≤ 60) (h0 : h < ph) : (nI h - nI ph - (nI h - nI ph) / nI per * nI per).toInt = (h : Int) - ph ∧ nI h - nI ph - (nI h - nI ph) / nI per * nI per + nI per = nI ((h + per - ph) % per) := by
  have e1 : (nI h - nI ph - (nI h - nI ph) / nI per * nI per).toInt = (h : Int) - ph := by
    rw [rm_int hh hp hp2, show (h : Int) - ph = -((ph - h : Nat) : Int) by omega, Int.neg_tmod, ← Int.ofNat_tmod, Nat.mod_eq_of_lt (by omega)]
  refine ⟨e1, ?_⟩
  have e2 : nI h - nI ph - (nI h - nI ph) / nI per * nI per = nI h - nI ph := by
    apply Int32.toInt.inj
    rw [e1, pk_sub_toInt (by omega) (by omega)]
  rw [e2]
  apply Int32.toInt.inj
  have e3 : (h + per - ph) % per = h + per - ph := Nat.mod_eq_of_lt (by omega)
  rw [e3, nI_toInt (by omega), Int32.toInt_add, pk_sub_toInt (by omega) (by omega), nI_toInt (by omega)]
  have e4 : ((h : Int) - ph + per).bmod (2 ^ 32) = (h : Int) - ph + per := by
    apply Int.bmod_eq_of_le <;> omega
  rw [e4]
  omega
theorem sub_xor {h ph per : Nat} (hh : h < 1000) (hp : ph < per) (hp2 : per ≤ 60) : ((nI h - nI ph) ^^^ nI per).toInt < 0 ↔ h < ph := by
  rw [xor_neg (by rw [nI_toInt (by omega)]; omega), pk_sub_toInt (by omega) (by omega)]
  omega
/-- the quotient of a depth -/
def quo (d : Nat) : UInt64 := FP.ddiv (FP.i2d (nI (1000 - d))) 4652007308841189376
def dips (h per ph len : Nat) : Prop := (h + per - ph) % per < len
/-- the light behind the first k planets -/
def lF (own h : Nat) (per ph len dep : Nat → Nat) : Nat → UInt64
  | 0 => nD own
  | k + 1 => if (h + per k - ph k) % per k < len k then FP.dmul (lF own h per ph len dep k) (quo (dep k)) else lF own h per ph len dep k
def lS (own h np spin sd : Nat) (per ph len dep : Nat → Nat) : UInt64 := if 0 < spin ∧ h % spin < spin / 4 then FP.dmul (lF own h per ph len dep np) (quo sd) else lF own h per ph len dep np
def lV (own h np spin sd bl : Nat) (per ph len dep : Nat → Nat) : UInt64 := FP.dadd (lS own h np spin sd per ph len dep) (nD bl)
/-- no NaN on the way to a light -/
def LTok (own h np spin sd bl : Nat) (per ph len dep : Nat → Nat) : Prop :=
  (∀ k, k < np → vf_n64 (quo (dep k)) ∧ vf_n64 (FP.dmul (lF own h per ph len dep k) (quo (dep k)))) ∧ vf_n64 (quo sd) ∧ vf_n64 (FP.dmul (lF own h per ph len dep np) (quo sd)) ∧ vf_n64 (FP.dadd (lS own h np spin sd per ph len dep) (nD bl))
/-- a list of n objects, es their addresses, e its array -/
def LI (K : zK) (L : List Nat) (f : Nat → va_E) (a e n : Nat) (es : Nat → Nat) : Prop :=
  a ∈ L ∧ (∃ mc : Int32, f a = eS 0 [.int mc, .ref e, .int (nI n)]) ∧ ((n = 0 ∧ e = K.2.2.1) ∨ (e ∈ L ∧ ∃ (cap : Nat) (arr : Nat → Option Nat), f e = eO K cap arr ∧ 10 ≤ cap ∧ cap ≤ 60 ∧ n ≤ cap ∧ (∀ k, k < n → arr k = some (es k)) ∧ (∀ k, n ≤ k → arr k = none) ∧ 0 < n))
