/-! WHAT EACH CALL DOES: its code (0: it answers), its answer, the numbers behind it; for class and reference alike -/
abbrev iv (x : Int32) : Nat := x.toInt.toNat
abbrev iR (x : Int32) (a b : Int) : Prop := a ≤ x.toInt ∧ x.toInt ≤ b
/-- the light of star i in hour h -/
def ltV (A : zA) (i h : Nat) : UInt64 := lV (A.1 2 i) h (A.1 3 i) (A.1 8 i) (A.1 9 i) (A.1 10 i) (fun k => A.1 4 (4 * i + k)) (fun k => A.1 5 (4 * i + k)) (fun k => A.1 6 (4 * i + k)) (fun k => A.1 7 (4 * i + k))
abbrev isS (A : zA) (x : Int32) : Prop := iR x 0 ((ns A : Int) - 1)
abbrev isW (A : zA) (x : Int32) : Prop := iR x 0 ((nw A : Int) - 1)
abbrev isP (A : zA) (x : Int32) : Prop := iR x 0 ((np A : Int) - 1)
abbrev isH (x : Int32) : Prop := iR x 0 999
def k_star (A : zA) (x : Int32) : Nat := if ¬ iR x 1000 1000000 then 1 else if ns A = 6 then 2 else 0
def a_star (A : zA) (x : Int32) : zA := if k_star A x = 0 then set2 (set2 A 2 (ns A) (iv x)) 0 0 (ns A + 1) else A
def plF (p ph len d : Int32) : Prop := iR p 2 60 ∧ iR ph 0 (p.toInt - 1) ∧ iR len 1 4 ∧ len.toInt < p.toInt ∧ iR d 1 200
abbrev plG (p ph len d : Int32) : Prop := iR p 2 60 ∧ iR ph 0 (p.toInt - 1) ∧ iR len 1 4 ∧ len.toInt < p.toInt ∧ iR d 1 200
def k_planet (A : zA) (x p ph len d : Int32) : Nat := if ¬ isS A x then 1 else if ¬ plG p ph len d then 2 else if A.1 3 (iv x) = 4 then 3 else 0
def plA (A : zA) (i p ph len d : Nat) : zA := set2 (set2 (set2 (set2 (set2 A 4 (4 * i + A.1 3 i) p) 5 (4 * i + A.1 3 i) ph) 6 (4 * i + A.1 3 i) len) 7 (4 * i + A.1 3 i) d) 3 i (A.1 3 i + 1)
def a_planet (A : zA) (x p ph len d : Int32) : zA := if k_planet A x p ph len d = 0 then plA A (iv x) (iv p) (iv ph) (iv len) (iv d) else A
def k_spots (A : zA) (x s d : Int32) : Nat := if ¬ isS A x then 1 else if ¬ (iR s 4 60 ∧ iR d 0 100) then 2 else 0
def a_spots (A : zA) (x s d : Int32) : zA := if k_spots A x s d = 0 then stA A (iv x) (iv s) (iv d) (A.1 10 (iv x)) else A
def k_blend (A : zA) (x b : Int32) : Nat := if ¬ isS A x then 1 else if ¬ iR b 0 1000000 then 2 else 0
def a_blend (A : zA) (x b : Int32) : zA := if k_blend A x b = 0 then stA A (iv x) (A.1 8 (iv x)) (A.1 9 (iv x)) (iv b) else A
def k_light (A : zA) (x h : Int32) : Nat := if isS A x ∧ isH h then 0 else 1
def v_light (A : zA) (x h : Int32) : Int64 := (ltV A (iv x) (iv h)).toInt64
def k_cloud (a b : Int32) : Nat := if ¬ (isH a ∧ isH b) then 1 else if b.toInt < a.toInt then 2 else 0
/-- behind the first n hours from a on -/
def clA (A : zA) (a : Nat) : Nat → zA
  | 0 => A
  | n + 1 => if (clA A a n).1 11 (a + n) = 1 then clA A a n else hdA (clA A a n) (a + n)
def a_cloud (A : zA) (a b : Int32) : zA := if k_cloud a b = 0 then clA A (iv a) (iv b + 1 - iv a) else A
def v_cloud (A : zA) (a b : Int32) : Int32 := nI (hN (a_cloud A a b) 1000)
def k_observe (A : zA) (x a b : Int32) : Nat := if ¬ (isS A x ∧ isH a ∧ isH b) then 1 else if b.toInt < a.toInt then 2 else 0
def obA (A : zA) (i a : Nat) : Nat → zA
  | 0 => A
  | n + 1 => if (obA A i a n).1 11 (a + n) = 1 ∨ (obA A i a n).1 12 (1000 * i + (a + n)) = 1 then obA A i a n else kpA (obA A i a n) i (a + n) (ltV A i (a + n))
def a_observe (A : zA) (x a b : Int32) : zA := if k_observe A x a b = 0 then obA A (iv x) (iv a) (iv b + 1 - iv a) else A
def v_observe (A : zA) (x a b : Int32) : Int32 := nI ((a_observe A x a b).1 14 (iv x) - A.1 14 (iv x))
def k_kept (A : zA) (x h : Int32) : Nat := if isS A x ∧ isH h then 0 else 1
def v_kept (A : zA) (x h : Int32) : Int64 := if A.1 12 (1000 * iv x + iv h) = 1 then (A.2 (1000 * iv x + iv h)).toInt64 else -1
def k_fold (A : zA) (x p : Int32) : Nat := if ¬ isS A x then 1 else if ¬ iR p 2 60 then 2 else if A.1 14 (iv x) < 20 then 3 else 0
def v_score (A : zA) (x p : Int32) : Int64 := (scB (gk A (iv x)) (iv p)).toInt64
def v_phase (A : zA) (x p : Int32) : Int32 := oN (bFo (gk A (iv x)) (iv p))
def v_oddEven (A : zA) (x p : Int32) : Int64 := (oeF (gk A (iv x)) (iv p)).toInt64
def k_period (A : zA) (x t : Int32) : Nat := if ¬ isS A x then 1 else if ¬ iR t 0 1000000 then 2 else if pdT (gk A (iv x)) t = 0 then 3 else 0
def v_period (A : zA) (x t : Int32) : Int32 := nI (pdT (gk A (iv x)) t)
def k_whyNot (A : zA) (x t : Int32) : Nat := if ¬ isS A x then 1 else if ¬ iR t 0 1000000 then 2 else 0
def v_whyNot (A : zA) (x t : Int32) : Int32 := if A.1 14 (iv x) < 20 then 1 else if pdT (gk A (iv x)) t = 0 then 2 else 0
def k_world (A : zA) (x t : Int32) : Nat := if ¬ isS A x then 1 else if ¬ iR t 0 1000000 then 2 else if nw A = 12 ∨ pdT (gk A (iv x)) t = 0 then 3 else 0
def woA (A : zA) (i p ph : Nat) : zA := set2 (set2 (set2 (set2 A 20 (nw A) i) 21 (nw A) p) 22 (nw A) ph) 0 1 (nw A + 1)
def phN (g : Nat → UInt64) (p : Nat) : Nat := match bFo g p with
  | none => 0
  | some b => b
def a_world (A : zA) (x t : Int32) : zA := if k_world A x t = 0 then woA A (iv x) (pdT (gk A (iv x)) t) (phN (gk A (iv x)) (pdT (gk A (iv x)) t)) else A
def k_about (A : zA) (w x : Int32) : Nat := if ¬ isW A w then 1 else if ¬ iR x 0 3 then 2 else 0
def v_about (A : zA) (w x : Int32) : Int32 := if iv x = 0 then nI (A.1 20 (iv w)) else if iv x = 1 then nI (A.1 21 (iv w)) else if iv x = 2 then nI (A.1 22 (iv w)) else nI (A.1 23 (iv w))
def k_anew (A : zA) (w : Int32) : Nat := if isW A w then 0 else 1
def v_anew (A : zA) (w : Int32) : Int32 := nI (A.1 21 (iv w))
def k_paper (A : zA) (w c : Int32) : Nat := if ¬ (isW A w ∧ (c = -1 ∨ isP A c)) then 1 else if A.1 23 (iv w) = 1 ∨ (c ≠ -1 ∧ fell A (iv c) = true) ∨ np A = 30 then 2 else 0
def paA (A : zA) (w c1 : Nat) : zA := set2 (set2 (set2 A 25 (np A) w) 26 (np A) c1) 0 2 (np A + 1)
def a_paper (A : zA) (w c : Int32) : zA := if k_paper A w c = 0 then paA A (iv w) (if c = -1 then 0 else iv c + 1) else A
def k_withdraw (A : zA) (w : Int32) : Nat := if ¬ isW A w then 1 else if A.1 23 (iv w) = 1 then 2 else 0
def a_withdraw (A : zA) (w : Int32) : zA := if k_withdraw A w = 0 then set2 A 23 (iv w) 1 else A
def faN (A : zA) : Nat → Nat
  | 0 => 0
  | n + 1 => if fell A n = true then faN A n + 1 else faN A n
def v_withdraw (A : zA) (w : Int32) : Int32 := nI (faN (a_withdraw A w) (np A) - faN A (np A))
def k_fallen (A : zA) (p : Int32) : Nat := if isP A p then 0 else 1
def v_fallen (A : zA) (p : Int32) : Int32 := nI (b2 (fell A (iv p)))
/-- which exception a code stands for -/
def xE (es : List String) (k : Nat) (E : String) : Prop := 0 < k ∧ es[k - 1]? = some E
/-- from one picture to the next -/
def CR (K : zK) (A : zA) (ad : Nat → Nat) (L : List Nat) (f : Nat → va_E) (A' : zA) (L1 : List Nat) (f1 : Nat → va_E) : Prop :=
  ∃ ad', CI K L1 f1 A' ad' ∧ ad' 1 = ad 1 ∧ (∀ q, q ∈ L → q ∈ L1) ∧ ∀ q, q ∈ L → (∀ t, live A t → ad t ≠ q) → f1 q = f q ∧ ∀ t, live A' t → ad' t ≠ q
theorem CR.id {K : zK} {A : zA} {ad : Nat → Nat} {L : List Nat} {f : Nat → va_E} (h : CI K L f A ad) : CR K A ad L f A L f := ⟨ad, h, rfl, fun _ h => h, fun q _ h => ⟨rfl, h⟩⟩
theorem CR.same {K : zK} {A A' : zA} {ad : Nat → Nat} {L : List Nat} {f f1 : Nat → va_E} (h : CI K L f1 A' ad) (h0 : A'.1 0 = A.1 0) (h3 : A'.1 3 = A.1 3) (hfr : ∀ q, (∀ t, live A t → ad t ≠ q) → f1 q = f q) : CR K A ad L f A' L f1 :=
  ⟨ad, h, rfl, fun _ h => h, fun q _ hq => ⟨hfr q hq, fun t ht => hq t ((live_same h0 h3).mp ht)⟩⟩
/-! OF DOUBLES (34a) -/
theorem lt_ok {A : zA} (h : VA A) {i : Nat} (hi : i < ns A) (x : Nat) : LTok (A.1 2 i) x (A.1 3 i) (A.1 8 i) (A.1 9 i) (A.1 10 i) (fun k => A.1 4 (4 * i + k)) (fun k => A.1 5 (4 * i + k)) (fun k => A.1 6 (4 * i + k)) (fun k => A.1 7 (4 * i + k)) ∧ Lb (ltV A i x) := by
  obtain ⟨-, -, -, hs, -⟩ := h
  obtain ⟨v1, v2, v3, -, v5, v6, -, v8⟩ := hs i hi
  exact d_lt v1 v2 v3 (fun k hk => (v8 k hk).2.2.2.2.2.2) (by omega) v6
theorem Lb_bits {x : UInt64} (h : Lb x) : BOK x := by
  refine Or.inr ⟨x.toNat / 2 ^ 52, x.toNat % 2 ^ 52, ?_, ?_, Nat.mod_lt _ (by decide), Or.inl ?_⟩
  · have := h.1; omega
  · have := h.2; omega
  · unfold nx
    rw [Nat.div_add_mod', UInt64.ofNat_toNat]
theorem gk_ok {A : zA} (h : VA A) (i : Nat) : Gok (gk A i) := by
  intro h9
  unfold gk
  split
  · rename_i z; exact Or.inr (h.2.2.2.2.2.2.2.1 _ z.2)
  · exact Or.inl rfl
theorem fp_ok {g : Nat → UInt64} (h : Gok g) : FPok g := d_fp_ok h
theorem sc_bits {g : Nat → UInt64} (h : Gok g) {p : Nat} (h1 : 2 ≤ p) (h2 : p ≤ 60) : BOK (scB g p) := d_sc_bits h p
theorem oe_bits {g : Nat → UInt64} (h : Gok g) {p : Nat} (h1 : 2 ≤ p) (h2 : p ≤ 60) : BOK (oeF g p) := d_oe_bits h p
theorem bp_pd {g : Nat → UInt64} (h : Gok g) {t : Int32} (ht : iR t 0 1000000) : bpT g t = if pdT g t = 0 then none else some (pdT g t) := d_bp_pd h t
