/-! WHAT THE LAW KEEPS TO: the class's numbers beside the law's own (tm: the time; bl: blends by times; kt: 0, or 1 more than the time at which an hour was kept) -/
def lwA (A : zA) (h b : Nat) : Nat := lwF (A.1 2 0) h (A.1 4) (A.1 5) (A.1 6) (A.1 3 0) + b
def GA (A : zA) (bl kt : Nat → Nat) (h : Nat) : Nat := if kt h ≠ 0 then lwA A h (bl (kt h - 1)) else 0
def PG (A : zA) (tm : Nat) (bl kt : Nat → Nat) : Prop :=
  ns A = 1 ∧ (∃ m, 0 < m ∧ m ≤ 244 ∧ A.1 2 0 = 4096 * m) ∧ (∀ k, k < A.1 3 0 → A.1 7 k = 125) ∧ A.1 9 0 = 0 ∧ tm ≤ 2 ∧ A.1 10 0 = bl tm ∧ (∀ j, bl j < 3000) ∧ (∀ h, kt h ≤ tm + 1) ∧ (∀ h, 1000 ≤ h → kt h = 0) ∧
  (∀ h, h < 1000 → (A.1 12 h = 1 ↔ kt h ≠ 0)) ∧ (∀ h, h < 1000 → kt h ≠ 0 → A.2 h = nD (lwA A h (bl (kt h - 1)))) ∧ ∀ w, w < nw A → A.1 20 w = 0
/-- planets of the one star -/
theorem VA.pl {A : zA} (hV : VA A) (h1 : ns A = 1) : A.1 3 0 ≤ 4 ∧ ∀ k, k < A.1 3 0 → 2 ≤ A.1 4 k ∧ A.1 4 k ≤ 60 ∧ A.1 5 k < A.1 4 k ∧ 1 ≤ A.1 6 k ∧ A.1 6 k ≤ 4 := by
  obtain ⟨-, -, -, hs, -⟩ := hV
  obtain ⟨-, -, v3, -, -, -, -, v8⟩ := hs 0 (by omega)
  refine ⟨v3, fun k hk => ?_⟩
  have := v8 k hk
  rw [show 4 * 0 + k = k by omega] at this
  exact ⟨this.1, this.2.1, this.2.2.1, this.2.2.2.1, this.2.2.2.2.1⟩
theorem lwA_b {A : zA} {tm : Nat} {bl kt : Nat → Nat} (hV : VA A) (hP : PG A tm bl kt) (h : Nat) {b : Nat} (hb : b < 3000) : 0 < lwA A h b ∧ lwA A h b ≤ 2 ^ 20 := by
  obtain ⟨h1, ⟨m, m1, m2, m3⟩, -⟩ := hP
  have h3 := (hV.pl h1).1
  have a1 := lwF_le (A.1 2 0) h (A.1 4) (A.1 5) (A.1 6) (A.1 3 0)
  have a2 := lwF_pos (h := h) (per := A.1 4) (ph := A.1 5) (len := A.1 6) m3 m1 h3
  unfold lwA
  omega
theorem GT_GA {A : zA} {tm : Nat} {bl kt : Nat → Nat} (hV : VA A) (hP : PG A tm bl kt) : GT (GA A bl kt) kt := by
  have hb := hP.2.2.2.2.2.2.1
  refine ⟨fun h => ?_, fun h => ?_, hP.2.2.2.2.2.2.2.2.1⟩
  · unfold GA
    split
    · exact (lwA_b hV hP h (hb _)).2
    · exact Nat.zero_le _
  · unfold GA
    constructor
    · intro c
      rw [if_pos c]
      have := (lwA_b hV hP h (hb (kt h - 1))).1
      omega
    · intro c d
      rw [if_neg (fun z => z d)] at c
      exact c rfl
theorem gk_GA {A : zA} {tm : Nat} {bl kt : Nat → Nat} (hP : PG A tm bl kt) : gk A 0 = gD (GA A bl kt) := by
  obtain ⟨-, -, -, -, -, -, -, -, h0, hk, hl, -⟩ := hP
  funext h
  unfold gk gD GA
  rw [show 1000 * 0 + h = h by omega]
  by_cases c : h < 1000
  · by_cases d : kt h ≠ 0
    · rw [if_pos ⟨c, (hk h c).mpr d⟩, if_pos d, hl h c d]
    · rw [if_neg (fun z => d ((hk h c).mp z.2)), if_neg d, nD_0]
  · rw [if_neg (fun z => c z.1), if_neg (fun z => z (h0 h (by omega))), nD_0]
theorem ltV_A {A : zA} {tm : Nat} {bl kt : Nat → Nat} (hV : VA A) (hP : PG A tm bl kt) (h : Nat) : ltV A 0 h = nD (lwA A h (A.1 10 0)) := by
  obtain ⟨h1, ⟨m, m1, m2, m3⟩, h7, h9, -, h10, hb, -⟩ := hP
  have hbb := hb tm
  have e4 : (fun k => A.1 4 (4 * 0 + k)) = A.1 4 := by funext k; rw [show 4 * 0 + k = k by omega]
  have e5 : (fun k => A.1 5 (4 * 0 + k)) = A.1 5 := by funext k; rw [show 4 * 0 + k = k by omega]
  have e6 : (fun k => A.1 6 (4 * 0 + k)) = A.1 6 := by funext k; rw [show 4 * 0 + k = k by omega]
  have e7 : (fun k => A.1 7 (4 * 0 + k)) = A.1 7 := by funext k; rw [show 4 * 0 + k = k by omega]
  unfold ltV
  rw [e4, e5, e6, e7, h9]
  exact lV_nat m3 (by omega) (hV.pl h1).1 h7
theorem hG_A {A : zA} {tm : Nat} {bl kt : Nat → Nat} (hV : VA A) (hP : PG A tm bl kt) : A.1 14 0 = hG kt := by
  have h1 := hP.1
  have hg := gk_GA hP
  have ht := GT_GA hV hP
  obtain ⟨-, -, -, hs, -⟩ := hV
  rw [(hs 0 (by omega)).2.2.2.2.2.2.1, hg, fN_c ht]
  rfl
/-- the law's row of planets -/
def PVA (A : zA) (pv : Nat → Nat) : Prop := pv 0 = A.1 2 0 ∧ pv 13 = A.1 3 0 ∧ ∀ k, k < A.1 3 0 → pv (1 + 3 * k) = A.1 4 k ∧ pv (2 + 3 * k) = A.1 5 k ∧ pv (3 + 3 * k) = A.1 6 k
theorem PVA.ok {A : zA} {tm : Nat} {bl kt pv : Nat → Nat} (h : PVA A pv) (hV : VA A) (hP : PG A tm bl kt) : PVok pv := by
  obtain ⟨p0, p13, hp⟩ := h
  have hm := hP.2.1
  obtain ⟨m, m1, m2, m3⟩ := hm
  have hpl := hV.pl hP.1
  refine ⟨by rw [p0]; omega, by rw [p13]; exact hpl.1, fun k hk => ?_⟩
  rw [p13] at hk
  obtain ⟨a1, a2, a3⟩ := hp k hk
  rw [a1, a2, a3]
  exact hpl.2 k hk
theorem lwQ_eq {A : zA} {pv : Nat → Nat} (h : PVA A pv) (x : Nat) : ∀ k, k ≤ A.1 3 0 → lwQ pv x k = lwF (A.1 2 0) x (A.1 4) (A.1 5) (A.1 6) k
  | 0, _ => h.1
  | k + 1, hk => by
    have ih := lwQ_eq h x k (by omega)
    obtain ⟨a1, a2, a3⟩ := h.2.2 k (by omega)
    by_cases c : (x + A.1 4 k - A.1 5 k) % A.1 4 k < A.1 6 k
    · rw [lwQ_t (by rw [a1, a2, a3]; exact c), lwF, if_pos c, ih]
    · rw [lwQ_f (by rw [a1, a2, a3]; exact c), lwF, if_neg c, ih]
theorem lwP_eq {A : zA} {pv : Nat → Nat} (h : PVA A pv) (x b : Nat) : lwP pv x b = lwA A x b := by
  unfold lwP lwA
  rw [h.2.1, lwQ_eq h x _ (Nat.le_refl _)]
theorem GL_eq {A : zA} {pv bl kt : Nat → Nat} (h : PVA A pv) : GL pv bl kt = GA A bl kt := by
  funext x
  unfold GL GA
  rw [lwP_eq h]
theorem CR.trans {K : zK} {A A1 A2 : zA} {ad : Nat → Nat} {L L1 L2 : List Nat} {f f1 f2 : Nat → va_E} {ad1 : Nat → Nat} (h1 : CI K L1 f1 A1 ad1) (e1 : ad1 1 = ad 1) (g1 : ∀ q, q ∈ L → q ∈ L1) (k1 : ∀ q, q ∈ L → (∀ t, live A t → ad t ≠ q) → f1 q = f q ∧ ∀ t, live A1 t → ad1 t ≠ q) (h : CR K A1 ad1 L1 f1 A2 L2 f2) : CR K A ad L f A2 L2 f2 := by
  obtain ⟨ad2, c1, c2, c3, c4⟩ := h
  refine ⟨ad2, c1, c2.trans e1, fun q hq => c3 q (g1 q hq), fun q hq hn => ?_⟩
  obtain ⟨a1, a2⟩ := k1 q hq hn
  obtain ⟨b1, b2⟩ := c4 q (g1 q hq) a2
  exact ⟨b1.trans a1, b2⟩
theorem cx_at {K : zK} {L : List Nat} {f : Nat → va_E} {A : zA} {ad : Nat → Nat} (h : CI K L f A ad) : f (ad 1) = eS 7 [.ref (ad 6), .ref (ad 8), .ref (ad 10), .ref (ad 5), .int (nI (hN A 1000)), .ref (ad 2)] := h.2.2.2.1
theorem ci_1 {K : zK} {L : List Nat} {f : Nat → va_E} {A : zA} {ad : Nat → Nat} (h : CI K L f A ad) : ad 1 ∈ L := h.2.1 1 (live_c (by omega))
/-- what `asked` keeps to: the class's picture, the law's rows of light, and how the world stands to that at its beginning -/
def AS (K : zK) (A : zA) (a2 a3 a4 : Nat) (pv bl : Nat → Nat) (kb : Nat → Int64) (kt : Nat → Nat) (ad0 : Nat → Nat) (L0 : List Nat) (f0 : Nat → va_E) (L : List Nat) (f : Nat → va_E) (ad : Nat → Nat) : Prop :=
  CI K L f A ad ∧ LW K L f a2 a3 a4 pv bl kb kt ∧ (∀ t, live A t → ad t ≠ a2 ∧ ad t ≠ a3 ∧ ad t ≠ a4) ∧ ad 1 = ad0 1 ∧ (∀ q, q ∈ L0 → q ∈ L) ∧ ∀ q, q ∈ L0 → (∀ t, live A t → ad0 t ≠ q) → f q = f0 q ∧ ∀ t, live A t → ad t ≠ q
theorem AS.step {K : zK} {A : zA} {a2 a3 a4 : Nat} {pv bl kt : Nat → Nat} {kb : Nat → Int64} {ad0 ad : Nat → Nat} {L0 L L1 : List Nat} {f0 f f1 : Nat → va_E} (h : AS K A a2 a3 a4 pv bl kb kt ad0 L0 f0 L f ad) (hc : CR K A ad L f A L1 f1) : ∃ ad', ad' 1 = ad 1 ∧ AS K A a2 a3 a4 pv bl kb kt ad0 L0 f0 L1 f1 ad' := by
  obtain ⟨h1, ⟨w1, w2, w3, w4, w5, w6, w7⟩, h3, h4, h5, h6⟩ := h
  obtain ⟨ad', c1, c2, c3, c4⟩ := hc
  obtain ⟨x2, y2⟩ := c4 a2 w1 (fun t ht => (h3 t ht).1)
  obtain ⟨x3, y3⟩ := c4 a3 w3 (fun t ht => (h3 t ht).2.1)
  obtain ⟨x4, y4⟩ := c4 a4 w5 (fun t ht => (h3 t ht).2.2)
  refine ⟨ad', c2, c1, ⟨c3 _ w1, x2.trans w2, c3 _ w3, x3.trans w4, c3 _ w5, x4.trans w6, w7⟩, fun t ht => ⟨y2 t ht, y3 t ht, y4 t ht⟩, c2.trans h4, fun q hq => c3 q (h5 q hq), fun q hq hn => ?_⟩
  obtain ⟨a1, a2⟩ := h6 q hq hn
  obtain ⟨b1, b2⟩ := c4 q (h5 q hq) a2
  exact ⟨b1.trans a1, b2⟩
theorem AS.cr {K : zK} {A : zA} {a2 a3 a4 : Nat} {pv bl kt : Nat → Nat} {kb : Nat → Int64} {ad0 ad : Nat → Nat} {L0 L : List Nat} {f0 f : Nat → va_E} (h : AS K A a2 a3 a4 pv bl kb kt ad0 L0 f0 L f ad) : CR K A ad0 L0 f0 A L f := ⟨ad, h.1, h.2.2.2.1, h.2.2.2.2.1, h.2.2.2.2.2⟩
/-- codes of calls at the one star -/
theorem iR_n {n : Nat} (h : n < 2 ^ 31) {a b : Int} (h1 : a ≤ n) (h2 : (n : Int) ≤ b) : iR (nI n) a b := by
  show a ≤ (nI n).toInt ∧ (nI n).toInt ≤ b
  rw [nI_toInt h]
  exact ⟨h1, h2⟩
theorem isS_0 {A : zA} (h1 : ns A = 1) : isS A (nI 0) := iR_n (by decide) (by omega) (by omega)
theorem kf_0 {A : zA} {q : Nat} (h1 : ns A = 1) (q1 : 2 ≤ q) (q2 : q ≤ 60) (h : 20 ≤ A.1 14 0) : k_fold A (nI 0) (nI q) = 0 := by
  unfold k_fold
  rw [if_neg (fun z => z (isS_0 h1)), if_neg (fun z => z (iR_n (by omega) (by omega) (by omega))), iv_0, if_neg (by omega)]
theorem kw_0 {A : zA} {x : Nat} (h1 : ns A = 1) (hx : x ≤ 1000000) : k_whyNot A (nI 0) (nI x) = 0 := by
  unfold k_whyNot
  rw [if_neg (fun z => z (isS_0 h1)), if_neg (fun z => z (iR_n (by omega) (by omega) (by omega)))]
theorem kp_x {A : zA} {x : Nat} (h1 : ns A = 1) (hx : x ≤ 1000000) : k_period A (nI 0) (nI x) = if pdT (gk A 0) (nI x) = 0 then 3 else 0 := by
  unfold k_period
  rw [if_neg (fun z => z (isS_0 h1)), if_neg (fun z => z (iR_n (by omega) (by omega) (by omega))), iv_0]
theorem kp_E {A : zA} {x : Nat} (h1 : ns A = 1) (hx : x ≤ 1000000) (E : String) (h : xE [xIO, xIA, xIS] (k_period A (nI 0) (nI x)) E) : E = xIS := by
  rw [kp_x h1 hx] at h
  split at h
  · exact (Option.some.inj h.2).symm
  · exact absurd h.1 (Nat.lt_irrefl 0)
theorem kp_v {A : zA} {x : Nat} (h1 : ns A = 1) (hx : x ≤ 1000000) : (if k_period A (nI 0) (nI x) = 0 then v_period A (nI 0) (nI x) else nI 0) = nI (pdT (gk A 0) (nI x)) := by
  rw [kp_x h1 hx]
  unfold v_period
  rw [iv_0]
  by_cases c : pdT (gk A 0) (nI x) = 0
  · rw [if_pos c, if_neg (by decide), c]
  · rw [if_neg c, if_pos rfl]
theorem vw_v {A : zA} {x : Nat} : v_whyNot A (nI 0) (nI x) = if A.1 14 0 < 20 then 1 else if pdT (gk A 0) (nI x) = 0 then 2 else 0 := by
  unfold v_whyNot
  rw [iv_0]
theorem u_long (x : UInt64) : x.toInt64 = lN x.toNat := by
  apply Int64.toBitVec_inj.mp
  show x.toBitVec = BitVec.ofNat 64 x.toNat
  apply BitVec.eq_of_toNat_eq
  rw [BitVec.toNat_ofNat]
  exact (Nat.mod_eq_of_lt x.toNat_lt).symm
theorem neg_L {n : Nat} (h : 2 ^ 63 ≤ n) (h2 : n < 2 ^ 64) : (lN n).toInt < 0 := by
  rw [show (lN n).toInt = (n : Int).bmod (2 ^ 64) from Int64.toInt_ofNat', Int.bmod_def]
  split <;> omega
theorem pos_L {n : Nat} (h : n < 2 ^ 63) : 0 ≤ (lN n).toInt := by rw [jN_toInt h]; omega
