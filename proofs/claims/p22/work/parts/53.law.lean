/-! THE LAW'S ROWS beside the class's picture; what each call does to what the law keeps to -/
def FF (K : zK) (pv bl : Nat → Nat) (kb hb : Nat → Int64) (pe go ow : Nat → Nat) (ci : Nat → Int32) (fa : Nat → Nat) : Nat → va_E := fun i => match i with
  | 2 => eI K 14 (fun j => nI (pv j))
  | 3 => eI K 3 (fun j => nI (bl j))
  | 4 => eJ K 48 kb
  | 5 => eJ K 16 hb
  | 6 => eI K 12 (fun j => nI (pe j))
  | 7 => eI K 12 (fun j => nI (go j))
  | 8 => eI K 30 (fun j => nI (ow j))
  | 9 => eI K 30 ci
  | 10 => eI K 30 (fun j => nI (fa j))
  | _ => eI K 0 (fun _ => 0)
theorem up_match {α : Type} {F F' : Nat → α} {i : Nat} {x : α} (h : ∀ j, j ≠ i → F' j = F j) (hi : F' i = x) : va_up F i x = F' := by
  funext j
  by_cases e : j = i
  · subst e; rw [va_up_self, hi]
  · rw [va_up_ne _ _ e, h j e]
section UP
variable {K : zK} {pv bl : Nat → Nat} {kb hb : Nat → Int64} {pe go ow : Nat → Nat} {ci : Nat → Int32} {fa : Nat → Nat}
theorem FF_2 (x : Nat → Nat) : va_up (FF K pv bl kb hb pe go ow ci fa) 2 (eI K 14 (fun j => nI (x j))) = FF K x bl kb hb pe go ow ci fa := up_match (fun j hj => by unfold FF; split <;> first | rfl | exact absurd rfl hj) rfl
theorem FF_3 (x : Nat → Nat) : va_up (FF K pv bl kb hb pe go ow ci fa) 3 (eI K 3 (fun j => nI (x j))) = FF K pv x kb hb pe go ow ci fa := up_match (fun j hj => by unfold FF; split <;> first | rfl | exact absurd rfl hj) rfl
theorem FF_4 (x : Nat → Int64) : va_up (FF K pv bl kb hb pe go ow ci fa) 4 (eJ K 48 x) = FF K pv bl x hb pe go ow ci fa := up_match (fun j hj => by unfold FF; split <;> first | rfl | exact absurd rfl hj) rfl
theorem FF_5 (x : Nat → Int64) : va_up (FF K pv bl kb hb pe go ow ci fa) 5 (eJ K 16 x) = FF K pv bl kb x pe go ow ci fa := up_match (fun j hj => by unfold FF; split <;> first | rfl | exact absurd rfl hj) rfl
theorem FF_6 (x : Nat → Nat) : va_up (FF K pv bl kb hb pe go ow ci fa) 6 (eI K 12 (fun j => nI (x j))) = FF K pv bl kb hb x go ow ci fa := up_match (fun j hj => by unfold FF; split <;> first | rfl | exact absurd rfl hj) rfl
theorem FF_7 (x : Nat → Nat) : va_up (FF K pv bl kb hb pe go ow ci fa) 7 (eI K 12 (fun j => nI (x j))) = FF K pv bl kb hb pe x ow ci fa := up_match (fun j hj => by unfold FF; split <;> first | rfl | exact absurd rfl hj) rfl
theorem FF_8 (x : Nat → Nat) : va_up (FF K pv bl kb hb pe go ow ci fa) 8 (eI K 30 (fun j => nI (x j))) = FF K pv bl kb hb pe go x ci fa := up_match (fun j hj => by unfold FF; split <;> first | rfl | exact absurd rfl hj) rfl
theorem FF_9 (x : Nat → Int32) : va_up (FF K pv bl kb hb pe go ow ci fa) 9 (eI K 30 x) = FF K pv bl kb hb pe go ow x fa := up_match (fun j hj => by unfold FF; split <;> first | rfl | exact absurd rfl hj) rfl
theorem FF_10 (x : Nat → Nat) : va_up (FF K pv bl kb hb pe go ow ci fa) 10 (eI K 30 (fun j => nI (x j))) = FF K pv bl kb hb pe go ow ci x := up_match (fun j hj => by unfold FF; split <;> first | rfl | exact absurd rfl hj) rfl
end UP
def LSt (K : zK) (A : zA) (B : Nat → Nat) (F : Nat → va_E) (L : List Nat) (f : Nat → va_E) (ad : Nat → Nat) : Prop :=
  CI K L f A ad ∧ (∀ i, 2 ≤ i → i ≤ 10 → B i ∈ L ∧ f (B i) = F i ∧ ∀ t, live A t → ad t ≠ B i) ∧ ∀ i j, 2 ≤ i → i ≤ 10 → 2 ≤ j → j ≤ 10 → i ≠ j → B i ≠ B j
theorem LSt.cr {K : zK} {A A' : zA} {B : Nat → Nat} {F : Nat → va_E} {L L1 : List Nat} {f f1 : Nat → va_E} {ad : Nat → Nat} (h : LSt K A B F L f ad) (hc : CR K A ad L f A' L1 f1) : ∃ ad', ad' 1 = ad 1 ∧ LSt K A' B F L1 f1 ad' := by
  obtain ⟨h1, h2, h3⟩ := h
  obtain ⟨ad', c1, c2, c3, c4⟩ := hc
  refine ⟨ad', c2, c1, fun i i1 i2 => ?_, h3⟩
  obtain ⟨a1, a2, a3⟩ := h2 i i1 i2
  obtain ⟨b1, b2⟩ := c4 _ a1 a3
  exact ⟨c3 _ a1, b1.trans a2, b2⟩
theorem LSt.up {K : zK} {A : zA} {B : Nat → Nat} {F : Nat → va_E} {L : List Nat} {f : Nat → va_E} {ad : Nat → Nat} (h : LSt K A B F L f ad) {i : Nat} (i1 : 2 ≤ i) (i2 : i ≤ 10) (x : va_E) : LSt K A B (va_up F i x) L (va_up f (B i) x) ad := by
  obtain ⟨h1, h2, h3⟩ := h
  have hn := (h2 i i1 i2).2.2
  refine ⟨h1.sub (fun _ h => h) (fun t ht => va_up_ne _ _ (hn t ht)), fun j j1 j2 => ?_, h3⟩
  obtain ⟨a1, a2, a3⟩ := h2 j j1 j2
  refine ⟨a1, ?_, a3⟩
  by_cases e : j = i
  · subst e; rw [va_up_self, va_up_self]
  · rw [va_up_ne _ _ (h3 j i j1 j2 i1 i2 e), va_up_ne _ _ e, a2]
theorem LSt.f {K : zK} {A : zA} {B : Nat → Nat} {F F' : Nat → va_E} {L : List Nat} {f : Nat → va_E} {ad : Nat → Nat} (h : LSt K A B F L f ad) (e : ∀ i, 2 ≤ i → i ≤ 10 → F i = F' i) : LSt K A B F' L f ad := ⟨h.1, fun i i1 i2 => ⟨(h.2.1 i i1 i2).1, (h.2.1 i i1 i2).2.1.trans (e i i1 i2), (h.2.1 i i1 i2).2.2⟩, h.2.2⟩
/-- hidden hours as the law has them -/
def HBok (A : zA) (hb : Nat → Int64) : Prop := ∀ x, x < 1000 → jB (hb (x / 64)) (x % 64) = decide (A.1 11 x = 1)
/-- papers as the law has them -/
def PAok (A : zA) (ow : Nat → Nat) (ci : Nat → Int32) (fa : Nat → Nat) : Prop := (∀ j, j < np A → ow j = A.1 25 j ∧ ci j = wnV (A.1 26 j)) ∧ ∀ j, fa j = if j < np A then b2 (fell A j) else 0
/-- what stands at the head of each turn -/
def INV (K : zK) (A : zA) (B : Nat → Nat) (tm : Nat) (bl kt : Nat → Nat) (L : List Nat) (f : Nat → va_E) (ad : Nat → Nat) : Prop :=
  ∃ (pv : Nat → Nat) (kb hb : Nat → Int64) (pe ow : Nat → Nat) (ci : Nat → Int32) (fa : Nat → Nat), LSt K A B (FF K pv bl kb hb pe (A.1 23) ow ci fa) L f ad ∧ PG A tm bl kt ∧ PVA A pv ∧ KBok kb kt ∧ HBok A hb ∧ (∀ w, w < nw A → pe w = A.1 21 w) ∧ PAok A ow ci fa
theorem LSt.lw {K : zK} {A : zA} {B : Nat → Nat} {pv bl kt : Nat → Nat} {kb hb : Nat → Int64} {pe go ow : Nat → Nat} {ci : Nat → Int32} {fa : Nat → Nat} {L : List Nat} {f : Nat → va_E} {ad : Nat → Nat} (h : LSt K A B (FF K pv bl kb hb pe go ow ci fa) L f ad) {tm : Nat} (hP : PG A tm bl kt) (hpa : PVA A pv) (hkb : KBok kb kt) : LW K L f (B 2) (B 3) (B 4) pv bl kb kt := by
  have hV := h.1.1
  have q2 := h.2.1 2 (by decide) (by decide)
  have q3 := h.2.1 3 (by decide) (by decide)
  have q4 := h.2.1 4 (by decide) (by decide)
  refine ⟨q2.1, q2.2.1, q3.1, q3.2.1, q4.1, q4.2.1, hpa.ok hV hP, hkb, hP.2.2.2.2.2.2.2.2.1, fun j => Nat.lt_trans (hP.2.2.2.2.2.2.1 j) (by decide), ?_⟩
  rw [GL_eq hpa]
  exact GT_GA hV hP
section ACC
variable {K : zK} {A : zA} {B : Nat → Nat} {pv bl : Nat → Nat} {kb hb : Nat → Int64} {pe go ow : Nat → Nat} {ci : Nat → Int32} {fa : Nat → Nat} {L : List Nat} {f : Nat → va_E} {ad : Nat → Nat}
theorem LSt.m (h : LSt K A B (FF K pv bl kb hb pe go ow ci fa) L f ad) {i : Nat} (i1 : 2 ≤ i) (i2 : i ≤ 10) : B i ∈ L := (h.2.1 i i1 i2).1
theorem LSt.s2 (h : LSt K A B (FF K pv bl kb hb pe go ow ci fa) L f ad) : f (B 2) = eI K 14 (fun j => nI (pv j)) := (h.2.1 2 (by decide) (by decide)).2.1
theorem LSt.s3 (h : LSt K A B (FF K pv bl kb hb pe go ow ci fa) L f ad) : f (B 3) = eI K 3 (fun j => nI (bl j)) := (h.2.1 3 (by decide) (by decide)).2.1
theorem LSt.s4 (h : LSt K A B (FF K pv bl kb hb pe go ow ci fa) L f ad) : f (B 4) = eJ K 48 kb := (h.2.1 4 (by decide) (by decide)).2.1
theorem LSt.s5 (h : LSt K A B (FF K pv bl kb hb pe go ow ci fa) L f ad) : f (B 5) = eJ K 16 hb := (h.2.1 5 (by decide) (by decide)).2.1
theorem LSt.s6 (h : LSt K A B (FF K pv bl kb hb pe go ow ci fa) L f ad) : f (B 6) = eI K 12 (fun j => nI (pe j)) := (h.2.1 6 (by decide) (by decide)).2.1
theorem LSt.s7 (h : LSt K A B (FF K pv bl kb hb pe go ow ci fa) L f ad) : f (B 7) = eI K 12 (fun j => nI (go j)) := (h.2.1 7 (by decide) (by decide)).2.1
theorem LSt.s8 (h : LSt K A B (FF K pv bl kb hb pe go ow ci fa) L f ad) : f (B 8) = eI K 30 (fun j => nI (ow j)) := (h.2.1 8 (by decide) (by decide)).2.1
theorem LSt.s9 (h : LSt K A B (FF K pv bl kb hb pe go ow ci fa) L f ad) : f (B 9) = eI K 30 ci := (h.2.1 9 (by decide) (by decide)).2.1
theorem LSt.s10 (h : LSt K A B (FF K pv bl kb hb pe go ow ci fa) L f ad) : f (B 10) = eI K 30 (fun j => nI (fa j)) := (h.2.1 10 (by decide) (by decide)).2.1
theorem LSt.u2 (h : LSt K A B (FF K pv bl kb hb pe go ow ci fa) L f ad) (x : Nat → Nat) : LSt K A B (FF K x bl kb hb pe go ow ci fa) L (va_up f (B 2) (eI K 14 (fun j => nI (x j)))) ad := by rw [← FF_2]; exact h.up (by decide) (by decide) _
theorem LSt.u3 (h : LSt K A B (FF K pv bl kb hb pe go ow ci fa) L f ad) (x : Nat → Nat) : LSt K A B (FF K pv x kb hb pe go ow ci fa) L (va_up f (B 3) (eI K 3 (fun j => nI (x j)))) ad := by rw [← FF_3]; exact h.up (by decide) (by decide) _
theorem LSt.u4 (h : LSt K A B (FF K pv bl kb hb pe go ow ci fa) L f ad) (x : Nat → Int64) : LSt K A B (FF K pv bl x hb pe go ow ci fa) L (va_up f (B 4) (eJ K 48 x)) ad := by rw [← FF_4]; exact h.up (by decide) (by decide) _
theorem LSt.u5 (h : LSt K A B (FF K pv bl kb hb pe go ow ci fa) L f ad) (x : Nat → Int64) : LSt K A B (FF K pv bl kb x pe go ow ci fa) L (va_up f (B 5) (eJ K 16 x)) ad := by rw [← FF_5]; exact h.up (by decide) (by decide) _
theorem LSt.u6 (h : LSt K A B (FF K pv bl kb hb pe go ow ci fa) L f ad) (x : Nat → Nat) : LSt K A B (FF K pv bl kb hb x go ow ci fa) L (va_up f (B 6) (eI K 12 (fun j => nI (x j)))) ad := by rw [← FF_6]; exact h.up (by decide) (by decide) _
theorem LSt.u7 (h : LSt K A B (FF K pv bl kb hb pe go ow ci fa) L f ad) (x : Nat → Nat) : LSt K A B (FF K pv bl kb hb pe x ow ci fa) L (va_up f (B 7) (eI K 12 (fun j => nI (x j)))) ad := by rw [← FF_7]; exact h.up (by decide) (by decide) _
theorem LSt.u8 (h : LSt K A B (FF K pv bl kb hb pe go ow ci fa) L f ad) (x : Nat → Nat) : LSt K A B (FF K pv bl kb hb pe go x ci fa) L (va_up f (B 8) (eI K 30 (fun j => nI (x j)))) ad := by rw [← FF_8]; exact h.up (by decide) (by decide) _
theorem LSt.u9 (h : LSt K A B (FF K pv bl kb hb pe go ow ci fa) L f ad) (x : Nat → Int32) : LSt K A B (FF K pv bl kb hb pe go ow x fa) L (va_up f (B 9) (eI K 30 x)) ad := by rw [← FF_9]; exact h.up (by decide) (by decide) _
theorem LSt.u10 (h : LSt K A B (FF K pv bl kb hb pe go ow ci fa) L f ad) (x : Nat → Nat) : LSt K A B (FF K pv bl kb hb pe go ow ci x) L (va_up f (B 10) (eI K 30 (fun j => nI (x j)))) ad := by rw [← FF_10]; exact h.up (by decide) (by decide) _
end ACC
/-- what the numbers of a step leave alone -/
theorem PG.congr {A A' : zA} {tm : Nat} {bl kt : Nat → Nat} (h : PG A tm bl kt) (h0 : A'.1 0 = A.1 0) (hk : ∀ k, k = 2 ∨ k = 3 ∨ k = 4 ∨ k = 5 ∨ k = 6 ∨ k = 7 ∨ k = 9 ∨ k = 10 ∨ k = 12 ∨ k = 20 → A'.1 k = A.1 k) (h2 : A'.2 = A.2) : PG A' tm bl kt := by
  have e2 := hk 2 (by omega)
  have e3 := hk 3 (by omega)
  have e4 := hk 4 (by omega)
  have e5 := hk 5 (by omega)
  have e6 := hk 6 (by omega)
  have e7 := hk 7 (by omega)
  have e9 := hk 9 (by omega)
  have e10 := hk 10 (by omega)
  have e12 := hk 12 (by omega)
  have e20 := hk 20 (by omega)
  have el : ∀ x b, lwA A' x b = lwA A x b := fun x b => by unfold lwA; rw [e2, e3, e4, e5, e6]
  have en : ns A' = ns A := by unfold ns; rw [h0]
  have ew : nw A' = nw A := by unfold nw; rw [h0]
  obtain ⟨a1, a2, a3, a4, a5, a6, a7, a8, a9, a10, a11, a12⟩ := h
  refine ⟨en.trans a1, by rw [e2]; exact a2, by rw [e3, e7]; exact a3, by rw [e9]; exact a4, a5, by rw [e10]; exact a6, a7, a8, a9, by rw [e12]; exact a10, fun x hx hk => ?_, by rw [ew, e20]; exact a12⟩
  rw [h2, el]
  exact a11 x hx hk
theorem PVA.congr {A A' : zA} {pv : Nat → Nat} (h : PVA A pv) (hk : ∀ k, k = 2 ∨ k = 3 ∨ k = 4 ∨ k = 5 ∨ k = 6 → A'.1 k = A.1 k) : PVA A' pv := by
  unfold PVA at h ⊢
  rw [hk 2 (by omega), hk 3 (by omega), hk 4 (by omega), hk 5 (by omega), hk 6 (by omega)]
  exact h
theorem PAok.congr {A A' : zA} {ow : Nat → Nat} {ci : Nat → Int32} {fa : Nat → Nat} (h : PAok A ow ci fa) (h0 : np A' = np A) (h3 : A'.1 23 = A.1 23) (h5 : A'.1 25 = A.1 25) (h6 : A'.1 26 = A.1 26) : PAok A' ow ci fa := by
  unfold PAok at h ⊢
  rw [h0, h5, h6]
  refine ⟨h.1, fun j => ?_⟩
  rw [fell_same h3 h5 h6]
  exact h.2 j
theorem kt_0 {kt : Nat → Nat} (h : cN kt 1 1000 0 = 0) (h0 : ∀ x, 1000 ≤ x → kt x = 0) : ∀ x, kt x = 0 := by
  have key : ∀ n, cN kt 1 n 0 = 0 → ∀ x, x < n → kt x = 0 := by
    intro n
    induction n with
    | zero => intro _ x hx; exact absurd hx (Nat.not_lt_zero x)
    | succ n ih =>
      intro hn x hx
      rw [cN] at hn
      by_cases c : kt n ≠ 0
      · rw [if_pos ⟨c, Nat.mod_one n⟩] at hn; omega
      · rw [if_neg (fun z => c z.1)] at hn
        by_cases e : x = n
        · subst e; exact Decidable.not_not.mp c
        · exact ih hn x (by omega)
  intro x
  rcases Nat.lt_or_ge x 1000 with c | c
  · exact key 1000 h x c
  · exact h0 x c
/-- a planet -/
theorem PG.planet {A : zA} {tm q ph len : Nat} {bl kt : Nat → Nat} (h : PG A tm bl kt) (h0 : ∀ x, kt x = 0) : PG (plA A 0 q ph len 125) tm bl kt := by
  obtain ⟨a1, a2, a3, a4, a5, a6, a7, a8, a9, a10, a11, a12⟩ := h
  refine ⟨a1, a2, fun k hk => ?_, a4, a5, a6, a7, a8, a9, a10, fun x hx hk => absurd (h0 x) hk, a12⟩
  rw [plA_3, va_up_self] at hk
  rw [plA_7]
  by_cases e : k = 4 * 0 + A.1 3 0
  · rw [← e, va_up_self]
  · rw [va_up_ne _ _ e]
    exact a3 k (by omega)
theorem PVA.planet {A : zA} {q ph len n : Nat} {pv : Nat → Nat} (h : PVA A pv) (hn : n = A.1 3 0) (h4 : n < 4) : PVA (plA A 0 q ph len 125) (va_up (va_up (va_up (va_up pv (1 + 3 * n) q) (2 + 3 * n) ph) (3 + 3 * n) len) 13 (n + 1)) := by
  obtain ⟨p0, p13, hp⟩ := h
  refine ⟨?_, ?_, fun k hk => ?_⟩
  · rw [va_up_ne _ _ (by omega), va_up_ne _ _ (by omega), va_up_ne _ _ (by omega), va_up_ne _ _ (by omega)]
    exact p0
  · rw [va_up_self, plA_3, va_up_self, hn]
  · rw [plA_3, va_up_self] at hk
    rw [plA_4, plA_5, plA_6]
    by_cases e : k = n
    · subst e
      rw [va_up_ne _ _ (show 1 + 3 * k ≠ 13 by omega), va_up_ne _ _ (show 1 + 3 * k ≠ 3 + 3 * k by omega), va_up_ne _ _ (show 1 + 3 * k ≠ 2 + 3 * k by omega), va_up_self]
      rw [va_up_ne _ _ (show 2 + 3 * k ≠ 13 by omega), va_up_ne _ _ (show 2 + 3 * k ≠ 3 + 3 * k by omega), va_up_self]
      rw [va_up_ne _ _ (show 3 + 3 * k ≠ 13 by omega), va_up_self]
      rw [show 4 * 0 + A.1 3 0 = k by omega, va_up_self, va_up_self, va_up_self]
      exact ⟨rfl, rfl, rfl⟩
    · obtain ⟨b1, b2, b3⟩ := hp k (by omega)
      rw [va_up_ne _ _ (show 1 + 3 * k ≠ 13 by omega), va_up_ne _ _ (show 1 + 3 * k ≠ 3 + 3 * n by omega), va_up_ne _ _ (show 1 + 3 * k ≠ 2 + 3 * n by omega), va_up_ne _ _ (show 1 + 3 * k ≠ 1 + 3 * n by omega)]
      rw [va_up_ne _ _ (show 2 + 3 * k ≠ 13 by omega), va_up_ne _ _ (show 2 + 3 * k ≠ 3 + 3 * n by omega), va_up_ne _ _ (show 2 + 3 * k ≠ 2 + 3 * n by omega), va_up_ne _ _ (show 2 + 3 * k ≠ 1 + 3 * n by omega)]
      rw [va_up_ne _ _ (show 3 + 3 * k ≠ 13 by omega), va_up_ne _ _ (show 3 + 3 * k ≠ 3 + 3 * n by omega), va_up_ne _ _ (show 3 + 3 * k ≠ 2 + 3 * n by omega), va_up_ne _ _ (show 3 + 3 * k ≠ 1 + 3 * n by omega)]
      rw [va_up_ne _ _ (show k ≠ 4 * 0 + A.1 3 0 by omega), va_up_ne _ _ (show k ≠ 4 * 0 + A.1 3 0 by omega), va_up_ne _ _ (show k ≠ 4 * 0 + A.1 3 0 by omega)]
      exact ⟨b1, b2, b3⟩
/-- spots of no depth; a blend -/
theorem PG.spots {A : zA} {tm sp : Nat} {bl kt : Nat → Nat} (h : PG A tm bl kt) : PG (stA A 0 sp 0 (A.1 10 0)) tm bl kt := by
  obtain ⟨a1, a2, a3, a4, a5, a6, a7, a8, a9, a10, a11, a12⟩ := h
  exact ⟨a1, a2, a3, by rw [stA_9, va_up_self], a5, by rw [stA_10, va_up_self]; exact a6, a7, a8, a9, a10, a11, a12⟩
theorem PG.blend {A : zA} {tm tm' c : Nat} {bl kt : Nat → Nat} (h : PG A tm bl kt) (hc : c < 3000) (ht : (0 < hG kt ∧ tm < 2 ∧ tm' = tm + 1) ∨ (hG kt = 0 ∧ tm' = tm)) : PG (stA A 0 (A.1 8 0) (A.1 9 0) c) tm' (va_up bl tm' c) kt := by
  obtain ⟨a1, a2, a3, a4, a5, a6, a7, a8, a9, a10, a11, a12⟩ := h
  refine ⟨a1, a2, a3, by rw [stA_9, va_up_self]; exact a4, by omega, by rw [stA_10, va_up_self, va_up_self], fun j => ?_, fun x => by have := a8 x; omega, a9, a10, fun x hx hk => ?_, a12⟩
  · unfold va_up; split
    · exact hc
    · exact a7 j
  · rcases ht with ⟨t1, t2, t3⟩ | ⟨t1, t2⟩
    · have := a8 x
      rw [va_up_ne _ _ (by omega)]
      exact a11 x hx hk
    · exact absurd (kt_0 t1 a9 x) hk
/-- clouds -/
theorem cl_same {A : zA} {a : Nat} : ∀ n k, k ≠ 11 → (clA A a n).1 k = A.1 k
  | 0, _, _ => rfl
  | n + 1, k, h => by
    rw [clA]
    split
    · exact cl_same n k h
    · show (if k = 11 then _ else (clA A a n).1 k) = A.1 k
      rw [if_neg h]
      exact cl_same n k h
theorem cl_2 {A : zA} {a : Nat} : ∀ n, (clA A a n).2 = A.2
  | 0 => rfl
  | n + 1 => by
    rw [clA]
    split
    · exact cl_2 n
    · exact cl_2 n
theorem HBok.cloud {A : zA} {a n : Nat} {hb : Nat → Int64} (h : HBok (clA A a n) hb) (hn : a + n < 1000) : HBok (clA A a (n + 1)) (va_up hb ((a + n) / 64) (hb ((a + n) / 64) ||| lN 1 <<< ((nI ((a + n) % 64)).toInt64 &&& 63))) := by
  intro x hx
  have h1 := h x hx
  have e11 : decide ((clA A a (n + 1)).1 11 x = 1) = (decide ((clA A a n).1 11 x = 1) || decide (x = a + n)) := by
    rw [clA]
    by_cases c : (clA A a n).1 11 (a + n) = 1
    · rw [if_pos c]
      by_cases e : x = a + n
      · subst e; rw [decide_eq_true c, Bool.true_or]
      · rw [decide_eq_false e, Bool.or_false]
    · rw [if_neg c, hdA_11]
      by_cases e : x = a + n
      · subst e; rw [va_up_self]; simp
      · rw [va_up_ne _ _ e, decide_eq_false e, Bool.or_false]
  rw [e11, ← h1]
  by_cases d : x / 64 = (a + n) / 64
  · rw [d, va_up_self, jB_st _ (by omega) (by omega)]
    congr 1
    exact decide_eq_decide.mpr (by omega)
  · rw [va_up_ne _ _ d, decide_eq_false (show ¬ x = a + n by omega), Bool.or_false]
/-- light that is kept -/
def obK (A : zA) (kt : Nat → Nat) (tm a : Nat) : Nat → Nat → Nat
  | 0 => kt
  | n + 1 => if A.1 11 (a + n) = 1 ∨ obK A kt tm a n (a + n) ≠ 0 then obK A kt tm a n else va_up (obK A kt tm a n) (a + n) (tm + 1)
theorem PG.obs {A : zA} {tm a : Nat} {bl kt : Nat → Nat} (hV : VA A) (h : PG A tm bl kt) : ∀ n, a + n ≤ 1000 → PG (obA A 0 a n) tm bl (obK A kt tm a n)
  | 0, _ => h
  | n + 1, hn => by
    have ih := PG.obs (a := a) hV h n (by omega)
    have e11 : (obA A 0 a n).1 11 = A.1 11 := ob_same n 11 (by decide) (by decide)
    have e10 : (obA A 0 a n).1 10 = A.1 10 := ob_same n 10 (by decide) (by decide)
    have ha10 : A.1 10 0 = bl tm := h.2.2.2.2.2.1
    obtain ⟨a1, a2, a3, a4, a5, a6, a7, a8, a9, a10, a11, a12⟩ := ih
    have hk := a10 (a + n) (by omega)
    rw [obA, obK, e11, show 1000 * 0 + (a + n) = a + n by omega]
    by_cases c : A.1 11 (a + n) = 1 ∨ (obA A 0 a n).1 12 (a + n) = 1
    · rw [if_pos c, if_pos (c.imp id hk.mp)]
      exact ⟨a1, a2, a3, a4, a5, a6, a7, a8, a9, a10, a11, a12⟩
    · rw [if_neg c, if_neg (fun z => c (z.imp id hk.mpr))]
      refine ⟨a1, a2, a3, a4, a5, a6, a7, fun x => ?_, fun x hx => ?_, fun x hx => ?_, fun x hx hkx => ?_, a12⟩
      · have := a8 x
        unfold va_up; split <;> omega
      · rw [va_up_ne _ _ (by omega)]; exact a9 x hx
      · rw [kpA_12, show 1000 * 0 + (a + n) = a + n by omega]
        by_cases e : x = a + n
        · subst e; rw [va_up_self, va_up_self]; exact ⟨fun _ => by omega, fun _ => rfl⟩
        · rw [va_up_ne _ _ e, va_up_ne _ _ e]; exact a10 x hx
      · rw [kpA_2, show 1000 * 0 + (a + n) = a + n by omega]
        have el : ∀ b, lwA (kpA (obA A 0 a n) 0 (a + n) (ltV A 0 (a + n))) x b = lwA A x b := fun b => by
          show lwA (obA A 0 a n) x b = lwA A x b
          unfold lwA
          rw [ob_same n 2 (by decide) (by decide), ob_same n 3 (by decide) (by decide), ob_same n 4 (by decide) (by decide), ob_same n 5 (by decide) (by decide), ob_same n 6 (by decide) (by decide)]
        have el2 : ∀ b, lwA (obA A 0 a n) x b = lwA A x b := el
        rw [el]
        by_cases e : x = a + n
        · subst e
          rw [va_up_self, va_up_self, ltV_A hV h, ha10, Nat.add_sub_cancel]
        · rw [va_up_ne _ _ e] at hkx
          rw [va_up_ne _ _ e, va_up_ne _ _ e, ← el2]
          exact a11 x hx hkx
theorem KBok.keep {kb : Nat → Int64} {kt : Nat → Nat} {tm x : Nat} (h : KBok kb kt) (ht : tm ≤ 2) (hx : x < 1000) (h0 : kt x = 0) : KBok (va_up kb (16 * tm + x / 64) (kb (16 * tm + x / 64) ||| lN 1 <<< ((nI (x % 64)).toInt64 &&& 63))) (va_up kt x (tm + 1)) := by
  refine ⟨fun k hk y hy => ?_, fun y => ?_⟩
  · have h1 := h.1 k hk y hy
    by_cases d : 16 * k + y / 64 = 16 * tm + x / 64
    · have hkt : k = tm := by omega
      rw [d, va_up_self, jB_st _ (by omega) (by omega), ← d, h1]
      by_cases e : y = x
      · subst e
        rw [va_up_self, decide_eq_true (show y % 64 = y % 64 from rfl), Bool.or_true, hkt]
        simp
      · rw [va_up_ne _ _ e, decide_eq_false (show ¬ y % 64 = x % 64 by omega), Bool.or_false]
    · rw [va_up_ne _ _ d, h1]
      by_cases e : y = x
      · subst e
        rw [va_up_self, h0]
        have : ¬ k = tm := fun z => d (by rw [z])
        rw [decide_eq_false (by omega), decide_eq_false (by omega)]
      · rw [va_up_ne _ _ e]
  · have := h.2 y
    unfold va_up; split <;> omega
/-- worlds, papers, withdrawals -/
theorem PG.world {A : zA} {tm q ph : Nat} {bl kt : Nat → Nat} (h : PG A tm bl kt) : PG (woA A 0 q ph) tm bl kt := by
  obtain ⟨a1, a2, a3, a4, a5, a6, a7, a8, a9, a10, a11, a12⟩ := h
  refine ⟨a1, a2, a3, a4, a5, a6, a7, a8, a9, a10, a11, fun w hw => ?_⟩
  rw [woA_w] at hw
  rw [woA_20]
  by_cases e : w = nw A
  · subst e; rw [va_up_self]
  · rw [va_up_ne _ _ e]; exact a12 w (by omega)
theorem PG.paper {A : zA} {tm w c1 : Nat} {bl kt : Nat → Nat} (h : PG A tm bl kt) : PG (paA A w c1) tm bl kt := h
theorem PG.wd {A : zA} {tm w : Nat} {bl kt : Nat → Nat} (h : PG A tm bl kt) : PG (wdA A w) tm bl kt := h
theorem PAok.paper {A : zA} {w c1 : Nat} {ow : Nat → Nat} {ci : Nat → Int32} {fa : Nat → Nat} (h : PAok A ow ci fa) (hV : VA A) (hn : np A < 30) (hw : w < nw A) (hc1 : c1 ≤ np A) (h0 : A.1 23 w ≠ 1) (h1 : c1 ≠ 0 → fell A (c1 - 1) = false) : PAok (paA A w c1) (va_up ow (np A) w) (va_up ci (np A) (wnV c1)) fa := by
  have hc : ∀ j, j < np A → A.1 26 j ≤ j := fun j hj => (hV.2.2.2.2.2.2.2.2.2.2.2.2 j hj).2
  refine ⟨fun j hj => ?_, fun j => ?_⟩
  · rw [paA_p] at hj
    rw [paA_25, paA_26]
    by_cases e : j = np A
    · subst e; rw [va_up_self, va_up_self, va_up_self, va_up_self]; exact ⟨rfl, rfl⟩
    · rw [va_up_ne _ _ e, va_up_ne _ _ e, va_up_ne _ _ e, va_up_ne _ _ e]; exact h.1 j (by omega)
  · rw [h.2 j, paA_p]
    by_cases e : j < np A
    · rw [if_pos e, if_pos (by omega), fell_pa hc e]
    · rw [if_neg e]
      by_cases e2 : j = np A
      · subst e2
        rw [if_pos (by omega), fell_pn hV hn hw hc1 h0 h1]
        rfl
      · rw [if_neg (by omega)]
