/-! ONE STEP OF THE CLASS'S PICTURE: what an update must show, and what stays by itself -/
theorem LI.mv {K : zK} {L L1 : List Nat} {f f1 : Nat → va_E} {a a' x x' n n' : Nat} {es es' : Nat → Nat} (h : LI K L f a x n es) (hL : ∀ q, q ∈ L → q ∈ L1) (hn : n' = n) (ha' : a' = a) (ha : f1 a = f a) (hx : 0 < n → f1 x = f x ∧ x' = x) (hx0 : n = 0 → x' = x) (hes : ∀ k, k < n → es' k = es k) : LI K L1 f1 a' x' n' es' := by
  subst hn ha'
  obtain ⟨h1, ⟨mc, h2⟩, h3⟩ := h
  have hxx : x' = x := by
    rcases Nat.eq_zero_or_pos n' with e | e
    · exact hx0 e
    · exact (hx e).2
  subst hxx
  refine ⟨hL _ h1, ⟨mc, by rw [ha, h2]⟩, ?_⟩
  rcases h3 with h3 | ⟨h4, cap, arr, h5, h6, h7, h8, h9, h10, h11⟩
  · exact Or.inl h3
  · exact Or.inr ⟨hL _ h4, cap, arr, by rw [(hx h11).1, h5], h6, h7, h8, fun k hk => by rw [h9 k hk, hes k hk], h10, h11⟩
def sT (A : zA) (i t : Nat) : Prop := t = 100 + 10 * i ∨ t = 101 + 10 * i ∨ t = 103 + 10 * i ∨ t = 104 + 10 * i ∨ (t = 102 + 10 * i ∧ 0 < A.1 3 i) ∨ ∃ k, k < A.1 3 i ∧ t = 200 + 10 * i + k
def wT (w t : Nat) : Prop := t = 300 + 10 * w ∨ t = 301 + 10 * w ∨ t = 302 + 10 * w
theorem live_sT {A : zA} {i t : Nat} (hi : i < ns A) (h : sT A i t) : live A t := Or.inr (Or.inr (Or.inr (Or.inr (Or.inr (Or.inr (Or.inl ⟨i, hi, h⟩))))))
theorem live_wT {A : zA} {w t : Nat} (hw : w < nw A) (h : wT w t) : live A t := live_w hw h
/-- the numbers of star i are the same -/
def sameS (A A' : zA) (i : Nat) : Prop := A'.1 2 i = A.1 2 i ∧ A'.1 3 i = A.1 3 i ∧ A'.1 8 i = A.1 8 i ∧ A'.1 9 i = A.1 9 i ∧ A'.1 10 i = A.1 10 i ∧ A'.1 14 i = A.1 14 i ∧ gk A' i = gk A i ∧ ∀ k, k < A.1 3 i → A'.1 4 (4 * i + k) = A.1 4 (4 * i + k) ∧ A'.1 5 (4 * i + k) = A.1 5 (4 * i + k) ∧ A'.1 6 (4 * i + k) = A.1 6 (4 * i + k) ∧ A'.1 7 (4 * i + k) = A.1 7 (4 * i + k)
theorem CS.mv {K : zK} {L L1 : List Nat} {f f1 : Nat → va_E} {A A' : zA} {ad ad' : Nat → Nat} {i : Nat} (h : CS K L f A ad i) (hL : ∀ q, q ∈ L → q ∈ L1) (hk : ∀ t, sT A i t → f1 (ad t) = f (ad t) ∧ ad' t = ad t) (h0 : A.1 3 i = 0 → ad' (102 + 10 * i) = ad (102 + 10 * i)) (hA : sameS A A' i) : CS K L1 f1 A' ad' i := by
  obtain ⟨a2, a3, a8, a9, a10, a14, ag, ap⟩ := hA
  obtain ⟨h1, h2, h3, h4, h5⟩ := h
  have k0 := hk (100 + 10 * i) (Or.inl rfl)
  have k1 := hk (101 + 10 * i) (Or.inr (Or.inl rfl))
  have k3 := hk (103 + 10 * i) (Or.inr (Or.inr (Or.inl rfl)))
  have k4 := hk (104 + 10 * i) (Or.inr (Or.inr (Or.inr (Or.inl rfl))))
  have kp : ∀ k, k < A.1 3 i → f1 (ad (200 + 10 * i + k)) = f (ad (200 + 10 * i + k)) ∧ ad' (200 + 10 * i + k) = ad (200 + 10 * i + k) := fun k hk9 => hk _ (Or.inr (Or.inr (Or.inr (Or.inr (Or.inr ⟨k, hk9, rfl⟩)))))
  refine ⟨?_, ?_, ?_, ?_, ?_⟩
  · rw [k0.2, k0.1, h1, a2, a8, a9, a10, k1.2, k3.2]
  · exact h2.mv hL a3 k1.2 k1.1 (fun h9 => hk _ (Or.inr (Or.inr (Or.inr (Or.inr (Or.inl ⟨rfl, h9⟩)))))) h0 (fun k hk9 => (kp k hk9).2)
  · rw [k3.2, k3.1, h3, a14, k4.2]
  · rw [k4.2, k4.1, h4, ag]
  · intro k hk9
    rw [a3] at hk9
    rw [(kp k hk9).2, (kp k hk9).1, h5 k hk9, (ap k hk9).1, (ap k hk9).2.1, (ap k hk9).2.2.1, (ap k hk9).2.2.2]
def sameW (A A' : zA) (w : Nat) : Prop := A'.1 20 w = A.1 20 w ∧ A'.1 21 w = A.1 21 w ∧ A'.1 22 w = A.1 22 w ∧ A'.1 23 w = A.1 23 w
theorem CW.mv {K : zK} {f f1 : Nat → va_E} {A A' : zA} {ad ad' : Nat → Nat} {w t : Nat} {g : Nat → UInt64} (h : CW K f A ad w t g) (hk : ∀ x, wT w x → f1 (ad x) = f (ad x) ∧ ad' x = ad x) (hA : sameW A A' w) : CW K f1 A' ad' w t g := by
  obtain ⟨a0, a1, a2, a3⟩ := hA
  obtain ⟨h1, h2, h3, h4, h5, h6⟩ := h
  have k0 := hk (300 + 10 * w) (Or.inl rfl)
  have k1 := hk (301 + 10 * w) (Or.inr (Or.inl rfl))
  have k2 := hk (302 + 10 * w) (Or.inr (Or.inr rfl))
  exact ⟨by rw [k0.2, k0.1, h1, a0, a1, a2, a3, k1.2], by rw [k1.2, k1.1, h2, k2.2], by rw [k2.2, k2.1, h3], h4, h5, by rw [h6, a1]⟩
def sameP (A A' : zA) (j : Nat) : Prop := A'.1 25 j = A.1 25 j ∧ A'.1 26 j = A.1 26 j ∧ fell A' j = fell A j
theorem CP.mv {f f1 : Nat → va_E} {A A' : zA} {ad ad' : Nat → Nat} {j : Nat} (h : CP f A ad j) (hk : f1 (ad (500 + j)) = f (ad (500 + j)) ∧ ad' (500 + j) = ad (500 + j)) (h1 : ad' (300 + 10 * A.1 25 j) = ad (300 + 10 * A.1 25 j)) (h2 : A.1 26 j ≠ 0 → ad' (500 + (A.1 26 j - 1)) = ad (500 + (A.1 26 j - 1))) (hA : sameP A A' j) : CP f1 A' ad' j := by
  obtain ⟨a0, a1, a2⟩ := hA
  unfold CP at h ⊢
  rw [hk.2, hk.1, h, a0, a1, a2, h1]
  by_cases e : A.1 26 j = 0
  · rw [if_pos e, if_pos e]
  · rw [if_neg e, if_neg e, h2 e]
/-- arrays of lists: they may be made anew -/
def aT (A : zA) (t : Nat) : Prop := t = 7 ∨ t = 9 ∨ t = 11 ∨ ∃ i, i < ns A ∧ t = 102 + 10 * i
theorem CI.step {K : zK} {L L1 : List Nat} {f f1 : Nat → va_E} {A A' : zA} {ad ad' : Nat → Nat} {D : Nat → Prop} (h : CI K L f A ad) (hV : VA A') (hL : ∀ q, q ∈ L → q ∈ L1) (hlv : ∀ t, live A' t → ad' t ∈ L1) (hinj : ∀ t u, live A' t → live A' u → ad' t = ad' u → t = u)
    (hk : ∀ t, live A t → ¬ D t → f1 (ad t) = f (ad t)) (hk2 : ∀ t, live A t → ¬ aT A t → ad' t = ad t)
    (hX : CX f1 A' ad') (hF : CF K f1 ad') (h5 : f1 (ad' 5) = eZ K 1000 (fun h => nI (A'.1 11 h)))
    (l6 : LI K L1 f1 (ad' 6) (ad' 7) (ns A') (fun i => ad' (100 + 10 * i))) (l8 : LI K L1 f1 (ad' 8) (ad' 9) (nw A') (fun w => ad' (300 + 10 * w))) (l10 : LI K L1 f1 (ad' 10) (ad' 11) (np A') (fun j => ad' (500 + j)))
    (hS : ∀ i, i < ns A' → (i < ns A ∧ (∀ t, sT A i t → ¬ D t) ∧ ad' (102 + 10 * i) = ad (102 + 10 * i) ∧ sameS A A' i) ∨ CS K L1 f1 A' ad' i)
    (hW : ∀ w, w < nw A' → (w < nw A ∧ (∀ t, wT w t → ¬ D t) ∧ sameW A A' w) ∨ ∃ t g, CW K f1 A' ad' w t g)
    (hP : ∀ j, j < np A' → (j < np A ∧ ¬ D (500 + j) ∧ sameP A A' j) ∨ CP f1 A' ad' j) : CI K L1 f1 A' ad' := by
  obtain ⟨v, c1, c2, c3, c4, c5, c6, c7, c8, c9, c10, c11⟩ := h
  obtain ⟨v1, v2, v3, -, -, -, -, -, -, -, -, -, v13⟩ := v
  refine ⟨hV, hlv, hinj, hX, hF, h5, l6, l8, l10, fun i hi => ?_, fun w hw => ?_, fun j hj => ?_⟩
  · rcases hS i hi with ⟨h1, h2, h3, h4⟩ | h
    · refine (c9 i h1).mv hL (fun t ht => ⟨hk t (live_sT h1 ht) (h2 t ht), ?_⟩) (fun _ => h3) h4
      by_cases e : t = 102 + 10 * i
      · rw [e, h3]
      · refine hk2 t (live_sT h1 ht) ?_
        rintro (z | z | z | ⟨i2, h9, z⟩)
        all_goals (rcases ht with y | y | y | y | ⟨y, -⟩ | ⟨k, hk9, y⟩ <;> omega)
    · exact h
  · rcases hW w hw with ⟨h1, h2, h3⟩ | h
    · obtain ⟨t, g, h4⟩ := c10 w h1
      refine ⟨t, g, h4.mv (fun x hx => ⟨hk x (live_wT h1 hx) (h2 x hx), hk2 x (live_wT h1 hx) ?_⟩) h3⟩
      rintro (z | z | z | ⟨i2, h9, z⟩) <;> rcases hx with y | y | y <;> omega
    · exact h
  · rcases hP j hj with ⟨h1, h2, h3⟩ | h
    · obtain ⟨h4, h5⟩ := v13 j h1
      refine (c11 j h1).mv ⟨hk _ (live_q h1) h2, hk2 _ (live_q h1) ?_⟩ (hk2 _ (live_w h4 (Or.inl rfl)) ?_) (fun h9 => hk2 _ (live_q (by omega)) ?_) h3
      all_goals (rintro (z | z | z | ⟨i2, h9, z⟩) <;> omega)
    · exact h
theorem live_same {A A' : zA} (h0 : A'.1 0 = A.1 0) (h3 : A'.1 3 = A.1 3) {t : Nat} : live A' t ↔ live A t := by
  unfold live ns nw np
  rw [h0, h3]
/-- a step that makes nothing new -/
theorem CI.step0 {K : zK} {L : List Nat} {f f1 : Nat → va_E} {A A' : zA} {ad : Nat → Nat} (D : Nat → Prop) (h : CI K L f A ad) (hV : VA A') (h0 : A'.1 0 = A.1 0) (h3 : A'.1 3 = A.1 3)
    (hk : ∀ t, live A t → ¬ D t → f1 (ad t) = f (ad t)) (hD : ∀ t, 6 ≤ t → t ≤ 11 → ¬ D t)
    (hX : CX f1 A' ad) (hF : CF K f1 ad) (h5 : f1 (ad 5) = eZ K 1000 (fun h => nI (A'.1 11 h)))
    (hS : ∀ i, i < ns A → ((∀ t, sT A i t → ¬ D t) ∧ sameS A A' i) ∨ CS K L f1 A' ad i)
    (hW : ∀ w, w < nw A → ((∀ t, wT w t → ¬ D t) ∧ sameW A A' w) ∨ ∃ t g, CW K f1 A' ad w t g)
    (hP : ∀ j, j < np A → (¬ D (500 + j) ∧ sameP A A' j) ∨ CP f1 A' ad j) : CI K L f1 A' ad := by
  have h' := h
  obtain ⟨v, c1, c2, c3, c4, c5, c6, c7, c8, c9, c10, c11⟩ := h'
  have e0 : ns A' = ns A := by unfold ns; rw [h0]
  have e1 : nw A' = nw A := by unfold nw; rw [h0]
  have e2 : np A' = np A := by unfold np; rw [h0]
  have q6 := hk 6 (live_c (by omega)) (hD 6 (by omega) (by omega))
  have q8 := hk 8 (live_c (by omega)) (hD 8 (by omega) (by omega))
  have q10 := hk 10 (live_c (by omega)) (hD 10 (by omega) (by omega))
  refine CI.step (D := D) h hV (fun q hq => hq) (fun t ht => c1 t ((live_same h0 h3).mp ht)) (fun t u ht hu => c2 t u ((live_same h0 h3).mp ht) ((live_same h0 h3).mp hu)) hk (fun t _ _ => rfl) hX hF h5 ?_ ?_ ?_ ?_ ?_ ?_
  · exact c6.mv (fun q hq => hq) e0 rfl q6 (fun z => ⟨hk 7 (Or.inr (Or.inr (Or.inr (Or.inl ⟨rfl, z⟩)))) (hD 7 (by omega) (by omega)), rfl⟩) (fun _ => rfl) (fun _ _ => rfl)
  · exact c7.mv (fun q hq => hq) e1 rfl q8 (fun z => ⟨hk 9 (Or.inr (Or.inr (Or.inr (Or.inr (Or.inl ⟨rfl, z⟩))))) (hD 9 (by omega) (by omega)), rfl⟩) (fun _ => rfl) (fun _ _ => rfl)
  · exact c8.mv (fun q hq => hq) e2 rfl q10 (fun z => ⟨hk 11 (Or.inr (Or.inr (Or.inr (Or.inr (Or.inr (Or.inl ⟨rfl, z⟩)))))) (hD 11 (by omega) (by omega)), rfl⟩) (fun _ => rfl) (fun _ _ => rfl)
  · intro i hi
    rw [e0] at hi
    exact (hS i hi).imp (fun z => ⟨hi, z.1, rfl, z.2⟩) id
  · intro w hw
    rw [e1] at hw
    exact (hW w hw).imp (fun z => ⟨hw, z.1, z.2⟩) id
  · intro j hj
    rw [e2] at hj
    exact (hP j hj).imp (fun z => ⟨hj, z.1, z.2⟩) id
theorem sameS.rfl {A : zA} {i : Nat} : sameS A A i := ⟨Eq.refl _, Eq.refl _, Eq.refl _, Eq.refl _, Eq.refl _, Eq.refl _, Eq.refl _, fun _ _ => ⟨Eq.refl _, Eq.refl _, Eq.refl _, Eq.refl _⟩⟩
theorem sameW.rfl {A : zA} {i : Nat} : sameW A A i := ⟨Eq.refl _, Eq.refl _, Eq.refl _, Eq.refl _⟩
theorem sameP.rfl {A : zA} {i : Nat} : sameP A A i := ⟨Eq.refl _, Eq.refl _, Eq.refl _⟩
theorem CX.mv {f f1 : Nat → va_E} {A A' : zA} {ad : Nat → Nat} (h : CX f A ad) (hk : f1 (ad 1) = f (ad 1)) (hn : hN A' 1000 = hN A 1000) : CX f1 A' ad := by
  unfold CX at h ⊢
  rw [hk, h, hn]
/-- the folding's cells were used -/
theorem CI.scr {K : zK} {L : List Nat} {f f1 : Nat → va_E} {A : zA} {ad : Nat → Nat} (h : CI K L f A ad) (hc : CFx K f1 (ad 2) (ad 3) (ad 4)) (hfr : ∀ q, q ≠ ad 2 → q ≠ ad 3 → q ≠ ad 4 → f1 q = f q) : CI K L f1 A ad := by
  have h' := h
  obtain ⟨v, c1, c2, c3, c4, c5, c6, c7, c8, c9, c10, c11⟩ := h'
  have hk : ∀ t, live A t → ¬ (2 ≤ t ∧ t ≤ 4) → f1 (ad t) = f (ad t) := fun t ht hd => hfr _ (ad_ne c2 ht (live_c (by omega)) (by omega)) (ad_ne c2 ht (live_c (by omega)) (by omega)) (ad_ne c2 ht (live_c (by omega)) (by omega))
  refine CI.step0 (fun t => 2 ≤ t ∧ t ≤ 4) h v rfl rfl hk (fun t _ _ => by omega) (c3.mv (hk 1 (live_c (by omega)) (by omega)) rfl) hc ((hk 5 (live_c (by omega)) (by omega)).trans c5) (fun i hi => Or.inl ⟨fun t ht => ?_, sameS.rfl⟩) (fun w hw => Or.inl ⟨fun t ht => ?_, sameW.rfl⟩) (fun j hj => Or.inl ⟨by omega, sameP.rfl⟩)
  · rcases ht with y | y | y | y | ⟨y, -⟩ | ⟨k, hk9, y⟩ <;> omega
  · rcases ht with y | y | y <;> omega
/-- a number is written -/
def set2 (A : zA) (k j v : Nat) : zA := (fun k' => if k' = k then va_up (A.1 k) j v else A.1 k', A.2)
