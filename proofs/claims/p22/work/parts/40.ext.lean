/-! MAKING NEW THINGS: places old and new -/
theorem inj_ext {P P' : Nat → Prop} {ad ad' : Nat → Nat} {L : List Nat} (N : Nat → Prop) (h : ∀ t u, P t → P u → ad t = ad u → t = u) (hm : ∀ t, P t → ad t ∈ L) (hs : ∀ t, P' t → N t ∨ (P t ∧ ad' t = ad t)) (hN : ∀ t, N t → ad' t ∉ L) (hNN : ∀ t u, N t → N u → ad' t = ad' u → t = u) : ∀ t u, P' t → P' u → ad' t = ad' u → t = u := by
  intro t u ht hu e
  rcases hs t ht with h1 | ⟨h1, e1⟩ <;> rcases hs u hu with h2 | ⟨h2, e2⟩
  · exact hNN t u h1 h2 e
  · exact absurd (by rw [e, e2]; exact hm u h2) (hN t h1)
  · exact absurd (by rw [← e, e1]; exact hm t h1) (hN u h2)
  · exact h t u h1 h2 (by rw [← e1, e, e2])
/-- star n is new -/
def nsA (A : zA) (own : Nat) : zA := set2 (set2 A 2 (ns A) own) 0 0 (ns A + 1)
theorem nsA_2 (A : zA) (own : Nat) : (nsA A own).1 2 = va_up (A.1 2) (ns A) own := rfl
theorem nsA_n (A : zA) (own : Nat) : ns (nsA A own) = ns A + 1 := rfl
theorem nsA_w (A : zA) (own : Nat) : nw (nsA A own) = nw A := rfl
theorem nsA_p (A : zA) (own : Nat) : np (nsA A own) = np A := rfl
theorem fN_0 {g : Nat → UInt64} (h : ∀ j, g j = 0) : ∀ n, fN g n = 0
  | 0 => rfl
  | n + 1 => by
    show (if g n ≠ 0 then fN g n + 1 else fN g n) = 0
    rw [if_neg (fun z => z (h n)), fN_0 h n]
theorem gk_new {A : zA} (hV : VA A) (j : Nat) : gk A (ns A) j = 0 := by
  unfold gk
  by_cases e : j < 1000
  · have h6 := hV.2.2.2.2.2.1 (1000 * ns A + j) (by omega)
    rw [if_neg (fun z => by have := z.2; omega)]
  · rw [if_neg (fun z => e z.1)]
theorem VA.star {A : zA} {own : Nat} (hV : VA A) (hn : ns A < 6) (h1 : 1000 ≤ own) (h2 : own ≤ 1000000) : VA (nsA A own) := by
  have hg := gk_new hV
  obtain ⟨v1, v2, v3, v4, v5, v6, v7, v8, v9, v10, v11, v12, v13⟩ := hV
  obtain ⟨z3, z8, z9, z10, z14⟩ := v5 (ns A) (Nat.le_refl _)
  refine ⟨by rw [nsA_n]; omega, v2, v3, fun i hi => ?_, fun i hi => v5 i (by rw [nsA_n] at hi; omega), fun j hj => v6 j (by rw [nsA_n] at hj; omega), v7, v8, v9, fun w hw => ?_, v11, v12, v13⟩
  · rw [nsA_n] at hi
    by_cases e : i = ns A
    · subst e
      refine ⟨by rw [nsA_2, va_up_self]; exact h1, by rw [nsA_2, va_up_self]; exact h2, ?_, ?_, ?_, ?_, ?_, ?_⟩
      · show A.1 3 (ns A) ≤ 4; omega
      · show A.1 8 (ns A) ≤ 60; omega
      · show A.1 9 (ns A) ≤ 100; omega
      · show A.1 10 (ns A) ≤ 1000000; omega
      · show A.1 14 (ns A) = fN (gk A (ns A)) 1000
        rw [z14, fN_0 hg]
      · intro k hk
        have hk : k < A.1 3 (ns A) := hk
        omega
    · obtain ⟨w1, w2, w3⟩ := v4 i (by omega)
      exact ⟨by rw [nsA_2, va_up_ne _ _ e]; exact w1, by rw [nsA_2, va_up_ne _ _ e]; exact w2, w3⟩
  · obtain ⟨u1, u2⟩ := v10 w hw
    exact ⟨by rw [nsA_n]; have : (nsA A own).1 20 w = A.1 20 w := rfl; omega, u2⟩
theorem live_ns {A : zA} {own t : Nat} (hV : VA A) (h : live (nsA A own) t) : live A t ∨ t = 7 ∨ t = 100 + 10 * ns A ∨ t = 101 + 10 * ns A ∨ t = 103 + 10 * ns A ∨ t = 104 + 10 * ns A := by
  obtain ⟨z3, -⟩ := hV.2.2.2.2.1 (ns A) (Nat.le_refl _)
  rcases h with h | h | h | ⟨h, -⟩ | h | h | ⟨i, hi, h⟩ | h | h
  · exact Or.inl (Or.inl h)
  · exact Or.inl (live_c (by omega))
  · exact Or.inl (live_c (by omega))
  · exact Or.inr (Or.inl h)
  · exact Or.inl (Or.inr (Or.inr (Or.inr (Or.inr (Or.inl h)))))
  · exact Or.inl (Or.inr (Or.inr (Or.inr (Or.inr (Or.inr (Or.inl h))))))
  · rw [nsA_n] at hi
    have h : sT A i t := h
    by_cases e : i = ns A
    · subst e
      rcases h with y | y | y | y | ⟨-, y⟩ | ⟨k, hk9, -⟩
      · exact Or.inr (Or.inr (Or.inl y))
      · exact Or.inr (Or.inr (Or.inr (Or.inl y)))
      · exact Or.inr (Or.inr (Or.inr (Or.inr (Or.inl y))))
      · exact Or.inr (Or.inr (Or.inr (Or.inr (Or.inr y))))
      · omega
      · omega
    · exact Or.inl (live_sT (by omega) h)
  · exact Or.inl (Or.inr (Or.inr (Or.inr (Or.inr (Or.inr (Or.inr (Or.inr (Or.inl h))))))))
  · exact Or.inl (Or.inr (Or.inr (Or.inr (Or.inr (Or.inr (Or.inr (Or.inr (Or.inr h))))))))
theorem live_no {A : zA} {t : Nat} (hV : VA A) (h6 : ns A < 6) (h : live A t) : t ≠ 100 + 10 * ns A ∧ t ≠ 101 + 10 * ns A ∧ t ≠ 102 + 10 * ns A ∧ t ≠ 103 + 10 * ns A ∧ t ≠ 104 + 10 * ns A := by
  have v2 := hV.2.1
  have v3 := hV.2.2.1
  rcases h with h | h | h | ⟨h, -⟩ | ⟨h, -⟩ | ⟨h, -⟩ | ⟨i, hi, h⟩ | ⟨w, hw, h⟩ | ⟨j, hj, h⟩
  · omega
  · omega
  · omega
  · omega
  · omega
  · omega
  · have h1 := (hV.2.2.2.1 i hi).2.2.1
    rcases h with y | y | y | y | ⟨y, -⟩ | ⟨k, hk9, y⟩ <;> omega
  · omega
  · omega
def adS (A : zA) (ad : Nat → Nat) (e1 q0 q1 q3 q4 k0 : Nat) : Nat → Nat := fun t => if t = 100 + 10 * ns A then q0 else if t = 101 + 10 * ns A then q1 else if t = 103 + 10 * ns A then q3 else if t = 104 + 10 * ns A then q4 else if t = 102 + 10 * ns A then k0 else if t = 7 then e1 else ad t
theorem adS_o {A : zA} {ad : Nat → Nat} {e1 q0 q1 q3 q4 k0 t : Nat} (hV : VA A) (h6 : ns A < 6) (h : live A t) (h7 : t ≠ 7) : adS A ad e1 q0 q1 q3 q4 k0 t = ad t := by
  obtain ⟨h0, h1, h2, h3, h4⟩ := live_no hV h6 h
  unfold adS
  rw [if_neg h0, if_neg h1, if_neg h3, if_neg h4, if_neg h2, if_neg h7]
theorem adS_0 {A : zA} {ad : Nat → Nat} {e1 q0 q1 q3 q4 k0 : Nat} : adS A ad e1 q0 q1 q3 q4 k0 (100 + 10 * ns A) = q0 := if_pos rfl
theorem adS_1 {A : zA} {ad : Nat → Nat} {e1 q0 q1 q3 q4 k0 : Nat} : adS A ad e1 q0 q1 q3 q4 k0 (101 + 10 * ns A) = q1 := by unfold adS; rw [if_neg (by omega), if_pos rfl]
theorem adS_3 {A : zA} {ad : Nat → Nat} {e1 q0 q1 q3 q4 k0 : Nat} : adS A ad e1 q0 q1 q3 q4 k0 (103 + 10 * ns A) = q3 := by unfold adS; rw [if_neg (by omega), if_neg (by omega), if_pos rfl]
theorem adS_4 {A : zA} {ad : Nat → Nat} {e1 q0 q1 q3 q4 k0 : Nat} : adS A ad e1 q0 q1 q3 q4 k0 (104 + 10 * ns A) = q4 := by unfold adS; rw [if_neg (by omega), if_neg (by omega), if_neg (by omega), if_pos rfl]
theorem adS_2 {A : zA} {ad : Nat → Nat} {e1 q0 q1 q3 q4 k0 : Nat} : adS A ad e1 q0 q1 q3 q4 k0 (102 + 10 * ns A) = k0 := by unfold adS; rw [if_neg (by omega), if_neg (by omega), if_neg (by omega), if_neg (by omega), if_pos rfl]
theorem adS_7 {A : zA} {ad : Nat → Nat} {e1 q0 q1 q3 q4 k0 : Nat} : adS A ad e1 q0 q1 q3 q4 k0 7 = e1 := by unfold adS; rw [if_neg (by omega), if_neg (by omega), if_neg (by omega), if_neg (by omega), if_neg (by omega), if_pos rfl]
theorem CI.addStar {K : zK} {L L2 L1 : List Nat} {f f2 f1 : Nat → va_E} {A : zA} {ad : Nat → Nat} {own q0 q1 q3 q4 : Nat} (h : CI K L f A ad) (hn : ns A < 6) (h1 : 1000 ≤ own) (h2 : own ≤ 1000000) (hz : K.2.2.1 ∉ L2)
    (hq0 : q0 ∉ L) (hq1 : q1 ∉ L) (hq3 : q3 ∉ L) (hq4 : q4 ∉ L) (n01 : q0 ≠ q1) (n03 : q0 ≠ q3) (n04 : q0 ≠ q4) (n13 : q1 ≠ q3) (n14 : q1 ≠ q4) (n34 : q3 ≠ q4)
    (hL2 : ∀ q, q ∈ L → q ∈ L2) (m0 : q0 ∈ L2) (m1 : q1 ∈ L2) (m3 : q3 ∈ L2) (m4 : q4 ∈ L2)
    (g0 : f2 q0 = eS 5 [.int (nI own), .ref q1, .int (nI 0), .int (nI 0), .int (nI 0), .ref q3]) (g1 : f2 q1 = eS 0 [.int (nI 0), .ref K.2.2.1, .int (nI 0)]) (g3 : f2 q3 = eS 2 [.ref q4, .int (nI 0)]) (g4 : f2 q4 = eD K 1000 (fun _ => 0)) (hfr : ∀ q, q ∈ L → f2 q = f q)
    (hadd : addP K (ad 6) (ad 7) (ns A) q0 L2 f2 L1 f1) : CR K A ad L f (nsA A own) L1 f1 := by
  have h' := h
  obtain ⟨v, c1, c2, c3, c4, c5, c6, c7, c8, c9, c10, c11⟩ := h'
  obtain ⟨e1, a1, a2, a3, a4⟩ := hadd
  have hLL : ∀ q, q ∈ L2 → q ∈ L1 := by
    rcases a2 with ⟨-, e⟩ | ⟨-, e⟩
    · rw [e]; exact fun q hq => hq
    · rw [e]; exact fun q hq => List.mem_append_left _ hq
  have l6 : ad 6 ∈ L := c1 6 (live_c (by omega))
  have f6 : f2 (ad 6) = f (ad 6) := hfr _ l6
  have lv7 : 0 < ns A → live A 7 := fun z => Or.inr (Or.inr (Or.inr (Or.inl ⟨rfl, z⟩)))
  have hli2 : LI K L2 f2 (ad 6) (ad 7) (ns A) (fun i => ad (100 + 10 * i)) := c6.mv hL2 rfl rfl f6 (fun z => ⟨hfr _ (c1 7 (lv7 z)), rfl⟩) (fun _ => rfl) (fun _ _ => rfl)
  -- the array: the old one, or new
  have he : (e1 = ad 7 ∧ 0 < ns A) ∨ e1 ∉ L2 := by
    rcases a2 with ⟨e, eL⟩ | ⟨e, -⟩
    · refine Or.inl ⟨e, ?_⟩
      rcases Nat.eq_zero_or_pos (ns A) with z | z
      · rcases hli2.2.2 with ⟨-, y⟩ | ⟨-, cap, arr, -, -, -, -, -, -, y⟩
        · exact absurd (by rw [← y, ← e, ← eL]; exact a3) hz
        · exact y
      · exact z
    · exact Or.inr e
  have hne : ∀ q, q ∈ L2 → q ≠ ad 7 → q ≠ e1 := fun q hq h7 => by
    rcases he with ⟨e, -⟩ | e
    · rw [e]; exact h7
    · exact fun z => e (z ▸ hq)
  have n7 : ∀ q, q ∉ L → q ∈ L2 → q ≠ e1 := fun q hq hq2 => by
    rcases he with ⟨e, z⟩ | e
    · rw [e]; exact fun y => hq (y ▸ c1 7 (lv7 z))
    · exact fun z => e (z ▸ hq2)
  obtain ⟨AD, hAD⟩ : ∃ z, z = adS A ad e1 q0 q1 q3 q4 K.2.2.1 := ⟨_, rfl⟩
  have o0 : AD (100 + 10 * ns A) = q0 := by rw [hAD]; exact adS_0
  have o1 : AD (101 + 10 * ns A) = q1 := by rw [hAD]; exact adS_1
  have o2 : AD (102 + 10 * ns A) = K.2.2.1 := by rw [hAD]; exact adS_2
  have o3 : AD (103 + 10 * ns A) = q3 := by rw [hAD]; exact adS_3
  have o4 : AD (104 + 10 * ns A) = q4 := by rw [hAD]; exact adS_4
  have o7 : AD 7 = e1 := by rw [hAD]; exact adS_7
  have oo : ∀ t, live A t → t ≠ 7 → AD t = ad t := fun t ht h7 => by rw [hAD]; exact adS_o v hn ht h7
  have fo : ∀ q, q ∈ L → q ≠ ad 6 → q ≠ e1 → f1 q = f q := fun q hq y6 y7 => (a4 q y6 y7).trans (hfr q hq)
  have n6 : ∀ q, q ∉ L → q ≠ ad 6 := fun q hq y => hq (y ▸ l6)
  have x7 : ∀ t, live A t → t ≠ 7 → ad t ≠ e1 := fun t ht h7 => by
    rcases he with ⟨e, z⟩ | e
    · rw [e]; exact ad_ne c2 ht (lv7 z) h7
    · exact fun y => e (y ▸ hL2 _ (c1 t ht))
  have hk : ∀ t, live A t → ¬ (t = 6 ∨ t = 7) → f1 (ad t) = f (ad t) := fun t ht hd => fo _ (c1 t ht) (ad_ne c2 ht (live_c (by omega)) (by omega)) (x7 t ht (by omega))
  obtain ⟨z3, z8, z9, z10, z14⟩ := v.2.2.2.2.1 (ns A) (Nat.le_refl _)
  have hnew : ∀ t, live (nsA A own) t → live A t ∧ t ≠ 7 ∨ t = 7 ∨ t = 100 + 10 * ns A ∨ t = 101 + 10 * ns A ∨ t = 103 + 10 * ns A ∨ t = 104 + 10 * ns A := fun t ht => by
    rcases live_ns v ht with y | y
    · by_cases e7 : t = 7
      · exact Or.inr (Or.inl e7)
      · exact Or.inl ⟨y, e7⟩
    · exact Or.inr y
  have hI : CI K L1 f1 (nsA A own) AD := by
    refine CI.step (D := fun t => t = 6 ∨ t = 7) h (v.star hn h1 h2) (fun q hq => hLL q (hL2 q hq)) (fun t ht => ?_) ?_ hk (fun t ht hd => oo t ht (fun y => hd (Or.inl y))) ?_ ?_ ?_ ?_ ?_ ?_ ?_ ?_ ?_
    · rcases hnew t ht with ⟨y, y7⟩ | y | y | y | y | y
      · rw [oo t y y7]; exact hLL _ (hL2 _ (c1 t y))
      · rw [y, o7]; exact a3
      · rw [y, o0]; exact hLL _ m0
      · rw [y, o1]; exact hLL _ m1
      · rw [y, o3]; exact hLL _ m3
      · rw [y, o4]; exact hLL _ m4
    · refine inj_ext (fun t => (t = 7 ∧ e1 ∉ L2) ∨ t = 100 + 10 * ns A ∨ t = 101 + 10 * ns A ∨ t = 103 + 10 * ns A ∨ t = 104 + 10 * ns A) c2 c1 (fun t ht => ?_) (fun t ht => ?_) (fun t u ht hu e9 => ?_)
      · rcases hnew t ht with ⟨y, y7⟩ | y | y
        · exact Or.inr ⟨y, oo t y y7⟩
        · rcases he with ⟨e, z⟩ | e
          · exact Or.inr (by rw [y]; exact ⟨lv7 z, o7.trans e⟩)
          · exact Or.inl (Or.inl ⟨y, e⟩)
        · exact Or.inl (Or.inr y)
      · rcases ht with ⟨y, e⟩ | y | y | y | y
        · rw [y, o7]; exact fun z => e (hL2 _ z)
        · rw [y, o0]; exact hq0
        · rw [y, o1]; exact hq1
        · rw [y, o3]; exact hq3
        · rw [y, o4]; exact hq4
      · have p0 := n7 q0 hq0 m0
        have p1 := n7 q1 hq1 m1
        have p3 := n7 q3 hq3 m3
        have p4 := n7 q4 hq4 m4
        rcases ht with ⟨y, e⟩ | y | y | y | y <;> rcases hu with ⟨x, e'⟩ | x | x | x | x <;> rw [y, x] at e9 <;> simp only [o0, o1, o3, o4, o7] at e9 <;> first | (rw [y, x]; done) | exact absurd e9 (by assumption) | exact absurd e9.symm (by assumption)
    · unfold CX
      rw [oo 1 (live_c (by omega)) (by omega), oo 6 (live_c (by omega)) (by omega), oo 8 (live_c (by omega)) (by omega), oo 10 (live_c (by omega)) (by omega), oo 5 (live_c (by omega)) (by omega), oo 2 (live_c (by omega)) (by omega), hk 1 (live_c (by omega)) (by omega), hN_same (A := A) (A' := nsA A own) rfl 1000]
      exact c3
    · obtain ⟨fl, mn, sg, cg, d1, d2, d3, d4⟩ := c4
      refine ⟨fl, mn, sg, cg, ?_, ?_, ?_, d4⟩
      · rw [oo 2 (live_c (by omega)) (by omega), oo 3 (live_c (by omega)) (by omega), oo 4 (live_c (by omega)) (by omega), hk 2 (live_c (by omega)) (by omega)]; exact d1
      · rw [oo 3 (live_c (by omega)) (by omega), hk 3 (live_c (by omega)) (by omega)]; exact d2
      · rw [oo 4 (live_c (by omega)) (by omega), hk 4 (live_c (by omega)) (by omega)]; exact d3
    · rw [oo 5 (live_c (by omega)) (by omega), hk 5 (live_c (by omega)) (by omega)]; exact c5
    · have h9 := a1 (fun i => ad (100 + 10 * i)) (fun i => AD (100 + 10 * i)) hli2 (fun k hk => oo _ (live_s hk (by omega)) (by omega)) o0
      rw [oo 6 (live_c (by omega)) (by omega), o7]; exact h9
    · exact c7.mv (fun q hq => hLL q (hL2 q hq)) rfl (oo 8 (live_c (by omega)) (by omega)) (hk 8 (live_c (by omega)) (by omega)) (fun z => ⟨hk 9 (Or.inr (Or.inr (Or.inr (Or.inr (Or.inl ⟨rfl, z⟩))))) (by omega), oo 9 (Or.inr (Or.inr (Or.inr (Or.inr (Or.inl ⟨rfl, z⟩))))) (by omega)⟩) (fun _ => (by rw [hAD]; unfold adS; rw [if_neg (by omega), if_neg (by omega), if_neg (by omega), if_neg (by omega), if_neg (by omega), if_neg (by omega)])) (fun k hk => oo _ (live_w hk (by omega)) (by omega))
    · exact c8.mv (fun q hq => hLL q (hL2 q hq)) rfl (oo 10 (live_c (by omega)) (by omega)) (hk 10 (live_c (by omega)) (by omega)) (fun z => ⟨hk 11 (Or.inr (Or.inr (Or.inr (Or.inr (Or.inr (Or.inl ⟨rfl, z⟩)))))) (by omega), oo 11 (Or.inr (Or.inr (Or.inr (Or.inr (Or.inr (Or.inl ⟨rfl, z⟩)))))) (by omega)⟩) (fun _ => (by rw [hAD]; unfold adS; rw [if_neg (by omega), if_neg (by omega), if_neg (by omega), if_neg (by omega), if_neg (by omega), if_neg (by omega)])) (fun k hk => oo _ (live_q hk) (by omega))
    · intro i hi
      rw [nsA_n] at hi
      by_cases e : i = ns A
      · subst e
        refine Or.inr ⟨?_, ?_, ?_, ?_, ?_⟩
        · rw [o0, o1, o3, a4 q0 (n6 q0 hq0) (n7 q0 hq0 m0), g0, nsA_2, va_up_self, show (nsA A own).1 8 (ns A) = 0 from z8, show (nsA A own).1 9 (ns A) = 0 from z9, show (nsA A own).1 10 (ns A) = 0 from z10]
        · rw [o1, o2, show (nsA A own).1 3 (ns A) = 0 from z3]
          exact ⟨hLL _ m1, ⟨nI 0, by rw [a4 q1 (n6 q1 hq1) (n7 q1 hq1 m1), g1]⟩, Or.inl ⟨rfl, rfl⟩⟩
        · rw [o3, o4, a4 q3 (n6 q3 hq3) (n7 q3 hq3 m3), g3, show (nsA A own).1 14 (ns A) = 0 from z14]
        · rw [o4, a4 q4 (n6 q4 hq4) (n7 q4 hq4 m4), g4]
          congr 5
          funext j
          exact (gk_new v j).symm
        · intro k hk9
          have hk9 : k < A.1 3 (ns A) := hk9
          omega
      · have h3 := (v.2.2.2.1 i (by omega)).2.2.1
        refine Or.inl ⟨by omega, fun t ht => ?_, ?_, by rw [nsA_2, va_up_ne _ _ e], rfl, rfl, rfl, rfl, rfl, rfl, fun _ _ => ⟨rfl, rfl, rfl, rfl⟩⟩
        · rcases ht with y | y | y | y | ⟨y, -⟩ | ⟨k, hk9, y⟩ <;> omega
        · rw [hAD]; unfold adS
          rw [if_neg (by omega), if_neg (by omega), if_neg (by omega), if_neg (by omega), if_neg (by omega), if_neg (by omega)]
    · exact fun w hw => Or.inl ⟨hw, fun t ht => by rcases ht with y | y | y <;> omega, rfl, rfl, rfl, rfl⟩
    · exact fun j hj => Or.inl ⟨hj, by omega, rfl, rfl, fell_same (A := A) (A' := nsA A own) rfl rfl rfl j⟩
  refine ⟨AD, hI, oo 1 (live_c (by omega)) (by omega), fun q hq => hLL q (hL2 q hq), fun q hq hn9 => ⟨?_, fun t ht => ?_⟩⟩
  · refine fo q hq (Ne.symm (hn9 6 (live_c (by omega)))) ?_
    rcases he with ⟨e, z⟩ | e
    · rw [e]; exact Ne.symm (hn9 7 (lv7 z))
    · exact fun y => e (y ▸ hL2 q hq)
  · rcases hnew t ht with ⟨y, y7⟩ | y | y | y | y | y
    · rw [oo t y y7]; exact hn9 t y
    · rw [y, o7]
      rcases he with ⟨e, z⟩ | e
      · rw [e]; exact hn9 7 (lv7 z)
      · exact fun z => e (z ▸ hL2 q hq)
    · rw [y, o0]; exact fun z => hq0 (z ▸ hq)
    · rw [y, o1]; exact fun z => hq1 (z ▸ hq)
    · rw [y, o3]; exact fun z => hq3 (z ▸ hq)
    · rw [y, o4]; exact fun z => hq4 (z ▸ hq)
