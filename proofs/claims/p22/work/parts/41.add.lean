/-! MAKING NEW THINGS, second part: a list grows, other places are new -/
theorem LI.ne {K : zK} {L : List Nat} {f : Nat → va_E} {a e n : Nat} {es : Nat → Nat} (h : LI K L f a e n es) (hz : K.2.2.1 ∉ L) (h1 : 0 < n → a ≠ e) : a ≠ e := by
  obtain ⟨h2, -, h3 | ⟨-, cap, arr, -, -, -, -, -, -, h4⟩⟩ := h
  · exact fun z => hz (by rw [← h3.2, ← z]; exact h2)
  · exact h1 h4
theorem add_core {K : zK} {L L2 L1 : List Nat} {f f2 f1 : Nat → va_E} {A A' : zA} {ad : Nat → Nat} {tl ta n q : Nat} {es : Nat → Nat} (N : Nat → Prop) [DecidablePred N] (nad : Nat → Nat) (h : CI K L f A ad) (hz : K.2.2.1 ∉ L2)
    (ltl : live A tl) (lta : 0 < n → live A ta) (htl : tl ≠ ta) (hnN : ∀ t, N t → ¬ live A t ∧ t ≠ ta) (hli : LI K L f (ad tl) (ad ta) n es)
    (hnew : ∀ t, live A' t → (live A t ∧ t ≠ ta) ∨ t = ta ∨ N t) (hNL : ∀ t, N t → nad t ∉ L ∧ nad t ∈ L2) (hNi : ∀ t u, N t → N u → nad t = nad u → t = u)
    (hL2 : ∀ q, q ∈ L → q ∈ L2) (hfr : ∀ q, q ∈ L → f2 q = f q) (hadd : addP K (ad tl) (ad ta) n q L2 f2 L1 f1) :
    ∃ AD : Nat → Nat, (∀ t, ¬ N t → t ≠ ta → AD t = ad t) ∧ (∀ t, N t → AD t = nad t) ∧ (∀ es' : Nat → Nat, (∀ k, k < n → es' k = es k) → es' n = q → LI K L1 f1 (ad tl) (AD ta) (n + 1) es') ∧
      (∀ q, q ∈ L → q ∈ L1) ∧ (∀ t, live A' t → AD t ∈ L1) ∧ (∀ t u, live A' t → live A' u → AD t = AD u → t = u) ∧ (∀ t, live A t → ¬ (t = tl ∨ t = ta) → f1 (ad t) = f (ad t)) ∧ (∀ t, N t → f1 (nad t) = f2 (nad t) ∧ nad t ∈ L1) ∧
      (∀ q, q ∈ L → (∀ t, live A t → ad t ≠ q) → f1 q = f q ∧ ∀ t, live A' t → AD t ≠ q) := by
  have h' := h
  obtain ⟨v, c1, c2, -⟩ := h'
  obtain ⟨e1, a1, a2, a3, a4⟩ := hadd
  have hLL : ∀ q, q ∈ L2 → q ∈ L1 := by
    rcases a2 with ⟨-, e⟩ | ⟨-, e⟩
    · rw [e]; exact fun q hq => hq
    · rw [e]; exact fun q hq => List.mem_append_left _ hq
  have l6 : ad tl ∈ L := c1 tl ltl
  have f6 : f2 (ad tl) = f (ad tl) := hfr _ l6
  have hli2 : LI K L2 f2 (ad tl) (ad ta) n es := hli.mv hL2 rfl rfl f6 (fun z => ⟨hfr _ (c1 ta (lta z)), rfl⟩) (fun _ => rfl) (fun _ _ => rfl)
  have he : (e1 = ad ta ∧ 0 < n) ∨ e1 ∉ L2 := by
    rcases a2 with ⟨e, eL⟩ | ⟨e, -⟩
    · refine Or.inl ⟨e, ?_⟩
      rcases hli2.2.2 with ⟨-, y⟩ | ⟨-, cap, arr, -, -, -, -, -, -, y⟩
      · exact absurd (by rw [← y, ← e, ← eL]; exact a3) hz
      · exact y
    · exact Or.inr e
  obtain ⟨AD, hAD⟩ : ∃ z : Nat → Nat, z = fun t => if N t then nad t else if t = ta then e1 else ad t := ⟨_, rfl⟩
  have oN : ∀ t, N t → AD t = nad t := fun t ht => by rw [hAD]; exact if_pos ht
  have oa : AD ta = e1 := by
    rw [hAD]
    show (if N ta then nad ta else if ta = ta then e1 else ad ta) = e1
    rw [if_neg (fun z => (hnN ta z).2 rfl), if_pos rfl]
  have oo : ∀ t, ¬ N t → t ≠ ta → AD t = ad t := fun t h1 h2 => by
    rw [hAD]
    show (if N t then nad t else if t = ta then e1 else ad t) = ad t
    rw [if_neg h1, if_neg h2]
  have ol : ∀ t, live A t → t ≠ ta → AD t = ad t := fun t h1 h2 => oo t (fun z => (hnN t z).1 h1) h2
  have fo : ∀ q, q ∈ L → q ≠ ad tl → q ≠ e1 → f1 q = f q := fun q hq y6 y7 => (a4 q y6 y7).trans (hfr q hq)
  have x7 : ∀ t, live A t → t ≠ ta → ad t ≠ e1 := fun t ht h7 => by
    rcases he with ⟨e, z⟩ | e
    · rw [e]; exact ad_ne c2 ht (lta z) h7
    · exact fun y => e (y ▸ hL2 _ (c1 t ht))
  have n7 : ∀ t, N t → nad t ≠ e1 := fun t ht => by
    obtain ⟨hq, hq2⟩ := hNL t ht
    rcases he with ⟨e, z⟩ | e
    · rw [e]; exact fun y => hq (y ▸ c1 ta (lta z))
    · exact fun z => e (z ▸ hq2)
  refine ⟨AD, oo, oN, fun es' h1 h2 => ?_, fun q hq => hLL q (hL2 q hq), fun t ht => ?_, ?_, fun t ht hd => ?_, fun t ht => ⟨a4 _ (fun z => (hNL t ht).1 (z ▸ l6)) (n7 t ht), hLL _ (hNL t ht).2⟩, fun q hq hn9 => ⟨?_, fun t ht => ?_⟩⟩
  · rw [oa]; exact a1 es es' hli2 h1 h2
  · rcases hnew t ht with ⟨y, y7⟩ | y | y
    · rw [ol t y y7]; exact hLL _ (hL2 _ (c1 t y))
    · rw [y, oa]; exact a3
    · rw [oN t y]; exact hLL _ (hNL t y).2
  · refine inj_ext (fun t => (t = ta ∧ e1 ∉ L2) ∨ N t) c2 c1 (fun t ht => ?_) (fun t ht => ?_) (fun t u ht hu e9 => ?_)
    · rcases hnew t ht with ⟨y, y7⟩ | y | y
      · exact Or.inr ⟨y, ol t y y7⟩
      · rcases he with ⟨e, z⟩ | e
        · exact Or.inr (by rw [y]; exact ⟨lta z, oa.trans e⟩)
        · exact Or.inl (Or.inl ⟨y, e⟩)
      · exact Or.inl (Or.inr y)
    · rcases ht with ⟨y, e⟩ | y
      · rw [y, oa]; exact fun z => e (hL2 _ z)
      · rw [oN t y]; exact (hNL t y).1
    · rcases ht with ⟨y, e⟩ | y <;> rcases hu with ⟨x, e'⟩ | x
      · rw [y, x]
      · rw [y, oa, oN u x] at e9; exact absurd e9.symm (n7 u x)
      · rw [x, oa, oN t y] at e9; exact absurd e9 (n7 t y)
      · rw [oN t y, oN u x] at e9; exact hNi t u y x e9
  · exact fo _ (c1 t ht) (ad_ne c2 ht ltl (fun z => hd (Or.inl z))) (x7 t ht (fun z => hd (Or.inr z)))
  · refine fo q hq (Ne.symm (hn9 tl ltl)) ?_
    rcases he with ⟨e, z⟩ | e
    · rw [e]; exact Ne.symm (hn9 ta (lta z))
    · exact fun y => e (y ▸ hL2 q hq)
  · rcases hnew t ht with ⟨y, y7⟩ | y | y
    · rw [ol t y y7]; exact hn9 t y
    · rw [y, oa]
      rcases he with ⟨e, z⟩ | e
      · rw [e]; exact hn9 ta (lta z)
      · exact fun z => e (z ▸ hL2 q hq)
    · rw [oN t y]; exact fun z => (hNL t y).1 (z ▸ hq)
theorem fix_mv {K : zK} {f f1 : Nat → va_E} {A A' : zA} {ad AD : Nat → Nat} (oo : ∀ t, t ≤ 6 ∨ t = 8 ∨ t = 10 → AD t = ad t) (hk : ∀ t, 1 ≤ t → t ≤ 5 → f1 (ad t) = f (ad t)) (hX : CX f A ad) (hF : CF K f ad) (h5 : f (ad 5) = eZ K 1000 (fun h => nI (A.1 11 h))) (hn : A'.1 11 = A.1 11) :
    CX f1 A' AD ∧ CF K f1 AD ∧ f1 (AD 5) = eZ K 1000 (fun h => nI (A'.1 11 h)) := by
  refine ⟨?_, ?_, ?_⟩
  · unfold CX
    rw [oo 1 (by omega), oo 6 (by omega), oo 8 (by omega), oo 10 (by omega), oo 5 (by omega), oo 2 (by omega), hk 1 (by omega) (by omega), hN_same hn 1000]
    exact hX
  · obtain ⟨fl, mn, sg, cg, d1, d2, d3, d4⟩ := hF
    refine ⟨fl, mn, sg, cg, ?_, ?_, ?_, d4⟩
    · rw [oo 2 (by omega), oo 3 (by omega), oo 4 (by omega), hk 2 (by omega) (by omega)]; exact d1
    · rw [oo 3 (by omega), hk 3 (by omega) (by omega)]; exact d2
    · rw [oo 4 (by omega), hk 4 (by omega) (by omega)]; exact d3
  · rw [oo 5 (by omega), hk 5 (by omega) (by omega), hn]; exact h5
theorem live_7 {A : zA} (h : 0 < ns A) : live A 7 := Or.inr (Or.inr (Or.inr (Or.inl ⟨rfl, h⟩)))
theorem live_9 {A : zA} (h : 0 < nw A) : live A 9 := Or.inr (Or.inr (Or.inr (Or.inr (Or.inl ⟨rfl, h⟩))))
theorem live_11 {A : zA} (h : 0 < np A) : live A 11 := Or.inr (Or.inr (Or.inr (Or.inr (Or.inr (Or.inl ⟨rfl, h⟩)))))
/-! a world -/
theorem woA_20 (A : zA) (i p ph : Nat) : (woA A i p ph).1 20 = va_up (A.1 20) (nw A) i := rfl
theorem woA_21 (A : zA) (i p ph : Nat) : (woA A i p ph).1 21 = va_up (A.1 21) (nw A) p := rfl
theorem woA_22 (A : zA) (i p ph : Nat) : (woA A i p ph).1 22 = va_up (A.1 22) (nw A) ph := rfl
theorem woA_s (A : zA) (i p ph : Nat) : ns (woA A i p ph) = ns A := rfl
theorem woA_w (A : zA) (i p ph : Nat) : nw (woA A i p ph) = nw A + 1 := rfl
theorem woA_p (A : zA) (i p ph : Nat) : np (woA A i p ph) = np A := rfl
theorem VA.world {A : zA} {i p ph : Nat} (hV : VA A) (hn : nw A < 12) (hi : i < ns A) (h1 : 2 ≤ p) (h2 : p ≤ 60) (h3 : ph < 60) : VA (woA A i p ph) := by
  obtain ⟨v1, v2, v3, v4, v5, v6, v7, v8, v9, v10, v11, v12, v13⟩ := hV
  refine ⟨v1, by rw [woA_w]; omega, v3, v4, v5, v6, v7, v8, v9, fun w hw => ?_, v11, fun w hw => v12 w (by rw [woA_w] at hw; omega), fun j hj => ⟨by rw [woA_w]; have : A.1 25 j < nw A := (v13 j hj).1; exact Nat.lt_succ_of_lt this, (v13 j hj).2⟩⟩
  rw [woA_w] at hw
  rw [woA_20, woA_21, woA_22, woA_s]
  by_cases e : w = nw A
  · subst e
    rw [va_up_self, va_up_self, va_up_self]
    exact ⟨hi, h1, h2, h3⟩
  · rw [va_up_ne _ _ e, va_up_ne _ _ e, va_up_ne _ _ e]
    exact v10 w (by omega)
theorem CI.addWorld {K : zK} {L L2 L1 : List Nat} {f f2 f1 : Nat → va_E} {A : zA} {ad : Nat → Nat} {i t p ph q0 q1 q2 : Nat} (h : CI K L f A ad) (hn : nw A < 12) (hi : i < ns A) (h1 : 2 ≤ p) (h2 : p ≤ 60) (h3 : ph < 60) (h4 : t ≤ 1000000) (hpd : pdT (gk A i) (nI t) = p) (hz : K.2.2.1 ∉ L2)
    (hq0 : q0 ∉ L) (hq1 : q1 ∉ L) (hq2 : q2 ∉ L) (n01 : q0 ≠ q1) (n02 : q0 ≠ q2) (n12 : q1 ≠ q2) (hL2 : ∀ q, q ∈ L → q ∈ L2) (m0 : q0 ∈ L2) (m1 : q1 ∈ L2) (m2 : q2 ∈ L2)
    (g0 : f2 q0 = eS 6 [.int (nI i), .int (nI t), .int (nI p), .int (nI ph), .ref q1, .int (nI 0)]) (g1 : f2 q1 = eS 2 [.ref q2, .int (nI (A.1 14 i))]) (g2 : f2 q2 = eD K 1000 (gk A i)) (hfr : ∀ q, q ∈ L → f2 q = f q)
    (hadd : addP K (ad 8) (ad 9) (nw A) q0 L2 f2 L1 f1) : CR K A ad L f (woA A i p ph) L1 f1 := by
  have h' := h
  obtain ⟨v, c1, c2, c3, c4, c5, c6, c7, c8, c9, c10, c11⟩ := h'
  have hno : ∀ t9, live A t9 → t9 ≠ 300 + 10 * nw A ∧ t9 ≠ 301 + 10 * nw A ∧ t9 ≠ 302 + 10 * nw A := fun t9 ht => by
    have v1 := v.1
    have v3 := v.2.2.1
    rcases ht with y | y | y | ⟨y, -⟩ | ⟨y, -⟩ | ⟨y, -⟩ | ⟨i9, hi9, y⟩ | ⟨w, hw, y⟩ | ⟨j, hj, y⟩
    · omega
    · omega
    · omega
    · omega
    · omega
    · omega
    · have h1 := (v.2.2.2.1 i9 hi9).2.2.1
      rcases y with y | y | y | y | ⟨y, -⟩ | ⟨k, hk9, y⟩ <;> omega
    · omega
    · omega
  have hnew : ∀ t9, live (woA A i p ph) t9 → (live A t9 ∧ t9 ≠ 9) ∨ t9 = 9 ∨ (t9 = 300 + 10 * nw A ∨ t9 = 301 + 10 * nw A ∨ t9 = 302 + 10 * nw A) := fun t9 ht => by
    by_cases e9 : t9 = 9
    · exact Or.inr (Or.inl e9)
    · rcases ht with y | y | y | y | ⟨y, -⟩ | y | y | ⟨w, hw, y⟩ | y
      · exact Or.inl ⟨Or.inl y, e9⟩
      · exact Or.inl ⟨Or.inr (Or.inl y), e9⟩
      · exact Or.inl ⟨Or.inr (Or.inr (Or.inl y)), e9⟩
      · exact Or.inl ⟨Or.inr (Or.inr (Or.inr (Or.inl y))), e9⟩
      · exact absurd y e9
      · exact Or.inl ⟨Or.inr (Or.inr (Or.inr (Or.inr (Or.inr (Or.inl y))))), e9⟩
      · exact Or.inl ⟨Or.inr (Or.inr (Or.inr (Or.inr (Or.inr (Or.inr (Or.inl y)))))), e9⟩
      · rw [woA_w] at hw
        by_cases e : w = nw A
        · subst e; exact Or.inr (Or.inr y)
        · exact Or.inl ⟨live_w (by omega) y, e9⟩
      · exact Or.inl ⟨Or.inr (Or.inr (Or.inr (Or.inr (Or.inr (Or.inr (Or.inr (Or.inr y))))))), e9⟩
  obtain ⟨AD, oo, oN, hli, hLL, hlv, hinj, hk, hN9, hfin⟩ := add_core (A' := woA A i p ph) (fun t9 => t9 = 300 + 10 * nw A ∨ t9 = 301 + 10 * nw A ∨ t9 = 302 + 10 * nw A) (fun t9 => if t9 = 300 + 10 * nw A then q0 else if t9 = 301 + 10 * nw A then q1 else q2) h hz (live_c (by omega)) live_9 (by omega) (fun t9 ht => ⟨fun z => by have := hno t9 z; omega, by omega⟩) c7 hnew
    (fun t9 ht => by
      rcases ht with y | y | y <;> rw [y]
      · rw [if_pos rfl]; exact ⟨hq0, m0⟩
      · rw [if_neg (by omega), if_pos rfl]; exact ⟨hq1, m1⟩
      · rw [if_neg (by omega), if_neg (by omega)]; exact ⟨hq2, m2⟩)
    (fun t9 u ht hu e9 => by
      rcases ht with y | y | y <;> rcases hu with x | x | x <;> rw [y, x] at e9 ⊢ <;> simp only [if_pos, if_true, show ¬ (301 + 10 * nw A = 300 + 10 * nw A) by omega, show ¬ (302 + 10 * nw A = 300 + 10 * nw A) by omega, show ¬ (302 + 10 * nw A = 301 + 10 * nw A) by omega, if_false] at e9 <;> first | exact absurd e9 (by assumption) | exact absurd e9.symm (by assumption))
    hL2 hfr hadd
  have o0 : AD (300 + 10 * nw A) = q0 := (oN _ (by omega)).trans (if_pos rfl)
  have o1 : AD (301 + 10 * nw A) = q1 := (oN _ (by omega)).trans (by rw [if_neg (by omega), if_pos rfl])
  have o2 : AD (302 + 10 * nw A) = q2 := (oN _ (by omega)).trans (by rw [if_neg (by omega), if_neg (by omega)])
  have oc : ∀ t9, t9 ≤ 299 → t9 ≠ 9 → AD t9 = ad t9 := fun t9 h1 h2 => oo t9 (by omega) h2
  have ol : ∀ t9, live A t9 → t9 ≠ 9 → AD t9 = ad t9 := fun t9 ht h9 => oo t9 (fun z => by have := hno t9 ht; omega) h9
  have f0 : f1 q0 = f2 q0 := by have := (hN9 (300 + 10 * nw A) (by omega)).1; rwa [if_pos rfl] at this
  have f1' : f1 q1 = f2 q1 := by have := (hN9 (301 + 10 * nw A) (by omega)).1; rwa [if_neg (by omega), if_pos rfl] at this
  have f2' : f1 q2 = f2 q2 := by have := (hN9 (302 + 10 * nw A) (by omega)).1; rwa [if_neg (by omega), if_neg (by omega)] at this
  obtain ⟨hX, hF, hh5⟩ := fix_mv (A' := woA A i p ph) (fun t9 ht => oc t9 (by omega) (by omega)) (fun t9 h1 h2 => hk t9 (live_c (by omega)) (by omega)) c3 c4 c5 rfl
  refine ⟨AD, ?_, oc 1 (by omega) (by omega), hLL, hfin⟩
  refine CI.step (D := fun t9 => t9 = 8 ∨ t9 = 9) h (v.world hn hi h1 h2 h3) hLL hlv hinj hk (fun t9 ht hd => ol t9 ht (fun y => hd (Or.inr (Or.inl y)))) hX hF hh5 ?_ ?_ ?_ ?_ ?_ ?_
  · exact c6.mv hLL rfl (oc 6 (by omega) (by omega)) (hk 6 (live_c (by omega)) (by omega)) (fun z => ⟨hk 7 (live_7 z) (by omega), oc 7 (by omega) (by omega)⟩) (fun _ => oc 7 (by omega) (by omega)) (fun k hk9 => ol _ (live_s hk9 (by omega)) (by omega))
  · rw [oc 8 (by omega) (by omega)]
    exact hli _ (fun k hk9 => ol _ (live_w hk9 (by omega)) (by omega)) o0
  · exact c8.mv hLL rfl (oc 10 (by omega) (by omega)) (hk 10 (live_c (by omega)) (by omega)) (fun z => ⟨hk 11 (live_11 z) (by omega), oc 11 (by omega) (by omega)⟩) (fun _ => oc 11 (by omega) (by omega)) (fun k hk9 => ol _ (live_q hk9) (by omega))
  · intro j hj
    have hj : j < ns A := hj
    have h3' := (v.2.2.2.1 j hj).2.2.1
    have v1 := v.1
    refine Or.inl ⟨hj, fun t9 ht => ?_, oc _ (by omega) (by omega), sameS.rfl⟩
    rcases ht with y | y | y | y | ⟨y, -⟩ | ⟨k, hk9, y⟩ <;> omega
  · intro w hw
    rw [woA_w] at hw
    by_cases e : w = nw A
    · subst e
      refine Or.inr ⟨t, gk A i, ?_, ?_, ?_, h4, gk_ok v i, ?_⟩
      · rw [o0, o1, f0, g0, woA_20, woA_21, woA_22, va_up_self, va_up_self, va_up_self, show (woA A i p ph).1 23 (nw A) = 0 from v.2.2.2.2.2.2.2.2.2.2.2.1 _ (Nat.le_refl _)]
      · rw [o1, o2, f1', g1, (v.2.2.2.1 i hi).2.2.2.2.2.2.1]
      · rw [o2, f2', g2]
      · rw [woA_21, va_up_self]; exact hpd
    · refine Or.inl ⟨by omega, fun t9 ht => by rcases ht with y | y | y <;> omega, ?_, ?_, ?_, rfl⟩
      · rw [woA_20, va_up_ne _ _ e]
      · rw [woA_21, va_up_ne _ _ e]
      · rw [woA_22, va_up_ne _ _ e]
  · exact fun j hj => Or.inl ⟨hj, by omega, rfl, rfl, fell_same (A := A) (A' := woA A i p ph) rfl rfl rfl j⟩
/-! a paper -/
theorem paA_25 (A : zA) (w c1 : Nat) : (paA A w c1).1 25 = va_up (A.1 25) (np A) w := rfl
theorem paA_26 (A : zA) (w c1 : Nat) : (paA A w c1).1 26 = va_up (A.1 26) (np A) c1 := rfl
theorem paA_s (A : zA) (w c1 : Nat) : ns (paA A w c1) = ns A := rfl
theorem paA_w (A : zA) (w c1 : Nat) : nw (paA A w c1) = nw A := rfl
theorem paA_p (A : zA) (w c1 : Nat) : np (paA A w c1) = np A + 1 := rfl
theorem VA.paper {A : zA} {w c1 : Nat} (hV : VA A) (hn : np A < 30) (hw : w < nw A) (hc : c1 ≤ np A) : VA (paA A w c1) := by
  obtain ⟨v1, v2, v3, v4, v5, v6, v7, v8, v9, v10, v11, v12, v13⟩ := hV
  refine ⟨v1, v2, by rw [paA_p]; omega, v4, v5, v6, v7, v8, v9, v10, v11, v12, fun j hj => ?_⟩
  rw [paA_p] at hj
  rw [paA_25, paA_26, paA_w]
  by_cases e : j = np A
  · subst e
    rw [va_up_self, va_up_self]
    exact ⟨hw, hc⟩
  · rw [va_up_ne _ _ e, va_up_ne _ _ e]
    exact v13 j (by omega)
theorem fellN_pa {A : zA} {w c1 : Nat} (hc : ∀ j, j < np A → A.1 26 j ≤ j) : ∀ n j, j < np A → fellN (paA A w c1) n j = fellN A n j
  | 0, _, _ => rfl
  | n + 1, j, hj => by
    show (decide (A.1 23 ((paA A w c1).1 25 j) = 1) || (decide ((paA A w c1).1 26 j ≠ 0) && fellN (paA A w c1) n ((paA A w c1).1 26 j - 1))) = (decide (A.1 23 (A.1 25 j) = 1) || (decide (A.1 26 j ≠ 0) && fellN A n (A.1 26 j - 1)))
    rw [paA_25, paA_26, va_up_ne _ _ (show j ≠ np A by omega), va_up_ne _ _ (show j ≠ np A by omega)]
    have := hc j hj
    rw [fellN_pa hc n (A.1 26 j - 1) (by omega)]
theorem fell_pa {A : zA} {w c1 : Nat} (hc : ∀ j, j < np A → A.1 26 j ≤ j) {j : Nat} (hj : j < np A) : fell (paA A w c1) j = fell A j := fellN_pa hc _ j hj
theorem fell_pn {A : zA} {w c1 : Nat} (hV : VA A) (hn : np A < 30) (hw : w < nw A) (hc1 : c1 ≤ np A) (h0 : A.1 23 w ≠ 1) (h1 : c1 ≠ 0 → fell A (c1 - 1) = false) : fell (paA A w c1) (np A) = false := by
  have hc : ∀ j, j < np A → A.1 26 j ≤ j := fun j hj => (hV.2.2.2.2.2.2.2.2.2.2.2.2 j hj).2
  have hc' : ∀ j, j < np (paA A w c1) → (paA A w c1).1 26 j ≤ j := fun j hj => ((hV.paper hn hw hc1).2.2.2.2.2.2.2.2.2.2.2.2 j hj).2
  rw [fell_rec hc' (show np A < np (paA A w c1) by rw [paA_p]; omega), paA_25, paA_26, va_up_self, va_up_self, show (paA A w c1).1 23 w = A.1 23 w from rfl, decide_eq_false h0, Bool.false_or]
  by_cases e : c1 = 0
  · rw [decide_eq_false (fun z => z e), Bool.false_and]
  · rw [fell_pa hc (by omega), h1 e, Bool.and_false]
theorem CI.addPaper {K : zK} {L L2 L1 : List Nat} {f f2 f1 : Nat → va_E} {A : zA} {ad : Nat → Nat} {w c1 q0 : Nat} (h : CI K L f A ad) (hn : np A < 30) (hw : w < nw A) (hc1 : c1 ≤ np A) (h0 : A.1 23 w ≠ 1) (h1 : c1 ≠ 0 → fell A (c1 - 1) = false) (hz : K.2.2.1 ∉ L2)
    (hq0 : q0 ∉ L) (hL2 : ∀ q, q ∈ L → q ∈ L2) (m0 : q0 ∈ L2) (g0 : f2 q0 = eS 3 [.ref (ad (300 + 10 * w)), va_rf (if c1 = 0 then none else some (ad (500 + (c1 - 1)))), .int (nI 0)]) (hfr : ∀ q, q ∈ L → f2 q = f q)
    (hadd : addP K (ad 10) (ad 11) (np A) q0 L2 f2 L1 f1) : CR K A ad L f (paA A w c1) L1 f1 := by
  have h' := h
  obtain ⟨v, c1', c2, c3, c4, c5, c6, c7, c8, c9, c10, c11⟩ := h'
  have hc : ∀ j, j < np A → A.1 26 j ≤ j := fun j hj => (v.2.2.2.2.2.2.2.2.2.2.2.2 j hj).2
  have hno : ∀ t9, live A t9 → t9 ≠ 500 + np A := fun t9 ht => by
    have v1 := v.1
    have v2 := v.2.1
    rcases ht with y | y | y | ⟨y, -⟩ | ⟨y, -⟩ | ⟨y, -⟩ | ⟨i9, hi9, y⟩ | ⟨w9, hw9, y⟩ | ⟨j, hj, y⟩
    · omega
    · omega
    · omega
    · omega
    · omega
    · omega
    · have h1 := (v.2.2.2.1 i9 hi9).2.2.1
      rcases y with y | y | y | y | ⟨y, -⟩ | ⟨k, hk9, y⟩ <;> omega
    · omega
    · omega
  have hnew : ∀ t9, live (paA A w c1) t9 → (live A t9 ∧ t9 ≠ 11) ∨ t9 = 11 ∨ t9 = 500 + np A := fun t9 ht => by
    by_cases e9 : t9 = 11
    · exact Or.inr (Or.inl e9)
    · rcases ht with y | y | y | y | y | ⟨y, -⟩ | y | y | ⟨j, hj, y⟩
      · exact Or.inl ⟨Or.inl y, e9⟩
      · exact Or.inl ⟨Or.inr (Or.inl y), e9⟩
      · exact Or.inl ⟨Or.inr (Or.inr (Or.inl y)), e9⟩
      · exact Or.inl ⟨Or.inr (Or.inr (Or.inr (Or.inl y))), e9⟩
      · exact Or.inl ⟨Or.inr (Or.inr (Or.inr (Or.inr (Or.inl y)))), e9⟩
      · exact absurd y e9
      · exact Or.inl ⟨Or.inr (Or.inr (Or.inr (Or.inr (Or.inr (Or.inr (Or.inl y)))))), e9⟩
      · exact Or.inl ⟨Or.inr (Or.inr (Or.inr (Or.inr (Or.inr (Or.inr (Or.inr (Or.inl y))))))), e9⟩
      · rw [paA_p] at hj
        by_cases e : j = np A
        · subst e; exact Or.inr (Or.inr y)
        · exact Or.inl ⟨by rw [y]; exact live_q (by omega), e9⟩
  obtain ⟨AD, oo, oN, hli, hLL, hlv, hinj, hk, hN9, hfin⟩ := add_core (A' := paA A w c1) (fun t9 => t9 = 500 + np A) (fun _ => q0) h hz (live_c (by omega)) live_11 (by omega) (fun t9 ht => ⟨fun z => hno t9 z ht, by omega⟩) c8 hnew (fun t9 ht => ⟨hq0, m0⟩) (fun t9 u ht hu e9 => ht.trans hu.symm) hL2 hfr hadd
  have o0 : AD (500 + np A) = q0 := oN _ rfl
  have ol : ∀ t9, live A t9 → t9 ≠ 11 → AD t9 = ad t9 := fun t9 ht h9 => oo t9 (hno t9 ht) h9
  have oc : ∀ t9, t9 ≤ 499 → t9 ≠ 11 → AD t9 = ad t9 := fun t9 h1 h2 => oo t9 (by omega) h2
  have f0 : f1 q0 = f2 q0 := (hN9 _ rfl).1
  have v2 := v.2.1
  obtain ⟨hX, hF, hh5⟩ := fix_mv (A' := paA A w c1) (fun t9 ht => oc t9 (by omega) (by omega)) (fun t9 h1 h2 => hk t9 (live_c (by omega)) (by omega)) c3 c4 c5 rfl
  refine ⟨AD, ?_, oc 1 (by omega) (by omega), hLL, hfin⟩
  refine CI.step (D := fun t9 => t9 = 10 ∨ t9 = 11) h (v.paper hn hw hc1) hLL hlv hinj hk (fun t9 ht hd => ol t9 ht (fun y => hd (Or.inr (Or.inr (Or.inl y))))) hX hF hh5 ?_ ?_ ?_ ?_ ?_ ?_
  · exact c6.mv hLL rfl (oc 6 (by omega) (by omega)) (hk 6 (live_c (by omega)) (by omega)) (fun z => ⟨hk 7 (live_7 z) (by omega), oc 7 (by omega) (by omega)⟩) (fun _ => oc 7 (by omega) (by omega)) (fun k hk9 => ol _ (live_s hk9 (by omega)) (by omega))
  · exact c7.mv hLL rfl (oc 8 (by omega) (by omega)) (hk 8 (live_c (by omega)) (by omega)) (fun z => ⟨hk 9 (live_9 z) (by omega), oc 9 (by omega) (by omega)⟩) (fun _ => oc 9 (by omega) (by omega)) (fun k hk9 => ol _ (live_w hk9 (by omega)) (by omega))
  · rw [oc 10 (by omega) (by omega)]
    exact hli _ (fun k hk9 => ol _ (live_q hk9) (by omega)) o0
  · intro j hj
    have hj : j < ns A := hj
    have h3' := (v.2.2.2.1 j hj).2.2.1
    have v1 := v.1
    refine Or.inl ⟨hj, fun t9 ht => ?_, oc _ (by omega) (by omega), sameS.rfl⟩
    rcases ht with y | y | y | y | ⟨y, -⟩ | ⟨k, hk9, y⟩ <;> omega
  · exact fun u hu => Or.inl ⟨hu, fun t9 ht => by rcases ht with y | y | y <;> omega, sameW.rfl⟩
  · intro j hj
    rw [paA_p] at hj
    by_cases e : j = np A
    · subst e
      refine Or.inr ?_
      unfold CP
      rw [o0, f0, g0, paA_25, paA_26, va_up_self, va_up_self, fell_pn v hn hw hc1 h0 h1, ol _ (live_w hw (by omega)) (by omega)]
      by_cases e0 : c1 = 0
      · rw [if_pos e0, if_pos e0]; rfl
      · rw [if_neg e0, if_neg e0, ol _ (live_q (show c1 - 1 < np A by omega)) (by omega)]; rfl
    · refine Or.inl ⟨by omega, by omega, ?_, ?_, fell_pa hc (by omega)⟩
      · rw [paA_25, va_up_ne _ _ e]
      · rw [paA_26, va_up_ne _ _ e]
/-! a planet -/
theorem plA_3 (A : zA) (i p ph len d : Nat) : (plA A i p ph len d).1 3 = va_up (A.1 3) i (A.1 3 i + 1) := rfl
theorem plA_4 (A : zA) (i p ph len d : Nat) : (plA A i p ph len d).1 4 = va_up (A.1 4) (4 * i + A.1 3 i) p := rfl
theorem plA_5 (A : zA) (i p ph len d : Nat) : (plA A i p ph len d).1 5 = va_up (A.1 5) (4 * i + A.1 3 i) ph := rfl
theorem plA_6 (A : zA) (i p ph len d : Nat) : (plA A i p ph len d).1 6 = va_up (A.1 6) (4 * i + A.1 3 i) len := rfl
theorem plA_7 (A : zA) (i p ph len d : Nat) : (plA A i p ph len d).1 7 = va_up (A.1 7) (4 * i + A.1 3 i) d := rfl
theorem VA.planet {A : zA} {i p ph len d : Nat} (hV : VA A) (hi : i < ns A) (hn : A.1 3 i < 4) (h1 : 2 ≤ p) (h2 : p ≤ 60) (h3 : ph < p) (h4 : 1 ≤ len) (h5 : len ≤ 4) (h6 : 1 ≤ d) (h7 : d ≤ 200) : VA (plA A i p ph len d) := by
  obtain ⟨v1, v2, v3, v4, v5, v6, v7, v8, v9, v10, v11, v12, v13⟩ := hV
  refine ⟨v1, v2, v3, fun j hj => ?_, fun j hj => ?_, v6, v7, v8, v9, v10, v11, v12, v13⟩
  · have hj : j < ns A := hj
    obtain ⟨w1, w2, w3, w4, w5, w6, w7, w8⟩ := v4 j hj
    refine ⟨w1, w2, ?_, w4, w5, w6, w7, fun k hk => ?_⟩
    · rw [plA_3]; unfold va_up; split <;> omega
    · rw [plA_3] at hk
      rw [plA_4, plA_5, plA_6, plA_7]
      by_cases e : j = i
      · subst e
        rw [va_up_self] at hk
        by_cases e2 : k = A.1 3 j
        · subst e2
          rw [va_up_self, va_up_self, va_up_self, va_up_self]
          exact ⟨h1, h2, h3, h4, h5, h6, h7⟩
        · rw [va_up_ne _ _ (by omega), va_up_ne _ _ (by omega), va_up_ne _ _ (by omega), va_up_ne _ _ (by omega)]
          exact w8 k (by omega)
      · rw [va_up_ne _ _ e] at hk
        rw [va_up_ne _ _ (by omega), va_up_ne _ _ (by omega), va_up_ne _ _ (by omega), va_up_ne _ _ (by omega)]
        exact w8 k hk
  · have hj : ns A ≤ j := hj
    obtain ⟨w1, w2⟩ := v5 j hj
    exact ⟨by rw [plA_3, va_up_ne _ _ (by omega), w1], w2⟩
theorem CI.addPlanet {K : zK} {L L2 L1 : List Nat} {f f2 f1 : Nat → va_E} {A : zA} {ad : Nat → Nat} {i p ph len d q0 : Nat} (h : CI K L f A ad) (hi : i < ns A) (hn : A.1 3 i < 4) (h1 : 2 ≤ p) (h2 : p ≤ 60) (h3 : ph < p) (h4 : 1 ≤ len) (h5 : len ≤ 4) (h6 : 1 ≤ d) (h7 : d ≤ 200) (hz : K.2.2.1 ∉ L2)
    (hq0 : q0 ∉ L) (hL2 : ∀ q, q ∈ L → q ∈ L2) (m0 : q0 ∈ L2) (g0 : f2 q0 = eS 4 [.int (nI p), .int (nI ph), .int (nI len), .double (quo d)]) (hfr : ∀ q, q ∈ L → f2 q = f q)
    (hadd : addP K (ad (101 + 10 * i)) (ad (102 + 10 * i)) (A.1 3 i) q0 L2 f2 L1 f1) : CR K A ad L f (plA A i p ph len d) L1 f1 := by
  have h' := h
  obtain ⟨v, c1', c2, c3, c4, c5, c6, c7, c8, c9, c10, c11⟩ := h'
  have v1 := v.1
  have v2 := v.2.1
  have hno : ∀ t9, live A t9 → t9 ≠ 200 + 10 * i + A.1 3 i := fun t9 ht => by
    rcases ht with y | y | y | ⟨y, -⟩ | ⟨y, -⟩ | ⟨y, -⟩ | ⟨i9, hi9, y⟩ | ⟨w9, hw9, y⟩ | ⟨j, hj, y⟩
    · omega
    · omega
    · omega
    · omega
    · omega
    · omega
    · have h1 := (v.2.2.2.1 i9 hi9).2.2.1
      rcases y with y | y | y | y | ⟨y, -⟩ | ⟨k, hk9, y⟩
      · omega
      · omega
      · omega
      · omega
      · omega
      · by_cases e : i9 = i
        · subst e; omega
        · omega
    · omega
    · omega
  have hnew : ∀ t9, live (plA A i p ph len d) t9 → (live A t9 ∧ t9 ≠ 102 + 10 * i) ∨ t9 = 102 + 10 * i ∨ t9 = 200 + 10 * i + A.1 3 i := fun t9 ht => by
    by_cases e9 : t9 = 102 + 10 * i
    · exact Or.inr (Or.inl e9)
    · rcases ht with y | y | y | y | y | y | ⟨j, hj, y⟩ | y | y
      · exact Or.inl ⟨Or.inl y, e9⟩
      · exact Or.inl ⟨Or.inr (Or.inl y), e9⟩
      · exact Or.inl ⟨Or.inr (Or.inr (Or.inl y)), e9⟩
      · exact Or.inl ⟨Or.inr (Or.inr (Or.inr (Or.inl y))), e9⟩
      · exact Or.inl ⟨Or.inr (Or.inr (Or.inr (Or.inr (Or.inl y)))), e9⟩
      · exact Or.inl ⟨Or.inr (Or.inr (Or.inr (Or.inr (Or.inr (Or.inl y))))), e9⟩
      · have hj9 : j < ns A := hj
        rw [plA_3] at y
        by_cases e : j = i
        · subst e
          rw [va_up_self] at y
          rcases y with y | y | y | y | ⟨y, -⟩ | ⟨k, hk9, y⟩
          · exact Or.inl ⟨live_s hj9 (by omega), e9⟩
          · exact Or.inl ⟨live_s hj9 (by omega), e9⟩
          · exact Or.inl ⟨live_s hj9 (by omega), e9⟩
          · exact Or.inl ⟨live_s hj9 (by omega), e9⟩
          · exact absurd y e9
          · by_cases e2 : k = A.1 3 j
            · subst e2; exact Or.inr (Or.inr y)
            · exact Or.inl ⟨by rw [y]; exact live_p hj9 (by omega), e9⟩
        · rw [va_up_ne _ _ e] at y
          exact Or.inl ⟨live_sT hj9 y, e9⟩
      · exact Or.inl ⟨Or.inr (Or.inr (Or.inr (Or.inr (Or.inr (Or.inr (Or.inr (Or.inl y))))))), e9⟩
      · exact Or.inl ⟨Or.inr (Or.inr (Or.inr (Or.inr (Or.inr (Or.inr (Or.inr (Or.inr y))))))), e9⟩
  obtain ⟨s1, s2, s3, s4, s5⟩ := c9 i hi
  obtain ⟨AD, oo, oN, hli, hLL, hlv, hinj, hk, hN9, hfin⟩ := add_core (A' := plA A i p ph len d) (fun t9 => t9 = 200 + 10 * i + A.1 3 i) (fun _ => q0) h hz (live_s (t := 101 + 10 * i) hi (by omega)) (fun z => live_sT hi (Or.inr (Or.inr (Or.inr (Or.inr (Or.inl ⟨rfl, z⟩)))))) (by omega) (fun t9 ht => ⟨fun z => hno t9 z ht, by omega⟩) s2 hnew (fun t9 ht => ⟨hq0, m0⟩) (fun t9 u ht hu e9 => ht.trans hu.symm) hL2 hfr hadd
  have o0 : AD (200 + 10 * i + A.1 3 i) = q0 := oN _ rfl
  have ol : ∀ t9, live A t9 → t9 ≠ 102 + 10 * i → AD t9 = ad t9 := fun t9 ht h9 => oo t9 (hno t9 ht) h9
  have oc : ∀ t9, t9 ≤ 199 ∨ 300 ≤ t9 → t9 ≠ 102 + 10 * i → AD t9 = ad t9 := fun t9 h1 h2 => oo t9 (by omega) h2
  have f0 : f1 q0 = f2 q0 := (hN9 _ rfl).1
  obtain ⟨hX, hF, hh5⟩ := fix_mv (A' := plA A i p ph len d) (fun t9 ht => oc t9 (by omega) (by omega)) (fun t9 h1 h2 => hk t9 (live_c (by omega)) (by omega)) c3 c4 c5 rfl
  refine ⟨AD, ?_, oc 1 (by omega) (by omega), hLL, hfin⟩
  refine CI.step (D := fun t9 => t9 = 101 + 10 * i ∨ t9 = 102 + 10 * i) h (v.planet hi hn h1 h2 h3 h4 h5 h6 h7) hLL hlv hinj hk (fun t9 ht hd => ol t9 ht (fun y => hd (Or.inr (Or.inr (Or.inr ⟨i, hi, y⟩))))) hX hF hh5 ?_ ?_ ?_ ?_ ?_ ?_
  · exact c6.mv hLL rfl (oc 6 (by omega) (by omega)) (hk 6 (live_c (by omega)) (by omega)) (fun z => ⟨hk 7 (live_7 z) (by omega), oc 7 (by omega) (by omega)⟩) (fun _ => oc 7 (by omega) (by omega)) (fun k hk9 => oc _ (by omega) (by omega))
  · exact c7.mv hLL rfl (oc 8 (by omega) (by omega)) (hk 8 (live_c (by omega)) (by omega)) (fun z => ⟨hk 9 (live_9 z) (by omega), oc 9 (by omega) (by omega)⟩) (fun _ => oc 9 (by omega) (by omega)) (fun k hk9 => oc _ (by omega) (by omega))
  · exact c8.mv hLL rfl (oc 10 (by omega) (by omega)) (hk 10 (live_c (by omega)) (by omega)) (fun z => ⟨hk 11 (live_11 z) (by omega), oc 11 (by omega) (by omega)⟩) (fun _ => oc 11 (by omega) (by omega)) (fun k hk9 => oc _ (by omega) (by omega))
  · intro j hj
    have hj9 : j < ns A := hj
    by_cases e : j = i
    · subst e
      refine Or.inr ⟨?_, ?_, ?_, ?_, fun k hk9 => ?_⟩
      · rw [oc (100 + 10 * j) (by omega) (by omega), oc (101 + 10 * j) (by omega) (by omega), oc (103 + 10 * j) (by omega) (by omega), hk (100 + 10 * j) (live_s hj9 (by omega)) (by omega), s1]; rfl
      · rw [plA_3, va_up_self, oc (101 + 10 * j) (by omega) (by omega)]
        exact hli _ (fun k hk9 => ol _ (live_p hj9 hk9) (by omega)) o0
      · rw [oc (103 + 10 * j) (by omega) (by omega), oc (104 + 10 * j) (by omega) (by omega), hk (103 + 10 * j) (live_s hj9 (by omega)) (by omega), s3]; rfl
      · rw [oc (104 + 10 * j) (by omega) (by omega), hk (104 + 10 * j) (live_s hj9 (by omega)) (by omega), s4]; rfl
      · rw [plA_3, va_up_self] at hk9
        rw [plA_4, plA_5, plA_6, plA_7]
        by_cases e2 : k = A.1 3 j
        · subst e2
          rw [o0, f0, g0, va_up_self, va_up_self, va_up_self, va_up_self]
        · rw [va_up_ne _ _ (by omega), va_up_ne _ _ (by omega), va_up_ne _ _ (by omega), va_up_ne _ _ (by omega), ol _ (live_p hj9 (show k < A.1 3 j by omega)) (by omega), hk _ (live_p hj9 (show k < A.1 3 j by omega)) (by omega)]
          exact s5 k (by omega)
    · have h3' := (v.2.2.2.1 j hj9).2.2.1
      refine Or.inl ⟨hj9, fun t9 ht => ?_, oc _ (by omega) (by omega), rfl, by rw [plA_3, va_up_ne _ _ e], rfl, rfl, rfl, rfl, rfl, fun k hk9 => ?_⟩
      · rcases ht with y | y | y | y | ⟨y, -⟩ | ⟨k, hk9, y⟩ <;> omega
      · rw [plA_4, plA_5, plA_6, plA_7]
        exact ⟨va_up_ne _ _ (by omega), va_up_ne _ _ (by omega), va_up_ne _ _ (by omega), va_up_ne _ _ (by omega)⟩
  · exact fun u hu => Or.inl ⟨hu, fun t9 ht => by rcases ht with y | y | y <;> omega, sameW.rfl⟩
  · exact fun j hj => Or.inl ⟨hj, by have : j < np A := hj; omega, rfl, rfl, fell_same (A := A) (A' := plA A i p ph len d) rfl rfl rfl j⟩
/-! more of lists that grow, and of cells that stay -/
theorem LI.nx {K : zK} {L : List Nat} {f : Nat → va_E} {a e n x : Nat} {es : Nat → Nat} (h : LI K L f a e n es) (hz : K.2.2.1 ∉ L) (hx : x ∈ L) (h1 : 0 < n → x ≠ e) : x ≠ e := by
  obtain ⟨-, -, h3 | ⟨-, cap, arr, -, -, -, -, -, -, h4⟩⟩ := h
  · exact fun y => hz (by rw [← h3.2, ← y]; exact hx)
  · exact h1 h4
theorem addP.fr {K : zK} {a ee n q : Nat} {L L1 : List Nat} {f f1 : Nat → va_E} (h : addP K a ee n q L f L1 f1) {x : Nat} (hx : x ∈ L) (h1 : x ≠ a) (h2 : x ≠ ee) : f1 x = f x ∧ x ∈ L1 := by
  obtain ⟨e1, -, a2, a3, a4⟩ := h
  rcases a2 with ⟨e, eL⟩ | ⟨e, eL⟩
  · exact ⟨a4 x h1 (by rw [e]; exact h2), by rw [eL]; exact hx⟩
  · exact ⟨a4 x h1 (fun z => e (z ▸ hx)), by rw [eL]; exact List.mem_append_left _ hx⟩
theorem addP.li {K : zK} {a ee n q : Nat} {L L1 : List Nat} {f f1 : Nat → va_E} {es : Nat → Nat} (h : addP K a ee n q L f L1 f1) (hli : LI K L f a ee n es) : ∃ e1, LI K L1 f1 a e1 (n + 1) (fun k => if k < n then es k else q) := by
  obtain ⟨e1, a1, -⟩ := h
  exact ⟨e1, a1 es _ hli (fun k hk => if_pos hk) (if_neg (Nat.lt_irrefl n))⟩
theorem CI.sub {K : zK} {L L2 : List Nat} {f f2 : Nat → va_E} {A : zA} {ad : Nat → Nat} (h : CI K L f A ad) (hL : ∀ q, q ∈ L → q ∈ L2) (hfr : ∀ t, live A t → f2 (ad t) = f (ad t)) : CI K L2 f2 A ad := by
  have h' := h
  obtain ⟨v, c1, c2, c3, c4, c5, c6, c7, c8, c9, c10, c11⟩ := h'
  obtain ⟨hX, hF, hh5⟩ := fix_mv (A' := A) (AD := ad) (fun _ _ => rfl) (fun t9 h1 h2 => hfr t9 (live_c (by omega))) c3 c4 c5 rfl
  refine CI.step (D := fun _ => False) h v hL (fun t9 ht => hL _ (c1 t9 ht)) c2 (fun t9 ht _ => hfr t9 ht) (fun _ _ _ => rfl) hX hF hh5 ?_ ?_ ?_ (fun i hi => Or.inl ⟨hi, fun _ _ z => z, rfl, sameS.rfl⟩) (fun w hw => Or.inl ⟨hw, fun _ _ z => z, sameW.rfl⟩) (fun j hj => Or.inl ⟨hj, fun z => z, sameP.rfl⟩)
  · exact c6.mv hL rfl rfl (hfr 6 (live_c (by omega))) (fun z => ⟨hfr 7 (live_7 z), rfl⟩) (fun _ => rfl) (fun _ _ => rfl)
  · exact c7.mv hL rfl rfl (hfr 8 (live_c (by omega))) (fun z => ⟨hfr 9 (live_9 z), rfl⟩) (fun _ => rfl) (fun _ _ => rfl)
  · exact c8.mv hL rfl rfl (hfr 10 (live_c (by omega))) (fun z => ⟨hfr 11 (live_11 z), rfl⟩) (fun _ => rfl) (fun _ _ => rfl)
theorem CI.junk {K : zK} {L L2 : List Nat} {f f2 : Nat → va_E} {A : zA} {ad : Nat → Nat} (h : CI K L f A ad) (hL : ∀ q, q ∈ L → q ∈ L2) (hfr : ∀ q, q ∈ L → f2 q = f q) : CR K A ad L f A L2 f2 :=
  ⟨ad, h.sub hL (fun t ht => hfr _ (h.2.1 t ht)), rfl, hL, fun q hq hn => ⟨hfr q hq, hn⟩⟩
theorem CR.pre {K : zK} {L L1 : List Nat} {f f2 f1 : Nat → va_E} {A A' : zA} {ad : Nat → Nat} (h : CR K A ad L f2 A' L1 f1) (hfr : ∀ q, (∀ t, live A t → ad t ≠ q) → f2 q = f q) : CR K A ad L f A' L1 f1 := by
  obtain ⟨ad', h1, h2, h3, h4⟩ := h
  exact ⟨ad', h1, h2, h3, fun q hq hn => ⟨(h4 q hq hn).1.trans (hfr q hn), (h4 q hq hn).2⟩⟩
theorem any_s {K : zK} {L L2 : List Nat} {f f2 : Nat → va_E} {A : zA} {ad : Nat → Nat} (h : CI K L f A ad) (hL : ∀ q, q ∈ L → q ∈ L2) (hfr : ∀ q, q ∈ L → f2 q = f q) : ∀ i, i < ns A → zAny L2 f2 (ad (100 + 10 * i)) := fun i hi =>
  have h1 := h.2.1 _ (live_s (t := 100 + 10 * i) hi (by omega))
  ⟨hL _ h1, 5, _, RX4, TX4, 6, tyX4, (hfr _ h1).trans (h.2.2.2.2.2.2.2.2.2.1 i hi).1, by decide, zcl_X4, zca_X4⟩
theorem any_pl {K : zK} {L L2 : List Nat} {f f2 : Nat → va_E} {A : zA} {ad : Nat → Nat} (h : CI K L f A ad) (hL : ∀ q, q ∈ L → q ∈ L2) (hfr : ∀ q, q ∈ L → f2 q = f q) {i : Nat} (hi : i < ns A) : ∀ k, k < A.1 3 i → zAny L2 f2 (ad (200 + 10 * i + k)) := fun k hk =>
  have h1 := h.2.1 _ (live_p hi hk)
  ⟨hL _ h1, 4, _, RX3, TX3, 4, tyX3, (hfr _ h1).trans ((h.2.2.2.2.2.2.2.2.2.1 i hi).2.2.2.2 k hk), by decide, zcl_X3, zca_X3⟩
theorem any_w {K : zK} {L L2 : List Nat} {f f2 : Nat → va_E} {A : zA} {ad : Nat → Nat} (h : CI K L f A ad) (hL : ∀ q, q ∈ L → q ∈ L2) (hfr : ∀ q, q ∈ L → f2 q = f q) : ∀ w, w < nw A → zAny L2 f2 (ad (300 + 10 * w)) := fun w hw => by
  have h1 := h.2.1 _ (live_w (t := 300 + 10 * w) hw (by omega))
  obtain ⟨t, g, h2, -⟩ := h.2.2.2.2.2.2.2.2.2.2.1 w hw
  exact ⟨hL _ h1, 6, _, RX5, TX5, 6, tyX5, (hfr _ h1).trans h2, by decide, zcl_X5, zca_X5⟩
theorem any_q {K : zK} {L L2 : List Nat} {f f2 : Nat → va_E} {A : zA} {ad : Nat → Nat} (h : CI K L f A ad) (hL : ∀ q, q ∈ L → q ∈ L2) (hfr : ∀ q, q ∈ L → f2 q = f q) : ∀ j, j < np A → zAny L2 f2 (ad (500 + j)) := fun j hj => by
  have h1 := h.2.1 _ (live_q hj)
  have h2 := h.2.2.2.2.2.2.2.2.2.2.2 j hj
  exact ⟨hL _ h1, 3, _, RX2, TX2, 3, tyX2, (hfr _ h1).trans h2, by decide, zcl_X2, zca_X2⟩
theorem eq_sub {L : List Nat} {f f1 : Nat → va_E} {q : Nat} {e : va_E} (hq : q ∉ L) (h : f1 = va_up f q e) : ∀ x, x ∈ L → f1 x = f x := fun x hx => by rw [h]; exact va_up_ne _ _ (fun z => hq (z ▸ hx))
theorem ne_of {L : List Nat} {a b : Nat} (ha : a ∈ L) (hb : b ∉ L) : a ≠ b := fun z => hb (z ▸ ha)
theorem app_l {L : List Nat} {q : Nat} : ∀ x, x ∈ L → x ∈ L ++ [q] := fun _ h => List.mem_append_left _ h
theorem app_r {L : List Nat} {q : Nat} : q ∈ L ++ [q] := List.mem_append_right _ List.mem_cons_self
theorem no_app {L : List Nat} {q x : Nat} (h : x ∉ L ++ [q]) : x ∉ L ∧ x ≠ q := ⟨fun z => h (app_l _ z), fun z => h (by rw [z]; exact app_r)⟩
