/-! THE UPDATES that make nothing new: a star's numbers, hidden hours, kept light -/
theorem fellN_same {A A' : zA} (h3 : A'.1 23 = A.1 23) (h5 : A'.1 25 = A.1 25) (h6 : A'.1 26 = A.1 26) : ∀ n j, fellN A' n j = fellN A n j
  | 0, j => rfl
  | n + 1, j => by
    show (decide (A'.1 23 (A'.1 25 j) = 1) || (decide (A'.1 26 j ≠ 0) && fellN A' n (A'.1 26 j - 1))) = (decide (A.1 23 (A.1 25 j) = 1) || (decide (A.1 26 j ≠ 0) && fellN A n (A.1 26 j - 1)))
    rw [h3, h5, h6, fellN_same h3 h5 h6 n]
theorem fell_same {A A' : zA} (h3 : A'.1 23 = A.1 23) (h5 : A'.1 25 = A.1 25) (h6 : A'.1 26 = A.1 26) (j : Nat) : fell A' j = fell A j := fellN_same h3 h5 h6 _ _
theorem hN_same {A A' : zA} (h : A'.1 11 = A.1 11) : ∀ n, hN A' n = hN A n
  | 0 => rfl
  | n + 1 => by
    show (if A'.1 11 n = 1 then hN A' n + 1 else hN A' n) = (if A.1 11 n = 1 then hN A n + 1 else hN A n)
    rw [h, hN_same h n]
def stA (A : zA) (i sp sd bl : Nat) : zA := set2 (set2 (set2 A 8 i sp) 9 i sd) 10 i bl
theorem stA_8 (A : zA) (i sp sd bl : Nat) : (stA A i sp sd bl).1 8 = va_up (A.1 8) i sp := rfl
theorem stA_9 (A : zA) (i sp sd bl : Nat) : (stA A i sp sd bl).1 9 = va_up (A.1 9) i sd := rfl
theorem stA_10 (A : zA) (i sp sd bl : Nat) : (stA A i sp sd bl).1 10 = va_up (A.1 10) i bl := rfl
theorem sT_no {A : zA} (hV : VA A) {i j t : Nat} (hi : i < ns A) (hj : j < ns A) (ht : sT A j t) (hij : j ≠ i) : t ≠ 100 + 10 * i ∧ t ≠ 103 + 10 * i ∧ t ≠ 104 + 10 * i ∧ t ≠ 101 + 10 * i ∧ t ≠ 102 + 10 * i := by
  have h1 := hV.1
  have h2 := (hV.2.2.2.1 j hj).2.2.1
  rcases ht with y | y | y | y | ⟨y, -⟩ | ⟨k, hk9, y⟩ <;> omega
theorem CI.star {K : zK} {L : List Nat} {f f1 : Nat → va_E} {A : zA} {ad : Nat → Nat} {i sp sd bl : Nat} (h : CI K L f A ad) (hi : i < ns A) (h1 : sp ≤ 60) (h2 : sd ≤ 100) (h3 : bl ≤ 1000000)
    (hf : f1 = va_up f (ad (100 + 10 * i)) (eS 5 [.int (nI (A.1 2 i)), .ref (ad (101 + 10 * i)), .int (nI sp), .int (nI sd), .int (nI bl), .ref (ad (103 + 10 * i))])) : CI K L f1 (stA A i sp sd bl) ad := by
  have h' := h
  obtain ⟨v, c1, c2, c3, c4, c5, c6, c7, c8, c9, c10, c11⟩ := h'
  have lv0 : live A (100 + 10 * i) := live_s hi (by omega)
  have hk : ∀ t, live A t → ¬ (t = 100 + 10 * i) → f1 (ad t) = f (ad t) := fun t ht hd => by rw [hf]; exact va_up_ne _ _ (ad_ne c2 ht lv0 hd)
  have v' := v
  obtain ⟨v1, v2, v3, v4, v5, v6, v7, v8, v9, v10, v11, v12, v13⟩ := v'
  have hV : VA (stA A i sp sd bl) := by
    refine ⟨v1, v2, v3, fun j hj => ?_, fun j hj => ?_, v6, v7, v8, v9, v10, v11, v12, v13⟩
    · obtain ⟨w1, w2, w3, w4, w5, w6, w7, w8⟩ := v4 j hj
      refine ⟨w1, w2, w3, ?_, ?_, ?_, w7, w8⟩
      · rw [stA_8]; unfold va_up; split <;> omega
      · rw [stA_9]; unfold va_up; split <;> omega
      · rw [stA_10]; unfold va_up; split <;> omega
    · obtain ⟨w1, w2, w3, w4, w5⟩ := v5 j hj
      have hji : j ≠ i := by have : ns (stA A i sp sd bl) = ns A := rfl; omega
      exact ⟨w1, by rw [stA_8, va_up_ne _ _ hji, w2], by rw [stA_9, va_up_ne _ _ hji, w3], by rw [stA_10, va_up_ne _ _ hji, w4], w5⟩
  refine CI.step0 (fun t => t = 100 + 10 * i) h hV rfl rfl hk (fun t _ _ => by omega) (c3.mv (hk 1 (live_c (by omega)) (by omega)) (hN_same (A := A) (A' := stA A i sp sd bl) rfl 1000)) ?_ ((hk 5 (live_c (by omega)) (by omega)).trans c5) (fun j hj => ?_) (fun w hw => Or.inl ⟨fun t ht => ?_, sameW.rfl⟩) (fun j hj => Or.inl ⟨by omega, rfl, rfl, fell_same (A := A) (A' := stA A i sp sd bl) rfl rfl rfl j⟩)
  · obtain ⟨fl, mn, sg, cg, d1, d2, d3, d4⟩ := c4
    exact ⟨fl, mn, sg, cg, (hk 2 (live_c (by omega)) (by omega)).trans d1, (hk 3 (live_c (by omega)) (by omega)).trans d2, (hk 4 (live_c (by omega)) (by omega)).trans d3, d4⟩
  · by_cases e : j = i
    · subst e
      refine Or.inr ?_
      obtain ⟨s1, s2, s3, s4, s5⟩ := c9 j hi
      have q1 := hk (101 + 10 * j) (live_s hi (by omega)) (by omega)
      refine ⟨?_, s2.mv (fun _ h => h) rfl rfl q1 (fun z => ⟨hk (102 + 10 * j) (live_sT hi (Or.inr (Or.inr (Or.inr (Or.inr (Or.inl ⟨rfl, z⟩)))))) (by omega), rfl⟩) (fun _ => rfl) (fun _ _ => rfl), (hk (103 + 10 * j) (live_s hi (by omega)) (by omega)).trans s3, (hk (104 + 10 * j) (live_s hi (by omega)) (by omega)).trans s4, fun k hk9 => (hk (200 + 10 * j + k) (live_p hi hk9) (by omega)).trans (s5 k hk9)⟩
      rw [stA_8, stA_9, stA_10, va_up_self, va_up_self, va_up_self, hf, va_up_self]
      rfl
    · refine Or.inl ⟨fun t ht => (sT_no v hi hj ht e).1, rfl, rfl, ?_, ?_, ?_, rfl, rfl, fun _ _ => ⟨rfl, rfl, rfl, rfl⟩⟩
      · rw [stA_8, va_up_ne _ _ e]
      · rw [stA_9, va_up_ne _ _ e]
      · rw [stA_10, va_up_ne _ _ e]
  · have := v1; rcases ht with y | y | y <;> omega
/-- an hour is hidden -/
def hdA (A : zA) (h : Nat) : zA := set2 A 11 h 1
theorem hdA_11 (A : zA) (h : Nat) : (hdA A h).1 11 = va_up (A.1 11) h 1 := rfl
theorem hN_up {A : zA} {h : Nat} (h0 : A.1 11 h ≠ 1) : ∀ n, hN (hdA A h) n = if h < n then hN A n + 1 else hN A n
  | 0 => rfl
  | n + 1 => by
    have ih := hN_up h0 n
    show (if (hdA A h).1 11 n = 1 then hN (hdA A h) n + 1 else hN (hdA A h) n) = if h < n + 1 then (if A.1 11 n = 1 then hN A n + 1 else hN A n) + 1 else (if A.1 11 n = 1 then hN A n + 1 else hN A n)
    rw [ih, hdA_11]
    by_cases e : n = h
    · subst e
      rw [va_up_self, if_pos rfl, if_neg (Nat.lt_irrefl n), if_pos (Nat.lt_succ_self n), if_neg h0]
    · rw [va_up_ne _ _ e]
      by_cases e2 : h < n
      · rw [if_pos e2, if_pos (show h < n + 1 by omega)]
        split <;> rfl
      · rw [if_neg e2, if_neg (show ¬ h < n + 1 by omega)]
theorem CI.hid {K : zK} {L : List Nat} {f f1 : Nat → va_E} {A : zA} {ad : Nat → Nat} {h : Nat} (hI : CI K L f A ad) (hh : h < 1000) (h0 : A.1 11 h ≠ 1)
    (hf : f1 = va_up (va_up f (ad 5) (eZ K 1000 (va_up (fun h => nI (A.1 11 h)) h (nI 1)))) (ad 1) (eS 7 [.ref (ad 6), .ref (ad 8), .ref (ad 10), .ref (ad 5), .int (nI (hN A 1000 + 1)), .ref (ad 2)])) : CI K L f1 (hdA A h) ad := by
  have h' := hI
  obtain ⟨v, c1, c2, c3, c4, c5, c6, c7, c8, c9, c10, c11⟩ := h'
  have lv1 : live A 1 := live_c (by omega)
  have lv5 : live A 5 := live_c (by omega)
  have hk : ∀ t, live A t → ¬ (t = 1 ∨ t = 5) → f1 (ad t) = f (ad t) := fun t ht hd => by rw [hf, va_up_ne _ _ (ad_ne c2 ht lv1 (by omega)), va_up_ne _ _ (ad_ne c2 ht lv5 (by omega))]
  have v' := v
  obtain ⟨v1, v2, v3, v4, v5, v6, v7, v8, v9, v10, v11, v12, v13⟩ := v'
  have hV : VA (hdA A h) := by
    refine ⟨v1, v2, v3, v4, v5, v6, v7, v8, fun j => ?_, v10, v11, v12, v13⟩
    rw [hdA_11]; unfold va_up; split
    · omega
    · exact v9 j
  refine CI.step0 (fun t => t = 1 ∨ t = 5) hI hV rfl rfl hk (fun t _ _ => by omega) ?_ ?_ ?_ (fun j hj => Or.inl ⟨fun t ht => ?_, sameS.rfl⟩) (fun w hw => Or.inl ⟨fun t ht => ?_, sameW.rfl⟩) (fun j hj => Or.inl ⟨by omega, rfl, rfl, fell_same (A := A) (A' := hdA A h) rfl rfl rfl j⟩)
  · unfold CX
    rw [hN_up h0, if_pos hh, hf, va_up_self]
  · obtain ⟨fl, mn, sg, cg, d1, d2, d3, d4⟩ := c4
    exact ⟨fl, mn, sg, cg, (hk 2 (live_c (by omega)) (by omega)).trans d1, (hk 3 (live_c (by omega)) (by omega)).trans d2, (hk 4 (live_c (by omega)) (by omega)).trans d3, d4⟩
  · rw [hf, va_up_ne _ _ (ad_ne c2 lv5 lv1 (by omega)), va_up_self, hdA_11]
    congr 5
    funext j
    unfold va_up
    split <;> rfl
  · rcases ht with y | y | y | y | ⟨y, -⟩ | ⟨k, hk9, y⟩ <;> omega
  · rcases ht with y | y | y <;> omega
/-- a light is kept -/
def kpA (A : zA) (i h : Nat) (x : UInt64) : zA := ((set2 (set2 A 12 (1000 * i + h) 1) 14 i (A.1 14 i + 1)).1, va_up A.2 (1000 * i + h) x)
theorem kpA_12 (A : zA) (i h : Nat) (x : UInt64) : (kpA A i h x).1 12 = va_up (A.1 12) (1000 * i + h) 1 := rfl
theorem kpA_14 (A : zA) (i h : Nat) (x : UInt64) : (kpA A i h x).1 14 = va_up (A.1 14) i (A.1 14 i + 1) := rfl
theorem kpA_2 (A : zA) (i h : Nat) (x : UInt64) : (kpA A i h x).2 = va_up A.2 (1000 * i + h) x := rfl
theorem gk_kp {A : zA} {i h : Nat} {x : UInt64} (hh : h < 1000) : gk (kpA A i h x) i = va_up (gk A i) h x := by
  funext j
  unfold gk
  rw [kpA_12, kpA_2]
  by_cases e : j = h
  · subst e
    rw [va_up_self, va_up_self, va_up_self, if_pos ⟨hh, rfl⟩]
  · rw [va_up_ne _ _ (show 1000 * i + j ≠ 1000 * i + h by omega), va_up_ne _ _ (show 1000 * i + j ≠ 1000 * i + h by omega), va_up_ne _ _ e]
theorem gk_kn {A : zA} {i i' h : Nat} {x : UInt64} (hh : h < 1000) (hi : i' ≠ i) : gk (kpA A i h x) i' = gk A i' := by
  funext j
  unfold gk
  rw [kpA_12, kpA_2]
  by_cases e : j < 1000
  · rw [va_up_ne _ _ (show 1000 * i' + j ≠ 1000 * i + h by omega), va_up_ne _ _ (show 1000 * i' + j ≠ 1000 * i + h by omega)]
  · rw [if_neg (fun z => e z.1), if_neg (fun z => e z.1)]
theorem fN_kp {g : Nat → UInt64} {h : Nat} {x : UInt64} (h0 : g h = 0) (hx : x ≠ 0) : ∀ n, fN (va_up g h x) n = if h < n then fN g n + 1 else fN g n
  | 0 => rfl
  | n + 1 => by
    have ih := fN_kp h0 hx n
    show (if va_up g h x n ≠ 0 then fN (va_up g h x) n + 1 else fN (va_up g h x) n) = if h < n + 1 then (if g n ≠ 0 then fN g n + 1 else fN g n) + 1 else (if g n ≠ 0 then fN g n + 1 else fN g n)
    rw [ih]
    by_cases e : n = h
    · subst e
      rw [va_up_self, if_pos hx, if_neg (Nat.lt_irrefl n), if_pos (Nat.lt_succ_self n), if_neg (fun z => z h0)]
    · rw [va_up_ne _ _ e]
      by_cases e2 : h < n
      · rw [if_pos e2, if_pos (show h < n + 1 by omega)]
        split <;> rfl
      · rw [if_neg e2, if_neg (show ¬ h < n + 1 by omega)]
theorem Lb_ne {x : UInt64} (h : Lb x) : x ≠ 0 := fun z => by
  have := h.1
  rw [z] at this
  exact absurd this (by decide)
theorem CI.keep {K : zK} {L : List Nat} {f f1 : Nat → va_E} {A : zA} {ad : Nat → Nat} {i h : Nat} {x : UInt64} (hI : CI K L f A ad) (hi : i < ns A) (hh : h < 1000) (h0 : A.1 12 (1000 * i + h) ≠ 1) (hx : Lb x)
    (hf : f1 = va_up (va_up f (ad (104 + 10 * i)) (eD K 1000 (va_up (gk A i) h x))) (ad (103 + 10 * i)) (eS 2 [.ref (ad (104 + 10 * i)), .int (nI (A.1 14 i + 1))])) : CI K L f1 (kpA A i h x) ad := by
  have h' := hI
  obtain ⟨v, c1, c2, c3, c4, c5, c6, c7, c8, c9, c10, c11⟩ := h'
  have lv3 : live A (103 + 10 * i) := live_s hi (by omega)
  have lv4 : live A (104 + 10 * i) := live_s hi (by omega)
  have hk : ∀ t, live A t → ¬ (t = 103 + 10 * i ∨ t = 104 + 10 * i) → f1 (ad t) = f (ad t) := fun t ht hd => by rw [hf, va_up_ne _ _ (ad_ne c2 ht lv3 (by omega)), va_up_ne _ _ (ad_ne c2 ht lv4 (by omega))]
  have v' := v
  obtain ⟨v1, v2, v3, v4, v5, v6, v7, v8, v9, v10, v11, v12, v13⟩ := v'
  have g0 : gk A i h = 0 := by unfold gk; rw [if_neg (fun z => h0 z.2)]
  have hV : VA (kpA A i h x) := by
    refine ⟨v1, v2, v3, fun j hj => ?_, fun j hj => ?_, fun j hj => ?_, fun j => ?_, fun j hj => ?_, v9, v10, v11, v12, v13⟩
    · obtain ⟨w1, w2, w3, w4, w5, w6, w7, w8⟩ := v4 j hj
      refine ⟨w1, w2, w3, w4, w5, w6, ?_, w8⟩
      rw [kpA_14]
      by_cases e : j = i
      · subst e
        rw [va_up_self, gk_kp hh, fN_kp g0 (Lb_ne hx), if_pos hh, w7]
      · rw [va_up_ne _ _ e, gk_kn hh e, w7]
    · obtain ⟨w1, w2, w3, w4, w5⟩ := v5 j hj
      have hji : j ≠ i := by have : ns (kpA A i h x) = ns A := rfl; omega
      exact ⟨w1, w2, w3, w4, by rw [kpA_14, va_up_ne _ _ hji, w5]⟩
    · have e9 : ns (kpA A i h x) = ns A := rfl
      rw [e9] at hj
      have : 1000 * i + 1000 ≤ 1000 * ns A := by omega
      rw [kpA_12, va_up_ne _ _ (by omega)]
      exact v6 j hj
    · rw [kpA_12]; unfold va_up; split
      · omega
      · exact v7 j
    · rw [kpA_12] at hj
      rw [kpA_2]
      unfold va_up at hj ⊢
      split
      · exact hx
      · rename_i hn
        rw [if_neg hn] at hj
        exact v8 j hj
  refine CI.step0 (fun t => t = 103 + 10 * i ∨ t = 104 + 10 * i) hI hV rfl rfl hk (fun t _ _ => by omega) (c3.mv (hk 1 (live_c (by omega)) (by omega)) (hN_same (A := A) (A' := kpA A i h x) rfl 1000)) ?_ ((hk 5 (live_c (by omega)) (by omega)).trans c5) (fun j hj => ?_) (fun w hw => Or.inl ⟨fun t ht => ?_, sameW.rfl⟩) (fun j hj => Or.inl ⟨by omega, rfl, rfl, fell_same (A := A) (A' := kpA A i h x) rfl rfl rfl j⟩)
  · obtain ⟨fl, mn, sg, cg, d1, d2, d3, d4⟩ := c4
    exact ⟨fl, mn, sg, cg, (hk 2 (live_c (by omega)) (by omega)).trans d1, (hk 3 (live_c (by omega)) (by omega)).trans d2, (hk 4 (live_c (by omega)) (by omega)).trans d3, d4⟩
  · by_cases e : j = i
    · subst e
      refine Or.inr ?_
      obtain ⟨s1, s2, s3, s4, s5⟩ := c9 j hi
      have q1 := hk (101 + 10 * j) (live_s hi (by omega)) (by omega)
      refine ⟨(hk (100 + 10 * j) (live_s hi (by omega)) (by omega)).trans s1, s2.mv (fun _ h => h) rfl rfl q1 (fun z => ⟨hk (102 + 10 * j) (live_sT hi (Or.inr (Or.inr (Or.inr (Or.inr (Or.inl ⟨rfl, z⟩)))))) (by omega), rfl⟩) (fun _ => rfl) (fun _ _ => rfl), ?_, ?_, fun k hk9 => (hk (200 + 10 * j + k) (live_p hi hk9) (by have := (v4 j hi).2.2.1; omega)).trans (s5 k hk9)⟩
      · rw [hf, va_up_self, kpA_14, va_up_self]
      · rw [hf, va_up_ne _ _ (ad_ne c2 lv4 lv3 (by omega)), va_up_self, gk_kp hh]
    · refine Or.inl ⟨fun t ht => ?_, rfl, rfl, rfl, rfl, rfl, ?_, gk_kn hh e, fun _ _ => ⟨rfl, rfl, rfl, rfl⟩⟩
      · have := sT_no v hi hj ht e; omega
      · rw [kpA_14, va_up_ne _ _ e]
  · have := v1; rcases ht with y | y | y <;> omega
