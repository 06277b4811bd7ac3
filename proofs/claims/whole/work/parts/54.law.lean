/-! THE LAW: class and reference beside one another, step by step -/
section ZSC
variable {p : Program} {l : Launch} {e : Env} {R : Room} {s : State} {m : MethodId} {args : Array Value} {below : List Frame} {meth : Method} {c : Code} {H : Heap} {locs : List Loc} {cells slots : Nat} {Q : State → Prop}
variable {cc : ByteArray} {nL pc : Nat} {own : String} {K : zK} {L : List Nat} {f : Nat → va_E} {ls : Array Slot} {rest : List Value}
theorem z_sld {b L9 j : Nat} {xs : Nat → Int32} (hC : zC p s args m c cc nL own s.heap.size K) (hM : zM s.heap.size K L f s H locs) (hX : va_X b L9 xs s s.heap) (hbl : b < s.heap.size) (hj : j < L9) (hL : L9 ≤ 3072) (hdg : decode cc pc = .ok (.iaload, 1))
    (k : W p l e R s m args below meth c H locs cells slots Q (F0 m (pc + 1) ls (.int (xs j) :: rest))) : W p l e R s m args below meth c H locs cells slots Q (F0 m pc ls (.int (nI j) :: .ref b :: rest)) := by
  refine va_sld hC.1 hC.2.1 hX hbl (Nat.not_le.mpr hbl) hM.2.2 (vp_in_nI hj (by omega)) hdg ?_
  rw [nI_clamp (by omega)]
  exact k
end ZSC
theorem lg_self (x : Int64) : lg_cmp x x = nI 0 := (lg_cmp_eq x x).mpr rfl
/-- what stands between two calls: the class's picture (ad), the reference's (ma), the long's cell (oa), all apart -/
def JI (K : zK) (L : List Nat) (f : Nat → va_E) (A : zA) (ad ma : Nat → Nat) (oa : Nat) (t : Int32) : Prop :=
  CI K L f A ad ∧ MI K L f A ma t ∧ oa ∈ L ∧ (∃ g, f oa = eJ K 1 g) ∧ (∀ u, live A u → ad u ≠ oa ∧ ∀ k, mk k → ad u ≠ ma k) ∧ ∀ k, mk k → ma k ≠ oa
/-- behind the class's call, ahead of the reference's -/
def JM (K : zK) (L : List Nat) (f : Nat → va_E) (A A' : zA) (ad ma : Nat → Nat) (oa k : Nat) (v : Int64) (t : Int32) : Prop :=
  CI K L f A' ad ∧ MI K L f A ma t ∧ oa ∈ L ∧ (∃ g, f oa = eJ K 1 g ∧ (k = 0 → g 0 = v)) ∧ (∀ u, live A' u → ad u ≠ oa ∧ ∀ k, mk k → ad u ≠ ma k) ∧ ∀ k, mk k → ma k ≠ oa
theorem MI.sub {K : zK} {L L1 : List Nat} {f f1 : Nat → va_E} {A : zA} {ma : Nat → Nat} {t : Int32} (h : MI K L f A ma t) (hL : ∀ q, q ∈ L → q ∈ L1) (hf : ∀ k, mk k → f1 (ma k) = f (ma k)) : MI K L1 f1 A ma t := by
  obtain ⟨h1, h2, x, op, h3, h4⟩ := h
  exact ⟨fun k hk => hL _ (h1 k hk), h2, x, op, h3, fun k hk => (hf k hk).trans (h4 k hk)⟩
theorem JI.w {K : zK} {L L1 : List Nat} {f f1 : Nat → va_E} {A A' : zA} {ad ma : Nat → Nat} {oa k : Nat} {v : Int64} {t : Int32} (h : JI K L f A ad ma oa t) (hw : WR K A ad L f A' oa k v L1 f1) : ∃ ad', ad' 1 = ad 1 ∧ JM K L1 f1 A A' ad' ma oa k v t := by
  obtain ⟨hI, hMI, ho, hg, hno, hmo⟩ := h
  obtain ⟨f0, g1, hCR, hf, hv⟩ := hw
  obtain ⟨ad', c1, c2, c3, c4⟩ := hCR
  obtain ⟨o1, o2⟩ := c4 oa ho (fun u hu => (hno u hu).1)
  have hf1 : ∀ q, q ≠ oa → f1 q = f0 q := fun q hq => by rw [hf]; exact va_up_ne _ _ hq
  refine ⟨ad', c2, c1.sub (fun _ h => h) (fun u hu => hf1 _ (o2 u hu)), hMI.sub c3 (fun k hk => ?_), c3 _ ho, ⟨g1, by rw [hf]; exact va_up_self _ _ _, hv⟩, fun u hu => ⟨o2 u hu, fun k hk => ?_⟩, hmo⟩
  · rw [hf1 _ (hmo k hk)]
    exact (c4 (ma k) (hMI.1 k hk) (fun u hu => (hno u hu).2 k hk)).1
  · exact (c4 (ma k) (hMI.1 k hk) (fun u hu => (hno u hu).2 k hk)).2 u hu
theorem JM.m {K : zK} {L L1 : List Nat} {f f1 : Nat → va_E} {A A' : zA} {ad ma : Nat → Nat} {oa k : Nat} {v : Int64} {t t' : Int32} (h : JM K L f A A' ad ma oa k v t) (hr : MR K A ma L f A' t' L1 f1) : L1 = L ∧ JI K L f1 A' ad ma oa t' ∧ ∃ g, f1 oa = eJ K 1 g ∧ (k = 0 → g 0 = v) := by
  obtain ⟨hI, hMI, ho, ⟨g, hg, hv⟩, hno, hmo⟩ := h
  obtain ⟨e1, h1, h2⟩ := hr
  have ho1 : f1 oa = f oa := h2 oa (fun k hk => Ne.symm (hmo k hk))
  refine ⟨e1, ⟨hI.sub (fun _ h => h) (fun u hu => h2 _ (fun k hk => (hno u hu).2 k hk)), h1, ho, ⟨g, ho1.trans hg⟩, hno, hmo⟩, g, ho1.trans hg, hv⟩
theorem k_le_star (A : zA) (x : Int32) : k_star A x ≤ 3 := by unfold k_star; (repeat' split) <;> omega
theorem k_le_planet (A : zA) (x y1 y2 y3 y4 : Int32) : k_planet A x y1 y2 y3 y4 ≤ 3 := by unfold k_planet; (repeat' split) <;> omega
theorem k_le_spots (A : zA) (x y1 y2 : Int32) : k_spots A x y1 y2 ≤ 3 := by unfold k_spots; (repeat' split) <;> omega
theorem k_le_blend (A : zA) (x y1 : Int32) : k_blend A x y1 ≤ 3 := by unfold k_blend; (repeat' split) <;> omega
theorem k_le_light (A : zA) (x y1 : Int32) : k_light A x y1 ≤ 3 := by unfold k_light; (repeat' split) <;> omega
theorem k_le_cloud (x y1 : Int32) : k_cloud x y1 ≤ 3 := by unfold k_cloud; (repeat' split) <;> omega
theorem k_le_observe (A : zA) (x y1 y2 : Int32) : k_observe A x y1 y2 ≤ 3 := by unfold k_observe; (repeat' split) <;> omega
theorem k_le_kept (A : zA) (x y1 : Int32) : k_kept A x y1 ≤ 3 := by unfold k_kept; (repeat' split) <;> omega
theorem k_le_fold (A : zA) (x y1 : Int32) : k_fold A x y1 ≤ 3 := kf_le A x y1
theorem k_le_period (A : zA) (x y1 : Int32) : k_period A x y1 ≤ 3 := by unfold k_period; (repeat' split) <;> omega
theorem k_le_whyNot (A : zA) (x y1 : Int32) : k_whyNot A x y1 ≤ 3 := by unfold k_whyNot; (repeat' split) <;> omega
theorem k_le_world (A : zA) (x y1 : Int32) : k_world A x y1 ≤ 3 := by unfold k_world; (repeat' split) <;> omega
theorem k_le_about (A : zA) (x y1 : Int32) : k_about A x y1 ≤ 3 := by unfold k_about; (repeat' split) <;> omega
theorem k_le_anew (A : zA) (x : Int32) : k_anew A x ≤ 3 := by unfold k_anew; (repeat' split) <;> omega
theorem k_le_paper (A : zA) (x y1 : Int32) : k_paper A x y1 ≤ 3 := by unfold k_paper; (repeat' split) <;> omega
theorem k_le_withdraw (A : zA) (x : Int32) : k_withdraw A x ≤ 3 := by unfold k_withdraw; (repeat' split) <;> omega
theorem k_le_fallen (A : zA) (x : Int32) : k_fallen A x ≤ 3 := by unfold k_fallen; (repeat' split) <;> omega
