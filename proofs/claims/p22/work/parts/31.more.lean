/-! CONTRACTS under larger rooms and weaker ends; a list's add in one form; the bits of a double in one form -/
theorem zMet.mono {l : Launch} {y : MethodName} {b : ByteArray} {n : Nat} {r : Option FieldType} {rm rm' : Room} {base : Nat} {K : zK} {L : List Nat} {f : Nat → va_E} {av : List Value} {Qc Qc' : Array Value → State → Outcome → State → Prop} (h : zMet l y b n r rm base K L f av Qc)
    (h1 : rm.frames ≤ rm'.frames) (h2 : rm.locals ≤ rm'.locals) (h3 : rm.cells ≤ rm'.cells) (h4 : rm.slots ≤ rm'.slots) (hq : ∀ a s o t, Qc a s o t → Qc' a s o t) : zMet l y b n r rm' base K L f av Qc' :=
  (MetFree.respec (S' := headSpec (wz y b n r) rm') h (fun _ _ h => h) h1 h2 h3 h4).imp (fun a s o t ⟨h, L, hf, hg⟩ => ⟨hq _ _ _ _ h, L, ⟨hf.1, hf.2.1, hf.2.2.mono h3 h4⟩, hg⟩)
def BOK (v : UInt64) : Prop := v = 0 ∨ ∃ k m, 1 ≤ k ∧ k ≤ 2046 ∧ m < 2 ^ 52 ∧ (v = nx k m ∨ v = FP.dneg (nx k m))
theorem c_bitsOf {l : Launch} {base : Nat} {K : zK} {L : List Nat} {f : Nat → va_E} {v : UInt64} (h : BOK v) : zMet l yX6_bitsOf cX6_bitsOf 10 (some .long) (zr 0 0 0 0) base K L f [.double v] (zFl base K v.toInt64 L f) := by
  rcases h with rfl | ⟨k, m, h1, h2, h3, rfl | rfl⟩
  · exact c_bits_0
  · exact c_bits_p h1 h2 h3
  · exact c_bits_n h1 h2 h3
/-- a list grows by one -/
def addP (K : zK) (a ee n q : Nat) (L : List Nat) (f : Nat → va_E) (L1 : List Nat) (f1 : Nat → va_E) : Prop :=
  ∃ e1, (∀ es es' : Nat → Nat, LI K L f a ee n es → (∀ k, k < n → es' k = es k) → es' n = q → LI K L1 f1 a e1 (n + 1) es') ∧ ((e1 = ee ∧ L1 = L) ∨ (e1 ∉ L ∧ L1 = L ++ [e1])) ∧ e1 ∈ L1 ∧ ∀ x, x ≠ a → x ≠ e1 → f1 x = f x
theorem cpy0 {α : Type} (g h : Nat → α) (n k : Nat) : va_cpy g h 0 0 n k = if k < n then g k else h k := by
  unfold va_cpy
  by_cases e : k < n
  · rw [if_pos e, if_pos ⟨Nat.zero_le _, by omega⟩]; congr 1; omega
  · rw [if_neg e, if_neg (fun z => e (by omega))]
theorem add_LI {K : zK} {L1 : List Nat} {f f1 : Nat → va_E} {a e1 n cap : Nat} {mc : Int32} {arr : Nat → Option Nat} (ha : a ∈ L1) (he : e1 ∈ L1) (hae : a ≠ e1) (hf1 : f1 = va_up (va_up f e1 (eO K cap arr)) a (eS 0 [.int mc, .ref e1, .int (nI (n + 1))])) (h1 : 10 ≤ cap) (h2 : cap ≤ 60) (h3 : n + 1 ≤ cap) {es' : Nat → Nat} (h4 : ∀ k, k < n + 1 → arr k = some (es' k)) (h5 : ∀ k, n + 1 ≤ k → arr k = none) : LI K L1 f1 a e1 (n + 1) es' :=
  ⟨ha, ⟨mc, by rw [hf1]; exact va_up_self _ _ _⟩, Or.inr ⟨he, cap, arr, by rw [hf1, va_up_ne _ _ (Ne.symm hae)]; exact va_up_self _ _ _, h1, h2, h3, h4, h5, Nat.succ_pos n⟩⟩
theorem add_fr {K : zK} {f f1 : Nat → va_E} {a e1 : Nat} {v w : va_E} (hf1 : f1 = va_up (va_up f e1 v) a w) : ∀ x, x ≠ a → x ≠ e1 → f1 x = f x := fun x h1 h2 => by rw [hf1, va_up_ne _ _ h1, va_up_ne _ _ h2]
theorem c_addI {l : Launch} {base : Nat} {K : zK} {L : List Nat} {f : Nat → va_E} {a ee n q : Nat} {es : Nat → Nat} (hLI : LI K L f a ee n es) (hz : K.2.2.1 ∉ L) (hae : a ≠ ee) (hn : n ≤ 30) (hq : zAny L f q) (hel : ∀ i, i < n → zAny L f (es i)) :
    zMet l yJx4a65c_add_9ea2d cJx4a65c_add_9ea2d 2 (some .boolean) (zr 7 1 60 175) base K L f [.ref a, .ref q] (zQi base K (fun r L1 f1 => r = nI 1 ∧ addP K a ee n q L f L1 f1)) := by
  obtain ⟨ha, ⟨mc, hfa⟩, hor⟩ := hLI
  rcases hor with ⟨hn0, he0⟩ | ⟨hle, cap, arr, hfe, hc1, hc2, hnc, harr, hno, -⟩
  · subst hn0 he0
    refine (c_add_0 ha hfa hz hq).mono (by decide) (by decide) (by decide) (by decide) (fun av s o t hQ => ?_)
    obtain ⟨⟨r, u, ho, ⟨hr, x, hx, hL, hf⟩, hB⟩, hF⟩ := hQ
    refine ⟨⟨r, u, ho, ⟨hr, x, ?_, Or.inr ⟨hx, hL⟩, by rw [hL]; exact List.mem_append_right _ List.mem_cons_self, add_fr (K := K) hf⟩, hB⟩, hF⟩
    intro es1 es' hli hes hq'
    have hax : a ≠ x := fun h => hx (h ▸ ha)
    refine add_LI (by rw [hL]; exact List.mem_append_left _ ha) (by rw [hL]; exact List.mem_append_right _ List.mem_cons_self) hax hf (by decide) (by decide) (by decide) ?_ ?_
    · intro k hk
      have : k = 0 := by omega
      subst this
      rw [va_up_self, hq']
    · intro k hk
      rw [va_up_ne _ _ (by omega)]
  · by_cases hfull : n < cap
    · refine (c_add_r ha hfa hle hfe hae hq hfull hc2).mono (by decide) (by decide) (by decide) (by decide) (fun av s o t hQ => ?_)
      obtain ⟨⟨r, u, ho, ⟨hr, hL, hf⟩, hB⟩, hF⟩ := hQ
      refine ⟨⟨r, u, ho, ⟨hr, ee, ?_, Or.inl ⟨rfl, hL⟩, by rw [hL]; exact hle, add_fr (K := K) hf⟩, hB⟩, hF⟩
      intro es1 es' hli hes hq'
      obtain ⟨-, -, hor1⟩ := hli
      have harr1 : ∀ k, k < n → arr k = some (es1 k) := by
        rcases hor1 with ⟨h0, -⟩ | ⟨-, cap1, arr1, hfe1, -, -, -, harr1, -⟩
        · intro k hk; omega
        · rw [hfe] at hfe1
          have e9 : arr = arr1 := by
            have := congrArg (fun z : va_E => match z with | .inl (_, _, .inr (.inr (.inr (.inr g)))) => g | _ => fun _ => none) hfe1
            exact this
          intro k hk
          rw [e9]; exact harr1 k hk
      refine add_LI (by rw [hL]; exact ha) (by rw [hL]; exact hle) hae hf hc1 hc2 (by omega) ?_ ?_
      · intro k hk
        by_cases e : k = n
        · subst e; rw [va_up_self, hq']
        · rw [va_up_ne _ _ e, harr1 k (by omega), hes k (by omega)]
      · intro k hk
        rw [va_up_ne _ _ (by omega)]
        exact hno k (by omega)
    · have hnc' : n = cap := by omega
      refine (c_add_1 ha hfa hle hfe hae hq hnc' hc1 (by omega) ?_).mono (by decide) (by decide) (by decide) (by decide) (fun av s o t hQ => ?_)
      · intro i hi y hy
        have h1 := harr i (by omega)
        rw [h1] at hy
        cases hy
        exact hel i (by omega)
      · obtain ⟨⟨r, u, ho, ⟨hr, x, hx, hL, hf⟩, hB⟩, hF⟩ := hQ
        refine ⟨⟨r, u, ho, ⟨hr, x, ?_, Or.inr ⟨hx, hL⟩, by rw [hL]; exact List.mem_append_right _ List.mem_cons_self, add_fr (K := K) hf⟩, hB⟩, hF⟩
        intro es1 es' hli hes hq'
        have hax : a ≠ x := fun h => hx (h ▸ ha)
        obtain ⟨-, -, hor1⟩ := hli
        have harr1 : ∀ k, k < n → arr k = some (es1 k) := by
          rcases hor1 with ⟨h0, -⟩ | ⟨-, cap1, arr1, hfe1, -, -, -, harr1, -⟩
          · intro k hk; omega
          · rw [hfe] at hfe1
            have e9 : arr = arr1 := by
              have := congrArg (fun z : va_E => match z with | .inl (_, _, .inr (.inr (.inr (.inr g)))) => g | _ => fun _ => none) hfe1
              exact this
            intro k hk
            rw [e9]; exact harr1 k hk
        refine add_LI (by rw [hL]; exact List.mem_append_left _ ha) (by rw [hL]; exact List.mem_append_right _ List.mem_cons_self) hax hf (by omega) (by omega) (by omega) ?_ ?_
        · intro k hk
          by_cases e : k = n
          · subst e; rw [va_up_self, hq']
          · rw [va_up_ne _ _ e, cpy0, if_pos (by omega), harr1 k (by omega), hes k (by omega)]
        · intro k hk
          rw [va_up_ne _ _ (by omega), cpy0, if_neg (by omega)]
