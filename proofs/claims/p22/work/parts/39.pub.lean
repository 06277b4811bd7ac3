/-! CONTRACTS of Transitry's own methods, fourth part: withdraw (rows laid by wip/whole/pub4.py) -/
theorem fellN_fuel {A : zA} {N : Nat} (hc : ∀ j, j < N → A.1 26 j ≤ j) : ∀ n j, j < N → j < n → fellN A n j = fellN A (j + 1) j
  | 0, j, _, h => absurd h (Nat.not_lt_zero j)
  | n + 1, j, hj, h => by
    show (decide (A.1 23 (A.1 25 j) = 1) || (decide (A.1 26 j ≠ 0) && fellN A n (A.1 26 j - 1))) = (decide (A.1 23 (A.1 25 j) = 1) || (decide (A.1 26 j ≠ 0) && fellN A j (A.1 26 j - 1)))
    by_cases e : A.1 26 j = 0
    · rw [show decide (A.1 26 j ≠ 0) = false from decide_eq_false (fun z => z e), Bool.false_and, Bool.false_and]
    · have h9 := hc j hj
      rw [fellN_fuel hc n (A.1 26 j - 1) (by omega) (by omega)]
      have h8 : fellN A j (A.1 26 j - 1) = fellN A (A.1 26 j - 1 + 1) (A.1 26 j - 1) := by
        rcases Nat.lt_or_ge j (n + 1) with _ | _
        · by_cases e2 : j = n + 1
          · omega
          · exact fellN_fuel hc j (A.1 26 j - 1) (by omega) (by omega)
        · omega
      rw [h8]
termination_by n j => n
theorem fell_rec {A : zA} {N : Nat} (hc : ∀ j, j < N → A.1 26 j ≤ j) {j : Nat} (hj : j < N) : fell A j = (decide (A.1 23 (A.1 25 j) = 1) || (decide (A.1 26 j ≠ 0) && fell A (A.1 26 j - 1))) := by
  show (decide (A.1 23 (A.1 25 j) = 1) || (decide (A.1 26 j ≠ 0) && fellN A j (A.1 26 j - 1))) = _
  by_cases e : A.1 26 j = 0
  · rw [show decide (A.1 26 j ≠ 0) = false from decide_eq_false (fun z => z e), Bool.false_and, Bool.false_and]
  · have h9 := hc j hj
    rw [fellN_fuel hc j (A.1 26 j - 1) (by omega) (by omega)]
    rfl
def wdA (A : zA) (w : Nat) : zA := set2 A 23 w 1
theorem wdA_23 (A : zA) (w : Nat) : (wdA A w).1 23 = va_up (A.1 23) w 1 := rfl
theorem fellN_mono {A : zA} {w : Nat} : ∀ n j, fellN A n j = true → fellN (wdA A w) n j = true
  | 0, _, h => h
  | n + 1, j, h => by
    have h : (decide (A.1 23 (A.1 25 j) = 1) || (decide (A.1 26 j ≠ 0) && fellN A n (A.1 26 j - 1))) = true := h
    show (decide ((wdA A w).1 23 (A.1 25 j) = 1) || (decide (A.1 26 j ≠ 0) && fellN (wdA A w) n (A.1 26 j - 1))) = true
    simp only [Bool.or_eq_true, Bool.and_eq_true, decide_eq_true_eq] at h ⊢
    rcases h with h | ⟨h1, h2⟩
    · left
      rw [wdA_23]; unfold va_up
      split
      · rfl
      · exact h
    · exact Or.inr ⟨h1, fellN_mono n _ h2⟩
theorem fell_mono {A : zA} {w j : Nat} (h : fell A j = true) : fell (wdA A w) j = true := fellN_mono _ _ h
theorem flN_fa {A : zA} {w : Nat} : ∀ n, flN (fun j => b2 (fell A j)) (fun j => fell (wdA A w) j) n = faN (wdA A w) n - faN A n ∧ faN A n ≤ faN (wdA A w) n
  | 0 => ⟨rfl, Nat.le_refl _⟩
  | n + 1 => by
    obtain ⟨h1, h2⟩ := flN_fa (A := A) (w := w) n
    have h3 := @fell_mono A w n
    unfold flN faN
    rw [h1]
    by_cases e : fell A n = true
    · rw [if_neg (fun z => by rw [b2_1 e] at z; omega), if_pos (h3 e), if_pos e]; omega
    · by_cases e2 : fell (wdA A w) n = true
      · rw [if_pos ⟨b2_0 e, e2⟩, if_pos e2, if_neg e]; omega
      · rw [if_neg (fun z => e2 z.2), if_neg e2, if_neg e]; omega
theorem CI.wd {K : zK} {L : List Nat} {f f0 f1 : Nat → va_E} {A : zA} {ad : Nat → Nat} {w : Nat} {vt : Value} (hI : CI K L f A ad) (hw : w < nw A)
    (hvt : f (ad (300 + 10 * w)) = eS 6 [.int (nI (A.1 20 w)), vt, .int (nI (A.1 21 w)), .int (nI (A.1 22 w)), .ref (ad (301 + 10 * w)), .int (nI (A.1 23 w))])
    (hf0 : f0 = va_up f (ad (300 + 10 * w)) (eS 6 [.int (nI (A.1 20 w)), vt, .int (nI (A.1 21 w)), .int (nI (A.1 22 w)), .ref (ad (301 + 10 * w)), .int (nI 1)]))
    (hP : PPs f1 (np A) (fun j => ad (500 + j)) (fun j => ad (300 + 10 * A.1 25 j)) (A.1 26) (fun j => b2 (fell A j)) (fun j => fell (wdA A w) j) (np A)) (hfr : ∀ q, (∀ j, j < np A → q ≠ ad (500 + j)) → f1 q = f0 q) : CI K L f1 (wdA A w) ad := by
  have h' := hI
  obtain ⟨v, c1, c2, c3, c4, c5, c6, c7, c8, c9, c10, c11⟩ := h'
  have v' := v
  obtain ⟨v1, v2, v3, v4, v5, v6, v7, v8, v9, v10, v11, v12, v13⟩ := v'
  have lvw : live A (300 + 10 * w) := live_w hw (by omega)
  have hk : ∀ t, live A t → ¬ (t = 300 + 10 * w ∨ 500 ≤ t) → f1 (ad t) = f (ad t) := fun t ht hd => by
    rw [hfr _ (fun j hj => ad_ne c2 ht (live_q hj) (by omega)), hf0]
    exact va_up_ne _ _ (ad_ne c2 ht lvw (by omega))
  have hV : VA (wdA A w) := by
    refine ⟨v1, v2, v3, v4, v5, v6, v7, v8, v9, v10, fun j => ?_, fun j hj => ?_, v13⟩
    · rw [wdA_23]; unfold va_up; split
      · omega
      · exact v11 j
    · have e9 : nw (wdA A w) = nw A := rfl
      rw [e9] at hj
      rw [wdA_23, va_up_ne _ _ (by omega)]; exact v12 j hj
  refine CI.step0 (fun t => t = 300 + 10 * w ∨ 500 ≤ t) hI hV rfl rfl hk (fun t _ _ => by omega) (c3.mv (hk 1 (live_c (by omega)) (by omega)) (hN_same (A := A) (A' := wdA A w) rfl 1000)) ?_ ((hk 5 (live_c (by omega)) (by omega)).trans c5) (fun j hj => Or.inl ⟨fun t ht => ?_, sameS.rfl⟩) (fun u hu => ?_) (fun j hj => Or.inr ?_)
  · obtain ⟨fl, mn, sg, cg, d1, d2, d3, d4⟩ := c4
    exact ⟨fl, mn, sg, cg, (hk 2 (live_c (by omega)) (by omega)).trans d1, (hk 3 (live_c (by omega)) (by omega)).trans d2, (hk 4 (live_c (by omega)) (by omega)).trans d3, d4⟩
  · have h1 := (v4 j hj).2.2.1
    rcases ht with y | y | y | y | ⟨y, -⟩ | ⟨k, hk9, y⟩ <;> omega
  · by_cases e : u = w
    · subst e
      obtain ⟨t, g, h1, h2, h3, h4⟩ := c10 u hu
      refine Or.inr ⟨t, g, ?_, (hk _ (live_w hu (by omega)) (by omega)).trans h2, (hk _ (live_w hu (by omega)) (by omega)).trans h3, h4⟩
      have hvt' : vt = .int (nI t) := by
        rw [h1] at hvt
        have h9 := congrArg fsOf hvt
        have h8 : [Value.int (nI (A.1 20 u)), .int (nI t), .int (nI (A.1 21 u)), .int (nI (A.1 22 u)), .ref (ad (301 + 10 * u)), .int (nI (A.1 23 u))] = [.int (nI (A.1 20 u)), vt, .int (nI (A.1 21 u)), .int (nI (A.1 22 u)), .ref (ad (301 + 10 * u)), .int (nI (A.1 23 u))] := h9
        exact (congrArg (fun z => z.getD 1 .null) h8).symm
      rw [hfr _ (fun j hj => ad_ne c2 lvw (live_q hj) (by omega)), hf0, va_up_self, wdA_23, va_up_self, hvt']
      rfl
    · refine Or.inl ⟨fun t ht => ?_, rfl, rfl, rfl, ?_⟩
      · rcases ht with y | y | y <;> omega
      · rw [wdA_23, va_up_ne _ _ e]
  · unfold CP
    have h9 := hP j hj
    rw [if_pos hj] at h9
    exact h9
set_option maxHeartbeats 400000 in
set_option maxRecDepth 100000 in
theorem p_withdraw {l : Launch} {base : Nat} {K : zK} {L : List Nat} {f : Nat → va_E} (hst : l.stackTraces = false) {A : zA} {ad : Nat → Nat} (hI : CI K L f A ad) (x : Int32) : zXMet l yX6_withdraw cX6_withdraw 3 (some .int) (zr 7 2 12 104) base K L f [.ref ((ad 1)), .int x] (zQi base K (fun r L1 f1 => k_withdraw A x = 0 ∧ r = v_withdraw A x ∧ CR K A ad L f (a_withdraw A x) L1 f1)) (fun E L1 f1 => xE [xIO, xIS] (k_withdraw A x) E ∧ CR K A ad L f (a_withdraw A x) L1 f1) := by
  have hI9 := hI
  obtain ⟨hV, hmem, hinj, hCX, hCF, hh5, hl6, hl8, hl10, hSt, hWo, hPa⟩ := hI9
  have hV9 := hV
  obtain ⟨hv1, hv2, hv3, hvS, -, -, -, -, hv11, hvW, hv23, -, hvP⟩ := hV9
  have hLo := hmem 1 (live_c (by omega))
  have hfo : f (ad 1) = eS 7 [.ref ((ad 6)), .ref ((ad 8)), .ref ((ad 10)), .ref ((ad 5)), .int (nI (hN A 1000)), .ref ((ad 2))] := hCX
  have hth : ∀ n E, k_withdraw A x = n + 1 → [xIO, xIS][n]? = some E → (xE [xIO, xIS] (k_withdraw A x) E ∧ CR K A ad L f (a_withdraw A x) L f) := fun n E h1 h2 => ⟨⟨by omega, by rw [h1]; exact h2⟩, by rw [a_withdraw, if_neg (by omega)]; exact CR.id hI⟩
  refine z_xmet (by decide) (Nat.le_of_ble_eq_true rfl) (fun p e s m below meth c ls hC hM hr hlk hxt hl => ?_)
  have hx := hC.1
  have hb := hC.2.1
  have hml := hC.2.2.1
  have hown := hC.2.2.2.1
  have hts := hC.2.2.2.2.1
  generalize hA : ([.ref ((ad 1)), .int x] : List Value).toArray = args at hC ⊢
  generalize hQ : vx_MQ _ _ _ _ _ _ _ _ = Q
  obtain ⟨locs, hlocs⟩ : ∃ z : List Loc, z = [] := ⟨_, rfl⟩
  obtain ⟨H, hH⟩ : ∃ z : Heap, z = s.heap := ⟨_, rfl⟩
  rw [← hlocs, ← hH] at hM ⊢
  have hl : lv_has ls 3 [(0, .ref ((ad 1))), (1, .int x)] := hl
  refine lv_aload_n hx hb dX6_withdraw_0 rfl (lv_at hl 0 rfl) ?_
  refine lv_iload_n hx hb dX6_withdraw_1 rfl (lv_at hl 1 rfl) ?_
  refine z_xpcallq hQ (z_xrunV hC hM (c_worldAt hst hLo hfo hl8 (by omega) (fs := fun w => fsOf (f (ad (300 + 10 * w)))) (fun w hw => ⟨hmem _ (live_w hw (by omega)), by obtain ⟨t9, g9, h9, -⟩ := hWo w hw; show f (ad (300 + 10 * w)) = eS 6 (fsOf (f (ad (300 + 10 * w)))); rw [h9]; rfl⟩) x) zy_X6_worldAt zm_X6_174 hLo hfo zcl_X6 rfl rfl rfl hl.1 (Nat.le_of_ble_eq_true rfl) ⟨by decide, by decide⟩ ⟨by decide, by decide⟩ dX6_withdraw_2) hM hxt hlk (by decide) (by decide) (fun E hE => by obtain ⟨rfl, h9⟩ := hE; exact hth 0 _ (if_pos h9) rfl) (fun r_2 hp_2 H locs hM => ?_)
  obtain ⟨w, hw, hx9, rfl⟩ := hp_2
  subst hx9
  have hs9 : isW A (nI w) := iR_nI (by omega) (by omega) (by omega)
  have hiv := iv_nI (i := w) (by omega)
  obtain ⟨th, gw, hW1, hW2, hW3, hW4, hW5, hW6⟩ := hWo w hw
  obtain ⟨u1, u2, u3, u4⟩ := hvW w hw
  have u5 := hv23 w
  refine lv_astore_n (lv' := [(2, .ref ((ad (300 + 10 * w)))), (0, .ref ((ad 1))), (1, .int (nI w))]) hx hb dX6_withdraw_5 rfl hl (by decide) rfl (fun ls hl => ?_)
  refine lv_aload_n hx hb dX6_withdraw_6 rfl (lv_at hl 0 rfl) ?_
  refine z_getN hC hM (hmem _ (live_w hw (by omega))) hW1 zcl_X5 (by decide) zl_X6_187 rfl dX6_withdraw_7 ?_
  refine z_if_eq (tgt := 23) hx hb (nI_toInt (by omega)) dX6_withdraw_10 (by decide) (fun c_10 => ?_) (fun c_10 => ?_)
  · skip
    have hk0 : k_withdraw A (nI w) = 0 := by unfold k_withdraw; exact (if_neg (fun z => z hs9)).trans (if_neg (by rw [hiv]; omega))
    refine lv_aload_n hx hb dX6_withdraw_23 rfl (lv_at hl 0 rfl) ?_
    refine lv_iconst (v := nI 1) hx hb dX6_withdraw_24 (by decide) ?_
    refine z_putN (fs' := [.int (nI (A.1 20 w)), .int (nI th), .int (nI (A.1 21 w)), .int (nI (A.1 22 w)), .ref ((ad (301 + 10 * w))), .int (nI 1)]) hC hM (hmem _ (live_w hw (by omega))) hW1 zcl_X5 (by decide) zl_X6_187 rfl rfl (by rfl) (Nat.le_of_ble_eq_true rfl) rfl dX6_withdraw_25 (fun H locs hM => ?_)
    obtain ⟨f_1, ef_1⟩ : ∃ z9, z9 = va_up f ((ad (300 + 10 * w))) (eS 6 [.int (nI (A.1 20 w)), .int (nI th), .int (nI (A.1 21 w)), .int (nI (A.1 22 w)), .ref ((ad (301 + 10 * w))), .int (nI 1)]) := ⟨_, rfl⟩
    rw [← ef_1] at hM
    have hF_2 : f_1 ((ad 1)) = eS 7 [.ref ((ad 6)), .ref ((ad 8)), .ref ((ad 10)), .ref ((ad 5)), .int (nI (hN A 1000)), .ref ((ad 2))] := by rw [ef_1]; exact (va_up_ne _ _ (ad_ne hinj (live_c (by omega)) (live_w hw (by omega)) (by omega))).trans hfo
    have hF_3 : f_1 ((ad (300 + 10 * w))) = eS 6 [.int (nI (A.1 20 w)), .int (nI th), .int (nI (A.1 21 w)), .int (nI (A.1 22 w)), .ref ((ad (301 + 10 * w))), .int (nI 1)] := by rw [ef_1]; exact va_up_self _ _ _
    have hc26 : ∀ j, j < np A → A.1 26 j ≤ j := fun j hj => (hvP j hj).2
    have hk1 : ∀ t, live A t → t ≠ 300 + 10 * w → f_1 (ad t) = f (ad t) := fun t ht hd => by rw [ef_1]; exact va_up_ne _ _ (ad_ne hinj ht (live_w hw (by omega)) hd)
    have hl10f : LI K L f_1 (ad 10) (ad 11) (np A) (fun j => ad (500 + j)) := hl10.mv (fun q hq => hq) rfl rfl (hk1 10 (live_c (by omega)) (by omega)) (fun z => ⟨hk1 11 (Or.inr (Or.inr (Or.inr (Or.inr (Or.inr (Or.inl ⟨rfl, z⟩)))))) (by omega), rfl⟩) (fun _ => rfl) (fun _ _ => rfl)
    have hps0 : ∀ j, j < np A → f_1 (ad (500 + j)) = eS 3 [.ref (ad (300 + 10 * A.1 25 j)), va_rf (if A.1 26 j = 0 then none else some (ad (500 + (A.1 26 j - 1)))), .int (nI (b2 (fell A j)))] := fun j hj => (hk1 _ (live_q hj) (by omega)).trans (hPa j hj)
    have hps : ∀ j, j < np A → ad (500 + j) ∈ L ∧ b2 (fell A j) ≤ 1 ∧ (b2 (fell A j) ≠ 0 → fell (wdA A w) j = true) ∧ A.1 26 j ≤ j ∧ fell (wdA A w) j = (decide ((wdA A w).1 23 (A.1 25 j) = 1) || (decide (A.1 26 j ≠ 0) && fell (wdA A w) (A.1 26 j - 1))) := fun j hj => ⟨hmem _ (live_q hj), by have := b2_lt (fell A j); omega, fun z => fell_mono (b2_n.mp z), hc26 j hj, fell_rec (A := wdA A w) hc26 hj⟩
    have hws : ∀ j, j < np A → ad (300 + 10 * A.1 25 j) ∈ L ∧ f_1 (ad (300 + 10 * A.1 25 j)) = eS 6 [(fsOf (f_1 (ad (300 + 10 * A.1 25 j)))).getD 0 .null, (fsOf (f_1 (ad (300 + 10 * A.1 25 j)))).getD 1 .null, (fsOf (f_1 (ad (300 + 10 * A.1 25 j)))).getD 2 .null, (fsOf (f_1 (ad (300 + 10 * A.1 25 j)))).getD 3 .null, (fsOf (f_1 (ad (300 + 10 * A.1 25 j)))).getD 4 .null, .int (nI ((wdA A w).1 23 (A.1 25 j)))] ∧ (wdA A w).1 23 (A.1 25 j) ≤ 1 := by
      intro j hj
      have h1 := (hvP j hj).1
      refine ⟨hmem _ (live_w h1 (by omega)), ?_, ?_⟩
      · by_cases e9 : A.1 25 j = w
        · rw [e9, ef_1, va_up_self, wdA_23, va_up_self]; rfl
        · obtain ⟨t9, g9, h9, -⟩ := hWo _ h1
          rw [hk1 _ (live_w h1 (by omega)) (by omega), h9, wdA_23, va_up_ne _ _ e9]; rfl
      · rw [wdA_23]; unfold va_up; split
        · omega
        · exact hv23 _
    refine lv_aload_n hx hb dX6_withdraw_28 rfl (lv_at hl 1 rfl) ?_
    refine z_calli (z_runV hC hM (c_fall (es := fun j => ad (500 + j)) (sw := fun j => ad (300 + 10 * A.1 25 j)) (ci := A.1 26) (fl := fun j => b2 (fell A j)) (wd := fun j => (wdA A w).1 23 (A.1 25 j)) (Fb := fun j => fell (wdA A w) j) (wv0 := fun j => (fsOf (f_1 (ad (300 + 10 * A.1 25 j)))).getD 0 .null) (wv1 := fun j => (fsOf (f_1 (ad (300 + 10 * A.1 25 j)))).getD 1 .null) (wv2 := fun j => (fsOf (f_1 (ad (300 + 10 * A.1 25 j)))).getD 2 .null) (wv3 := fun j => (fsOf (f_1 (ad (300 + 10 * A.1 25 j)))).getD 3 .null) (wv4 := fun j => (fsOf (f_1 (ad (300 + 10 * A.1 25 j)))).getD 4 .null) hLo hF_2 hl10f (by omega) hps0 hps hws (fun a b ha hb e => by have := hinj _ _ (live_q ha) (live_q hb) e; omega) (fun j hj => ad_ne hinj (live_c (by omega)) (live_q hj) (by omega)) (fun j hj => ad_ne hinj (live_c (by omega)) (live_q hj) (by omega)) (fun j hj => ad_ne hinj (Or.inr (Or.inr (Or.inr (Or.inr (Or.inr (Or.inl ⟨rfl, by omega⟩)))))) (live_q hj) (by omega)) (fun i hi j hj => ad_ne hinj (live_w (hvP i hi).1 (by omega)) (live_q hj) (by have := (hvP i hi).1; omega))) zy_X6_letPapersFall zm_X6_214 hLo hF_2 zcl_X6 rfl rfl rfl hl.1 (Nat.le_of_ble_eq_true rfl) ⟨by decide, by decide⟩ ⟨by decide, by decide⟩ dX6_withdraw_29) hM (fun r L1 f1 H locs hp hM => ?_)
    obtain ⟨rfl, e9, hPP, hfr⟩ := hp
    have e9 := e9.symm
    subst e9
    rw [← hQ]
    refine vx_ret ?_
    exact z_iret hC hM hr hlk rfl (by decide) (by decide) ⟨hk0, by rw [v_withdraw, a_withdraw, if_pos hk0, hiv, (flN_fa (A := A) (w := w) (np A)).1]; rfl, by rw [a_withdraw, if_pos hk0, hiv]; exact CR.same (hI.wd hw hW1 ef_1 hPP hfr) rfl rfl (fun q hq => by rw [hfr q (fun j hj => Ne.symm (hq _ (live_q hj))), ef_1]; exact va_up_ne _ _ (Ne.symm (hq _ (live_w hw (Or.inl rfl)))))⟩ dX6_withdraw_32
  · rw [← hQ]
    exact z_throw (is := 212) (text := "the world is withdrawn") hC hM hst hlk hxt hl.1 zth_IS (by decide) dX6_withdraw_13 dX6_withdraw_16 dX6_withdraw_17 dX6_withdraw_19 dX6_withdraw_22 (by decide) (by decide) (by decide) (hth 1 _ (by unfold k_withdraw; exact (if_neg (fun z => z hs9)).trans (if_pos (by rw [hiv]; omega))) rfl)
