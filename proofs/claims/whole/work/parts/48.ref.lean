/-! CONTRACTS of TransitryModel: clouds, nights (rows laid by wip/whole/ref5.py) -/
theorem clA_same {A : zA} {a : Nat} : ∀ n k, k ≠ 11 → (clA A a n).1 k = A.1 k
  | 0, _, _ => rfl
  | n + 1, k, h => by
    rw [clA]
    split
    · exact clA_same n k h
    · show (hdA (clA A a n) (a + n)).1 k = A.1 k
      unfold hdA
      show (if k = 11 then _ else (clA A a n).1 k) = A.1 k
      rw [if_neg h]
      exact clA_same n k h
theorem clA_2 {A : zA} {a : Nat} : ∀ n, (clA A a n).2 = A.2
  | 0 => rfl
  | n + 1 => by
    rw [clA]
    split
    · exact clA_2 n
    · exact clA_2 n
theorem clA_11 {A : zA} {a : Nat} (h1 : ∀ j, A.1 11 j ≤ 1) : ∀ n j, (clA A a n).1 11 j = if a ≤ j ∧ j < a + n then 1 else A.1 11 j
  | 0, j => by rw [if_neg (by omega)]; rfl
  | n + 1, j => by
    have ih := clA_11 (a := a) h1 n
    rw [clA]
    split
    · rename_i h
      rw [ih]
      by_cases e : j = a + n
      · subst e
        rw [ih] at h
        have h9 := h1 (a + n)
        rw [if_neg (by omega)] at h
        rw [if_neg (by omega), if_pos (by omega)]
        exact h
      · by_cases e2 : a ≤ j ∧ j < a + n
        · rw [if_pos e2, if_pos (by omega)]
        · rw [if_neg e2, if_neg (by omega)]
    · rw [hdA_11]
      unfold va_up
      by_cases e : j = a + n
      · subst e; rw [if_pos rfl, if_pos (by omega)]
      · rw [if_neg e, ih]
        by_cases e2 : a ≤ j ∧ j < a + n
        · rw [if_pos e2, if_pos (by omega)]
        · rw [if_neg e2, if_neg (by omega)]
theorem cl_up {g z : Nat → Nat} {k v : Nat} (hv : v = g k) : va_up (fun j => if j < k then g j else z j) k v = fun j => if j < k + 1 then g j else z j := by
  subst hv
  funext j
  show (if j = k then g k else if j < k then g j else z j) = if j < k + 1 then g j else z j
  by_cases e : j = k
  · subst e; rw [if_pos rfl, if_pos (Nat.lt_succ_self j)]
  · by_cases e2 : j < k
    · rw [if_neg e, if_pos e2, if_pos (Nat.lt_succ_of_lt e2)]
    · rw [if_neg e, if_neg e2, if_neg (by omega)]
theorem VA.kp {A : zA} {i h : Nat} {x : UInt64} (v : VA A) (hi : i < ns A) (hh : h < 1000) (h0 : A.1 12 (1000 * i + h) ≠ 1) (hx : Lb x) : VA (kpA A i h x) := by
  obtain ⟨v1, v2, v3, v4, v5, v6, v7, v8, v9, v10, v11, v12, v13⟩ := v
  have g0 : gk A i h = 0 := by unfold gk; rw [if_neg (fun z => h0 z.2)]
  refine ⟨v1, v2, v3, fun j hj => ?_, fun j hj => ?_, fun j hj => ?_, fun j => ?_, fun j hj => ?_, v9, v10, v11, v12, v13⟩
  · obtain ⟨w1, w2, w3, w4, w5, w6, w7, w8⟩ := v4 j hj
    refine ⟨w1, w2, w3, w4, w5, w6, ?_, w8⟩
    rw [kpA_14]
    by_cases e : j = i
    · subst e
      rw [va_up_self, gk_kp hh, fN_kp g0 (Lb_ne hx), if_pos hh, w7]
    · rw [va_up_ne _ _ e, gk_kn hh e, w7]
  · obtain ⟨w1, w2, w3, w4, w5⟩ := v5 j hj
    have hji : j ≠ i := by have : ns (kpA A i h x) = ns A := rfl; omega
    exact ⟨w1, w2, w3, w4, by rw [kpA_14, va_up_ne _ _ hji, w5]⟩
  · have e9 : ns (kpA A i h x) = ns A := rfl
    rw [e9] at hj
    have : 1000 * i + 1000 ≤ 1000 * ns A := by omega
    rw [kpA_12, va_up_ne _ _ (by omega)]
    exact v6 j hj
  · rw [kpA_12]; unfold va_up; split
    · omega
    · exact v7 j
  · rw [kpA_12] at hj
    rw [kpA_2]
    unfold va_up at hj ⊢
    split
    · exact hx
    · rename_i hn
      rw [if_neg hn] at hj
      exact v8 j hj
theorem ob_ns {A : zA} {i a : Nat} (n : Nat) : ns (obA A i a n) = ns A := by unfold ns; rw [ob_same n 0 (by decide) (by decide)]
theorem VA.obs {A : zA} {i a : Nat} (v : VA A) (hi : i < ns A) : ∀ n, a + n ≤ 1000 → VA (obA A i a n)
  | 0, _ => v
  | n + 1, hn => by
    have ih := VA.obs (i := i) (a := a) v hi n (by omega)
    rw [obA]
    split
    · exact ih
    · rename_i h9
      exact ih.kp (by rw [ob_ns]; exact hi) (by omega) (fun z => h9 (Or.inr z)) (lt_ok v hi _).2
set_option maxHeartbeats 400000 in
set_option maxRecDepth 100000 in
theorem m_cloud {l : Launch} {base : Nat} {K : zK} {L : List Nat} {f : Nat → va_E} {A : zA} {ma : Nat → Nat} {t : Int32} (hV : VA A) (hMI : MI K L f A ma t) (x y1 : Int32) : zMet l yX7_cloud cX7_cloud 5 (some .int) (zr 2 0 0 42) base K L f [.ref ((ma 0)), .int x, .int y1] (zQi base K (fun r L1 f1 => (k_cloud x y1 = 0 → r = v_cloud A x y1) ∧ MR K A ma L f (a_cloud A x y1) (nI (k_cloud x y1)) L1 f1)) := by
  have hMI9 := hMI
  obtain ⟨hmm, hmi, ⟨sg, cg, bb, bf⟩, op, hop, hmc⟩ := hMI9
  have hV9 := hV
  obtain ⟨hv1, hv2, hv3, hvS, hvO, hvK, hvK1, hvL, hv11, hvW, hv23, hvW0, hvP⟩ := hV9
  have hg0 : f (ma 0) = eS 8 [.int t, .int (nI (ns A)), .ref ((ma 2)), .ref ((ma 3)), .ref ((ma 4)), .ref ((ma 5)), .ref ((ma 6)), .ref ((ma 7)), .ref ((ma 8)), .ref ((ma 9)), .ref ((ma 10)), .ref ((ma 11)), .ref ((ma 12)), .ref ((ma 13)), .ref ((ma 14)), .ref ((ma 15)), .ref ((ma 16)), .double bb, .int bf, .int (nI (nw A)), .ref ((ma 20)), .ref ((ma 21)), .ref ((ma 22)), .ref ((ma 23)), .int (nI (np A)), .ref ((ma 25)), .ref ((ma 26))] := hmc 0 (by decide)
  have hg11 : f (ma 11) = eZ K 1000 (fun j => nI ((A.1 11) j)) := hmc 11 (by decide)
  refine z_met (by decide) (Nat.le_of_ble_eq_true rfl) (fun p e s m below meth c ls hC hM hr hlk hnm hl => ?_)
  have hx := hC.1
  have hb := hC.2.1
  have hml := hC.2.2.1
  have hown := hC.2.2.2.1
  have hts := hC.2.2.2.2.1
  generalize hA : ([.ref ((ma 0)), .int x, .int y1] : List Value).toArray = args at hC ⊢
  generalize hQ : MQ _ _ _ _ _ _ _ = Q
  obtain ⟨locs, hlocs⟩ : ∃ z : List Loc, z = [] := ⟨_, rfl⟩
  obtain ⟨H, hH⟩ : ∃ z : Heap, z = s.heap := ⟨_, rfl⟩
  rw [← hlocs, ← hH] at hM ⊢
  have hl : lv_has ls 5 [(0, .ref ((ma 0))), (1, .int x), (2, .int y1)] := hl
  refine lv_aload_n hx hb dX7_cloud_0 rfl (lv_at hl 0 rfl) ?_
  refine lv_iload_n hx hb dX7_cloud_1 rfl (lv_at hl 1 rfl) ?_
  refine z_fcalli (z_runS hC hM (c_isHour x) zy_X7_isHour zm_X7_97 rfl rfl hl.1 (Nat.le_of_ble_eq_true rfl) ⟨by decide, by decide⟩ ⟨by decide, by decide⟩ dX7_cloud_2) hM (fun H locs hM => ?_)
  refine z_if_eqB (tgt := 15) hx hb dX7_cloud_5 (by decide) (fun c_5 => ?_) (fun c_5 => ?_)
  · refine lv_iconst (v := nI 1) hx hb dX7_cloud_15 (by decide) ?_
    refine lv_goto (tgt := 29) hx hb dX7_cloud_16 (by decide) ?_
    refine z_put (fs' := [.int (nI 1), .int (nI (ns A)), .ref ((ma 2)), .ref ((ma 3)), .ref ((ma 4)), .ref ((ma 5)), .ref ((ma 6)), .ref ((ma 7)), .ref ((ma 8)), .ref ((ma 9)), .ref ((ma 10)), .ref ((ma 11)), .ref ((ma 12)), .ref ((ma 13)), .ref ((ma 14)), .ref ((ma 15)), .ref ((ma 16)), .double bb, .int bf, .int (nI (nw A)), .ref ((ma 20)), .ref ((ma 21)), .ref ((ma 22)), .ref ((ma 23)), .int (nI (np A)), .ref ((ma 25)), .ref ((ma 26))]) hC hM (hmm 0 (by decide)) hg0 zcl_X7 (by decide) zl_X7_75 rfl rfl (by rfl) (Nat.le_of_ble_eq_true rfl) rfl dX7_cloud_29 (fun H locs hM => ?_)
    obtain ⟨f_1, ef_1⟩ : ∃ z9, z9 = va_up f ((ma 0)) (eS 8 [.int (nI 1), .int (nI (ns A)), .ref ((ma 2)), .ref ((ma 3)), .ref ((ma 4)), .ref ((ma 5)), .ref ((ma 6)), .ref ((ma 7)), .ref ((ma 8)), .ref ((ma 9)), .ref ((ma 10)), .ref ((ma 11)), .ref ((ma 12)), .ref ((ma 13)), .ref ((ma 14)), .ref ((ma 15)), .ref ((ma 16)), .double bb, .int bf, .int (nI (nw A)), .ref ((ma 20)), .ref ((ma 21)), .ref ((ma 22)), .ref ((ma 23)), .int (nI (np A)), .ref ((ma 25)), .ref ((ma 26))]) := ⟨_, rfl⟩
    rw [← ef_1] at hM
    have hF_2 : f_1 ((ma 0)) = eS 8 [.int (nI 1), .int (nI (ns A)), .ref ((ma 2)), .ref ((ma 3)), .ref ((ma 4)), .ref ((ma 5)), .ref ((ma 6)), .ref ((ma 7)), .ref ((ma 8)), .ref ((ma 9)), .ref ((ma 10)), .ref ((ma 11)), .ref ((ma 12)), .ref ((ma 13)), .ref ((ma 14)), .ref ((ma 15)), .ref ((ma 16)), .double bb, .int bf, .int (nI (nw A)), .ref ((ma 20)), .ref ((ma 21)), .ref ((ma 22)), .ref ((ma 23)), .int (nI (np A)), .ref ((ma 25)), .ref ((ma 26))] := by rw [ef_1]; exact va_up_self _ _ _
    have hF_3 : f_1 ((ma 11)) = eZ K 1000 (fun j => nI ((A.1 11) j)) := by rw [ef_1]; exact (va_up_ne _ _ (mne hmi (by decide) (by decide) (show 11 ≠ 0 by decide))).trans hg11
    refine lv_aload_n hx hb dX7_cloud_32 rfl (lv_at hl 0 rfl) ?_
    refine z_get hC hM (hmm 0 (by decide)) hF_2 zcl_X7 (by decide) zl_X7_75 rfl dX7_cloud_33 ?_
    refine z_if_le (tgt := 41) hx hb (nI_toInt (by decide)) dX7_cloud_36 (by decide) (fun c_36 => ?_) (fun c_36 => ?_)
    · exact absurd c_36 (by omega)
    · refine lv_iconst (v := nI 0) hx hb dX7_cloud_39 (by decide) ?_
      rw [← hQ]
      exact z_iret hC hM hr hlk rfl (by decide) (by decide) (mr_x (qcl1 (fun z => c_5 z.1)) (fun z => if_neg z) (mr_t hmm hmi hop hmc hF_2 (fun q h9 => by rw [ef_1]; simp only [va_up, h9, if_false])) (by decide)) dX7_cloud_40
  · refine lv_iload_n hx hb dX7_cloud_8 rfl (lv_at hl 2 rfl) ?_
    refine z_fcalli (z_runS hC hM (c_isHour y1) zy_X7_isHour zm_X7_97 rfl rfl hl.1 (Nat.le_of_ble_eq_true rfl) ⟨by decide, by decide⟩ ⟨by decide, by decide⟩ dX7_cloud_9) hM (fun H locs hM => ?_)
    refine z_if_neB (tgt := 19) hx hb dX7_cloud_12 (by decide) (fun c_12 => ?_) (fun c_12 => ?_)
    · skip
      obtain ⟨a, ha1, ha2, hxa⟩ := nI_of_range (by decide) c_5.1 c_5.2
      subst hxa
      have hiva := iv_nI (i := a) (by omega)
      obtain ⟨b, hb1, hb2, hxb⟩ := nI_of_range (by decide) c_12.1 c_12.2
      subst hxb
      have hivb := iv_nI (i := b) (by omega)
      refine lv_iload_n hx hb dX7_cloud_19 rfl (lv_at hl 2 rfl) ?_
      refine lv_iload_n hx hb dX7_cloud_20 rfl (lv_at hl 1 rfl) ?_
      refine z_icmp_ge (tgt := 28) hx hb (nI_toInt (by omega)) (nI_toInt (by omega)) dX7_cloud_21 (by decide) (fun c_21 => ?_) (fun c_21 => ?_)
      · refine lv_iconst (v := nI 0) hx hb dX7_cloud_28 (by decide) ?_
        refine z_put (fs' := [.int (nI 0), .int (nI (ns A)), .ref ((ma 2)), .ref ((ma 3)), .ref ((ma 4)), .ref ((ma 5)), .ref ((ma 6)), .ref ((ma 7)), .ref ((ma 8)), .ref ((ma 9)), .ref ((ma 10)), .ref ((ma 11)), .ref ((ma 12)), .ref ((ma 13)), .ref ((ma 14)), .ref ((ma 15)), .ref ((ma 16)), .double bb, .int bf, .int (nI (nw A)), .ref ((ma 20)), .ref ((ma 21)), .ref ((ma 22)), .ref ((ma 23)), .int (nI (np A)), .ref ((ma 25)), .ref ((ma 26))]) hC hM (hmm 0 (by decide)) hg0 zcl_X7 (by decide) zl_X7_75 rfl rfl (by rfl) (Nat.le_of_ble_eq_true rfl) rfl dX7_cloud_29 (fun H locs hM => ?_)
        obtain ⟨f_4, ef_4⟩ : ∃ z9, z9 = va_up f ((ma 0)) (eS 8 [.int (nI 0), .int (nI (ns A)), .ref ((ma 2)), .ref ((ma 3)), .ref ((ma 4)), .ref ((ma 5)), .ref ((ma 6)), .ref ((ma 7)), .ref ((ma 8)), .ref ((ma 9)), .ref ((ma 10)), .ref ((ma 11)), .ref ((ma 12)), .ref ((ma 13)), .ref ((ma 14)), .ref ((ma 15)), .ref ((ma 16)), .double bb, .int bf, .int (nI (nw A)), .ref ((ma 20)), .ref ((ma 21)), .ref ((ma 22)), .ref ((ma 23)), .int (nI (np A)), .ref ((ma 25)), .ref ((ma 26))]) := ⟨_, rfl⟩
        rw [← ef_4] at hM
        have hF_5 : f_4 ((ma 0)) = eS 8 [.int (nI 0), .int (nI (ns A)), .ref ((ma 2)), .ref ((ma 3)), .ref ((ma 4)), .ref ((ma 5)), .ref ((ma 6)), .ref ((ma 7)), .ref ((ma 8)), .ref ((ma 9)), .ref ((ma 10)), .ref ((ma 11)), .ref ((ma 12)), .ref ((ma 13)), .ref ((ma 14)), .ref ((ma 15)), .ref ((ma 16)), .double bb, .int bf, .int (nI (nw A)), .ref ((ma 20)), .ref ((ma 21)), .ref ((ma 22)), .ref ((ma 23)), .int (nI (np A)), .ref ((ma 25)), .ref ((ma 26))] := by rw [ef_4]; exact va_up_self _ _ _
        have hF_6 : f_4 ((ma 11)) = eZ K 1000 (fun j => nI ((A.1 11) j)) := by rw [ef_4]; exact (va_up_ne _ _ (mne hmi (by decide) (by decide) (show 11 ≠ 0 by decide))).trans hg11
        refine lv_aload_n hx hb dX7_cloud_32 rfl (lv_at hl 0 rfl) ?_
        refine z_get hC hM (hmm 0 (by decide)) hF_5 zcl_X7 (by decide) zl_X7_75 rfl dX7_cloud_33 ?_
        refine z_if_le (tgt := 41) hx hb (nI_toInt (by decide)) dX7_cloud_36 (by decide) (fun c_36 => ?_) (fun c_36 => ?_)
        · have hnlt : ¬ (nI b).toInt < (nI a).toInt := by rw [nI_toInt (by omega), nI_toInt (by omega)]; omega
          refine lv_iconst (v := nI 0) hx hb dX7_cloud_41 (by decide) ?_
          refine lv_istore_n (lv' := [(3, .int (nI 0)), (0, .ref ((ma 0))), (1, .int (nI a)), (2, .int (nI b))]) hx hb dX7_cloud_42 rfl hl (by decide) rfl (fun ls hl => ?_)
          refine lv_iconst (v := nI 0) hx hb dX7_cloud_43 (by decide) ?_
          refine lv_istore (lv' := [(4, .int (nI 0)), (3, .int (nI 0)), (0, .ref ((ma 0))), (1, .int (nI a)), (2, .int (nI b))]) hx hb dX7_cloud_44 hl (by decide) rfl (fun ls hl => ?_)
          obtain ⟨A9, hA9⟩ : ∃ z, z = clA A a (b + 1 - a) := ⟨_, rfl⟩
          have h11 : ∀ j, A9.1 11 j = if a ≤ j ∧ j ≤ b then 1 else A.1 11 j := fun j => by
            rw [hA9, clA_11 hv11]
            by_cases e : a ≤ j ∧ j ≤ b
            · rw [if_pos e, if_pos (by omega)]
            · rw [if_neg e, if_neg (by omega)]
          have hg11c := hF_6
          have LOOP46 : ∀ k, k ≤ 1000 → ∀ (ls : Array Slot) (H : Heap) (locs : List Loc) (f1 : Nat → va_E), lv_has ls 5 [(4, .int (nI k)), (3, .int (nI (hN A9 k))), (0, .ref ((ma 0))), (1, .int (nI a)), (2, .int (nI b))] → zM base K L f1 s H locs → f1 ((ma 0)) = eS 8 [.int (nI 0), .int (nI (ns A)), .ref ((ma 2)), .ref ((ma 3)), .ref ((ma 4)), .ref ((ma 5)), .ref ((ma 6)), .ref ((ma 7)), .ref ((ma 8)), .ref ((ma 9)), .ref ((ma 10)), .ref ((ma 11)), .ref ((ma 12)), .ref ((ma 13)), .ref ((ma 14)), .ref ((ma 15)), .ref ((ma 16)), .double bb, .int bf, .int (nI (nw A)), .ref ((ma 20)), .ref ((ma 21)), .ref ((ma 22)), .ref ((ma 23)), .int (nI (np A)), .ref ((ma 25)), .ref ((ma 26))] → f1 ((ma 11)) = eZ K 1000 (fun j => nI ((fun j => if j < k then A9.1 11 j else A.1 11 j) j)) → (∀ q, q ≠ ((ma 11)) → f1 q = f_4 q) → W p l e (zr 2 0 0 42) s m args below meth c H locs 0 0 Q (F0 m 46 ls []) := by
            refine z_down 1000 ?_ ?_
            · intro ls H locs f1 hl hM hG0 hG1 hfr
              refine lv_iload hx hb dX7_cloud_46 (lv_at hl 0 rfl) ?_
              refine lv_sipush (v := nI 1000) hx hb dX7_cloud_48 (by decide) ?_
              refine z_icmp_ge (tgt := 110) hx hb (nI_toInt (by decide)) (nI_toInt (by decide)) dX7_cloud_51 (by decide) (fun c_51 => ?_) (fun c_51 => ?_)
              · refine lv_iload_n hx hb dX7_cloud_110 rfl (lv_at hl 1 rfl) ?_
                have hmk9 : ∀ k, mk k → k ≠ 0 → k ≠ 11 → f1 (ma k) = mC K A9 ma (nI 0) (sg, cg, bb, bf) op k := fun k hk n0 n11 => by
                  rw [hfr _ (mne hmi hk (by decide) n11), ef_4, va_up_ne _ _ (mne hmi hk (show mk 0 by decide) n0), hmc k hk]
                  exact (mC_cg hk n0 (by rw [hA9]; exact clA_same _ k n11) (by rw [hA9]; exact clA_2 _)).symm
                have hMR9 : MR K A ma L f A9 (nI 0) L f1 := mr_ok (x' := (sg, cg, bb, bf)) (op' := op) hmm hmi (fun j hj => by rw [show np A9 = np A by unfold np; rw [hA9, clA_same _ 0 (by decide)]] at hj; rw [hop j hj, hA9, clA_same _ 26 (by decide)]) (mk_all (P := fun k => f1 (ma k) = mC K A9 ma (nI 0) (sg, cg, bb, bf) op k) (hG0.trans (by show _ = mO A9 ma (nI 0) (sg, cg, bb, bf); unfold mO; rw [show ns A9 = ns A by unfold ns; rw [hA9, clA_same _ 0 (by decide)], show nw A9 = nw A by unfold nw; rw [hA9, clA_same _ 0 (by decide)], show np A9 = np A by unfold np; rw [hA9, clA_same _ 0 (by decide)]])) (hmk9 2 (by decide) (by decide) (by decide)) (hmk9 3 (by decide) (by decide) (by decide)) (hmk9 4 (by decide) (by decide) (by decide)) (hmk9 5 (by decide) (by decide) (by decide)) (hmk9 6 (by decide) (by decide) (by decide)) (hmk9 7 (by decide) (by decide) (by decide)) (hmk9 8 (by decide) (by decide) (by decide)) (hmk9 9 (by decide) (by decide) (by decide)) (hmk9 10 (by decide) (by decide) (by decide)) (hG1.trans (congrArg (fun z : Nat → Nat => eZ K 1000 (fun j => nI (z j))) (show (fun j => if j < 1000 then A9.1 11 j else A.1 11 j) = A9.1 11 by funext j; by_cases e : j < 1000; exact if_pos e; rw [if_neg e, h11, if_neg (by omega)]))) (hmk9 12 (by decide) (by decide) (by decide)) (hmk9 13 (by decide) (by decide) (by decide)) (hmk9 14 (by decide) (by decide) (by decide)) (hmk9 15 (by decide) (by decide) (by decide)) (hmk9 16 (by decide) (by decide) (by decide)) (hmk9 20 (by decide) (by decide) (by decide)) (hmk9 21 (by decide) (by decide) (by decide)) (hmk9 22 (by decide) (by decide) (by decide)) (hmk9 23 (by decide) (by decide) (by decide)) (hmk9 25 (by decide) (by decide) (by decide)) (hmk9 26 (by decide) (by decide) (by decide))) (fun q hq => by rw [hfr q (hq 11 (by decide)), ef_4]; exact va_up_ne _ _ (hq 0 (by decide)))
                rw [← hQ]
                exact z_iret hC hM hr hlk rfl (by decide) (by decide) (mr_0 (qcl0 ⟨c_5, c_12⟩ hnlt) (by rw [v_cloud, a_cloud, if_pos (qcl0 ⟨c_5, c_12⟩ hnlt), hiva, hivb, ← hA9]) (by rw [a_cloud, if_pos (qcl0 ⟨c_5, c_12⟩ hnlt), hiva, hivb, ← hA9]) hMR9) dX7_cloud_111
              · exact absurd c_51 (by omega)
            · intro k hk ih ls H locs f1 hl hM hG0 hG1 hfr
              refine lv_iload hx hb dX7_cloud_46 (lv_at hl 0 rfl) ?_
              refine lv_sipush (v := nI 1000) hx hb dX7_cloud_48 (by decide) ?_
              refine z_icmp_ge (tgt := 110) hx hb (nI_toInt (by omega)) (nI_toInt (by decide)) dX7_cloud_51 (by decide) (fun c_51 => ?_) (fun c_51 => ?_)
              · exact absurd c_51 (by omega)
              · refine lv_aload_n hx hb dX7_cloud_54 rfl (lv_at hl 2 rfl) ?_
                refine z_get hC hM (hmm 0 (by decide)) hG0 zcl_X7 (by decide) zl_X7_37 rfl dX7_cloud_55 ?_
                refine lv_iload hx hb dX7_cloud_58 (lv_at hl 0 rfl) ?_
                refine lv_aload_n hx hb dX7_cloud_60 rfl (lv_at hl 2 rfl) ?_
                refine z_get hC hM (hmm 0 (by decide)) hG0 zcl_X7 (by decide) zl_X7_37 rfl dX7_cloud_61 ?_
                refine lv_iload hx hb dX7_cloud_64 (lv_at hl 0 rfl) ?_
                refine z_zald hC hM (hmm 11 (by decide)) hG1 (by omega) (by omega) dX7_cloud_66 ?_
                rw [show (fun j => if j < k then A9.1 11 j else A.1 11 j) k = A.1 11 k from if_neg (Nat.lt_irrefl k)]
                have hk9 := hv11 k
                have h11k := h11 k
                have tk := nI_toInt (n := k) (by omega)
                have ta := nI_toInt (n := a) (by omega)
                have tb := nI_toInt (n := b) (by omega)
                refine z_if_ne (tgt := 80) hx hb (nI_toInt (by omega)) dX7_cloud_67 (by decide) (fun c_67 => ?_) (fun c_67 => ?_)
                · refine lv_iconst (v := nI 1) hx hb dX7_cloud_80 (by decide) ?_
                  refine lv_goto (tgt := 85) hx hb dX7_cloud_81 (by decide) ?_
                  have hv9 : 1 = A9.1 11 k := by rw [h11k]; split <;> omega
                  refine z_zast hC hM (hmm 11 (by decide)) hG1 (by omega) (by omega) (by decide) dX7_cloud_85 (fun H locs hM => ?_)
                  rw [up_nI] at hM
                  obtain ⟨f_7, ef_7⟩ : ∃ z9, z9 = va_up f1 ((ma 11)) (eZ K 1000 (fun j => nI ((va_up (fun j => if j < k then A9.1 11 j else A.1 11 j) k 1) j))) := ⟨_, rfl⟩
                  rw [← ef_7] at hM
                  have hF_8 : f_7 ((ma 0)) = eS 8 [.int (nI 0), .int (nI (ns A)), .ref ((ma 2)), .ref ((ma 3)), .ref ((ma 4)), .ref ((ma 5)), .ref ((ma 6)), .ref ((ma 7)), .ref ((ma 8)), .ref ((ma 9)), .ref ((ma 10)), .ref ((ma 11)), .ref ((ma 12)), .ref ((ma 13)), .ref ((ma 14)), .ref ((ma 15)), .ref ((ma 16)), .double bb, .int bf, .int (nI (nw A)), .ref ((ma 20)), .ref ((ma 21)), .ref ((ma 22)), .ref ((ma 23)), .int (nI (np A)), .ref ((ma 25)), .ref ((ma 26))] := by rw [ef_7]; exact (va_up_ne _ _ (mne hmi (by decide) (by decide) (show 0 ≠ 11 by decide))).trans hG0
                  have hF_9 : f_7 ((ma 11)) = eZ K 1000 (fun j => nI ((va_up (fun j => if j < k then A9.1 11 j else A.1 11 j) k 1) j)) := by rw [ef_7]; exact va_up_self _ _ _
                  refine lv_iload_n hx hb dX7_cloud_86 rfl (lv_at hl 1 rfl) ?_
                  refine lv_aload_n hx hb dX7_cloud_87 rfl (lv_at hl 2 rfl) ?_
                  refine z_get hC hM (hmm 0 (by decide)) hF_8 zcl_X7 (by decide) zl_X7_37 rfl dX7_cloud_88 ?_
                  refine lv_iload hx hb dX7_cloud_91 (lv_at hl 0 rfl) ?_
                  refine z_zald hC hM (hmm 11 (by decide)) hF_9 (by omega) (by omega) dX7_cloud_93 ?_
                  rw [va_up_self]
                  refine z_if_eq (tgt := 101) hx hb (nI_toInt (by decide)) dX7_cloud_94 (by decide) (fun c_94 => ?_) (fun c_94 => ?_)
                  · exact absurd c_94 (by omega)
                  · refine lv_iconst (v := nI 1) hx hb dX7_cloud_97 (by decide) ?_
                    refine lv_goto (tgt := 102) hx hb dX7_cloud_98 (by decide) ?_
                    refine z_iadd hx hb dX7_cloud_102 ?_
                    refine lv_istore_n (lv' := [(3, .int (nI ((hN A9 k) + 1))), (4, .int (nI k)), (0, .ref ((ma 0))), (1, .int (nI a)), (2, .int (nI b))]) hx hb dX7_cloud_103 rfl hl (by decide) rfl (fun ls hl => ?_)
                    refine lv_iinc (v := nI (k + 1)) (lv' := [(4, .int (nI (k + 1))), (3, .int (nI ((hN A9 k) + 1))), (0, .ref ((ma 0))), (1, .int (nI a)), (2, .int (nI b))]) hx hb dX7_cloud_104 hl (k := 1) rfl (nI_add k 1) (by decide) rfl (fun ls hl => ?_)
                    refine lv_goto (tgt := 46) hx hb dX7_cloud_107 (by decide) ?_
                    have e9 : (hN A9 k) + 1 = hN A9 (k + 1) := by rw [hN, if_pos hv9.symm]
                    rw [e9] at hl
                    have hfr : ∀ q, q ≠ ((ma 11)) → f_7 q = f_4 q := fun q hq0 => by
                      rw [ef_7]
                      simp only [va_up, hq0, if_false]
                      exact hfr q hq0
                    exact ih ls H locs f_7 (lv_sub hl [0, 1, 2, 3, 4] rfl) hM hF_8 (hF_9.trans (congrArg (fun z : Nat → Nat => eZ K 1000 (fun j => nI (z j))) (cl_up hv9))) hfr
                · refine lv_iload hx hb dX7_cloud_70 (lv_at hl 0 rfl) ?_
                  refine lv_iload_n hx hb dX7_cloud_72 rfl (lv_at hl 3 rfl) ?_
                  refine lv_iload_n hx hb dX7_cloud_73 rfl (lv_at hl 4 rfl) ?_
                  refine z_fcalli (z_runS hC hM (c_isIn (x := nI k) (a := nI a) (b := nI b) (ea := (nI a).toInt) (eb := (nI b).toInt) rfl rfl) zy_X7_isIn zm_X7_82 rfl rfl hl.1 (Nat.le_of_ble_eq_true rfl) ⟨by decide, by decide⟩ ⟨by decide, by decide⟩ dX7_cloud_74) hM (fun H locs hM => ?_)
                  refine z_if_eqB (tgt := 84) hx hb dX7_cloud_77 (by decide) (fun c_77 => ?_) (fun c_77 => ?_)
                  · refine lv_iconst (v := nI 0) hx hb dX7_cloud_84 (by decide) ?_
                    have hv9 : 0 = A9.1 11 k := by rw [h11k, if_neg (fun z => c_77 ⟨by omega, by omega⟩)]; omega
                    refine z_zast hC hM (hmm 11 (by decide)) hG1 (by omega) (by omega) (by decide) dX7_cloud_85 (fun H locs hM => ?_)
                    rw [up_nI] at hM
                    obtain ⟨f_10, ef_10⟩ : ∃ z9, z9 = va_up f1 ((ma 11)) (eZ K 1000 (fun j => nI ((va_up (fun j => if j < k then A9.1 11 j else A.1 11 j) k 0) j))) := ⟨_, rfl⟩
                    rw [← ef_10] at hM
                    have hF_11 : f_10 ((ma 0)) = eS 8 [.int (nI 0), .int (nI (ns A)), .ref ((ma 2)), .ref ((ma 3)), .ref ((ma 4)), .ref ((ma 5)), .ref ((ma 6)), .ref ((ma 7)), .ref ((ma 8)), .ref ((ma 9)), .ref ((ma 10)), .ref ((ma 11)), .ref ((ma 12)), .ref ((ma 13)), .ref ((ma 14)), .ref ((ma 15)), .ref ((ma 16)), .double bb, .int bf, .int (nI (nw A)), .ref ((ma 20)), .ref ((ma 21)), .ref ((ma 22)), .ref ((ma 23)), .int (nI (np A)), .ref ((ma 25)), .ref ((ma 26))] := by rw [ef_10]; exact (va_up_ne _ _ (mne hmi (by decide) (by decide) (show 0 ≠ 11 by decide))).trans hG0
                    have hF_12 : f_10 ((ma 11)) = eZ K 1000 (fun j => nI ((va_up (fun j => if j < k then A9.1 11 j else A.1 11 j) k 0) j)) := by rw [ef_10]; exact va_up_self _ _ _
                    refine lv_iload_n hx hb dX7_cloud_86 rfl (lv_at hl 1 rfl) ?_
                    refine lv_aload_n hx hb dX7_cloud_87 rfl (lv_at hl 2 rfl) ?_
                    refine z_get hC hM (hmm 0 (by decide)) hF_11 zcl_X7 (by decide) zl_X7_37 rfl dX7_cloud_88 ?_
                    refine lv_iload hx hb dX7_cloud_91 (lv_at hl 0 rfl) ?_
                    refine z_zald hC hM (hmm 11 (by decide)) hF_12 (by omega) (by omega) dX7_cloud_93 ?_
                    rw [va_up_self]
                    refine z_if_eq (tgt := 101) hx hb (nI_toInt (by decide)) dX7_cloud_94 (by decide) (fun c_94 => ?_) (fun c_94 => ?_)
                    · refine lv_iconst (v := nI 0) hx hb dX7_cloud_101 (by decide) ?_
                      refine z_iadd hx hb dX7_cloud_102 ?_
                      refine lv_istore_n (lv' := [(3, .int (nI ((hN A9 k) + 0))), (4, .int (nI k)), (0, .ref ((ma 0))), (1, .int (nI a)), (2, .int (nI b))]) hx hb dX7_cloud_103 rfl hl (by decide) rfl (fun ls hl => ?_)
                      refine lv_iinc (v := nI (k + 1)) (lv' := [(4, .int (nI (k + 1))), (3, .int (nI ((hN A9 k) + 0))), (0, .ref ((ma 0))), (1, .int (nI a)), (2, .int (nI b))]) hx hb dX7_cloud_104 hl (k := 1) rfl (nI_add k 1) (by decide) rfl (fun ls hl => ?_)
                      refine lv_goto (tgt := 46) hx hb dX7_cloud_107 (by decide) ?_
                      have e9 : (hN A9 k) + 0 = hN A9 (k + 1) := by rw [hN, if_neg (by rw [← hv9]; decide)]; exact Nat.add_zero _
                      rw [e9] at hl
                      have hfr : ∀ q, q ≠ ((ma 11)) → f_10 q = f_4 q := fun q hq0 => by
                        rw [ef_10]
                        simp only [va_up, hq0, if_false]
                        exact hfr q hq0
                      exact ih ls H locs f_10 (lv_sub hl [0, 1, 2, 3, 4] rfl) hM hF_11 (hF_12.trans (congrArg (fun z : Nat → Nat => eZ K 1000 (fun j => nI (z j))) (cl_up hv9))) hfr
                    · exact absurd c_94 (by omega)
                  · refine lv_iconst (v := nI 1) hx hb dX7_cloud_80 (by decide) ?_
                    refine lv_goto (tgt := 85) hx hb dX7_cloud_81 (by decide) ?_
                    have hv9 : 1 = A9.1 11 k := by rw [h11k, if_pos (by have z1 := c_77.1; have z2 := c_77.2; omega)]
                    refine z_zast hC hM (hmm 11 (by decide)) hG1 (by omega) (by omega) (by decide) dX7_cloud_85 (fun H locs hM => ?_)
                    rw [up_nI] at hM
                    obtain ⟨f_13, ef_13⟩ : ∃ z9, z9 = va_up f1 ((ma 11)) (eZ K 1000 (fun j => nI ((va_up (fun j => if j < k then A9.1 11 j else A.1 11 j) k 1) j))) := ⟨_, rfl⟩
                    rw [← ef_13] at hM
                    have hF_14 : f_13 ((ma 0)) = eS 8 [.int (nI 0), .int (nI (ns A)), .ref ((ma 2)), .ref ((ma 3)), .ref ((ma 4)), .ref ((ma 5)), .ref ((ma 6)), .ref ((ma 7)), .ref ((ma 8)), .ref ((ma 9)), .ref ((ma 10)), .ref ((ma 11)), .ref ((ma 12)), .ref ((ma 13)), .ref ((ma 14)), .ref ((ma 15)), .ref ((ma 16)), .double bb, .int bf, .int (nI (nw A)), .ref ((ma 20)), .ref ((ma 21)), .ref ((ma 22)), .ref ((ma 23)), .int (nI (np A)), .ref ((ma 25)), .ref ((ma 26))] := by rw [ef_13]; exact (va_up_ne _ _ (mne hmi (by decide) (by decide) (show 0 ≠ 11 by decide))).trans hG0
                    have hF_15 : f_13 ((ma 11)) = eZ K 1000 (fun j => nI ((va_up (fun j => if j < k then A9.1 11 j else A.1 11 j) k 1) j)) := by rw [ef_13]; exact va_up_self _ _ _
                    refine lv_iload_n hx hb dX7_cloud_86 rfl (lv_at hl 1 rfl) ?_
                    refine lv_aload_n hx hb dX7_cloud_87 rfl (lv_at hl 2 rfl) ?_
                    refine z_get hC hM (hmm 0 (by decide)) hF_14 zcl_X7 (by decide) zl_X7_37 rfl dX7_cloud_88 ?_
                    refine lv_iload hx hb dX7_cloud_91 (lv_at hl 0 rfl) ?_
                    refine z_zald hC hM (hmm 11 (by decide)) hF_15 (by omega) (by omega) dX7_cloud_93 ?_
                    rw [va_up_self]
                    refine z_if_eq (tgt := 101) hx hb (nI_toInt (by decide)) dX7_cloud_94 (by decide) (fun c_94 => ?_) (fun c_94 => ?_)
                    · exact absurd c_94 (by omega)
                    · refine lv_iconst (v := nI 1) hx hb dX7_cloud_97 (by decide) ?_
                      refine lv_goto (tgt := 102) hx hb dX7_cloud_98 (by decide) ?_
                      refine z_iadd hx hb dX7_cloud_102 ?_
                      refine lv_istore_n (lv' := [(3, .int (nI ((hN A9 k) + 1))), (4, .int (nI k)), (0, .ref ((ma 0))), (1, .int (nI a)), (2, .int (nI b))]) hx hb dX7_cloud_103 rfl hl (by decide) rfl (fun ls hl => ?_)
                      refine lv_iinc (v := nI (k + 1)) (lv' := [(4, .int (nI (k + 1))), (3, .int (nI ((hN A9 k) + 1))), (0, .ref ((ma 0))), (1, .int (nI a)), (2, .int (nI b))]) hx hb dX7_cloud_104 hl (k := 1) rfl (nI_add k 1) (by decide) rfl (fun ls hl => ?_)
                      refine lv_goto (tgt := 46) hx hb dX7_cloud_107 (by decide) ?_
                      have e9 : (hN A9 k) + 1 = hN A9 (k + 1) := by rw [hN, if_pos hv9.symm]
                      rw [e9] at hl
                      have hfr : ∀ q, q ≠ ((ma 11)) → f_13 q = f_4 q := fun q hq0 => by
                        rw [ef_13]
                        simp only [va_up, hq0, if_false]
                        exact hfr q hq0
                      exact ih ls H locs f_13 (lv_sub hl [0, 1, 2, 3, 4] rfl) hM hF_14 (hF_15.trans (congrArg (fun z : Nat → Nat => eZ K 1000 (fun j => nI (z j))) (cl_up hv9))) hfr
          exact LOOP46 0 (Nat.zero_le _) ls H locs f_4 (lv_sub hl [0, 1, 2, 3, 4] rfl) hM hF_5 (hg11c.trans (by simp)) (fun _ _ => rfl)
        · exact absurd c_36 (by omega)
      · refine lv_iconst (v := nI 2) hx hb dX7_cloud_24 (by decide) ?_
        refine lv_goto (tgt := 29) hx hb dX7_cloud_25 (by decide) ?_
        refine z_put (fs' := [.int (nI 2), .int (nI (ns A)), .ref ((ma 2)), .ref ((ma 3)), .ref ((ma 4)), .ref ((ma 5)), .ref ((ma 6)), .ref ((ma 7)), .ref ((ma 8)), .ref ((ma 9)), .ref ((ma 10)), .ref ((ma 11)), .ref ((ma 12)), .ref ((ma 13)), .ref ((ma 14)), .ref ((ma 15)), .ref ((ma 16)), .double bb, .int bf, .int (nI (nw A)), .ref ((ma 20)), .ref ((ma 21)), .ref ((ma 22)), .ref ((ma 23)), .int (nI (np A)), .ref ((ma 25)), .ref ((ma 26))]) hC hM (hmm 0 (by decide)) hg0 zcl_X7 (by decide) zl_X7_75 rfl rfl (by rfl) (Nat.le_of_ble_eq_true rfl) rfl dX7_cloud_29 (fun H locs hM => ?_)
        obtain ⟨f_16, ef_16⟩ : ∃ z9, z9 = va_up f ((ma 0)) (eS 8 [.int (nI 2), .int (nI (ns A)), .ref ((ma 2)), .ref ((ma 3)), .ref ((ma 4)), .ref ((ma 5)), .ref ((ma 6)), .ref ((ma 7)), .ref ((ma 8)), .ref ((ma 9)), .ref ((ma 10)), .ref ((ma 11)), .ref ((ma 12)), .ref ((ma 13)), .ref ((ma 14)), .ref ((ma 15)), .ref ((ma 16)), .double bb, .int bf, .int (nI (nw A)), .ref ((ma 20)), .ref ((ma 21)), .ref ((ma 22)), .ref ((ma 23)), .int (nI (np A)), .ref ((ma 25)), .ref ((ma 26))]) := ⟨_, rfl⟩
        rw [← ef_16] at hM
        have hF_17 : f_16 ((ma 0)) = eS 8 [.int (nI 2), .int (nI (ns A)), .ref ((ma 2)), .ref ((ma 3)), .ref ((ma 4)), .ref ((ma 5)), .ref ((ma 6)), .ref ((ma 7)), .ref ((ma 8)), .ref ((ma 9)), .ref ((ma 10)), .ref ((ma 11)), .ref ((ma 12)), .ref ((ma 13)), .ref ((ma 14)), .ref ((ma 15)), .ref ((ma 16)), .double bb, .int bf, .int (nI (nw A)), .ref ((ma 20)), .ref ((ma 21)), .ref ((ma 22)), .ref ((ma 23)), .int (nI (np A)), .ref ((ma 25)), .ref ((ma 26))] := by rw [ef_16]; exact va_up_self _ _ _
        have hF_18 : f_16 ((ma 11)) = eZ K 1000 (fun j => nI ((A.1 11) j)) := by rw [ef_16]; exact (va_up_ne _ _ (mne hmi (by decide) (by decide) (show 11 ≠ 0 by decide))).trans hg11
        refine lv_aload_n hx hb dX7_cloud_32 rfl (lv_at hl 0 rfl) ?_
        refine z_get hC hM (hmm 0 (by decide)) hF_17 zcl_X7 (by decide) zl_X7_75 rfl dX7_cloud_33 ?_
        refine z_if_le (tgt := 41) hx hb (nI_toInt (by decide)) dX7_cloud_36 (by decide) (fun c_36 => ?_) (fun c_36 => ?_)
        · exact absurd c_36 (by omega)
        · refine lv_iconst (v := nI 0) hx hb dX7_cloud_39 (by decide) ?_
          rw [← hQ]
          exact z_iret hC hM hr hlk rfl (by decide) (by decide) (mr_x (qcl2 ⟨c_5, c_12⟩ (by rw [nI_toInt (by omega), nI_toInt (by omega)]; omega)) (fun z => if_neg z) (mr_t hmm hmi hop hmc hF_17 (fun q h9 => by rw [ef_16]; simp only [va_up, h9, if_false])) (by decide)) dX7_cloud_40
    · refine lv_iconst (v := nI 1) hx hb dX7_cloud_15 (by decide) ?_
      refine lv_goto (tgt := 29) hx hb dX7_cloud_16 (by decide) ?_
      refine z_put (fs' := [.int (nI 1), .int (nI (ns A)), .ref ((ma 2)), .ref ((ma 3)), .ref ((ma 4)), .ref ((ma 5)), .ref ((ma 6)), .ref ((ma 7)), .ref ((ma 8)), .ref ((ma 9)), .ref ((ma 10)), .ref ((ma 11)), .ref ((ma 12)), .ref ((ma 13)), .ref ((ma 14)), .ref ((ma 15)), .ref ((ma 16)), .double bb, .int bf, .int (nI (nw A)), .ref ((ma 20)), .ref ((ma 21)), .ref ((ma 22)), .ref ((ma 23)), .int (nI (np A)), .ref ((ma 25)), .ref ((ma 26))]) hC hM (hmm 0 (by decide)) hg0 zcl_X7 (by decide) zl_X7_75 rfl rfl (by rfl) (Nat.le_of_ble_eq_true rfl) rfl dX7_cloud_29 (fun H locs hM => ?_)
      obtain ⟨f_19, ef_19⟩ : ∃ z9, z9 = va_up f ((ma 0)) (eS 8 [.int (nI 1), .int (nI (ns A)), .ref ((ma 2)), .ref ((ma 3)), .ref ((ma 4)), .ref ((ma 5)), .ref ((ma 6)), .ref ((ma 7)), .ref ((ma 8)), .ref ((ma 9)), .ref ((ma 10)), .ref ((ma 11)), .ref ((ma 12)), .ref ((ma 13)), .ref ((ma 14)), .ref ((ma 15)), .ref ((ma 16)), .double bb, .int bf, .int (nI (nw A)), .ref ((ma 20)), .ref ((ma 21)), .ref ((ma 22)), .ref ((ma 23)), .int (nI (np A)), .ref ((ma 25)), .ref ((ma 26))]) := ⟨_, rfl⟩
      rw [← ef_19] at hM
      have hF_20 : f_19 ((ma 0)) = eS 8 [.int (nI 1), .int (nI (ns A)), .ref ((ma 2)), .ref ((ma 3)), .ref ((ma 4)), .ref ((ma 5)), .ref ((ma 6)), .ref ((ma 7)), .ref ((ma 8)), .ref ((ma 9)), .ref ((ma 10)), .ref ((ma 11)), .ref ((ma 12)), .ref ((ma 13)), .ref ((ma 14)), .ref ((ma 15)), .ref ((ma 16)), .double bb, .int bf, .int (nI (nw A)), .ref ((ma 20)), .ref ((ma 21)), .ref ((ma 22)), .ref ((ma 23)), .int (nI (np A)), .ref ((ma 25)), .ref ((ma 26))] := by rw [ef_19]; exact va_up_self _ _ _
      have hF_21 : f_19 ((ma 11)) = eZ K 1000 (fun j => nI ((A.1 11) j)) := by rw [ef_19]; exact (va_up_ne _ _ (mne hmi (by decide) (by decide) (show 11 ≠ 0 by decide))).trans hg11
      refine lv_aload_n hx hb dX7_cloud_32 rfl (lv_at hl 0 rfl) ?_
      refine z_get hC hM (hmm 0 (by decide)) hF_20 zcl_X7 (by decide) zl_X7_75 rfl dX7_cloud_33 ?_
      refine z_if_le (tgt := 41) hx hb (nI_toInt (by decide)) dX7_cloud_36 (by decide) (fun c_36 => ?_) (fun c_36 => ?_)
      · exact absurd c_36 (by omega)
      · refine lv_iconst (v := nI 0) hx hb dX7_cloud_39 (by decide) ?_
        rw [← hQ]
        exact z_iret hC hM hr hlk rfl (by decide) (by decide) (mr_x (qcl1 (fun z => c_12 z.2)) (fun z => if_neg z) (mr_t hmm hmi hop hmc hF_20 (fun q h9 => by rw [ef_19]; simp only [va_up, h9, if_false])) (by decide)) dX7_cloud_40
set_option maxHeartbeats 400000 in
set_option maxRecDepth 100000 in
theorem m_observe {l : Launch} {base : Nat} {K : zK} {L : List Nat} {f : Nat → va_E} {A : zA} {ma : Nat → Nat} {t : Int32} (hV : VA A) (hMI : MI K L f A ma t) (x y1 y2 : Int32) : zMet l yX7_observe cX7_observe 7 (some .int) (zr 2 0 0 47) base K L f [.ref ((ma 0)), .int x, .int y1, .int y2] (zQi base K (fun r L1 f1 => (k_observe A x y1 y2 = 0 → r = v_observe A x y1 y2) ∧ MR K A ma L f (a_observe A x y1 y2) (nI (k_observe A x y1 y2)) L1 f1)) := by
  have hMI9 := hMI
  obtain ⟨hmm, hmi, ⟨sg, cg, bb, bf⟩, op, hop, hmc⟩ := hMI9
  have hV9 := hV
  obtain ⟨hv1, hv2, hv3, hvS, hvO, hvK, hvK1, hvL, hv11, hvW, hv23, hvW0, hvP⟩ := hV9
  have hg0 : f (ma 0) = eS 8 [.int t, .int (nI (ns A)), .ref ((ma 2)), .ref ((ma 3)), .ref ((ma 4)), .ref ((ma 5)), .ref ((ma 6)), .ref ((ma 7)), .ref ((ma 8)), .ref ((ma 9)), .ref ((ma 10)), .ref ((ma 11)), .ref ((ma 12)), .ref ((ma 13)), .ref ((ma 14)), .ref ((ma 15)), .ref ((ma 16)), .double bb, .int bf, .int (nI (nw A)), .ref ((ma 20)), .ref ((ma 21)), .ref ((ma 22)), .ref ((ma 23)), .int (nI (np A)), .ref ((ma 25)), .ref ((ma 26))] := hmc 0 (by decide)
  have hg11 : f (ma 11) = eZ K 1000 (fun j => nI ((A.1 11) j)) := hmc 11 (by decide)
  have hg12 : f (ma 12) = eZ K 6000 (fun j => nI ((A.1 12) j)) := hmc 12 (by decide)
  have hg13 : f (ma 13) = eD K 6000 A.2 := hmc 13 (by decide)
  have hg14 : f (ma 14) = eI K 6 (fun j => nI ((A.1 14) j)) := hmc 14 (by decide)
  refine z_met (by decide) (Nat.le_of_ble_eq_true rfl) (fun p e s m below meth c ls hC hM hr hlk hnm hl => ?_)
  have hx := hC.1
  have hb := hC.2.1
  have hml := hC.2.2.1
  have hown := hC.2.2.2.1
  have hts := hC.2.2.2.2.1
  generalize hA : ([.ref ((ma 0)), .int x, .int y1, .int y2] : List Value).toArray = args at hC ⊢
  generalize hQ : MQ _ _ _ _ _ _ _ = Q
  obtain ⟨locs, hlocs⟩ : ∃ z : List Loc, z = [] := ⟨_, rfl⟩
  obtain ⟨H, hH⟩ : ∃ z : Heap, z = s.heap := ⟨_, rfl⟩
  rw [← hlocs, ← hH] at hM ⊢
  have hl : lv_has ls 7 [(0, .ref ((ma 0))), (1, .int x), (2, .int y1), (3, .int y2)] := hl
  refine lv_aload_n hx hb dX7_observe_0 rfl (lv_at hl 0 rfl) ?_
  refine lv_iload_n hx hb dX7_observe_1 rfl (lv_at hl 1 rfl) ?_
  refine z_fcalli (z_runV hC hM (c_isStar hV hMI x) zy_X7_isStar zm_X7_87 (hmm 0 (by decide)) hg0 zcl_X7 rfl rfl rfl hl.1 (Nat.le_of_ble_eq_true rfl) ⟨by decide, by decide⟩ ⟨by decide, by decide⟩ dX7_observe_2) hM (fun H locs hM => ?_)
  refine z_if_eqB (tgt := 26) hx hb dX7_observe_5 (by decide) (fun c_5 => ?_) (fun c_5 => ?_)
  · refine lv_iconst (v := nI 0) hx hb dX7_observe_26 (by decide) ?_
    refine lv_istore (lv' := [(4, .int (nI 0)), (0, .ref ((ma 0))), (1, .int x), (2, .int y1), (3, .int y2)]) hx hb dX7_observe_27 hl (by decide) rfl (fun ls hl => ?_)
    refine lv_aload_n hx hb dX7_observe_29 rfl (lv_at hl 1 rfl) ?_
    refine lv_iload hx hb dX7_observe_30 (lv_at hl 0 rfl) ?_
    refine z_if_ne (tgt := 39) hx hb (nI_toInt (by decide)) dX7_observe_32 (by decide) (fun c_32 => ?_) (fun c_32 => ?_)
    · exact absurd c_32 (by omega)
    · refine lv_iconst (v := nI 1) hx hb dX7_observe_35 (by decide) ?_
      refine lv_goto (tgt := 49) hx hb dX7_observe_36 (by decide) ?_
      refine z_put (fs' := [.int (nI 1), .int (nI (ns A)), .ref ((ma 2)), .ref ((ma 3)), .ref ((ma 4)), .ref ((ma 5)), .ref ((ma 6)), .ref ((ma 7)), .ref ((ma 8)), .ref ((ma 9)), .ref ((ma 10)), .ref ((ma 11)), .ref ((ma 12)), .ref ((ma 13)), .ref ((ma 14)), .ref ((ma 15)), .ref ((ma 16)), .double bb, .int bf, .int (nI (nw A)), .ref ((ma 20)), .ref ((ma 21)), .ref ((ma 22)), .ref ((ma 23)), .int (nI (np A)), .ref ((ma 25)), .ref ((ma 26))]) hC hM (hmm 0 (by decide)) hg0 zcl_X7 (by decide) zl_X7_75 rfl rfl (by rfl) (Nat.le_of_ble_eq_true rfl) rfl dX7_observe_49 (fun H locs hM => ?_)
      obtain ⟨f_1, ef_1⟩ : ∃ z9, z9 = va_up f ((ma 0)) (eS 8 [.int (nI 1), .int (nI (ns A)), .ref ((ma 2)), .ref ((ma 3)), .ref ((ma 4)), .ref ((ma 5)), .ref ((ma 6)), .ref ((ma 7)), .ref ((ma 8)), .ref ((ma 9)), .ref ((ma 10)), .ref ((ma 11)), .ref ((ma 12)), .ref ((ma 13)), .ref ((ma 14)), .ref ((ma 15)), .ref ((ma 16)), .double bb, .int bf, .int (nI (nw A)), .ref ((ma 20)), .ref ((ma 21)), .ref ((ma 22)), .ref ((ma 23)), .int (nI (np A)), .ref ((ma 25)), .ref ((ma 26))]) := ⟨_, rfl⟩
      rw [← ef_1] at hM
      have hF_2 : f_1 ((ma 0)) = eS 8 [.int (nI 1), .int (nI (ns A)), .ref ((ma 2)), .ref ((ma 3)), .ref ((ma 4)), .ref ((ma 5)), .ref ((ma 6)), .ref ((ma 7)), .ref ((ma 8)), .ref ((ma 9)), .ref ((ma 10)), .ref ((ma 11)), .ref ((ma 12)), .ref ((ma 13)), .ref ((ma 14)), .ref ((ma 15)), .ref ((ma 16)), .double bb, .int bf, .int (nI (nw A)), .ref ((ma 20)), .ref ((ma 21)), .ref ((ma 22)), .ref ((ma 23)), .int (nI (np A)), .ref ((ma 25)), .ref ((ma 26))] := by rw [ef_1]; exact va_up_self _ _ _
      have hF_3 : f_1 ((ma 11)) = eZ K 1000 (fun j => nI ((A.1 11) j)) := by rw [ef_1]; exact (va_up_ne _ _ (mne hmi (by decide) (by decide) (show 11 ≠ 0 by decide))).trans hg11
      have hF_4 : f_1 ((ma 12)) = eZ K 6000 (fun j => nI ((A.1 12) j)) := by rw [ef_1]; exact (va_up_ne _ _ (mne hmi (by decide) (by decide) (show 12 ≠ 0 by decide))).trans hg12
      have hF_5 : f_1 ((ma 13)) = eD K 6000 A.2 := by rw [ef_1]; exact (va_up_ne _ _ (mne hmi (by decide) (by decide) (show 13 ≠ 0 by decide))).trans hg13
      have hF_6 : f_1 ((ma 14)) = eI K 6 (fun j => nI ((A.1 14) j)) := by rw [ef_1]; exact (va_up_ne _ _ (mne hmi (by decide) (by decide) (show 14 ≠ 0 by decide))).trans hg14
      refine lv_iconst (v := nI 0) hx hb dX7_observe_52 (by decide) ?_
      refine lv_istore (lv' := [(5, .int (nI 0)), (4, .int (nI 0)), (0, .ref ((ma 0))), (1, .int x), (2, .int y1), (3, .int y2)]) hx hb dX7_observe_53 hl (by decide) rfl (fun ls hl => ?_)
      refine lv_iload_n hx hb dX7_observe_55 rfl (lv_at hl 4 rfl) ?_
      refine lv_istore (lv' := [(6, .int y1), (5, .int (nI 0)), (4, .int (nI 0)), (0, .ref ((ma 0))), (1, .int x), (2, .int y1), (3, .int y2)]) hx hb dX7_observe_56 hl (by decide) rfl (fun ls hl => ?_)
      refine lv_iload hx hb dX7_observe_58 (lv_at hl 0 rfl) ?_
      refine lv_iload_n hx hb dX7_observe_60 rfl (lv_at hl 6 rfl) ?_
      refine z_icmp_gt (tgt := 150) hx hb rfl rfl dX7_observe_61 (by decide) (fun c_61 => ?_) (fun c_61 => ?_)
      · refine lv_iload hx hb dX7_observe_150 (lv_at hl 1 rfl) ?_
        rw [← hQ]
        exact z_iret hC hM hr hlk rfl (by decide) (by decide) (mr_x (qob1 (fun z => c_5 z.1)) (fun z => if_neg z) (mr_t hmm hmi hop hmc hF_2 (fun q h9 => by rw [ef_1]; simp only [va_up, h9, if_false])) (by decide)) dX7_observe_152
      · refine lv_aload_n hx hb dX7_observe_64 rfl (lv_at hl 3 rfl) ?_
        refine z_get hC hM (hmm 0 (by decide)) hF_2 zcl_X7 (by decide) zl_X7_75 rfl dX7_observe_65 ?_
        refine z_if_ne (tgt := 150) hx hb (nI_toInt (by decide)) dX7_observe_68 (by decide) (fun c_68 => ?_) (fun c_68 => ?_)
        · refine lv_iload hx hb dX7_observe_150 (lv_at hl 1 rfl) ?_
          rw [← hQ]
          exact z_iret hC hM hr hlk rfl (by decide) (by decide) (mr_x (qob1 (fun z => c_5 z.1)) (fun z => if_neg z) (mr_t hmm hmi hop hmc hF_2 (fun q h9 => by rw [ef_1]; simp only [va_up, h9, if_false])) (by decide)) dX7_observe_152
        · exact absurd c_68 (by omega)
  · skip
    obtain ⟨i, hi0, hi9, hxi⟩ := nI_of_range (Int.le_refl 0) c_5.1 c_5.2
    subst hxi
    have hi : i < ns A := by omega
    have hiv := iv_nI (i := i) (by omega)
    obtain ⟨w1, w2, w3, w4, w5, w6, w7, w8⟩ := hvS i hi
    have hkl := fN_le (gk A i) 1000
    refine lv_iload_n hx hb dX7_observe_8 rfl (lv_at hl 2 rfl) ?_
    refine z_fcalli (z_runS hC hM (c_isHour y1) zy_X7_isHour zm_X7_97 rfl rfl hl.1 (Nat.le_of_ble_eq_true rfl) ⟨by decide, by decide⟩ ⟨by decide, by decide⟩ dX7_observe_9) hM (fun H locs hM => ?_)
    refine z_if_eqB (tgt := 26) hx hb dX7_observe_12 (by decide) (fun c_12 => ?_) (fun c_12 => ?_)
    · refine lv_iconst (v := nI 0) hx hb dX7_observe_26 (by decide) ?_
      refine lv_istore (lv' := [(4, .int (nI 0)), (0, .ref ((ma 0))), (1, .int (nI i)), (2, .int y1), (3, .int y2)]) hx hb dX7_observe_27 hl (by decide) rfl (fun ls hl => ?_)
      refine lv_aload_n hx hb dX7_observe_29 rfl (lv_at hl 1 rfl) ?_
      refine lv_iload hx hb dX7_observe_30 (lv_at hl 0 rfl) ?_
      refine z_if_ne (tgt := 39) hx hb (nI_toInt (by decide)) dX7_observe_32 (by decide) (fun c_32 => ?_) (fun c_32 => ?_)
      · exact absurd c_32 (by omega)
      · refine lv_iconst (v := nI 1) hx hb dX7_observe_35 (by decide) ?_
        refine lv_goto (tgt := 49) hx hb dX7_observe_36 (by decide) ?_
        refine z_put (fs' := [.int (nI 1), .int (nI (ns A)), .ref ((ma 2)), .ref ((ma 3)), .ref ((ma 4)), .ref ((ma 5)), .ref ((ma 6)), .ref ((ma 7)), .ref ((ma 8)), .ref ((ma 9)), .ref ((ma 10)), .ref ((ma 11)), .ref ((ma 12)), .ref ((ma 13)), .ref ((ma 14)), .ref ((ma 15)), .ref ((ma 16)), .double bb, .int bf, .int (nI (nw A)), .ref ((ma 20)), .ref ((ma 21)), .ref ((ma 22)), .ref ((ma 23)), .int (nI (np A)), .ref ((ma 25)), .ref ((ma 26))]) hC hM (hmm 0 (by decide)) hg0 zcl_X7 (by decide) zl_X7_75 rfl rfl (by rfl) (Nat.le_of_ble_eq_true rfl) rfl dX7_observe_49 (fun H locs hM => ?_)
        obtain ⟨f_7, ef_7⟩ : ∃ z9, z9 = va_up f ((ma 0)) (eS 8 [.int (nI 1), .int (nI (ns A)), .ref ((ma 2)), .ref ((ma 3)), .ref ((ma 4)), .ref ((ma 5)), .ref ((ma 6)), .ref ((ma 7)), .ref ((ma 8)), .ref ((ma 9)), .ref ((ma 10)), .ref ((ma 11)), .ref ((ma 12)), .ref ((ma 13)), .ref ((ma 14)), .ref ((ma 15)), .ref ((ma 16)), .double bb, .int bf, .int (nI (nw A)), .ref ((ma 20)), .ref ((ma 21)), .ref ((ma 22)), .ref ((ma 23)), .int (nI (np A)), .ref ((ma 25)), .ref ((ma 26))]) := ⟨_, rfl⟩
        rw [← ef_7] at hM
        have hF_8 : f_7 ((ma 0)) = eS 8 [.int (nI 1), .int (nI (ns A)), .ref ((ma 2)), .ref ((ma 3)), .ref ((ma 4)), .ref ((ma 5)), .ref ((ma 6)), .ref ((ma 7)), .ref ((ma 8)), .ref ((ma 9)), .ref ((ma 10)), .ref ((ma 11)), .ref ((ma 12)), .ref ((ma 13)), .ref ((ma 14)), .ref ((ma 15)), .ref ((ma 16)), .double bb, .int bf, .int (nI (nw A)), .ref ((ma 20)), .ref ((ma 21)), .ref ((ma 22)), .ref ((ma 23)), .int (nI (np A)), .ref ((ma 25)), .ref ((ma 26))] := by rw [ef_7]; exact va_up_self _ _ _
        have hF_9 : f_7 ((ma 11)) = eZ K 1000 (fun j => nI ((A.1 11) j)) := by rw [ef_7]; exact (va_up_ne _ _ (mne hmi (by decide) (by decide) (show 11 ≠ 0 by decide))).trans hg11
        have hF_10 : f_7 ((ma 12)) = eZ K 6000 (fun j => nI ((A.1 12) j)) := by rw [ef_7]; exact (va_up_ne _ _ (mne hmi (by decide) (by decide) (show 12 ≠ 0 by decide))).trans hg12
        have hF_11 : f_7 ((ma 13)) = eD K 6000 A.2 := by rw [ef_7]; exact (va_up_ne _ _ (mne hmi (by decide) (by decide) (show 13 ≠ 0 by decide))).trans hg13
        have hF_12 : f_7 ((ma 14)) = eI K 6 (fun j => nI ((A.1 14) j)) := by rw [ef_7]; exact (va_up_ne _ _ (mne hmi (by decide) (by decide) (show 14 ≠ 0 by decide))).trans hg14
        refine lv_iconst (v := nI 0) hx hb dX7_observe_52 (by decide) ?_
        refine lv_istore (lv' := [(5, .int (nI 0)), (4, .int (nI 0)), (0, .ref ((ma 0))), (1, .int (nI i)), (2, .int y1), (3, .int y2)]) hx hb dX7_observe_53 hl (by decide) rfl (fun ls hl => ?_)
        refine lv_iload_n hx hb dX7_observe_55 rfl (lv_at hl 4 rfl) ?_
        refine lv_istore (lv' := [(6, .int y1), (5, .int (nI 0)), (4, .int (nI 0)), (0, .ref ((ma 0))), (1, .int (nI i)), (2, .int y1), (3, .int y2)]) hx hb dX7_observe_56 hl (by decide) rfl (fun ls hl => ?_)
        refine lv_iload hx hb dX7_observe_58 (lv_at hl 0 rfl) ?_
        refine lv_iload_n hx hb dX7_observe_60 rfl (lv_at hl 6 rfl) ?_
        refine z_icmp_gt (tgt := 150) hx hb rfl rfl dX7_observe_61 (by decide) (fun c_61 => ?_) (fun c_61 => ?_)
        · refine lv_iload hx hb dX7_observe_150 (lv_at hl 1 rfl) ?_
          rw [← hQ]
          exact z_iret hC hM hr hlk rfl (by decide) (by decide) (mr_x (qob1 (fun z => c_12 z.2.1)) (fun z => if_neg z) (mr_t hmm hmi hop hmc hF_8 (fun q h9 => by rw [ef_7]; simp only [va_up, h9, if_false])) (by decide)) dX7_observe_152
        · refine lv_aload_n hx hb dX7_observe_64 rfl (lv_at hl 3 rfl) ?_
          refine z_get hC hM (hmm 0 (by decide)) hF_8 zcl_X7 (by decide) zl_X7_75 rfl dX7_observe_65 ?_
          refine z_if_ne (tgt := 150) hx hb (nI_toInt (by decide)) dX7_observe_68 (by decide) (fun c_68 => ?_) (fun c_68 => ?_)
          · refine lv_iload hx hb dX7_observe_150 (lv_at hl 1 rfl) ?_
            rw [← hQ]
            exact z_iret hC hM hr hlk rfl (by decide) (by decide) (mr_x (qob1 (fun z => c_12 z.2.1)) (fun z => if_neg z) (mr_t hmm hmi hop hmc hF_8 (fun q h9 => by rw [ef_7]; simp only [va_up, h9, if_false])) (by decide)) dX7_observe_152
          · exact absurd c_68 (by omega)
    · refine lv_iload_n hx hb dX7_observe_15 rfl (lv_at hl 3 rfl) ?_
      refine z_fcalli (z_runS hC hM (c_isHour y2) zy_X7_isHour zm_X7_97 rfl rfl hl.1 (Nat.le_of_ble_eq_true rfl) ⟨by decide, by decide⟩ ⟨by decide, by decide⟩ dX7_observe_16) hM (fun H locs hM => ?_)
      refine z_if_eqB (tgt := 26) hx hb dX7_observe_19 (by decide) (fun c_19 => ?_) (fun c_19 => ?_)
      · refine lv_iconst (v := nI 0) hx hb dX7_observe_26 (by decide) ?_
        refine lv_istore (lv' := [(4, .int (nI 0)), (0, .ref ((ma 0))), (1, .int (nI i)), (2, .int y1), (3, .int y2)]) hx hb dX7_observe_27 hl (by decide) rfl (fun ls hl => ?_)
        refine lv_aload_n hx hb dX7_observe_29 rfl (lv_at hl 1 rfl) ?_
        refine lv_iload hx hb dX7_observe_30 (lv_at hl 0 rfl) ?_
        refine z_if_ne (tgt := 39) hx hb (nI_toInt (by decide)) dX7_observe_32 (by decide) (fun c_32 => ?_) (fun c_32 => ?_)
        · exact absurd c_32 (by omega)
        · refine lv_iconst (v := nI 1) hx hb dX7_observe_35 (by decide) ?_
          refine lv_goto (tgt := 49) hx hb dX7_observe_36 (by decide) ?_
          refine z_put (fs' := [.int (nI 1), .int (nI (ns A)), .ref ((ma 2)), .ref ((ma 3)), .ref ((ma 4)), .ref ((ma 5)), .ref ((ma 6)), .ref ((ma 7)), .ref ((ma 8)), .ref ((ma 9)), .ref ((ma 10)), .ref ((ma 11)), .ref ((ma 12)), .ref ((ma 13)), .ref ((ma 14)), .ref ((ma 15)), .ref ((ma 16)), .double bb, .int bf, .int (nI (nw A)), .ref ((ma 20)), .ref ((ma 21)), .ref ((ma 22)), .ref ((ma 23)), .int (nI (np A)), .ref ((ma 25)), .ref ((ma 26))]) hC hM (hmm 0 (by decide)) hg0 zcl_X7 (by decide) zl_X7_75 rfl rfl (by rfl) (Nat.le_of_ble_eq_true rfl) rfl dX7_observe_49 (fun H locs hM => ?_)
          obtain ⟨f_13, ef_13⟩ : ∃ z9, z9 = va_up f ((ma 0)) (eS 8 [.int (nI 1), .int (nI (ns A)), .ref ((ma 2)), .ref ((ma 3)), .ref ((ma 4)), .ref ((ma 5)), .ref ((ma 6)), .ref ((ma 7)), .ref ((ma 8)), .ref ((ma 9)), .ref ((ma 10)), .ref ((ma 11)), .ref ((ma 12)), .ref ((ma 13)), .ref ((ma 14)), .ref ((ma 15)), .ref ((ma 16)), .double bb, .int bf, .int (nI (nw A)), .ref ((ma 20)), .ref ((ma 21)), .ref ((ma 22)), .ref ((ma 23)), .int (nI (np A)), .ref ((ma 25)), .ref ((ma 26))]) := ⟨_, rfl⟩
          rw [← ef_13] at hM
          have hF_14 : f_13 ((ma 0)) = eS 8 [.int (nI 1), .int (nI (ns A)), .ref ((ma 2)), .ref ((ma 3)), .ref ((ma 4)), .ref ((ma 5)), .ref ((ma 6)), .ref ((ma 7)), .ref ((ma 8)), .ref ((ma 9)), .ref ((ma 10)), .ref ((ma 11)), .ref ((ma 12)), .ref ((ma 13)), .ref ((ma 14)), .ref ((ma 15)), .ref ((ma 16)), .double bb, .int bf, .int (nI (nw A)), .ref ((ma 20)), .ref ((ma 21)), .ref ((ma 22)), .ref ((ma 23)), .int (nI (np A)), .ref ((ma 25)), .ref ((ma 26))] := by rw [ef_13]; exact va_up_self _ _ _
          have hF_15 : f_13 ((ma 11)) = eZ K 1000 (fun j => nI ((A.1 11) j)) := by rw [ef_13]; exact (va_up_ne _ _ (mne hmi (by decide) (by decide) (show 11 ≠ 0 by decide))).trans hg11
          have hF_16 : f_13 ((ma 12)) = eZ K 6000 (fun j => nI ((A.1 12) j)) := by rw [ef_13]; exact (va_up_ne _ _ (mne hmi (by decide) (by decide) (show 12 ≠ 0 by decide))).trans hg12
          have hF_17 : f_13 ((ma 13)) = eD K 6000 A.2 := by rw [ef_13]; exact (va_up_ne _ _ (mne hmi (by decide) (by decide) (show 13 ≠ 0 by decide))).trans hg13
          have hF_18 : f_13 ((ma 14)) = eI K 6 (fun j => nI ((A.1 14) j)) := by rw [ef_13]; exact (va_up_ne _ _ (mne hmi (by decide) (by decide) (show 14 ≠ 0 by decide))).trans hg14
          refine lv_iconst (v := nI 0) hx hb dX7_observe_52 (by decide) ?_
          refine lv_istore (lv' := [(5, .int (nI 0)), (4, .int (nI 0)), (0, .ref ((ma 0))), (1, .int (nI i)), (2, .int y1), (3, .int y2)]) hx hb dX7_observe_53 hl (by decide) rfl (fun ls hl => ?_)
          refine lv_iload_n hx hb dX7_observe_55 rfl (lv_at hl 4 rfl) ?_
          refine lv_istore (lv' := [(6, .int y1), (5, .int (nI 0)), (4, .int (nI 0)), (0, .ref ((ma 0))), (1, .int (nI i)), (2, .int y1), (3, .int y2)]) hx hb dX7_observe_56 hl (by decide) rfl (fun ls hl => ?_)
          refine lv_iload hx hb dX7_observe_58 (lv_at hl 0 rfl) ?_
          refine lv_iload_n hx hb dX7_observe_60 rfl (lv_at hl 6 rfl) ?_
          refine z_icmp_gt (tgt := 150) hx hb rfl rfl dX7_observe_61 (by decide) (fun c_61 => ?_) (fun c_61 => ?_)
          · refine lv_iload hx hb dX7_observe_150 (lv_at hl 1 rfl) ?_
            rw [← hQ]
            exact z_iret hC hM hr hlk rfl (by decide) (by decide) (mr_x (qob1 (fun z => c_19 z.2.2)) (fun z => if_neg z) (mr_t hmm hmi hop hmc hF_14 (fun q h9 => by rw [ef_13]; simp only [va_up, h9, if_false])) (by decide)) dX7_observe_152
          · refine lv_aload_n hx hb dX7_observe_64 rfl (lv_at hl 3 rfl) ?_
            refine z_get hC hM (hmm 0 (by decide)) hF_14 zcl_X7 (by decide) zl_X7_75 rfl dX7_observe_65 ?_
            refine z_if_ne (tgt := 150) hx hb (nI_toInt (by decide)) dX7_observe_68 (by decide) (fun c_68 => ?_) (fun c_68 => ?_)
            · refine lv_iload hx hb dX7_observe_150 (lv_at hl 1 rfl) ?_
              rw [← hQ]
              exact z_iret hC hM hr hlk rfl (by decide) (by decide) (mr_x (qob1 (fun z => c_19 z.2.2)) (fun z => if_neg z) (mr_t hmm hmi hop hmc hF_14 (fun q h9 => by rw [ef_13]; simp only [va_up, h9, if_false])) (by decide)) dX7_observe_152
            · exact absurd c_68 (by omega)
      · skip
        obtain ⟨a, ha1, ha2, hxa⟩ := nI_of_range (by decide) c_12.1 c_12.2
        subst hxa
        have hiva := iv_nI (i := a) (by omega)
        obtain ⟨b, hb1, hb2, hxb⟩ := nI_of_range (by decide) c_19.1 c_19.2
        subst hxb
        have hivb := iv_nI (i := b) (by omega)
        refine lv_iconst (v := nI 1) hx hb dX7_observe_22 (by decide) ?_
        refine lv_goto (tgt := 27) hx hb dX7_observe_23 (by decide) ?_
        refine lv_istore (lv' := [(4, .int (nI 1)), (0, .ref ((ma 0))), (1, .int (nI i)), (2, .int (nI a)), (3, .int (nI b))]) hx hb dX7_observe_27 hl (by decide) rfl (fun ls hl => ?_)
        refine lv_aload_n hx hb dX7_observe_29 rfl (lv_at hl 1 rfl) ?_
        refine lv_iload hx hb dX7_observe_30 (lv_at hl 0 rfl) ?_
        refine z_if_ne (tgt := 39) hx hb (nI_toInt (by decide)) dX7_observe_32 (by decide) (fun c_32 => ?_) (fun c_32 => ?_)
        · refine lv_iload_n hx hb dX7_observe_39 rfl (lv_at hl 4 rfl) ?_
          refine lv_iload_n hx hb dX7_observe_40 rfl (lv_at hl 3 rfl) ?_
          refine z_icmp_ge (tgt := 48) hx hb (nI_toInt (by omega)) (nI_toInt (by omega)) dX7_observe_41 (by decide) (fun c_41 => ?_) (fun c_41 => ?_)
          · skip
            have hnlt : ¬ (nI b).toInt < (nI a).toInt := by rw [nI_toInt (by omega), nI_toInt (by omega)]; omega
            refine lv_iconst (v := nI 0) hx hb dX7_observe_48 (by decide) ?_
            refine z_put (fs' := [.int (nI 0), .int (nI (ns A)), .ref ((ma 2)), .ref ((ma 3)), .ref ((ma 4)), .ref ((ma 5)), .ref ((ma 6)), .ref ((ma 7)), .ref ((ma 8)), .ref ((ma 9)), .ref ((ma 10)), .ref ((ma 11)), .ref ((ma 12)), .ref ((ma 13)), .ref ((ma 14)), .ref ((ma 15)), .ref ((ma 16)), .double bb, .int bf, .int (nI (nw A)), .ref ((ma 20)), .ref ((ma 21)), .ref ((ma 22)), .ref ((ma 23)), .int (nI (np A)), .ref ((ma 25)), .ref ((ma 26))]) hC hM (hmm 0 (by decide)) hg0 zcl_X7 (by decide) zl_X7_75 rfl rfl (by rfl) (Nat.le_of_ble_eq_true rfl) rfl dX7_observe_49 (fun H locs hM => ?_)
            obtain ⟨f_19, ef_19⟩ : ∃ z9, z9 = va_up f ((ma 0)) (eS 8 [.int (nI 0), .int (nI (ns A)), .ref ((ma 2)), .ref ((ma 3)), .ref ((ma 4)), .ref ((ma 5)), .ref ((ma 6)), .ref ((ma 7)), .ref ((ma 8)), .ref ((ma 9)), .ref ((ma 10)), .ref ((ma 11)), .ref ((ma 12)), .ref ((ma 13)), .ref ((ma 14)), .ref ((ma 15)), .ref ((ma 16)), .double bb, .int bf, .int (nI (nw A)), .ref ((ma 20)), .ref ((ma 21)), .ref ((ma 22)), .ref ((ma 23)), .int (nI (np A)), .ref ((ma 25)), .ref ((ma 26))]) := ⟨_, rfl⟩
            rw [← ef_19] at hM
            have hF_20 : f_19 ((ma 0)) = eS 8 [.int (nI 0), .int (nI (ns A)), .ref ((ma 2)), .ref ((ma 3)), .ref ((ma 4)), .ref ((ma 5)), .ref ((ma 6)), .ref ((ma 7)), .ref ((ma 8)), .ref ((ma 9)), .ref ((ma 10)), .ref ((ma 11)), .ref ((ma 12)), .ref ((ma 13)), .ref ((ma 14)), .ref ((ma 15)), .ref ((ma 16)), .double bb, .int bf, .int (nI (nw A)), .ref ((ma 20)), .ref ((ma 21)), .ref ((ma 22)), .ref ((ma 23)), .int (nI (np A)), .ref ((ma 25)), .ref ((ma 26))] := by rw [ef_19]; exact va_up_self _ _ _
            have hF_21 : f_19 ((ma 11)) = eZ K 1000 (fun j => nI ((A.1 11) j)) := by rw [ef_19]; exact (va_up_ne _ _ (mne hmi (by decide) (by decide) (show 11 ≠ 0 by decide))).trans hg11
            have hF_22 : f_19 ((ma 12)) = eZ K 6000 (fun j => nI ((A.1 12) j)) := by rw [ef_19]; exact (va_up_ne _ _ (mne hmi (by decide) (by decide) (show 12 ≠ 0 by decide))).trans hg12
            have hF_23 : f_19 ((ma 13)) = eD K 6000 A.2 := by rw [ef_19]; exact (va_up_ne _ _ (mne hmi (by decide) (by decide) (show 13 ≠ 0 by decide))).trans hg13
            have hF_24 : f_19 ((ma 14)) = eI K 6 (fun j => nI ((A.1 14) j)) := by rw [ef_19]; exact (va_up_ne _ _ (mne hmi (by decide) (by decide) (show 14 ≠ 0 by decide))).trans hg14
            refine lv_iconst (v := nI 0) hx hb dX7_observe_52 (by decide) ?_
            refine lv_istore (lv' := [(5, .int (nI 0)), (4, .int (nI 1)), (0, .ref ((ma 0))), (1, .int (nI i)), (2, .int (nI a)), (3, .int (nI b))]) hx hb dX7_observe_53 hl (by decide) rfl (fun ls hl => ?_)
            refine lv_iload_n hx hb dX7_observe_55 rfl (lv_at hl 4 rfl) ?_
            refine lv_istore (lv' := [(6, .int (nI a)), (5, .int (nI 0)), (4, .int (nI 1)), (0, .ref ((ma 0))), (1, .int (nI i)), (2, .int (nI a)), (3, .int (nI b))]) hx hb dX7_observe_56 hl (by decide) rfl (fun ls hl => ?_)
            obtain ⟨n, hn⟩ : ∃ z, z = b + 1 - a := ⟨_, rfl⟩
            have hMRc := mr_t (t' := nI 0) hmm hmi hop hmc hF_20 (fun q h9 => by rw [ef_19]; simp only [va_up, h9, if_false])
            have hMIc := hMRc.2.1
            have LOOP58 : ∀ v, v ≤ n → ∀ (ls : Array Slot) (H : Heap) (locs : List Loc) (f1 : Nat → va_E), lv_has ls 7 [(6, .int (nI (a + v))), (5, .int (nI ((obA A i a v).1 14 i - A.1 14 i))), (0, .ref ((ma 0))), (1, .int (nI i)), (2, .int (nI a)), (3, .int (nI b))] → zM base K L f1 s H locs → (MI K L f1 (obA A i a v) ma (nI 0)) → (∀ q, (∀ k, mk k → q ≠ ma k) → f1 q = f q) → W p l e (zr 2 0 0 47) s m args below meth c H locs 0 0 Q (F0 m 58 ls []) := by
              refine z_down n ?_ ?_
              · intro ls H locs f1 hl hM hMIv hfr
                obtain ⟨-, -, ⟨sg1, cg1, bb1, bf1⟩, op1, hop1, hmc1⟩ := id hMIv
                have hv0c : f1 (ma 0) = eS 8 [.int (nI 0), .int (nI (ns (obA A i a n))), .ref ((ma 2)), .ref ((ma 3)), .ref ((ma 4)), .ref ((ma 5)), .ref ((ma 6)), .ref ((ma 7)), .ref ((ma 8)), .ref ((ma 9)), .ref ((ma 10)), .ref ((ma 11)), .ref ((ma 12)), .ref ((ma 13)), .ref ((ma 14)), .ref ((ma 15)), .ref ((ma 16)), .double bb1, .int bf1, .int (nI (nw (obA A i a n))), .ref ((ma 20)), .ref ((ma 21)), .ref ((ma 22)), .ref ((ma 23)), .int (nI (np (obA A i a n))), .ref ((ma 25)), .ref ((ma 26))] := hmc1 0 (by decide)
                have hv11c : f1 (ma 11) = eZ K 1000 (fun j => nI (((obA A i a n).1 11) j)) := hmc1 11 (by decide)
                have hv12c : f1 (ma 12) = eZ K 6000 (fun j => nI (((obA A i a n).1 12) j)) := hmc1 12 (by decide)
                have hv13c : f1 (ma 13) = eD K 6000 ((obA A i a n).2) := hmc1 13 (by decide)
                have hv14c : f1 (ma 14) = eI K 6 (fun j => nI (((obA A i a n).1 14) j)) := hmc1 14 (by decide)
                refine lv_iload hx hb dX7_observe_58 (lv_at hl 0 rfl) ?_
                refine lv_iload_n hx hb dX7_observe_60 rfl (lv_at hl 5 rfl) ?_
                refine z_icmp_gt (tgt := 150) hx hb (nI_toInt (by omega)) (nI_toInt (by omega)) dX7_observe_61 (by decide) (fun c_61 => ?_) (fun c_61 => ?_)
                · refine lv_iload hx hb dX7_observe_150 (lv_at hl 1 rfl) ?_
                  rw [← hQ]
                  exact z_iret hC hM hr hlk rfl (by decide) (by decide) (mr_0 (qob0 ⟨c_5, c_12, c_19⟩ hnlt) (by rw [v_observe, a_observe, if_pos (qob0 ⟨c_5, c_12, c_19⟩ hnlt), hiv, hiva, hivb, ← hn]) (by rw [a_observe, if_pos (qob0 ⟨c_5, c_12, c_19⟩ hnlt), hiv, hiva, hivb, ← hn]) ⟨rfl, hMIv, hfr⟩) dX7_observe_152
                · exact absurd c_61 (by omega)
              · intro v hv ih ls H locs f1 hl hM hMIv hfr
                obtain ⟨-, -, ⟨sg1, cg1, bb1, bf1⟩, op1, hop1, hmc1⟩ := id hMIv
                have hv0c : f1 (ma 0) = eS 8 [.int (nI 0), .int (nI (ns (obA A i a v))), .ref ((ma 2)), .ref ((ma 3)), .ref ((ma 4)), .ref ((ma 5)), .ref ((ma 6)), .ref ((ma 7)), .ref ((ma 8)), .ref ((ma 9)), .ref ((ma 10)), .ref ((ma 11)), .ref ((ma 12)), .ref ((ma 13)), .ref ((ma 14)), .ref ((ma 15)), .ref ((ma 16)), .double bb1, .int bf1, .int (nI (nw (obA A i a v))), .ref ((ma 20)), .ref ((ma 21)), .ref ((ma 22)), .ref ((ma 23)), .int (nI (np (obA A i a v))), .ref ((ma 25)), .ref ((ma 26))] := hmc1 0 (by decide)
                have hv11c : f1 (ma 11) = eZ K 1000 (fun j => nI (((obA A i a v).1 11) j)) := hmc1 11 (by decide)
                have hv12c : f1 (ma 12) = eZ K 6000 (fun j => nI (((obA A i a v).1 12) j)) := hmc1 12 (by decide)
                have hv13c : f1 (ma 13) = eD K 6000 ((obA A i a v).2) := hmc1 13 (by decide)
                have hv14c : f1 (ma 14) = eI K 6 (fun j => nI (((obA A i a v).1 14) j)) := hmc1 14 (by decide)
                have hVv := hV.obs (a := a) hi v (by omega)
                have hii : i < ns (obA A i a v) := by rw [ob_ns]; exact hi
                have hz1 := hVv.2.2.2.2.2.2.2.2.1 (a + v)
                have hz2 := hVv.2.2.2.2.2.2.1 (1000 * i + (a + v))
                refine lv_iload hx hb dX7_observe_58 (lv_at hl 0 rfl) ?_
                refine lv_iload_n hx hb dX7_observe_60 rfl (lv_at hl 5 rfl) ?_
                refine z_icmp_gt (tgt := 150) hx hb (nI_toInt (by omega)) (nI_toInt (by omega)) dX7_observe_61 (by decide) (fun c_61 => ?_) (fun c_61 => ?_)
                · exact absurd c_61 (by omega)
                · refine lv_aload_n hx hb dX7_observe_64 rfl (lv_at hl 2 rfl) ?_
                  refine z_get hC hM (hmm 0 (by decide)) hv0c zcl_X7 (by decide) zl_X7_75 rfl dX7_observe_65 ?_
                  refine z_if_ne (tgt := 150) hx hb (nI_toInt (by decide)) dX7_observe_68 (by decide) (fun c_68 => ?_) (fun c_68 => ?_)
                  · exact absurd c_68 (by omega)
                  · refine lv_aload_n hx hb dX7_observe_71 rfl (lv_at hl 2 rfl) ?_
                    refine z_get hC hM (hmm 0 (by decide)) hv0c zcl_X7 (by decide) zl_X7_37 rfl dX7_observe_72 ?_
                    refine lv_iload hx hb dX7_observe_75 (lv_at hl 0 rfl) ?_
                    refine z_zald hC hM (hmm 11 (by decide)) hv11c (by omega) (by omega) dX7_observe_77 ?_
                    refine z_if_ne (tgt := 144) hx hb (nI_toInt (by omega)) dX7_observe_78 (by decide) (fun c_78 => ?_) (fun c_78 => ?_)
                    · refine lv_iinc (v := nI ((a + v) + 1)) (lv' := [(6, .int (nI ((a + v) + 1))), (5, .int (nI ((obA A i a v).1 14 i - A.1 14 i))), (0, .ref ((ma 0))), (1, .int (nI i)), (2, .int (nI a)), (3, .int (nI b))]) hx hb dX7_observe_144 hl (k := 0) rfl (nI_add (a + v) 1) (by decide) rfl (fun ls hl => ?_)
                      refine lv_goto (tgt := 58) hx hb dX7_observe_147 (by decide) ?_
                      have e9 : obA A i a (v + 1) = obA A i a v := by rw [obA, if_pos (Or.inl (by omega))]
                      rw [← e9] at hl
                      exact ih ls H locs f1 (lv_sub hl [0, 1, 2, 3, 4, 5] rfl) hM (by rw [e9]; exact hMIv) hfr
                    · refine lv_aload_n hx hb dX7_observe_81 rfl (lv_at hl 2 rfl) ?_
                      refine z_get hC hM (hmm 0 (by decide)) hv0c zcl_X7 (by decide) zl_X7_41 rfl dX7_observe_82 ?_
                      refine lv_sipush (v := nI 1000) hx hb dX7_observe_85 (by decide) ?_
                      refine lv_iload_n hx hb dX7_observe_88 rfl (lv_at hl 3 rfl) ?_
                      refine z_imul hx hb dX7_observe_89 ?_
                      refine lv_iload hx hb dX7_observe_90 (lv_at hl 0 rfl) ?_
                      refine z_iadd hx hb dX7_observe_92 ?_
                      refine z_zald hC hM (hmm 12 (by decide)) hv12c (by omega) (by omega) dX7_observe_93 ?_
                      refine z_if_ne (tgt := 144) hx hb (nI_toInt (by omega)) dX7_observe_94 (by decide) (fun c_94 => ?_) (fun c_94 => ?_)
                      · refine lv_iinc (v := nI ((a + v) + 1)) (lv' := [(6, .int (nI ((a + v) + 1))), (5, .int (nI ((obA A i a v).1 14 i - A.1 14 i))), (0, .ref ((ma 0))), (1, .int (nI i)), (2, .int (nI a)), (3, .int (nI b))]) hx hb dX7_observe_144 hl (k := 0) rfl (nI_add (a + v) 1) (by decide) rfl (fun ls hl => ?_)
                        refine lv_goto (tgt := 58) hx hb dX7_observe_147 (by decide) ?_
                        have e9 : obA A i a (v + 1) = obA A i a v := by rw [obA, if_pos (Or.inr (by omega))]
                        rw [← e9] at hl
                        exact ih ls H locs f1 (lv_sub hl [0, 1, 2, 3, 4, 5] rfl) hM (by rw [e9]; exact hMIv) hfr
                      · refine lv_aload_n hx hb dX7_observe_97 rfl (lv_at hl 2 rfl) ?_
                        refine z_get hC hM (hmm 0 (by decide)) hv0c zcl_X7 (by decide) zl_X7_41 rfl dX7_observe_98 ?_
                        refine lv_sipush (v := nI 1000) hx hb dX7_observe_101 (by decide) ?_
                        refine lv_iload_n hx hb dX7_observe_104 rfl (lv_at hl 3 rfl) ?_
                        refine z_imul hx hb dX7_observe_105 ?_
                        refine lv_iload hx hb dX7_observe_106 (lv_at hl 0 rfl) ?_
                        refine z_iadd hx hb dX7_observe_108 ?_
                        refine lv_iconst (v := nI 1) hx hb dX7_observe_109 (by decide) ?_
                        refine z_zast hC hM (hmm 12 (by decide)) hv12c (by omega) (by omega) (by decide) dX7_observe_110 (fun H locs hM => ?_)
                        rw [up_nI] at hM
                        obtain ⟨f_25, ef_25⟩ : ∃ z9, z9 = va_up f1 ((ma 12)) (eZ K 6000 (fun j => nI ((va_up ((obA A i a v).1 12) ((1000 * i) + (a + v)) 1) j))) := ⟨_, rfl⟩
                        rw [← ef_25] at hM
                        have hF_26 : f_25 ((ma 0)) = eS 8 [.int (nI 0), .int (nI (ns (obA A i a v))), .ref ((ma 2)), .ref ((ma 3)), .ref ((ma 4)), .ref ((ma 5)), .ref ((ma 6)), .ref ((ma 7)), .ref ((ma 8)), .ref ((ma 9)), .ref ((ma 10)), .ref ((ma 11)), .ref ((ma 12)), .ref ((ma 13)), .ref ((ma 14)), .ref ((ma 15)), .ref ((ma 16)), .double bb1, .int bf1, .int (nI (nw (obA A i a v))), .ref ((ma 20)), .ref ((ma 21)), .ref ((ma 22)), .ref ((ma 23)), .int (nI (np (obA A i a v))), .ref ((ma 25)), .ref ((ma 26))] := by rw [ef_25]; exact (va_up_ne _ _ (mne hmi (by decide) (by decide) (show 0 ≠ 12 by decide))).trans hv0c
                        have hF_27 : f_25 ((ma 11)) = eZ K 1000 (fun j => nI (((obA A i a v).1 11) j)) := by rw [ef_25]; exact (va_up_ne _ _ (mne hmi (by decide) (by decide) (show 11 ≠ 12 by decide))).trans hv11c
                        have hF_28 : f_25 ((ma 12)) = eZ K 6000 (fun j => nI ((va_up ((obA A i a v).1 12) ((1000 * i) + (a + v)) 1) j)) := by rw [ef_25]; exact va_up_self _ _ _
                        have hF_29 : f_25 ((ma 13)) = eD K 6000 ((obA A i a v).2) := by rw [ef_25]; exact (va_up_ne _ _ (mne hmi (by decide) (by decide) (show 13 ≠ 12 by decide))).trans hv13c
                        have hF_30 : f_25 ((ma 14)) = eI K 6 (fun j => nI (((obA A i a v).1 14) j)) := by rw [ef_25]; exact (va_up_ne _ _ (mne hmi (by decide) (by decide) (show 14 ≠ 12 by decide))).trans hv14c
                        refine lv_aload_n hx hb dX7_observe_111 rfl (lv_at hl 2 rfl) ?_
                        refine z_get hC hM (hmm 0 (by decide)) hF_26 zcl_X7 (by decide) zl_X7_44 rfl dX7_observe_112 ?_
                        refine lv_sipush (v := nI 1000) hx hb dX7_observe_115 (by decide) ?_
                        refine lv_iload_n hx hb dX7_observe_118 rfl (lv_at hl 3 rfl) ?_
                        refine z_imul hx hb dX7_observe_119 ?_
                        refine lv_iload hx hb dX7_observe_120 (lv_at hl 0 rfl) ?_
                        refine z_iadd hx hb dX7_observe_122 ?_
                        refine lv_aload_n hx hb dX7_observe_123 rfl (lv_at hl 2 rfl) ?_
                        refine lv_iload_n hx hb dX7_observe_124 rfl (lv_at hl 3 rfl) ?_
                        refine lv_iload hx hb dX7_observe_125 (lv_at hl 0 rfl) ?_
                        refine z_fcalld (z_runV hC hM (m_lightOf hVv ⟨hmm, (sg1, cg1, bb1, bf1), op1, fun k hk hk10 => (by rw [ef_25]; exact (va_up_ne _ _ (mne hmi hk (by decide) (show k ≠ 12 by omega))).trans (hmc1 k hk))⟩ hii (by omega) (t := nI 0)) zy_X7_lightOf zm_X7_100 (hmm 0 (by decide)) hF_26 zcl_X7 rfl rfl rfl hl.1 (Nat.le_of_ble_eq_true rfl) ⟨by decide, by decide⟩ ⟨by decide, by decide⟩ dX7_observe_127) hM (fun H locs hM => ?_)
                        refine z_dast hC hM (hmm 13 (by decide)) hF_29 (by omega) (by omega) dX7_observe_130 (fun H locs hM => ?_)
                        obtain ⟨f_31, ef_31⟩ : ∃ z9, z9 = va_up f_25 ((ma 13)) (eD K 6000 (va_up ((obA A i a v).2) ((1000 * i) + (a + v)) (ltV (obA A i a v) i (a + v)))) := ⟨_, rfl⟩
                        rw [← ef_31] at hM
                        have hF_32 : f_31 ((ma 0)) = eS 8 [.int (nI 0), .int (nI (ns (obA A i a v))), .ref ((ma 2)), .ref ((ma 3)), .ref ((ma 4)), .ref ((ma 5)), .ref ((ma 6)), .ref ((ma 7)), .ref ((ma 8)), .ref ((ma 9)), .ref ((ma 10)), .ref ((ma 11)), .ref ((ma 12)), .ref ((ma 13)), .ref ((ma 14)), .ref ((ma 15)), .ref ((ma 16)), .double bb1, .int bf1, .int (nI (nw (obA A i a v))), .ref ((ma 20)), .ref ((ma 21)), .ref ((ma 22)), .ref ((ma 23)), .int (nI (np (obA A i a v))), .ref ((ma 25)), .ref ((ma 26))] := by rw [ef_31]; exact (va_up_ne _ _ (mne hmi (by decide) (by decide) (show 0 ≠ 13 by decide))).trans hF_26
                        have hF_33 : f_31 ((ma 11)) = eZ K 1000 (fun j => nI (((obA A i a v).1 11) j)) := by rw [ef_31]; exact (va_up_ne _ _ (mne hmi (by decide) (by decide) (show 11 ≠ 13 by decide))).trans hF_27
                        have hF_34 : f_31 ((ma 12)) = eZ K 6000 (fun j => nI ((va_up ((obA A i a v).1 12) ((1000 * i) + (a + v)) 1) j)) := by rw [ef_31]; exact (va_up_ne _ _ (mne hmi (by decide) (by decide) (show 12 ≠ 13 by decide))).trans hF_28
                        have hF_35 : f_31 ((ma 13)) = eD K 6000 (va_up ((obA A i a v).2) ((1000 * i) + (a + v)) (ltV (obA A i a v) i (a + v))) := by rw [ef_31]; exact va_up_self _ _ _
                        have hF_36 : f_31 ((ma 14)) = eI K 6 (fun j => nI (((obA A i a v).1 14) j)) := by rw [ef_31]; exact (va_up_ne _ _ (mne hmi (by decide) (by decide) (show 14 ≠ 13 by decide))).trans hF_30
                        refine lv_aload_n hx hb dX7_observe_131 rfl (lv_at hl 2 rfl) ?_
                        refine z_get hC hM (hmm 0 (by decide)) hF_32 zcl_X7 (by decide) zl_X7_48 rfl dX7_observe_132 ?_
                        refine lv_iload_n hx hb dX7_observe_135 rfl (lv_at hl 3 rfl) ?_
                        refine lv_dup2_11 hx hb dX7_observe_136 rfl rfl ?_
                        refine z_iald hC hM (hmm 14 (by decide)) hF_36 (by omega) (by omega) dX7_observe_137 ?_
                        refine lv_iconst (v := nI 1) hx hb dX7_observe_138 (by decide) ?_
                        refine z_iadd hx hb dX7_observe_139 ?_
                        refine z_iast hC hM (hmm 14 (by decide)) hF_36 (by omega) (by omega) dX7_observe_140 (fun H locs hM => ?_)
                        rw [up_nI] at hM
                        obtain ⟨f_37, ef_37⟩ : ∃ z9, z9 = va_up f_31 ((ma 14)) (eI K 6 (fun j => nI ((va_up ((obA A i a v).1 14) i ((((obA A i a v).1 14) i) + 1)) j))) := ⟨_, rfl⟩
                        rw [← ef_37] at hM
                        have hF_38 : f_37 ((ma 0)) = eS 8 [.int (nI 0), .int (nI (ns (obA A i a v))), .ref ((ma 2)), .ref ((ma 3)), .ref ((ma 4)), .ref ((ma 5)), .ref ((ma 6)), .ref ((ma 7)), .ref ((ma 8)), .ref ((ma 9)), .ref ((ma 10)), .ref ((ma 11)), .ref ((ma 12)), .ref ((ma 13)), .ref ((ma 14)), .ref ((ma 15)), .ref ((ma 16)), .double bb1, .int bf1, .int (nI (nw (obA A i a v))), .ref ((ma 20)), .ref ((ma 21)), .ref ((ma 22)), .ref ((ma 23)), .int (nI (np (obA A i a v))), .ref ((ma 25)), .ref ((ma 26))] := by rw [ef_37]; exact (va_up_ne _ _ (mne hmi (by decide) (by decide) (show 0 ≠ 14 by decide))).trans hF_32
                        have hF_39 : f_37 ((ma 11)) = eZ K 1000 (fun j => nI (((obA A i a v).1 11) j)) := by rw [ef_37]; exact (va_up_ne _ _ (mne hmi (by decide) (by decide) (show 11 ≠ 14 by decide))).trans hF_33
                        have hF_40 : f_37 ((ma 12)) = eZ K 6000 (fun j => nI ((va_up ((obA A i a v).1 12) ((1000 * i) + (a + v)) 1) j)) := by rw [ef_37]; exact (va_up_ne _ _ (mne hmi (by decide) (by decide) (show 12 ≠ 14 by decide))).trans hF_34
                        have hF_41 : f_37 ((ma 13)) = eD K 6000 (va_up ((obA A i a v).2) ((1000 * i) + (a + v)) (ltV (obA A i a v) i (a + v))) := by rw [ef_37]; exact (va_up_ne _ _ (mne hmi (by decide) (by decide) (show 13 ≠ 14 by decide))).trans hF_35
                        have hF_42 : f_37 ((ma 14)) = eI K 6 (fun j => nI ((va_up ((obA A i a v).1 14) i ((((obA A i a v).1 14) i) + 1)) j)) := by rw [ef_37]; exact va_up_self _ _ _
                        refine lv_iinc (v := nI (((obA A i a v).1 14 i - A.1 14 i) + 1)) (lv' := [(5, .int (nI (((obA A i a v).1 14 i - A.1 14 i) + 1))), (6, .int (nI (a + v))), (0, .ref ((ma 0))), (1, .int (nI i)), (2, .int (nI a)), (3, .int (nI b))]) hx hb dX7_observe_141 hl (k := 1) rfl (nI_add ((obA A i a v).1 14 i - A.1 14 i) 1) (by decide) rfl (fun ls hl => ?_)
                        refine lv_iinc (v := nI ((a + v) + 1)) (lv' := [(6, .int (nI ((a + v) + 1))), (5, .int (nI (((obA A i a v).1 14 i - A.1 14 i) + 1))), (0, .ref ((ma 0))), (1, .int (nI i)), (2, .int (nI a)), (3, .int (nI b))]) hx hb dX7_observe_144 hl (k := 1) rfl (nI_add (a + v) 1) (by decide) rfl (fun ls hl => ?_)
                        refine lv_goto (tgt := 58) hx hb dX7_observe_147 (by decide) ?_
                        have hfu9 : ∀ k, mk k → k ≠ 12 → k ≠ 13 → k ≠ 14 → f_37 (ma k) = f1 (ma k) := fun k hk n12 n13 n14 => by
                          have m12 := mne hmi hk (show mk 12 by decide) n12
                          have m13 := mne hmi hk (show mk 13 by decide) n13
                          have m14 := mne hmi hk (show mk 14 by decide) n14
                          rw [ef_37, ef_31, ef_25]
                          simp only [va_up, m12, m13, m14, if_false]
                        have hfr9 : ∀ q, (∀ k, mk k → q ≠ ma k) → f_37 q = f1 q := fun q hq => by
                          have m12 := hq 12 (by decide)
                          have m13 := hq 13 (by decide)
                          have m14 := hq 14 (by decide)
                          rw [ef_37, ef_31, ef_25]
                          simp only [va_up, m12, m13, m14, if_false]
                        have hMR9 : MR K (obA A i a v) ma L f1 (kpA (obA A i a v) i (a + v) (ltV (obA A i a v) i (a + v))) (nI 0) L f_37 := mr_ok (x' := (sg1, cg1, bb1, bf1)) (op' := op1) hmm hmi hop1 (mk_all ((hfu9 0 (by decide) (by decide) (by decide) (by decide)).trans (hmc1 0 (by decide))) ((hfu9 2 (by decide) (by decide) (by decide) (by decide)).trans (hmc1 2 (by decide))) ((hfu9 3 (by decide) (by decide) (by decide) (by decide)).trans (hmc1 3 (by decide))) ((hfu9 4 (by decide) (by decide) (by decide) (by decide)).trans (hmc1 4 (by decide))) ((hfu9 5 (by decide) (by decide) (by decide) (by decide)).trans (hmc1 5 (by decide))) ((hfu9 6 (by decide) (by decide) (by decide) (by decide)).trans (hmc1 6 (by decide))) ((hfu9 7 (by decide) (by decide) (by decide) (by decide)).trans (hmc1 7 (by decide))) ((hfu9 8 (by decide) (by decide) (by decide) (by decide)).trans (hmc1 8 (by decide))) ((hfu9 9 (by decide) (by decide) (by decide) (by decide)).trans (hmc1 9 (by decide))) ((hfu9 10 (by decide) (by decide) (by decide) (by decide)).trans (hmc1 10 (by decide))) ((hfu9 11 (by decide) (by decide) (by decide) (by decide)).trans (hmc1 11 (by decide))) hF_40 hF_41 hF_42 ((hfu9 15 (by decide) (by decide) (by decide) (by decide)).trans (hmc1 15 (by decide))) ((hfu9 16 (by decide) (by decide) (by decide) (by decide)).trans (hmc1 16 (by decide))) ((hfu9 20 (by decide) (by decide) (by decide) (by decide)).trans (hmc1 20 (by decide))) ((hfu9 21 (by decide) (by decide) (by decide) (by decide)).trans (hmc1 21 (by decide))) ((hfu9 22 (by decide) (by decide) (by decide) (by decide)).trans (hmc1 22 (by decide))) ((hfu9 23 (by decide) (by decide) (by decide) (by decide)).trans (hmc1 23 (by decide))) ((hfu9 25 (by decide) (by decide) (by decide) (by decide)).trans (hmc1 25 (by decide))) ((hfu9 26 (by decide) (by decide) (by decide) (by decide)).trans (hmc1 26 (by decide)))) hfr9
                        have e9 : obA A i a (v + 1) = kpA (obA A i a v) i (a + v) (ltV (obA A i a v) i (a + v)) := by
                          rw [obA, if_neg (fun z => by rcases z with z | z <;> omega)]
                          rw [ltV_same (A := A) (A' := obA A i a v) (fun k h1 h2 => ob_same _ k h1 h2)]
                        have e8 : (obA A i a v).1 14 i - A.1 14 i + 1 = (obA A i a (v + 1)).1 14 i - A.1 14 i := by
                          rw [e9, kpA_14, va_up_self]
                          have := ob_14 (A := A) (i := i) (a := a) v
                          omega
                        rw [e8] at hl
                        exact ih ls H locs f_37 (lv_sub hl [0, 1, 2, 3, 4, 5] rfl) hM (by rw [e9]; exact hMR9.2.1) (fun q hq => (hMR9.2.2 q hq).trans (hfr q hq))
            exact LOOP58 0 (Nat.zero_le _) ls H locs f_19 (by rw [show (obA A i a 0).1 14 i - A.1 14 i = 0 from Nat.sub_self _]; exact lv_sub hl [0, 1, 3, 4, 5, 6] rfl) hM hMIc hMRc.2.2
          · refine lv_iconst (v := nI 2) hx hb dX7_observe_44 (by decide) ?_
            refine lv_goto (tgt := 49) hx hb dX7_observe_45 (by decide) ?_
            refine z_put (fs' := [.int (nI 2), .int (nI (ns A)), .ref ((ma 2)), .ref ((ma 3)), .ref ((ma 4)), .ref ((ma 5)), .ref ((ma 6)), .ref ((ma 7)), .ref ((ma 8)), .ref ((ma 9)), .ref ((ma 10)), .ref ((ma 11)), .ref ((ma 12)), .ref ((ma 13)), .ref ((ma 14)), .ref ((ma 15)), .ref ((ma 16)), .double bb, .int bf, .int (nI (nw A)), .ref ((ma 20)), .ref ((ma 21)), .ref ((ma 22)), .ref ((ma 23)), .int (nI (np A)), .ref ((ma 25)), .ref ((ma 26))]) hC hM (hmm 0 (by decide)) hg0 zcl_X7 (by decide) zl_X7_75 rfl rfl (by rfl) (Nat.le_of_ble_eq_true rfl) rfl dX7_observe_49 (fun H locs hM => ?_)
            obtain ⟨f_43, ef_43⟩ : ∃ z9, z9 = va_up f ((ma 0)) (eS 8 [.int (nI 2), .int (nI (ns A)), .ref ((ma 2)), .ref ((ma 3)), .ref ((ma 4)), .ref ((ma 5)), .ref ((ma 6)), .ref ((ma 7)), .ref ((ma 8)), .ref ((ma 9)), .ref ((ma 10)), .ref ((ma 11)), .ref ((ma 12)), .ref ((ma 13)), .ref ((ma 14)), .ref ((ma 15)), .ref ((ma 16)), .double bb, .int bf, .int (nI (nw A)), .ref ((ma 20)), .ref ((ma 21)), .ref ((ma 22)), .ref ((ma 23)), .int (nI (np A)), .ref ((ma 25)), .ref ((ma 26))]) := ⟨_, rfl⟩
            rw [← ef_43] at hM
            have hF_44 : f_43 ((ma 0)) = eS 8 [.int (nI 2), .int (nI (ns A)), .ref ((ma 2)), .ref ((ma 3)), .ref ((ma 4)), .ref ((ma 5)), .ref ((ma 6)), .ref ((ma 7)), .ref ((ma 8)), .ref ((ma 9)), .ref ((ma 10)), .ref ((ma 11)), .ref ((ma 12)), .ref ((ma 13)), .ref ((ma 14)), .ref ((ma 15)), .ref ((ma 16)), .double bb, .int bf, .int (nI (nw A)), .ref ((ma 20)), .ref ((ma 21)), .ref ((ma 22)), .ref ((ma 23)), .int (nI (np A)), .ref ((ma 25)), .ref ((ma 26))] := by rw [ef_43]; exact va_up_self _ _ _
            have hF_45 : f_43 ((ma 11)) = eZ K 1000 (fun j => nI ((A.1 11) j)) := by rw [ef_43]; exact (va_up_ne _ _ (mne hmi (by decide) (by decide) (show 11 ≠ 0 by decide))).trans hg11
            have hF_46 : f_43 ((ma 12)) = eZ K 6000 (fun j => nI ((A.1 12) j)) := by rw [ef_43]; exact (va_up_ne _ _ (mne hmi (by decide) (by decide) (show 12 ≠ 0 by decide))).trans hg12
            have hF_47 : f_43 ((ma 13)) = eD K 6000 A.2 := by rw [ef_43]; exact (va_up_ne _ _ (mne hmi (by decide) (by decide) (show 13 ≠ 0 by decide))).trans hg13
            have hF_48 : f_43 ((ma 14)) = eI K 6 (fun j => nI ((A.1 14) j)) := by rw [ef_43]; exact (va_up_ne _ _ (mne hmi (by decide) (by decide) (show 14 ≠ 0 by decide))).trans hg14
            refine lv_iconst (v := nI 0) hx hb dX7_observe_52 (by decide) ?_
            refine lv_istore (lv' := [(5, .int (nI 0)), (4, .int (nI 1)), (0, .ref ((ma 0))), (1, .int (nI i)), (2, .int (nI a)), (3, .int (nI b))]) hx hb dX7_observe_53 hl (by decide) rfl (fun ls hl => ?_)
            refine lv_iload_n hx hb dX7_observe_55 rfl (lv_at hl 4 rfl) ?_
            refine lv_istore (lv' := [(6, .int (nI a)), (5, .int (nI 0)), (4, .int (nI 1)), (0, .ref ((ma 0))), (1, .int (nI i)), (2, .int (nI a)), (3, .int (nI b))]) hx hb dX7_observe_56 hl (by decide) rfl (fun ls hl => ?_)
            refine lv_iload hx hb dX7_observe_58 (lv_at hl 0 rfl) ?_
            refine lv_iload_n hx hb dX7_observe_60 rfl (lv_at hl 6 rfl) ?_
            refine z_icmp_gt (tgt := 150) hx hb (nI_toInt (by omega)) (nI_toInt (by omega)) dX7_observe_61 (by decide) (fun c_61 => ?_) (fun c_61 => ?_)
            · refine lv_iload hx hb dX7_observe_150 (lv_at hl 1 rfl) ?_
              rw [← hQ]
              exact z_iret hC hM hr hlk rfl (by decide) (by decide) (mr_x (qob2 ⟨c_5, c_12, c_19⟩ (by rw [nI_toInt (by omega), nI_toInt (by omega)]; omega)) (fun z => if_neg z) (mr_t hmm hmi hop hmc hF_44 (fun q h9 => by rw [ef_43]; simp only [va_up, h9, if_false])) (by decide)) dX7_observe_152
            · refine lv_aload_n hx hb dX7_observe_64 rfl (lv_at hl 3 rfl) ?_
              refine z_get hC hM (hmm 0 (by decide)) hF_44 zcl_X7 (by decide) zl_X7_75 rfl dX7_observe_65 ?_
              refine z_if_ne (tgt := 150) hx hb (nI_toInt (by decide)) dX7_observe_68 (by decide) (fun c_68 => ?_) (fun c_68 => ?_)
              · refine lv_iload hx hb dX7_observe_150 (lv_at hl 1 rfl) ?_
                rw [← hQ]
                exact z_iret hC hM hr hlk rfl (by decide) (by decide) (mr_x (qob2 ⟨c_5, c_12, c_19⟩ (by rw [nI_toInt (by omega), nI_toInt (by omega)]; omega)) (fun z => if_neg z) (mr_t hmm hmi hop hmc hF_44 (fun q h9 => by rw [ef_43]; simp only [va_up, h9, if_false])) (by decide)) dX7_observe_152
              · exact absurd c_68 (by omega)
        · exact absurd c_32 (by omega)
