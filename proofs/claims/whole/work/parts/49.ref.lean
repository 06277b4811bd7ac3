/-! CONTRACTS of TransitryModel: scores, periods, worlds, papers (rows laid by wip/whole/ref6.py) -/
theorem kf_le (A : zA) (x y : Int32) : k_fold A x y ≤ 3 := by
  unfold k_fold
  split
  · omega
  · split
    · omega
    · split <;> omega
theorem kf_inv {A : zA} {x y : Int32} (h : k_fold A x y = 0) : isS A x ∧ iR y 2 60 ∧ 20 ≤ A.1 14 (iv x) := by
  unfold k_fold at h
  split at h
  · omega
  · rename_i h1
    split at h
    · omega
    · rename_i h2
      split at h
      · omega
      · rename_i h3
        exact ⟨Decidable.not_not.mp h1, Decidable.not_not.mp h2, by omega⟩
theorem pdT_ge {g : Nat → UInt64} {t : Int32} (h : pdT g t ≠ 0) : 2 ≤ pdT g t ∧ 20 ≤ fN g 1000 := by
  unfold pdT at h ⊢
  split at h
  · exact absurd rfl h
  · rename_i h1
    rw [if_neg h1]
    split at h
    · rename_i h2
      rw [if_pos h2]
      exact ⟨pdS_ge g 58, by omega⟩
    · exact absurd rfl h
theorem VA.wd {A : zA} {w : Nat} (v : VA A) (hw : w < nw A) : VA (wdA A w) := by
  obtain ⟨v1, v2, v3, v4, v5, v6, v7, v8, v9, v10, v11, v12, v13⟩ := v
  refine ⟨v1, v2, v3, v4, v5, v6, v7, v8, v9, v10, fun j => ?_, fun j hj => ?_, v13⟩
  · rw [wdA_23]; unfold va_up; split
    · omega
    · exact v11 j
  · have e9 : nw (wdA A w) = nw A := rfl
    rw [e9] at hj
    rw [wdA_23, va_up_ne _ _ (by omega)]; exact v12 j hj
theorem hop_pa {A : zA} {op : Nat → Int32} {w c1 : Nat} {v : Int32} (hop : ∀ j, j < np A → op j = oP (A.1 26 j)) (hv : v = oP c1) : ∀ j, j < np (paA A w c1) → va_up op (np A) v j = oP ((paA A w c1).1 26 j) := by
  intro j hj
  rw [paA_p] at hj
  rw [paA_26]
  by_cases e : j = np A
  · subst e; rw [va_up_self, va_up_self]; exact hv
  · rw [va_up_ne _ _ e, va_up_ne _ _ e]; exact hop j (by omega)
set_option maxHeartbeats 400000 in
set_option maxRecDepth 100000 in
theorem m_score {l : Launch} {base : Nat} {K : zK} {L : List Nat} {f : Nat → va_E} {A : zA} {ma : Nat → Nat} {t : Int32} (hV : VA A) (hMI : MI K L f A ma t) (x y1 : Int32) : zMet l yX7_score cX7_score 3 (some .long) (zr 3 0 0 65) base K L f [.ref ((ma 0)), .int x, .int y1] (zQl base K (fun r L1 f1 => (k_fold A x y1 = 0 → r = v_score A x y1) ∧ MR K A ma L f A (nI (k_fold A x y1)) L1 f1)) := by
  have hMI9 := hMI
  obtain ⟨hmm, hmi, ⟨sg, cg, bb, bf⟩, op, hop, hmc⟩ := hMI9
  have hV9 := hV
  obtain ⟨hv1, hv2, hv3, hvS, hvO, hvK, hvK1, hvL, hv11, hvW, hv23, hvW0, hvP⟩ := hV9
  have hg0 : f (ma 0) = eS 8 [.int t, .int (nI (ns A)), .ref ((ma 2)), .ref ((ma 3)), .ref ((ma 4)), .ref ((ma 5)), .ref ((ma 6)), .ref ((ma 7)), .ref ((ma 8)), .ref ((ma 9)), .ref ((ma 10)), .ref ((ma 11)), .ref ((ma 12)), .ref ((ma 13)), .ref ((ma 14)), .ref ((ma 15)), .ref ((ma 16)), .double bb, .int bf, .int (nI (nw A)), .ref ((ma 20)), .ref ((ma 21)), .ref ((ma 22)), .ref ((ma 23)), .int (nI (np A)), .ref ((ma 25)), .ref ((ma 26))] := hmc 0 (by decide)
  refine z_met (by decide) (Nat.le_of_ble_eq_true rfl) (fun p e s m below meth c ls hC hM hr hlk hnm hl => ?_)
  have hx := hC.1
  have hb := hC.2.1
  have hml := hC.2.2.1
  have hown := hC.2.2.2.1
  have hts := hC.2.2.2.2.1
  generalize hA : ([.ref ((ma 0)), .int x, .int y1] : List Value).toArray = args at hC ⊢
  generalize hQ : MQ _ _ _ _ _ _ _ = Q
  obtain ⟨locs, hlocs⟩ : ∃ z : List Loc, z = [] := ⟨_, rfl⟩
  obtain ⟨H, hH⟩ : ∃ z : Heap, z = s.heap := ⟨_, rfl⟩
  rw [← hlocs, ← hH] at hM ⊢
  have hl : lv_has ls 3 [(0, .ref ((ma 0))), (1, .int x), (2, .int y1)] := hl
  refine lv_aload_n hx hb dX7_score_0 rfl (lv_at hl 0 rfl) ?_
  refine lv_aload_n hx hb dX7_score_1 rfl (lv_at hl 0 rfl) ?_
  refine lv_iload_n hx hb dX7_score_2 rfl (lv_at hl 1 rfl) ?_
  refine lv_iload_n hx hb dX7_score_3 rfl (lv_at hl 2 rfl) ?_
  have hk3 := kf_le A x y1
  refine z_fcalli (z_runV hC hM (c_thrF hV hMI x y1) zy_X7_thrownFor zm_X7_130 (hmm 0 (by decide)) hg0 zcl_X7 rfl rfl rfl hl.1 (Nat.le_of_ble_eq_true rfl) ⟨by decide, by decide⟩ ⟨by decide, by decide⟩ dX7_score_4) hM (fun H locs hM => ?_)
  refine z_put (fs' := [.int (nI (k_fold A x y1)), .int (nI (ns A)), .ref ((ma 2)), .ref ((ma 3)), .ref ((ma 4)), .ref ((ma 5)), .ref ((ma 6)), .ref ((ma 7)), .ref ((ma 8)), .ref ((ma 9)), .ref ((ma 10)), .ref ((ma 11)), .ref ((ma 12)), .ref ((ma 13)), .ref ((ma 14)), .ref ((ma 15)), .ref ((ma 16)), .double bb, .int bf, .int (nI (nw A)), .ref ((ma 20)), .ref ((ma 21)), .ref ((ma 22)), .ref ((ma 23)), .int (nI (np A)), .ref ((ma 25)), .ref ((ma 26))]) hC hM (hmm 0 (by decide)) hg0 zcl_X7 (by decide) zl_X7_75 rfl rfl (by rfl) (Nat.le_of_ble_eq_true rfl) rfl dX7_score_7 (fun H locs hM => ?_)
  obtain ⟨f_1, ef_1⟩ : ∃ z9, z9 = va_up f ((ma 0)) (eS 8 [.int (nI (k_fold A x y1)), .int (nI (ns A)), .ref ((ma 2)), .ref ((ma 3)), .ref ((ma 4)), .ref ((ma 5)), .ref ((ma 6)), .ref ((ma 7)), .ref ((ma 8)), .ref ((ma 9)), .ref ((ma 10)), .ref ((ma 11)), .ref ((ma 12)), .ref ((ma 13)), .ref ((ma 14)), .ref ((ma 15)), .ref ((ma 16)), .double bb, .int bf, .int (nI (nw A)), .ref ((ma 20)), .ref ((ma 21)), .ref ((ma 22)), .ref ((ma 23)), .int (nI (np A)), .ref ((ma 25)), .ref ((ma 26))]) := ⟨_, rfl⟩
  rw [← ef_1] at hM
  have hF_2 : f_1 ((ma 0)) = eS 8 [.int (nI (k_fold A x y1)), .int (nI (ns A)), .ref ((ma 2)), .ref ((ma 3)), .ref ((ma 4)), .ref ((ma 5)), .ref ((ma 6)), .ref ((ma 7)), .ref ((ma 8)), .ref ((ma 9)), .ref ((ma 10)), .ref ((ma 11)), .ref ((ma 12)), .ref ((ma 13)), .ref ((ma 14)), .ref ((ma 15)), .ref ((ma 16)), .double bb, .int bf, .int (nI (nw A)), .ref ((ma 20)), .ref ((ma 21)), .ref ((ma 22)), .ref ((ma 23)), .int (nI (np A)), .ref ((ma 25)), .ref ((ma 26))] := by rw [ef_1]; exact va_up_self _ _ _
  refine lv_aload_n hx hb dX7_score_10 rfl (lv_at hl 0 rfl) ?_
  refine z_get hC hM (hmm 0 (by decide)) hF_2 zcl_X7 (by decide) zl_X7_75 rfl dX7_score_11 ?_
  refine z_if_le (tgt := 19) hx hb (nI_toInt (by omega)) dX7_score_14 (by decide) (fun c_14 => ?_) (fun c_14 => ?_)
  · skip
    have hk0 : k_fold A x y1 = 0 := by omega
    obtain ⟨hq1, hq2, hq3⟩ := kf_inv hk0
    have hF0c : f_1 (ma 0) = eS 8 [.int (nI 0), .int (nI (ns A)), .ref ((ma 2)), .ref ((ma 3)), .ref ((ma 4)), .ref ((ma 5)), .ref ((ma 6)), .ref ((ma 7)), .ref ((ma 8)), .ref ((ma 9)), .ref ((ma 10)), .ref ((ma 11)), .ref ((ma 12)), .ref ((ma 13)), .ref ((ma 14)), .ref ((ma 15)), .ref ((ma 16)), .double bb, .int bf, .int (nI (nw A)), .ref ((ma 20)), .ref ((ma 21)), .ref ((ma 22)), .ref ((ma 23)), .int (nI (np A)), .ref ((ma 25)), .ref ((ma 26))] := by have z9 := hF_2; rw [hk0] at z9; exact z9
    obtain ⟨i, hi0, hi9, hxi⟩ := nI_of_range (Int.le_refl 0) hq1.1 hq1.2
    subst hxi
    have hi : i < ns A := by omega
    have hiv := iv_nI (i := i) (by omega)
    obtain ⟨b, hb1, hb2, hxb⟩ := nI_of_range (by decide) hq2.1 hq2.2
    subst hxb
    have hivb := iv_nI (i := b) (by omega)
    obtain ⟨w1, w2, w3, w4, w5, w6, w7, w8⟩ := hvS i hi
    have hkl := fN_le (gk A i) 1000
    have hGo := gk_ok hV i
    have hFP := fp_ok hGo
    rw [hiv] at hq3
    have hMRc := mr_t (t' := nI 0) hmm hmi hop hmc hF0c (fun q h9 => by rw [ef_1]; simp only [va_up, h9, if_false])
    have hMIc := hMRc.2.1
    refine lv_aload_n hx hb dX7_score_19 rfl (lv_at hl 0 rfl) ?_
    refine lv_iload_n hx hb dX7_score_20 rfl (lv_at hl 1 rfl) ?_
    refine lv_iload_n hx hb dX7_score_21 rfl (lv_at hl 2 rfl) ?_
    refine z_callv (z_runV hC hM (m_scores hV hMIc hi (p9 := b) (by omega) (by omega) (by omega)) zy_X7_scores zm_X7_133 (hmm 0 (by decide)) hF0c zcl_X7 rfl rfl rfl hl.1 (Nat.le_of_ble_eq_true rfl) ⟨by decide, by decide⟩ ⟨by decide, by decide⟩ dX7_score_22) hM (fun L1 f1_22 H locs hp hM => ?_)
    obtain ⟨e9L, sg_22, cg_22, hrs_22⟩ := hp
    have e9L := e9L.symm
    subst e9L
    have hMI_22 := RSx.mi hMIc hrs_22
    refine lv_aload_n hx hb dX7_score_25 rfl (lv_at hl 0 rfl) ?_
    refine z_get hC hM (hmm 0 (by decide)) hrs_22.2.1 zcl_X7 (by decide) zl_X7_123 rfl dX7_score_26 ?_
    refine z_fcalll (z_runS hC hM (c_d2l (sc_bits hGo (by omega) (by omega)).n64) zy_Jxe99ae_doubleToLongBits_ccdee zm_X7_104 rfl rfl hl.1 (Nat.le_of_ble_eq_true rfl) ⟨by decide, by decide⟩ ⟨by decide, by decide⟩ dX7_score_29) hM (fun H locs hM => ?_)
    rw [← hQ]
    exact z_lret hC hM hr hlk (by decide) (by decide) (mr_0l hk0 (by rw [v_score, hiv, hivb]) rfl (hMRc.trans (RSx.mr hMIc hrs_22))) dX7_score_32
  · refine lv_lconst (v := 0) hx hb dX7_score_17 (by decide) ?_
    rw [← hQ]
    exact z_lret hC hM hr hlk (by decide) (by decide) (mr_xl (k := k_fold A x y1) rfl (fun _ => rfl) (mr_t hmm hmi hop hmc hF_2 (fun q h9 => by rw [ef_1]; simp only [va_up, h9, if_false])) (by omega)) dX7_score_18
set_option maxHeartbeats 400000 in
set_option maxRecDepth 100000 in
theorem m_phase {l : Launch} {base : Nat} {K : zK} {L : List Nat} {f : Nat → va_E} {A : zA} {ma : Nat → Nat} {t : Int32} (hV : VA A) (hMI : MI K L f A ma t) (x y1 : Int32) : zMet l yX7_phase cX7_phase 3 (some .int) (zr 3 0 0 65) base K L f [.ref ((ma 0)), .int x, .int y1] (zQi base K (fun r L1 f1 => (k_fold A x y1 = 0 → r = v_phase A x y1) ∧ MR K A ma L f A (nI (k_fold A x y1)) L1 f1)) := by
  have hMI9 := hMI
  obtain ⟨hmm, hmi, ⟨sg, cg, bb, bf⟩, op, hop, hmc⟩ := hMI9
  have hV9 := hV
  obtain ⟨hv1, hv2, hv3, hvS, hvO, hvK, hvK1, hvL, hv11, hvW, hv23, hvW0, hvP⟩ := hV9
  have hg0 : f (ma 0) = eS 8 [.int t, .int (nI (ns A)), .ref ((ma 2)), .ref ((ma 3)), .ref ((ma 4)), .ref ((ma 5)), .ref ((ma 6)), .ref ((ma 7)), .ref ((ma 8)), .ref ((ma 9)), .ref ((ma 10)), .ref ((ma 11)), .ref ((ma 12)), .ref ((ma 13)), .ref ((ma 14)), .ref ((ma 15)), .ref ((ma 16)), .double bb, .int bf, .int (nI (nw A)), .ref ((ma 20)), .ref ((ma 21)), .ref ((ma 22)), .ref ((ma 23)), .int (nI (np A)), .ref ((ma 25)), .ref ((ma 26))] := hmc 0 (by decide)
  refine z_met (by decide) (Nat.le_of_ble_eq_true rfl) (fun p e s m below meth c ls hC hM hr hlk hnm hl => ?_)
  have hx := hC.1
  have hb := hC.2.1
  have hml := hC.2.2.1
  have hown := hC.2.2.2.1
  have hts := hC.2.2.2.2.1
  generalize hA : ([.ref ((ma 0)), .int x, .int y1] : List Value).toArray = args at hC ⊢
  generalize hQ : MQ _ _ _ _ _ _ _ = Q
  obtain ⟨locs, hlocs⟩ : ∃ z : List Loc, z = [] := ⟨_, rfl⟩
  obtain ⟨H, hH⟩ : ∃ z : Heap, z = s.heap := ⟨_, rfl⟩
  rw [← hlocs, ← hH] at hM ⊢
  have hl : lv_has ls 3 [(0, .ref ((ma 0))), (1, .int x), (2, .int y1)] := hl
  refine lv_aload_n hx hb dX7_phase_0 rfl (lv_at hl 0 rfl) ?_
  refine lv_aload_n hx hb dX7_phase_1 rfl (lv_at hl 0 rfl) ?_
  refine lv_iload_n hx hb dX7_phase_2 rfl (lv_at hl 1 rfl) ?_
  refine lv_iload_n hx hb dX7_phase_3 rfl (lv_at hl 2 rfl) ?_
  have hk3 := kf_le A x y1
  refine z_fcalli (z_runV hC hM (c_thrF hV hMI x y1) zy_X7_thrownFor zm_X7_130 (hmm 0 (by decide)) hg0 zcl_X7 rfl rfl rfl hl.1 (Nat.le_of_ble_eq_true rfl) ⟨by decide, by decide⟩ ⟨by decide, by decide⟩ dX7_phase_4) hM (fun H locs hM => ?_)
  refine z_put (fs' := [.int (nI (k_fold A x y1)), .int (nI (ns A)), .ref ((ma 2)), .ref ((ma 3)), .ref ((ma 4)), .ref ((ma 5)), .ref ((ma 6)), .ref ((ma 7)), .ref ((ma 8)), .ref ((ma 9)), .ref ((ma 10)), .ref ((ma 11)), .ref ((ma 12)), .ref ((ma 13)), .ref ((ma 14)), .ref ((ma 15)), .ref ((ma 16)), .double bb, .int bf, .int (nI (nw A)), .ref ((ma 20)), .ref ((ma 21)), .ref ((ma 22)), .ref ((ma 23)), .int (nI (np A)), .ref ((ma 25)), .ref ((ma 26))]) hC hM (hmm 0 (by decide)) hg0 zcl_X7 (by decide) zl_X7_75 rfl rfl (by rfl) (Nat.le_of_ble_eq_true rfl) rfl dX7_phase_7 (fun H locs hM => ?_)
  obtain ⟨f_1, ef_1⟩ : ∃ z9, z9 = va_up f ((ma 0)) (eS 8 [.int (nI (k_fold A x y1)), .int (nI (ns A)), .ref ((ma 2)), .ref ((ma 3)), .ref ((ma 4)), .ref ((ma 5)), .ref ((ma 6)), .ref ((ma 7)), .ref ((ma 8)), .ref ((ma 9)), .ref ((ma 10)), .ref ((ma 11)), .ref ((ma 12)), .ref ((ma 13)), .ref ((ma 14)), .ref ((ma 15)), .ref ((ma 16)), .double bb, .int bf, .int (nI (nw A)), .ref ((ma 20)), .ref ((ma 21)), .ref ((ma 22)), .ref ((ma 23)), .int (nI (np A)), .ref ((ma 25)), .ref ((ma 26))]) := ⟨_, rfl⟩
  rw [← ef_1] at hM
  have hF_2 : f_1 ((ma 0)) = eS 8 [.int (nI (k_fold A x y1)), .int (nI (ns A)), .ref ((ma 2)), .ref ((ma 3)), .ref ((ma 4)), .ref ((ma 5)), .ref ((ma 6)), .ref ((ma 7)), .ref ((ma 8)), .ref ((ma 9)), .ref ((ma 10)), .ref ((ma 11)), .ref ((ma 12)), .ref ((ma 13)), .ref ((ma 14)), .ref ((ma 15)), .ref ((ma 16)), .double bb, .int bf, .int (nI (nw A)), .ref ((ma 20)), .ref ((ma 21)), .ref ((ma 22)), .ref ((ma 23)), .int (nI (np A)), .ref ((ma 25)), .ref ((ma 26))] := by rw [ef_1]; exact va_up_self _ _ _
  refine lv_aload_n hx hb dX7_phase_10 rfl (lv_at hl 0 rfl) ?_
  refine z_get hC hM (hmm 0 (by decide)) hF_2 zcl_X7 (by decide) zl_X7_75 rfl dX7_phase_11 ?_
  refine z_if_le (tgt := 19) hx hb (nI_toInt (by omega)) dX7_phase_14 (by decide) (fun c_14 => ?_) (fun c_14 => ?_)
  · skip
    have hk0 : k_fold A x y1 = 0 := by omega
    obtain ⟨hq1, hq2, hq3⟩ := kf_inv hk0
    have hF0c : f_1 (ma 0) = eS 8 [.int (nI 0), .int (nI (ns A)), .ref ((ma 2)), .ref ((ma 3)), .ref ((ma 4)), .ref ((ma 5)), .ref ((ma 6)), .ref ((ma 7)), .ref ((ma 8)), .ref ((ma 9)), .ref ((ma 10)), .ref ((ma 11)), .ref ((ma 12)), .ref ((ma 13)), .ref ((ma 14)), .ref ((ma 15)), .ref ((ma 16)), .double bb, .int bf, .int (nI (nw A)), .ref ((ma 20)), .ref ((ma 21)), .ref ((ma 22)), .ref ((ma 23)), .int (nI (np A)), .ref ((ma 25)), .ref ((ma 26))] := by have z9 := hF_2; rw [hk0] at z9; exact z9
    obtain ⟨i, hi0, hi9, hxi⟩ := nI_of_range (Int.le_refl 0) hq1.1 hq1.2
    subst hxi
    have hi : i < ns A := by omega
    have hiv := iv_nI (i := i) (by omega)
    obtain ⟨b, hb1, hb2, hxb⟩ := nI_of_range (by decide) hq2.1 hq2.2
    subst hxb
    have hivb := iv_nI (i := b) (by omega)
    obtain ⟨w1, w2, w3, w4, w5, w6, w7, w8⟩ := hvS i hi
    have hkl := fN_le (gk A i) 1000
    have hGo := gk_ok hV i
    have hFP := fp_ok hGo
    rw [hiv] at hq3
    have hMRc := mr_t (t' := nI 0) hmm hmi hop hmc hF0c (fun q h9 => by rw [ef_1]; simp only [va_up, h9, if_false])
    have hMIc := hMRc.2.1
    refine lv_aload_n hx hb dX7_phase_19 rfl (lv_at hl 0 rfl) ?_
    refine lv_iload_n hx hb dX7_phase_20 rfl (lv_at hl 1 rfl) ?_
    refine lv_iload_n hx hb dX7_phase_21 rfl (lv_at hl 2 rfl) ?_
    refine z_callv (z_runV hC hM (m_scores hV hMIc hi (p9 := b) (by omega) (by omega) (by omega)) zy_X7_scores zm_X7_133 (hmm 0 (by decide)) hF0c zcl_X7 rfl rfl rfl hl.1 (Nat.le_of_ble_eq_true rfl) ⟨by decide, by decide⟩ ⟨by decide, by decide⟩ dX7_phase_22) hM (fun L1 f1_22 H locs hp hM => ?_)
    obtain ⟨e9L, sg_22, cg_22, hrs_22⟩ := hp
    have e9L := e9L.symm
    subst e9L
    have hMI_22 := RSx.mi hMIc hrs_22
    refine lv_aload_n hx hb dX7_phase_25 rfl (lv_at hl 0 rfl) ?_
    refine z_get hC hM (hmm 0 (by decide)) hrs_22.2.1 zcl_X7 (by decide) zl_X7_120 rfl dX7_phase_26 ?_
    rw [← hQ]
    exact z_iret hC hM hr hlk rfl (by decide) (by decide) (mr_0 hk0 (by rw [v_phase, hiv, hivb]) rfl (hMRc.trans (RSx.mr hMIc hrs_22))) dX7_phase_29
  · refine lv_iconst (v := nI 0) hx hb dX7_phase_17 (by decide) ?_
    rw [← hQ]
    exact z_iret hC hM hr hlk rfl (by decide) (by decide) (mr_x (k := k_fold A x y1) rfl (fun _ => rfl) (mr_t hmm hmi hop hmc hF_2 (fun q h9 => by rw [ef_1]; simp only [va_up, h9, if_false])) (by omega)) dX7_phase_18
set_option maxHeartbeats 400000 in
set_option maxRecDepth 100000 in
theorem m_period {l : Launch} {base : Nat} {K : zK} {L : List Nat} {f : Nat → va_E} {A : zA} {ma : Nat → Nat} {t : Int32} (hV : VA A) (hMI : MI K L f A ma t) (x y1 : Int32) : zMet l yX7_period cX7_period 4 (some .int) (zr 3 0 0 78) base K L f [.ref ((ma 0)), .int x, .int y1] (zQi base K (fun r L1 f1 => (k_period A x y1 = 0 → r = v_period A x y1) ∧ MR K A ma L f A (nI (k_period A x y1)) L1 f1)) := by
  have hMI9 := hMI
  obtain ⟨hmm, hmi, ⟨sg, cg, bb, bf⟩, op, hop, hmc⟩ := hMI9
  have hV9 := hV
  obtain ⟨hv1, hv2, hv3, hvS, hvO, hvK, hvK1, hvL, hv11, hvW, hv23, hvW0, hvP⟩ := hV9
  have hg0 : f (ma 0) = eS 8 [.int t, .int (nI (ns A)), .ref ((ma 2)), .ref ((ma 3)), .ref ((ma 4)), .ref ((ma 5)), .ref ((ma 6)), .ref ((ma 7)), .ref ((ma 8)), .ref ((ma 9)), .ref ((ma 10)), .ref ((ma 11)), .ref ((ma 12)), .ref ((ma 13)), .ref ((ma 14)), .ref ((ma 15)), .ref ((ma 16)), .double bb, .int bf, .int (nI (nw A)), .ref ((ma 20)), .ref ((ma 21)), .ref ((ma 22)), .ref ((ma 23)), .int (nI (np A)), .ref ((ma 25)), .ref ((ma 26))] := hmc 0 (by decide)
  refine z_met (by decide) (Nat.le_of_ble_eq_true rfl) (fun p e s m below meth c ls hC hM hr hlk hnm hl => ?_)
  have hx := hC.1
  have hb := hC.2.1
  have hml := hC.2.2.1
  have hown := hC.2.2.2.1
  have hts := hC.2.2.2.2.1
  generalize hA : ([.ref ((ma 0)), .int x, .int y1] : List Value).toArray = args at hC ⊢
  generalize hQ : MQ _ _ _ _ _ _ _ = Q
  obtain ⟨locs, hlocs⟩ : ∃ z : List Loc, z = [] := ⟨_, rfl⟩
  obtain ⟨H, hH⟩ : ∃ z : Heap, z = s.heap := ⟨_, rfl⟩
  rw [← hlocs, ← hH] at hM ⊢
  have hl : lv_has ls 4 [(0, .ref ((ma 0))), (1, .int x), (2, .int y1)] := hl
  refine lv_aload_n hx hb dX7_period_0 rfl (lv_at hl 0 rfl) ?_
  refine lv_aload_n hx hb dX7_period_1 rfl (lv_at hl 0 rfl) ?_
  refine lv_iload_n hx hb dX7_period_2 rfl (lv_at hl 1 rfl) ?_
  refine z_fcalli (z_runV hC hM (c_isStar hV hMI x) zy_X7_isStar zm_X7_87 (hmm 0 (by decide)) hg0 zcl_X7 rfl rfl rfl hl.1 (Nat.le_of_ble_eq_true rfl) ⟨by decide, by decide⟩ ⟨by decide, by decide⟩ dX7_period_3) hM (fun H locs hM => ?_)
  refine z_if_neB (tgt := 13) hx hb dX7_period_6 (by decide) (fun c_6 => ?_) (fun c_6 => ?_)
  · skip
    obtain ⟨i, hi0, hi9, hxi⟩ := nI_of_range (Int.le_refl 0) c_6.1 c_6.2
    subst hxi
    have hi : i < ns A := by omega
    have hiv := iv_nI (i := i) (by omega)
    obtain ⟨w1, w2, w3, w4, w5, w6, w7, w8⟩ := hvS i hi
    have hkl := fN_le (gk A i) 1000
    refine lv_iload_n hx hb dX7_period_13 rfl (lv_at hl 2 rfl) ?_
    refine z_fcalli (z_runS hC hM (c_isThr y1) zy_X7_isThreshold zm_X7_136 rfl rfl hl.1 (Nat.le_of_ble_eq_true rfl) ⟨by decide, by decide⟩ ⟨by decide, by decide⟩ dX7_period_14) hM (fun H locs hM => ?_)
    refine z_if_neB (tgt := 24) hx hb dX7_period_17 (by decide) (fun c_17 => ?_) (fun c_17 => ?_)
    · refine lv_iconst (v := nI 0) hx hb dX7_period_24 (by decide) ?_
      refine z_put (fs' := [.int (nI 0), .int (nI (ns A)), .ref ((ma 2)), .ref ((ma 3)), .ref ((ma 4)), .ref ((ma 5)), .ref ((ma 6)), .ref ((ma 7)), .ref ((ma 8)), .ref ((ma 9)), .ref ((ma 10)), .ref ((ma 11)), .ref ((ma 12)), .ref ((ma 13)), .ref ((ma 14)), .ref ((ma 15)), .ref ((ma 16)), .double bb, .int bf, .int (nI (nw A)), .ref ((ma 20)), .ref ((ma 21)), .ref ((ma 22)), .ref ((ma 23)), .int (nI (np A)), .ref ((ma 25)), .ref ((ma 26))]) hC hM (hmm 0 (by decide)) hg0 zcl_X7 (by decide) zl_X7_75 rfl rfl (by rfl) (Nat.le_of_ble_eq_true rfl) rfl dX7_period_25 (fun H locs hM => ?_)
      obtain ⟨f_1, ef_1⟩ : ∃ z9, z9 = va_up f ((ma 0)) (eS 8 [.int (nI 0), .int (nI (ns A)), .ref ((ma 2)), .ref ((ma 3)), .ref ((ma 4)), .ref ((ma 5)), .ref ((ma 6)), .ref ((ma 7)), .ref ((ma 8)), .ref ((ma 9)), .ref ((ma 10)), .ref ((ma 11)), .ref ((ma 12)), .ref ((ma 13)), .ref ((ma 14)), .ref ((ma 15)), .ref ((ma 16)), .double bb, .int bf, .int (nI (nw A)), .ref ((ma 20)), .ref ((ma 21)), .ref ((ma 22)), .ref ((ma 23)), .int (nI (np A)), .ref ((ma 25)), .ref ((ma 26))]) := ⟨_, rfl⟩
      rw [← ef_1] at hM
      have hF_2 : f_1 ((ma 0)) = eS 8 [.int (nI 0), .int (nI (ns A)), .ref ((ma 2)), .ref ((ma 3)), .ref ((ma 4)), .ref ((ma 5)), .ref ((ma 6)), .ref ((ma 7)), .ref ((ma 8)), .ref ((ma 9)), .ref ((ma 10)), .ref ((ma 11)), .ref ((ma 12)), .ref ((ma 13)), .ref ((ma 14)), .ref ((ma 15)), .ref ((ma 16)), .double bb, .int bf, .int (nI (nw A)), .ref ((ma 20)), .ref ((ma 21)), .ref ((ma 22)), .ref ((ma 23)), .int (nI (np A)), .ref ((ma 25)), .ref ((ma 26))] := by rw [ef_1]; exact va_up_self _ _ _
      refine lv_aload_n hx hb dX7_period_28 rfl (lv_at hl 0 rfl) ?_
      refine z_get hC hM (hmm 0 (by decide)) hF_2 zcl_X7 (by decide) zl_X7_75 rfl dX7_period_29 ?_
      refine z_if_le (tgt := 37) hx hb (nI_toInt (by decide)) dX7_period_32 (by decide) (fun c_32 => ?_) (fun c_32 => ?_)
      · have hMRc := mr_t (t' := nI 0) hmm hmi hop hmc hF_2 (fun q h9 => by rw [ef_1]; simp only [va_up, h9, if_false])
        have hMIc := hMRc.2.1
        refine lv_aload_n hx hb dX7_period_37 rfl (lv_at hl 0 rfl) ?_
        refine lv_iload_n hx hb dX7_period_38 rfl (lv_at hl 1 rfl) ?_
        refine lv_iload_n hx hb dX7_period_39 rfl (lv_at hl 2 rfl) ?_
        refine z_calli (z_runV hC hM (m_periodOf hV hMIc hi y1) zy_X7_periodOf zm_X7_139 (hmm 0 (by decide)) hF_2 zcl_X7 rfl rfl rfl hl.1 (Nat.le_of_ble_eq_true rfl) ⟨by decide, by decide⟩ ⟨by decide, by decide⟩ dX7_period_40) hM (fun r L1 f1 H locs hp hM => ?_)
        obtain ⟨e9L, rfl, x9, hrs⟩ := hp
        have e9L := e9L.symm
        subst e9L
        have hpd := pdT_le (gk A i) y1
        refine lv_istore_n (lv' := [(3, .int (nI (pdT (gk A i) y1))), (0, .ref ((ma 0))), (1, .int (nI i)), (2, .int y1)]) hx hb dX7_period_43 rfl hl (by decide) rfl (fun ls hl => ?_)
        refine lv_aload_n hx hb dX7_period_44 rfl (lv_at hl 1 rfl) ?_
        refine lv_iload_n hx hb dX7_period_45 rfl (lv_at hl 0 rfl) ?_
        refine z_if_ne (tgt := 53) hx hb (nI_toInt (by omega)) dX7_period_46 (by decide) (fun c_46 => ?_) (fun c_46 => ?_)
        · refine lv_iconst (v := nI 0) hx hb dX7_period_53 (by decide) ?_
          refine z_put (fs' := [.int (nI 0), .int (nI (ns A)), .ref ((ma 2)), .ref ((ma 3)), .ref ((ma 4)), .ref ((ma 5)), .ref ((ma 6)), .ref ((ma 7)), .ref ((ma 8)), .ref ((ma 9)), .ref ((ma 10)), .ref ((ma 11)), .ref ((ma 12)), .ref ((ma 13)), .ref ((ma 14)), .ref ((ma 15)), .ref ((ma 16)), .double x9.2.2.1, .int x9.2.2.2, .int (nI (nw A)), .ref ((ma 20)), .ref ((ma 21)), .ref ((ma 22)), .ref ((ma 23)), .int (nI (np A)), .ref ((ma 25)), .ref ((ma 26))]) hC hM (hmm 0 (by decide)) hrs.2.1 zcl_X7 (by decide) zl_X7_75 rfl rfl (by rfl) (Nat.le_of_ble_eq_true rfl) rfl dX7_period_54 (fun H locs hM => ?_)
          obtain ⟨f_3, ef_3⟩ : ∃ z9, z9 = va_up f1 ((ma 0)) (eS 8 [.int (nI 0), .int (nI (ns A)), .ref ((ma 2)), .ref ((ma 3)), .ref ((ma 4)), .ref ((ma 5)), .ref ((ma 6)), .ref ((ma 7)), .ref ((ma 8)), .ref ((ma 9)), .ref ((ma 10)), .ref ((ma 11)), .ref ((ma 12)), .ref ((ma 13)), .ref ((ma 14)), .ref ((ma 15)), .ref ((ma 16)), .double x9.2.2.1, .int x9.2.2.2, .int (nI (nw A)), .ref ((ma 20)), .ref ((ma 21)), .ref ((ma 22)), .ref ((ma 23)), .int (nI (np A)), .ref ((ma 25)), .ref ((ma 26))]) := ⟨_, rfl⟩
          rw [← ef_3] at hM
          have hF_4 : f_3 ((ma 0)) = eS 8 [.int (nI 0), .int (nI (ns A)), .ref ((ma 2)), .ref ((ma 3)), .ref ((ma 4)), .ref ((ma 5)), .ref ((ma 6)), .ref ((ma 7)), .ref ((ma 8)), .ref ((ma 9)), .ref ((ma 10)), .ref ((ma 11)), .ref ((ma 12)), .ref ((ma 13)), .ref ((ma 14)), .ref ((ma 15)), .ref ((ma 16)), .double x9.2.2.1, .int x9.2.2.2, .int (nI (nw A)), .ref ((ma 20)), .ref ((ma 21)), .ref ((ma 22)), .ref ((ma 23)), .int (nI (np A)), .ref ((ma 25)), .ref ((ma 26))] := by rw [ef_3]; exact va_up_self _ _ _
          refine lv_iload_n hx hb dX7_period_57 rfl (lv_at hl 0 rfl) ?_
          rw [← hQ]
          exact z_iret hC hM hr hlk rfl (by decide) (by decide) (mr_0 (kp0 c_6 c_17 (by rw [hiv]; omega)) (by rw [v_period, hiv]) rfl (hMRc.trans (RSx.mr hMIc (RSx.thr hmi hrs hF_4 (fun q h9 => by rw [ef_3]; simp only [va_up, h9, if_false]))))) dX7_period_58
        · refine lv_iconst (v := nI 3) hx hb dX7_period_49 (by decide) ?_
          refine lv_goto (tgt := 54) hx hb dX7_period_50 (by decide) ?_
          refine z_put (fs' := [.int (nI 3), .int (nI (ns A)), .ref ((ma 2)), .ref ((ma 3)), .ref ((ma 4)), .ref ((ma 5)), .ref ((ma 6)), .ref ((ma 7)), .ref ((ma 8)), .ref ((ma 9)), .ref ((ma 10)), .ref ((ma 11)), .ref ((ma 12)), .ref ((ma 13)), .ref ((ma 14)), .ref ((ma 15)), .ref ((ma 16)), .double x9.2.2.1, .int x9.2.2.2, .int (nI (nw A)), .ref ((ma 20)), .ref ((ma 21)), .ref ((ma 22)), .ref ((ma 23)), .int (nI (np A)), .ref ((ma 25)), .ref ((ma 26))]) hC hM (hmm 0 (by decide)) hrs.2.1 zcl_X7 (by decide) zl_X7_75 rfl rfl (by rfl) (Nat.le_of_ble_eq_true rfl) rfl dX7_period_54 (fun H locs hM => ?_)
          obtain ⟨f_5, ef_5⟩ : ∃ z9, z9 = va_up f1 ((ma 0)) (eS 8 [.int (nI 3), .int (nI (ns A)), .ref ((ma 2)), .ref ((ma 3)), .ref ((ma 4)), .ref ((ma 5)), .ref ((ma 6)), .ref ((ma 7)), .ref ((ma 8)), .ref ((ma 9)), .ref ((ma 10)), .ref ((ma 11)), .ref ((ma 12)), .ref ((ma 13)), .ref ((ma 14)), .ref ((ma 15)), .ref ((ma 16)), .double x9.2.2.1, .int x9.2.2.2, .int (nI (nw A)), .ref ((ma 20)), .ref ((ma 21)), .ref ((ma 22)), .ref ((ma 23)), .int (nI (np A)), .ref ((ma 25)), .ref ((ma 26))]) := ⟨_, rfl⟩
          rw [← ef_5] at hM
          have hF_6 : f_5 ((ma 0)) = eS 8 [.int (nI 3), .int (nI (ns A)), .ref ((ma 2)), .ref ((ma 3)), .ref ((ma 4)), .ref ((ma 5)), .ref ((ma 6)), .ref ((ma 7)), .ref ((ma 8)), .ref ((ma 9)), .ref ((ma 10)), .ref ((ma 11)), .ref ((ma 12)), .ref ((ma 13)), .ref ((ma 14)), .ref ((ma 15)), .ref ((ma 16)), .double x9.2.2.1, .int x9.2.2.2, .int (nI (nw A)), .ref ((ma 20)), .ref ((ma 21)), .ref ((ma 22)), .ref ((ma 23)), .int (nI (np A)), .ref ((ma 25)), .ref ((ma 26))] := by rw [ef_5]; exact va_up_self _ _ _
          refine lv_iload_n hx hb dX7_period_57 rfl (lv_at hl 0 rfl) ?_
          rw [← hQ]
          exact z_iret hC hM hr hlk rfl (by decide) (by decide) (mr_x (kp3 c_6 c_17 (by rw [hiv]; omega)) (fun _ => rfl) (hMRc.trans (RSx.mr hMIc (RSx.thr hmi hrs hF_6 (fun q h9 => by rw [ef_5]; simp only [va_up, h9, if_false])))) (by decide)) dX7_period_58
      · exact absurd c_32 (by omega)
    · refine lv_iconst (v := nI 2) hx hb dX7_period_20 (by decide) ?_
      refine lv_goto (tgt := 25) hx hb dX7_period_21 (by decide) ?_
      refine z_put (fs' := [.int (nI 2), .int (nI (ns A)), .ref ((ma 2)), .ref ((ma 3)), .ref ((ma 4)), .ref ((ma 5)), .ref ((ma 6)), .ref ((ma 7)), .ref ((ma 8)), .ref ((ma 9)), .ref ((ma 10)), .ref ((ma 11)), .ref ((ma 12)), .ref ((ma 13)), .ref ((ma 14)), .ref ((ma 15)), .ref ((ma 16)), .double bb, .int bf, .int (nI (nw A)), .ref ((ma 20)), .ref ((ma 21)), .ref ((ma 22)), .ref ((ma 23)), .int (nI (np A)), .ref ((ma 25)), .ref ((ma 26))]) hC hM (hmm 0 (by decide)) hg0 zcl_X7 (by decide) zl_X7_75 rfl rfl (by rfl) (Nat.le_of_ble_eq_true rfl) rfl dX7_period_25 (fun H locs hM => ?_)
      obtain ⟨f_7, ef_7⟩ : ∃ z9, z9 = va_up f ((ma 0)) (eS 8 [.int (nI 2), .int (nI (ns A)), .ref ((ma 2)), .ref ((ma 3)), .ref ((ma 4)), .ref ((ma 5)), .ref ((ma 6)), .ref ((ma 7)), .ref ((ma 8)), .ref ((ma 9)), .ref ((ma 10)), .ref ((ma 11)), .ref ((ma 12)), .ref ((ma 13)), .ref ((ma 14)), .ref ((ma 15)), .ref ((ma 16)), .double bb, .int bf, .int (nI (nw A)), .ref ((ma 20)), .ref ((ma 21)), .ref ((ma 22)), .ref ((ma 23)), .int (nI (np A)), .ref ((ma 25)), .ref ((ma 26))]) := ⟨_, rfl⟩
      rw [← ef_7] at hM
      have hF_8 : f_7 ((ma 0)) = eS 8 [.int (nI 2), .int (nI (ns A)), .ref ((ma 2)), .ref ((ma 3)), .ref ((ma 4)), .ref ((ma 5)), .ref ((ma 6)), .ref ((ma 7)), .ref ((ma 8)), .ref ((ma 9)), .ref ((ma 10)), .ref ((ma 11)), .ref ((ma 12)), .ref ((ma 13)), .ref ((ma 14)), .ref ((ma 15)), .ref ((ma 16)), .double bb, .int bf, .int (nI (nw A)), .ref ((ma 20)), .ref ((ma 21)), .ref ((ma 22)), .ref ((ma 23)), .int (nI (np A)), .ref ((ma 25)), .ref ((ma 26))] := by rw [ef_7]; exact va_up_self _ _ _
      refine lv_aload_n hx hb dX7_period_28 rfl (lv_at hl 0 rfl) ?_
      refine z_get hC hM (hmm 0 (by decide)) hF_8 zcl_X7 (by decide) zl_X7_75 rfl dX7_period_29 ?_
      refine z_if_le (tgt := 37) hx hb (nI_toInt (by decide)) dX7_period_32 (by decide) (fun c_32 => ?_) (fun c_32 => ?_)
      · exact absurd c_32 (by omega)
      · refine lv_iconst (v := nI 0) hx hb dX7_period_35 (by decide) ?_
        rw [← hQ]
        exact z_iret hC hM hr hlk rfl (by decide) (by decide) (mr_x (kp2 c_6 c_17) (fun _ => rfl) (mr_t hmm hmi hop hmc hF_8 (fun q h9 => by rw [ef_7]; simp only [va_up, h9, if_false])) (by decide)) dX7_period_36
  · refine lv_iconst (v := nI 1) hx hb dX7_period_9 (by decide) ?_
    refine lv_goto (tgt := 25) hx hb dX7_period_10 (by decide) ?_
    refine z_put (fs' := [.int (nI 1), .int (nI (ns A)), .ref ((ma 2)), .ref ((ma 3)), .ref ((ma 4)), .ref ((ma 5)), .ref ((ma 6)), .ref ((ma 7)), .ref ((ma 8)), .ref ((ma 9)), .ref ((ma 10)), .ref ((ma 11)), .ref ((ma 12)), .ref ((ma 13)), .ref ((ma 14)), .ref ((ma 15)), .ref ((ma 16)), .double bb, .int bf, .int (nI (nw A)), .ref ((ma 20)), .ref ((ma 21)), .ref ((ma 22)), .ref ((ma 23)), .int (nI (np A)), .ref ((ma 25)), .ref ((ma 26))]) hC hM (hmm 0 (by decide)) hg0 zcl_X7 (by decide) zl_X7_75 rfl rfl (by rfl) (Nat.le_of_ble_eq_true rfl) rfl dX7_period_25 (fun H locs hM => ?_)
    obtain ⟨f_9, ef_9⟩ : ∃ z9, z9 = va_up f ((ma 0)) (eS 8 [.int (nI 1), .int (nI (ns A)), .ref ((ma 2)), .ref ((ma 3)), .ref ((ma 4)), .ref ((ma 5)), .ref ((ma 6)), .ref ((ma 7)), .ref ((ma 8)), .ref ((ma 9)), .ref ((ma 10)), .ref ((ma 11)), .ref ((ma 12)), .ref ((ma 13)), .ref ((ma 14)), .ref ((ma 15)), .ref ((ma 16)), .double bb, .int bf, .int (nI (nw A)), .ref ((ma 20)), .ref ((ma 21)), .ref ((ma 22)), .ref ((ma 23)), .int (nI (np A)), .ref ((ma 25)), .ref ((ma 26))]) := ⟨_, rfl⟩
    rw [← ef_9] at hM
    have hF_10 : f_9 ((ma 0)) = eS 8 [.int (nI 1), .int (nI (ns A)), .ref ((ma 2)), .ref ((ma 3)), .ref ((ma 4)), .ref ((ma 5)), .ref ((ma 6)), .ref ((ma 7)), .ref ((ma 8)), .ref ((ma 9)), .ref ((ma 10)), .ref ((ma 11)), .ref ((ma 12)), .ref ((ma 13)), .ref ((ma 14)), .ref ((ma 15)), .ref ((ma 16)), .double bb, .int bf, .int (nI (nw A)), .ref ((ma 20)), .ref ((ma 21)), .ref ((ma 22)), .ref ((ma 23)), .int (nI (np A)), .ref ((ma 25)), .ref ((ma 26))] := by rw [ef_9]; exact va_up_self _ _ _
    refine lv_aload_n hx hb dX7_period_28 rfl (lv_at hl 0 rfl) ?_
    refine z_get hC hM (hmm 0 (by decide)) hF_10 zcl_X7 (by decide) zl_X7_75 rfl dX7_period_29 ?_
    refine z_if_le (tgt := 37) hx hb (nI_toInt (by decide)) dX7_period_32 (by decide) (fun c_32 => ?_) (fun c_32 => ?_)
    · exact absurd c_32 (by omega)
    · refine lv_iconst (v := nI 0) hx hb dX7_period_35 (by decide) ?_
      rw [← hQ]
      exact z_iret hC hM hr hlk rfl (by decide) (by decide) (mr_x (kp1 c_6) (fun _ => rfl) (mr_t hmm hmi hop hmc hF_10 (fun q h9 => by rw [ef_9]; simp only [va_up, h9, if_false])) (by decide)) dX7_period_36
set_option maxHeartbeats 400000 in
set_option maxRecDepth 100000 in
theorem m_whyNot {l : Launch} {base : Nat} {K : zK} {L : List Nat} {f : Nat → va_E} {A : zA} {ma : Nat → Nat} {t : Int32} (hV : VA A) (hMI : MI K L f A ma t) (x y1 : Int32) : zMet l yX7_whyNot cX7_whyNot 3 (some .int) (zr 3 0 0 78) base K L f [.ref ((ma 0)), .int x, .int y1] (zQi base K (fun r L1 f1 => (k_whyNot A x y1 = 0 → r = v_whyNot A x y1) ∧ MR K A ma L f A (nI (k_whyNot A x y1)) L1 f1)) := by
  have hMI9 := hMI
  obtain ⟨hmm, hmi, ⟨sg, cg, bb, bf⟩, op, hop, hmc⟩ := hMI9
  have hV9 := hV
  obtain ⟨hv1, hv2, hv3, hvS, hvO, hvK, hvK1, hvL, hv11, hvW, hv23, hvW0, hvP⟩ := hV9
  have hg0 : f (ma 0) = eS 8 [.int t, .int (nI (ns A)), .ref ((ma 2)), .ref ((ma 3)), .ref ((ma 4)), .ref ((ma 5)), .ref ((ma 6)), .ref ((ma 7)), .ref ((ma 8)), .ref ((ma 9)), .ref ((ma 10)), .ref ((ma 11)), .ref ((ma 12)), .ref ((ma 13)), .ref ((ma 14)), .ref ((ma 15)), .ref ((ma 16)), .double bb, .int bf, .int (nI (nw A)), .ref ((ma 20)), .ref ((ma 21)), .ref ((ma 22)), .ref ((ma 23)), .int (nI (np A)), .ref ((ma 25)), .ref ((ma 26))] := hmc 0 (by decide)
  refine z_met (by decide) (Nat.le_of_ble_eq_true rfl) (fun p e s m below meth c ls hC hM hr hlk hnm hl => ?_)
  have hx := hC.1
  have hb := hC.2.1
  have hml := hC.2.2.1
  have hown := hC.2.2.2.1
  have hts := hC.2.2.2.2.1
  generalize hA : ([.ref ((ma 0)), .int x, .int y1] : List Value).toArray = args at hC ⊢
  generalize hQ : MQ _ _ _ _ _ _ _ = Q
  obtain ⟨locs, hlocs⟩ : ∃ z : List Loc, z = [] := ⟨_, rfl⟩
  obtain ⟨H, hH⟩ : ∃ z : Heap, z = s.heap := ⟨_, rfl⟩
  rw [← hlocs, ← hH] at hM ⊢
  have hl : lv_has ls 3 [(0, .ref ((ma 0))), (1, .int x), (2, .int y1)] := hl
  refine lv_aload_n hx hb dX7_whyNot_0 rfl (lv_at hl 0 rfl) ?_
  refine lv_aload_n hx hb dX7_whyNot_1 rfl (lv_at hl 0 rfl) ?_
  refine lv_iload_n hx hb dX7_whyNot_2 rfl (lv_at hl 1 rfl) ?_
  refine z_fcalli (z_runV hC hM (c_isStar hV hMI x) zy_X7_isStar zm_X7_87 (hmm 0 (by decide)) hg0 zcl_X7 rfl rfl rfl hl.1 (Nat.le_of_ble_eq_true rfl) ⟨by decide, by decide⟩ ⟨by decide, by decide⟩ dX7_whyNot_3) hM (fun H locs hM => ?_)
  refine z_if_neB (tgt := 13) hx hb dX7_whyNot_6 (by decide) (fun c_6 => ?_) (fun c_6 => ?_)
  · skip
    obtain ⟨i, hi0, hi9, hxi⟩ := nI_of_range (Int.le_refl 0) c_6.1 c_6.2
    subst hxi
    have hi : i < ns A := by omega
    have hiv := iv_nI (i := i) (by omega)
    obtain ⟨w1, w2, w3, w4, w5, w6, w7, w8⟩ := hvS i hi
    have hkl := fN_le (gk A i) 1000
    refine lv_iload_n hx hb dX7_whyNot_13 rfl (lv_at hl 2 rfl) ?_
    refine z_fcalli (z_runS hC hM (c_isThr y1) zy_X7_isThreshold zm_X7_136 rfl rfl hl.1 (Nat.le_of_ble_eq_true rfl) ⟨by decide, by decide⟩ ⟨by decide, by decide⟩ dX7_whyNot_14) hM (fun H locs hM => ?_)
    refine z_if_neB (tgt := 24) hx hb dX7_whyNot_17 (by decide) (fun c_17 => ?_) (fun c_17 => ?_)
    · refine lv_iconst (v := nI 0) hx hb dX7_whyNot_24 (by decide) ?_
      refine z_put (fs' := [.int (nI 0), .int (nI (ns A)), .ref ((ma 2)), .ref ((ma 3)), .ref ((ma 4)), .ref ((ma 5)), .ref ((ma 6)), .ref ((ma 7)), .ref ((ma 8)), .ref ((ma 9)), .ref ((ma 10)), .ref ((ma 11)), .ref ((ma 12)), .ref ((ma 13)), .ref ((ma 14)), .ref ((ma 15)), .ref ((ma 16)), .double bb, .int bf, .int (nI (nw A)), .ref ((ma 20)), .ref ((ma 21)), .ref ((ma 22)), .ref ((ma 23)), .int (nI (np A)), .ref ((ma 25)), .ref ((ma 26))]) hC hM (hmm 0 (by decide)) hg0 zcl_X7 (by decide) zl_X7_75 rfl rfl (by rfl) (Nat.le_of_ble_eq_true rfl) rfl dX7_whyNot_25 (fun H locs hM => ?_)
      obtain ⟨f_1, ef_1⟩ : ∃ z9, z9 = va_up f ((ma 0)) (eS 8 [.int (nI 0), .int (nI (ns A)), .ref ((ma 2)), .ref ((ma 3)), .ref ((ma 4)), .ref ((ma 5)), .ref ((ma 6)), .ref ((ma 7)), .ref ((ma 8)), .ref ((ma 9)), .ref ((ma 10)), .ref ((ma 11)), .ref ((ma 12)), .ref ((ma 13)), .ref ((ma 14)), .ref ((ma 15)), .ref ((ma 16)), .double bb, .int bf, .int (nI (nw A)), .ref ((ma 20)), .ref ((ma 21)), .ref ((ma 22)), .ref ((ma 23)), .int (nI (np A)), .ref ((ma 25)), .ref ((ma 26))]) := ⟨_, rfl⟩
      rw [← ef_1] at hM
      have hF_2 : f_1 ((ma 0)) = eS 8 [.int (nI 0), .int (nI (ns A)), .ref ((ma 2)), .ref ((ma 3)), .ref ((ma 4)), .ref ((ma 5)), .ref ((ma 6)), .ref ((ma 7)), .ref ((ma 8)), .ref ((ma 9)), .ref ((ma 10)), .ref ((ma 11)), .ref ((ma 12)), .ref ((ma 13)), .ref ((ma 14)), .ref ((ma 15)), .ref ((ma 16)), .double bb, .int bf, .int (nI (nw A)), .ref ((ma 20)), .ref ((ma 21)), .ref ((ma 22)), .ref ((ma 23)), .int (nI (np A)), .ref ((ma 25)), .ref ((ma 26))] := by rw [ef_1]; exact va_up_self _ _ _
      refine lv_aload_n hx hb dX7_whyNot_28 rfl (lv_at hl 0 rfl) ?_
      refine z_get hC hM (hmm 0 (by decide)) hF_2 zcl_X7 (by decide) zl_X7_75 rfl dX7_whyNot_29 ?_
      refine z_if_le (tgt := 37) hx hb (nI_toInt (by decide)) dX7_whyNot_32 (by decide) (fun c_32 => ?_) (fun c_32 => ?_)
      · have hMRc := mr_t (t' := nI 0) hmm hmi hop hmc hF_2 (fun q h9 => by rw [ef_1]; simp only [va_up, h9, if_false])
        have hMIc := hMRc.2.1
        refine lv_aload_n hx hb dX7_whyNot_37 rfl (lv_at hl 0 rfl) ?_
        refine lv_iload_n hx hb dX7_whyNot_38 rfl (lv_at hl 1 rfl) ?_
        refine z_fcalli (z_runV hC hM (c_hasFew hV hMIc hi) zy_X7_hasFew zm_X7_127 (hmm 0 (by decide)) hF_2 zcl_X7 rfl rfl rfl hl.1 (Nat.le_of_ble_eq_true rfl) ⟨by decide, by decide⟩ ⟨by decide, by decide⟩ dX7_whyNot_39) hM (fun H locs hM => ?_)
        refine z_if_eqB (tgt := 49) hx hb dX7_whyNot_42 (by decide) (fun c_42 => ?_) (fun c_42 => ?_)
        · refine lv_aload_n hx hb dX7_whyNot_49 rfl (lv_at hl 0 rfl) ?_
          refine lv_iload_n hx hb dX7_whyNot_50 rfl (lv_at hl 1 rfl) ?_
          refine lv_iload_n hx hb dX7_whyNot_51 rfl (lv_at hl 2 rfl) ?_
          refine z_calli (z_runV hC hM (m_periodOf hV hMIc hi y1) zy_X7_periodOf zm_X7_139 (hmm 0 (by decide)) hF_2 zcl_X7 rfl rfl rfl hl.1 (Nat.le_of_ble_eq_true rfl) ⟨by decide, by decide⟩ ⟨by decide, by decide⟩ dX7_whyNot_52) hM (fun r L1 f1 H locs hp hM => ?_)
          obtain ⟨e9L, rfl, x9, hrs⟩ := hp
          have e9L := e9L.symm
          subst e9L
          have hpd := pdT_le (gk A i) y1
          refine z_if_ne (tgt := 62) hx hb (nI_toInt (by omega)) dX7_whyNot_55 (by decide) (fun c_55 => ?_) (fun c_55 => ?_)
          · refine lv_iconst (v := nI 0) hx hb dX7_whyNot_62 (by decide) ?_
            rw [← hQ]
            exact z_iret hC hM hr hlk rfl (by decide) (by decide) (mr_0 (qwn0 c_6 c_17) (by rw [v_whyNot, hiv, if_neg c_42, if_neg (by omega)]; rfl) rfl (hMRc.trans (RSx.mr hMIc hrs))) dX7_whyNot_63
          · refine lv_iconst (v := nI 2) hx hb dX7_whyNot_58 (by decide) ?_
            refine lv_goto (tgt := 63) hx hb dX7_whyNot_59 (by decide) ?_
            rw [← hQ]
            exact z_iret hC hM hr hlk rfl (by decide) (by decide) (mr_0 (qwn0 c_6 c_17) (by rw [v_whyNot, hiv, if_neg c_42, if_pos (by omega)]; rfl) rfl (hMRc.trans (RSx.mr hMIc hrs))) dX7_whyNot_63
        · refine lv_iconst (v := nI 1) hx hb dX7_whyNot_45 (by decide) ?_
          refine lv_goto (tgt := 63) hx hb dX7_whyNot_46 (by decide) ?_
          rw [← hQ]
          exact z_iret hC hM hr hlk rfl (by decide) (by decide) (mr_0 (qwn0 c_6 c_17) (by rw [v_whyNot, hiv, if_pos c_42]; rfl) rfl hMRc) dX7_whyNot_63
      · exact absurd c_32 (by omega)
    · refine lv_iconst (v := nI 2) hx hb dX7_whyNot_20 (by decide) ?_
      refine lv_goto (tgt := 25) hx hb dX7_whyNot_21 (by decide) ?_
      refine z_put (fs' := [.int (nI 2), .int (nI (ns A)), .ref ((ma 2)), .ref ((ma 3)), .ref ((ma 4)), .ref ((ma 5)), .ref ((ma 6)), .ref ((ma 7)), .ref ((ma 8)), .ref ((ma 9)), .ref ((ma 10)), .ref ((ma 11)), .ref ((ma 12)), .ref ((ma 13)), .ref ((ma 14)), .ref ((ma 15)), .ref ((ma 16)), .double bb, .int bf, .int (nI (nw A)), .ref ((ma 20)), .ref ((ma 21)), .ref ((ma 22)), .ref ((ma 23)), .int (nI (np A)), .ref ((ma 25)), .ref ((ma 26))]) hC hM (hmm 0 (by decide)) hg0 zcl_X7 (by decide) zl_X7_75 rfl rfl (by rfl) (Nat.le_of_ble_eq_true rfl) rfl dX7_whyNot_25 (fun H locs hM => ?_)
      obtain ⟨f_3, ef_3⟩ : ∃ z9, z9 = va_up f ((ma 0)) (eS 8 [.int (nI 2), .int (nI (ns A)), .ref ((ma 2)), .ref ((ma 3)), .ref ((ma 4)), .ref ((ma 5)), .ref ((ma 6)), .ref ((ma 7)), .ref ((ma 8)), .ref ((ma 9)), .ref ((ma 10)), .ref ((ma 11)), .ref ((ma 12)), .ref ((ma 13)), .ref ((ma 14)), .ref ((ma 15)), .ref ((ma 16)), .double bb, .int bf, .int (nI (nw A)), .ref ((ma 20)), .ref ((ma 21)), .ref ((ma 22)), .ref ((ma 23)), .int (nI (np A)), .ref ((ma 25)), .ref ((ma 26))]) := ⟨_, rfl⟩
      rw [← ef_3] at hM
      have hF_4 : f_3 ((ma 0)) = eS 8 [.int (nI 2), .int (nI (ns A)), .ref ((ma 2)), .ref ((ma 3)), .ref ((ma 4)), .ref ((ma 5)), .ref ((ma 6)), .ref ((ma 7)), .ref ((ma 8)), .ref ((ma 9)), .ref ((ma 10)), .ref ((ma 11)), .ref ((ma 12)), .ref ((ma 13)), .ref ((ma 14)), .ref ((ma 15)), .ref ((ma 16)), .double bb, .int bf, .int (nI (nw A)), .ref ((ma 20)), .ref ((ma 21)), .ref ((ma 22)), .ref ((ma 23)), .int (nI (np A)), .ref ((ma 25)), .ref ((ma 26))] := by rw [ef_3]; exact va_up_self _ _ _
      refine lv_aload_n hx hb dX7_whyNot_28 rfl (lv_at hl 0 rfl) ?_
      refine z_get hC hM (hmm 0 (by decide)) hF_4 zcl_X7 (by decide) zl_X7_75 rfl dX7_whyNot_29 ?_
      refine z_if_le (tgt := 37) hx hb (nI_toInt (by decide)) dX7_whyNot_32 (by decide) (fun c_32 => ?_) (fun c_32 => ?_)
      · exact absurd c_32 (by omega)
      · refine lv_iconst (v := nI 0) hx hb dX7_whyNot_35 (by decide) ?_
        rw [← hQ]
        exact z_iret hC hM hr hlk rfl (by decide) (by decide) (mr_x (qwn2 c_6 c_17) (fun _ => rfl) (mr_t hmm hmi hop hmc hF_4 (fun q h9 => by rw [ef_3]; simp only [va_up, h9, if_false])) (by decide)) dX7_whyNot_36
  · refine lv_iconst (v := nI 1) hx hb dX7_whyNot_9 (by decide) ?_
    refine lv_goto (tgt := 25) hx hb dX7_whyNot_10 (by decide) ?_
    refine z_put (fs' := [.int (nI 1), .int (nI (ns A)), .ref ((ma 2)), .ref ((ma 3)), .ref ((ma 4)), .ref ((ma 5)), .ref ((ma 6)), .ref ((ma 7)), .ref ((ma 8)), .ref ((ma 9)), .ref ((ma 10)), .ref ((ma 11)), .ref ((ma 12)), .ref ((ma 13)), .ref ((ma 14)), .ref ((ma 15)), .ref ((ma 16)), .double bb, .int bf, .int (nI (nw A)), .ref ((ma 20)), .ref ((ma 21)), .ref ((ma 22)), .ref ((ma 23)), .int (nI (np A)), .ref ((ma 25)), .ref ((ma 26))]) hC hM (hmm 0 (by decide)) hg0 zcl_X7 (by decide) zl_X7_75 rfl rfl (by rfl) (Nat.le_of_ble_eq_true rfl) rfl dX7_whyNot_25 (fun H locs hM => ?_)
    obtain ⟨f_5, ef_5⟩ : ∃ z9, z9 = va_up f ((ma 0)) (eS 8 [.int (nI 1), .int (nI (ns A)), .ref ((ma 2)), .ref ((ma 3)), .ref ((ma 4)), .ref ((ma 5)), .ref ((ma 6)), .ref ((ma 7)), .ref ((ma 8)), .ref ((ma 9)), .ref ((ma 10)), .ref ((ma 11)), .ref ((ma 12)), .ref ((ma 13)), .ref ((ma 14)), .ref ((ma 15)), .ref ((ma 16)), .double bb, .int bf, .int (nI (nw A)), .ref ((ma 20)), .ref ((ma 21)), .ref ((ma 22)), .ref ((ma 23)), .int (nI (np A)), .ref ((ma 25)), .ref ((ma 26))]) := ⟨_, rfl⟩
    rw [← ef_5] at hM
    have hF_6 : f_5 ((ma 0)) = eS 8 [.int (nI 1), .int (nI (ns A)), .ref ((ma 2)), .ref ((ma 3)), .ref ((ma 4)), .ref ((ma 5)), .ref ((ma 6)), .ref ((ma 7)), .ref ((ma 8)), .ref ((ma 9)), .ref ((ma 10)), .ref ((ma 11)), .ref ((ma 12)), .ref ((ma 13)), .ref ((ma 14)), .ref ((ma 15)), .ref ((ma 16)), .double bb, .int bf, .int (nI (nw A)), .ref ((ma 20)), .ref ((ma 21)), .ref ((ma 22)), .ref ((ma 23)), .int (nI (np A)), .ref ((ma 25)), .ref ((ma 26))] := by rw [ef_5]; exact va_up_self _ _ _
    refine lv_aload_n hx hb dX7_whyNot_28 rfl (lv_at hl 0 rfl) ?_
    refine z_get hC hM (hmm 0 (by decide)) hF_6 zcl_X7 (by decide) zl_X7_75 rfl dX7_whyNot_29 ?_
    refine z_if_le (tgt := 37) hx hb (nI_toInt (by decide)) dX7_whyNot_32 (by decide) (fun c_32 => ?_) (fun c_32 => ?_)
    · exact absurd c_32 (by omega)
    · refine lv_iconst (v := nI 0) hx hb dX7_whyNot_35 (by decide) ?_
      rw [← hQ]
      exact z_iret hC hM hr hlk rfl (by decide) (by decide) (mr_x (qwn1 c_6) (fun _ => rfl) (mr_t hmm hmi hop hmc hF_6 (fun q h9 => by rw [ef_5]; simp only [va_up, h9, if_false])) (by decide)) dX7_whyNot_36
set_option maxHeartbeats 400000 in
set_option maxRecDepth 100000 in
theorem m_oddEven {l : Launch} {base : Nat} {K : zK} {L : List Nat} {f : Nat → va_E} {A : zA} {ma : Nat → Nat} {t : Int32} (hV : VA A) (hMI : MI K L f A ma t) (x y1 : Int32) : zMet l yX7_oddEven cX7_oddEven 7 (some .long) (zr 3 0 0 65) base K L f [.ref ((ma 0)), .int x, .int y1] (zQl base K (fun r L1 f1 => (k_fold A x y1 = 0 → r = v_oddEven A x y1) ∧ MR K A ma L f A (nI (k_fold A x y1)) L1 f1)) := by
  have hMI9 := hMI
  obtain ⟨hmm, hmi, ⟨sg, cg, bb, bf⟩, op, hop, hmc⟩ := hMI9
  have hV9 := hV
  obtain ⟨hv1, hv2, hv3, hvS, hvO, hvK, hvK1, hvL, hv11, hvW, hv23, hvW0, hvP⟩ := hV9
  have hg0 : f (ma 0) = eS 8 [.int t, .int (nI (ns A)), .ref ((ma 2)), .ref ((ma 3)), .ref ((ma 4)), .ref ((ma 5)), .ref ((ma 6)), .ref ((ma 7)), .ref ((ma 8)), .ref ((ma 9)), .ref ((ma 10)), .ref ((ma 11)), .ref ((ma 12)), .ref ((ma 13)), .ref ((ma 14)), .ref ((ma 15)), .ref ((ma 16)), .double bb, .int bf, .int (nI (nw A)), .ref ((ma 20)), .ref ((ma 21)), .ref ((ma 22)), .ref ((ma 23)), .int (nI (np A)), .ref ((ma 25)), .ref ((ma 26))] := hmc 0 (by decide)
  have hg15 : f (ma 15) = eD K 120 sg := hmc 15 (by decide)
  have hg16 : f (ma 16) = eI K 120 (fun j => nI (cg j)) := hmc 16 (by decide)
  refine z_met (by decide) (Nat.le_of_ble_eq_true rfl) (fun p e s m below meth c ls hC hM hr hlk hnm hl => ?_)
  have hx := hC.1
  have hb := hC.2.1
  have hml := hC.2.2.1
  have hown := hC.2.2.2.1
  have hts := hC.2.2.2.2.1
  generalize hA : ([.ref ((ma 0)), .int x, .int y1] : List Value).toArray = args at hC ⊢
  generalize hQ : MQ _ _ _ _ _ _ _ = Q
  obtain ⟨locs, hlocs⟩ : ∃ z : List Loc, z = [] := ⟨_, rfl⟩
  obtain ⟨H, hH⟩ : ∃ z : Heap, z = s.heap := ⟨_, rfl⟩
  rw [← hlocs, ← hH] at hM ⊢
  have hl : lv_has ls 7 [(0, .ref ((ma 0))), (1, .int x), (2, .int y1)] := hl
  refine lv_aload_n hx hb dX7_oddEven_0 rfl (lv_at hl 0 rfl) ?_
  refine lv_aload_n hx hb dX7_oddEven_1 rfl (lv_at hl 0 rfl) ?_
  refine lv_iload_n hx hb dX7_oddEven_2 rfl (lv_at hl 1 rfl) ?_
  refine lv_iload_n hx hb dX7_oddEven_3 rfl (lv_at hl 2 rfl) ?_
  have hk3 := kf_le A x y1
  refine z_fcalli (z_runV hC hM (c_thrF hV hMI x y1) zy_X7_thrownFor zm_X7_130 (hmm 0 (by decide)) hg0 zcl_X7 rfl rfl rfl hl.1 (Nat.le_of_ble_eq_true rfl) ⟨by decide, by decide⟩ ⟨by decide, by decide⟩ dX7_oddEven_4) hM (fun H locs hM => ?_)
  refine z_put (fs' := [.int (nI (k_fold A x y1)), .int (nI (ns A)), .ref ((ma 2)), .ref ((ma 3)), .ref ((ma 4)), .ref ((ma 5)), .ref ((ma 6)), .ref ((ma 7)), .ref ((ma 8)), .ref ((ma 9)), .ref ((ma 10)), .ref ((ma 11)), .ref ((ma 12)), .ref ((ma 13)), .ref ((ma 14)), .ref ((ma 15)), .ref ((ma 16)), .double bb, .int bf, .int (nI (nw A)), .ref ((ma 20)), .ref ((ma 21)), .ref ((ma 22)), .ref ((ma 23)), .int (nI (np A)), .ref ((ma 25)), .ref ((ma 26))]) hC hM (hmm 0 (by decide)) hg0 zcl_X7 (by decide) zl_X7_75 rfl rfl (by rfl) (Nat.le_of_ble_eq_true rfl) rfl dX7_oddEven_7 (fun H locs hM => ?_)
  obtain ⟨f_1, ef_1⟩ : ∃ z9, z9 = va_up f ((ma 0)) (eS 8 [.int (nI (k_fold A x y1)), .int (nI (ns A)), .ref ((ma 2)), .ref ((ma 3)), .ref ((ma 4)), .ref ((ma 5)), .ref ((ma 6)), .ref ((ma 7)), .ref ((ma 8)), .ref ((ma 9)), .ref ((ma 10)), .ref ((ma 11)), .ref ((ma 12)), .ref ((ma 13)), .ref ((ma 14)), .ref ((ma 15)), .ref ((ma 16)), .double bb, .int bf, .int (nI (nw A)), .ref ((ma 20)), .ref ((ma 21)), .ref ((ma 22)), .ref ((ma 23)), .int (nI (np A)), .ref ((ma 25)), .ref ((ma 26))]) := ⟨_, rfl⟩
  rw [← ef_1] at hM
  have hF_2 : f_1 ((ma 0)) = eS 8 [.int (nI (k_fold A x y1)), .int (nI (ns A)), .ref ((ma 2)), .ref ((ma 3)), .ref ((ma 4)), .ref ((ma 5)), .ref ((ma 6)), .ref ((ma 7)), .ref ((ma 8)), .ref ((ma 9)), .ref ((ma 10)), .ref ((ma 11)), .ref ((ma 12)), .ref ((ma 13)), .ref ((ma 14)), .ref ((ma 15)), .ref ((ma 16)), .double bb, .int bf, .int (nI (nw A)), .ref ((ma 20)), .ref ((ma 21)), .ref ((ma 22)), .ref ((ma 23)), .int (nI (np A)), .ref ((ma 25)), .ref ((ma 26))] := by rw [ef_1]; exact va_up_self _ _ _
  have hF_3 : f_1 ((ma 15)) = eD K 120 sg := by rw [ef_1]; exact (va_up_ne _ _ (mne hmi (by decide) (by decide) (show 15 ≠ 0 by decide))).trans hg15
  have hF_4 : f_1 ((ma 16)) = eI K 120 (fun j => nI (cg j)) := by rw [ef_1]; exact (va_up_ne _ _ (mne hmi (by decide) (by decide) (show 16 ≠ 0 by decide))).trans hg16
  refine lv_aload_n hx hb dX7_oddEven_10 rfl (lv_at hl 0 rfl) ?_
  refine z_get hC hM (hmm 0 (by decide)) hF_2 zcl_X7 (by decide) zl_X7_75 rfl dX7_oddEven_11 ?_
  refine z_if_le (tgt := 19) hx hb (nI_toInt (by omega)) dX7_oddEven_14 (by decide) (fun c_14 => ?_) (fun c_14 => ?_)
  · skip
    have hk0 : k_fold A x y1 = 0 := by omega
    obtain ⟨hq1, hq2, hq3⟩ := kf_inv hk0
    have hF0c : f_1 (ma 0) = eS 8 [.int (nI 0), .int (nI (ns A)), .ref ((ma 2)), .ref ((ma 3)), .ref ((ma 4)), .ref ((ma 5)), .ref ((ma 6)), .ref ((ma 7)), .ref ((ma 8)), .ref ((ma 9)), .ref ((ma 10)), .ref ((ma 11)), .ref ((ma 12)), .ref ((ma 13)), .ref ((ma 14)), .ref ((ma 15)), .ref ((ma 16)), .double bb, .int bf, .int (nI (nw A)), .ref ((ma 20)), .ref ((ma 21)), .ref ((ma 22)), .ref ((ma 23)), .int (nI (np A)), .ref ((ma 25)), .ref ((ma 26))] := by have z9 := hF_2; rw [hk0] at z9; exact z9
    obtain ⟨i, hi0, hi9, hxi⟩ := nI_of_range (Int.le_refl 0) hq1.1 hq1.2
    subst hxi
    have hi : i < ns A := by omega
    have hiv := iv_nI (i := i) (by omega)
    obtain ⟨b, hb1, hb2, hxb⟩ := nI_of_range (by decide) hq2.1 hq2.2
    subst hxb
    have hivb := iv_nI (i := b) (by omega)
    obtain ⟨w1, w2, w3, w4, w5, w6, w7, w8⟩ := hvS i hi
    have hkl := fN_le (gk A i) 1000
    have hGo := gk_ok hV i
    have hFP := fp_ok hGo
    rw [hiv] at hq3
    have hMRc := mr_t (t' := nI 0) hmm hmi hop hmc hF0c (fun q h9 => by rw [ef_1]; simp only [va_up, h9, if_false])
    have hMIc := hMRc.2.1
    refine lv_aload_n hx hb dX7_oddEven_19 rfl (lv_at hl 0 rfl) ?_
    refine lv_iload_n hx hb dX7_oddEven_20 rfl (lv_at hl 1 rfl) ?_
    refine lv_iload_n hx hb dX7_oddEven_21 rfl (lv_at hl 2 rfl) ?_
    refine z_callv (z_runV hC hM (m_scores hV hMIc hi (p9 := b) (by omega) (by omega) (by omega)) zy_X7_scores zm_X7_133 (hmm 0 (by decide)) hF0c zcl_X7 rfl rfl rfl hl.1 (Nat.le_of_ble_eq_true rfl) ⟨by decide, by decide⟩ ⟨by decide, by decide⟩ dX7_oddEven_22) hM (fun L1 f1_22 H locs hp hM => ?_)
    obtain ⟨e9L, sg_22, cg_22, hrs_22⟩ := hp
    have e9L := e9L.symm
    subst e9L
    have hMI_22 := RSx.mi hMIc hrs_22
    refine lv_aload_n hx hb dX7_oddEven_25 rfl (lv_at hl 0 rfl) ?_
    refine z_get hC hM (hmm 0 (by decide)) hrs_22.2.1 zcl_X7 (by decide) zl_X7_120 rfl dX7_oddEven_26 ?_
    obtain ⟨d, hd9, hdl, hdc⟩ := bFo_some (g := gk A i) (p := b) (by omega) (by omega)
    have ho9 : oN (bFo (gk A i) b) = nI d := by rw [bFo, bfS, hd9]; rfl
    rw [ho9]
    have hoe : oeF (gk A i) b = if 0 < fC (gk A i) (2 * b) 1000 d ∧ 0 < fC (gk A i) (2 * b) 1000 (d + b) then FP.dsub (mnF (gk A i) (2 * b) d) (mnF (gk A i) (2 * b) (d + b)) else 0 := by rw [oeF, bFo, bfS, hd9]
    have hl1 := fC_le (gk A i) (2 * b) 1000 d
    have hl2 := fC_le (gk A i) (2 * b) 1000 (d + b)
    refine lv_istore_n (lv' := [(3, .int (nI d)), (0, .ref ((ma 0))), (1, .int (nI i)), (2, .int (nI b))]) hx hb dX7_oddEven_29 rfl hl (by decide) rfl (fun ls hl => ?_)
    refine lv_iload_n hx hb dX7_oddEven_30 rfl (lv_at hl 0 rfl) ?_
    refine lv_iload_n hx hb dX7_oddEven_31 rfl (lv_at hl 3 rfl) ?_
    refine z_iadd hx hb dX7_oddEven_32 ?_
    refine lv_istore (lv' := [(4, .int (nI (d + b))), (3, .int (nI d)), (0, .ref ((ma 0))), (1, .int (nI i)), (2, .int (nI b))]) hx hb dX7_oddEven_33 hl (by decide) rfl (fun ls hl => ?_)
    refine lv_aload_n hx hb dX7_oddEven_35 rfl (lv_at hl 2 rfl) ?_
    refine lv_iload_n hx hb dX7_oddEven_36 rfl (lv_at hl 3 rfl) ?_
    refine lv_iconst (v := nI 2) hx hb dX7_oddEven_37 (by decide) ?_
    refine lv_iload_n hx hb dX7_oddEven_38 rfl (lv_at hl 4 rfl) ?_
    refine z_imul hx hb dX7_oddEven_39 ?_
    refine z_callv (z_runV hC hM (m_folds hV hMI_22 hi (p9 := (2 * b)) (by omega) (by omega)) zy_X7_folds zm_X7_116 (hmm 0 (by decide)) hrs_22.2.1 zcl_X7 rfl rfl rfl hl.1 (Nat.le_of_ble_eq_true rfl) ⟨by decide, by decide⟩ ⟨by decide, by decide⟩ dX7_oddEven_40) hM (fun L1 f1 H locs hp hM => ?_)
    obtain ⟨e9L, sg9, cg9, hs9, e9f⟩ := hp
    have e9L := e9L.symm
    subst e9L e9f
    obtain ⟨f_5, ef_5⟩ : ∃ z9, z9 = va_up f1_22 ((ma 15)) (eD K 120 sg9) := ⟨_, rfl⟩
    rw [← ef_5] at hM
    have hF_6 : f_5 ((ma 0)) = eS 8 [.int (nI 0), .int (nI (ns A)), .ref ((ma 2)), .ref ((ma 3)), .ref ((ma 4)), .ref ((ma 5)), .ref ((ma 6)), .ref ((ma 7)), .ref ((ma 8)), .ref ((ma 9)), .ref ((ma 10)), .ref ((ma 11)), .ref ((ma 12)), .ref ((ma 13)), .ref ((ma 14)), .ref ((ma 15)), .ref ((ma 16)), .double (scB (gk A i) b), .int (oN (bFo (gk A i) b)), .int (nI (nw A)), .ref ((ma 20)), .ref ((ma 21)), .ref ((ma 22)), .ref ((ma 23)), .int (nI (np A)), .ref ((ma 25)), .ref ((ma 26))] := by rw [ef_5]; exact (va_up_ne _ _ (mne hmi (by decide) (by decide) (show 0 ≠ 15 by decide))).trans hrs_22.2.1
    have hF_7 : f_5 ((ma 15)) = eD K 120 sg9 := by rw [ef_5]; exact va_up_self _ _ _
    have hF_8 : f_5 ((ma 16)) = eI K 120 (fun j => nI (cg_22 j)) := by rw [ef_5]; exact (va_up_ne _ _ (mne hmi (by decide) (by decide) (show 16 ≠ 15 by decide))).trans hrs_22.2.2.2
    obtain ⟨f_9, ef_9⟩ : ∃ z9, z9 = va_up f_5 ((ma 16)) (eI K 120 (fun j => nI (cg9 j))) := ⟨_, rfl⟩
    rw [← ef_9] at hM
    have hF_10 : f_9 ((ma 0)) = eS 8 [.int (nI 0), .int (nI (ns A)), .ref ((ma 2)), .ref ((ma 3)), .ref ((ma 4)), .ref ((ma 5)), .ref ((ma 6)), .ref ((ma 7)), .ref ((ma 8)), .ref ((ma 9)), .ref ((ma 10)), .ref ((ma 11)), .ref ((ma 12)), .ref ((ma 13)), .ref ((ma 14)), .ref ((ma 15)), .ref ((ma 16)), .double (scB (gk A i) b), .int (oN (bFo (gk A i) b)), .int (nI (nw A)), .ref ((ma 20)), .ref ((ma 21)), .ref ((ma 22)), .ref ((ma 23)), .int (nI (np A)), .ref ((ma 25)), .ref ((ma 26))] := by rw [ef_9]; exact (va_up_ne _ _ (mne hmi (by decide) (by decide) (show 0 ≠ 16 by decide))).trans hF_6
    have hF_11 : f_9 ((ma 15)) = eD K 120 sg9 := by rw [ef_9]; exact (va_up_ne _ _ (mne hmi (by decide) (by decide) (show 15 ≠ 16 by decide))).trans hF_7
    have hF_12 : f_9 ((ma 16)) = eI K 120 (fun j => nI (cg9 j)) := by rw [ef_9]; exact va_up_self _ _ _
    refine lv_aload_n hx hb dX7_oddEven_43 rfl (lv_at hl 2 rfl) ?_
    refine z_get hC hM (hmm 0 (by decide)) hF_10 zcl_X7 (by decide) zl_X7_54 rfl dX7_oddEven_44 ?_
    refine lv_iload_n hx hb dX7_oddEven_47 rfl (lv_at hl 1 rfl) ?_
    refine z_iald hC hM (hmm 16 (by decide)) hF_12 (by omega) (by omega) dX7_oddEven_48 ?_
    rw [(hs9 (d) (by omega)).2]
    refine z_if_eq (tgt := 62) hx hb (nI_toInt (by omega)) dX7_oddEven_49 (by decide) (fun c_49 => ?_) (fun c_49 => ?_)
    · refine lv_dconst0 hx hb dX7_oddEven_62 ?_
      refine lv_goto (tgt := 97) hx hb dX7_oddEven_63 (by decide) ?_
      refine lv_dstore (lv' := [(5, .double FP.dconst0), (4, .int (nI (d + b))), (3, .int (nI d)), (0, .ref ((ma 0))), (1, .int (nI i)), (2, .int (nI b))]) hx hb dX7_oddEven_97 hl (by decide) rfl (fun ls hl => ?_)
      refine lv_dload hx hb dX7_oddEven_99 (lv_at hl 0 rfl) ?_
      refine z_fcalll (z_runS hC hM (c_d2l (BOK.n64 (v := FP.dconst0) (Or.inl (by decide +kernel)))) zy_Jxe99ae_doubleToLongBits_ccdee zm_X7_104 rfl rfl hl.1 (Nat.le_of_ble_eq_true rfl) ⟨by decide, by decide⟩ ⟨by decide, by decide⟩ dX7_oddEven_101) hM (fun H locs hM => ?_)
      rw [← hQ]
      exact z_lret hC hM hr hlk (by decide) (by decide) (mr_0l hk0 (by rw [v_oddEven, hiv, hivb, hoe, if_neg (fun z => by have z1 := z.1; omega)]; decide +kernel) rfl (hMRc.trans (RSx.mr (x := (sg9, cg9, scB (gk A i) b, oN (bFo (gk A i) b))) hMIc ⟨fun q h1 h2 h3 => by rw [ef_9, ef_5]; simp only [va_up, h2, h3, if_false]; exact hrs_22.1 q h1 h2 h3, hF_10, hF_11, hF_12⟩))) dX7_oddEven_104
    · refine lv_aload_n hx hb dX7_oddEven_52 rfl (lv_at hl 2 rfl) ?_
      refine z_get hC hM (hmm 0 (by decide)) hF_10 zcl_X7 (by decide) zl_X7_54 rfl dX7_oddEven_53 ?_
      refine lv_iload hx hb dX7_oddEven_56 (lv_at hl 0 rfl) ?_
      refine z_iald hC hM (hmm 16 (by decide)) hF_12 (by omega) (by omega) dX7_oddEven_58 ?_
      rw [(hs9 (d + b) (by omega)).2]
      refine z_if_ne (tgt := 66) hx hb (nI_toInt (by omega)) dX7_oddEven_59 (by decide) (fun c_59 => ?_) (fun c_59 => ?_)
      · have hc1 : 0 < fC (gk A i) (2 * b) 1000 d := by omega
        have hc2 : 0 < fC (gk A i) (2 * b) 1000 (d + b) := by omega
        have hn1 := (FP_fold hFP (show 0 < 2 * b by omega) d hc1).1
        have hn2 := (FP_fold hFP (show 0 < 2 * b by omega) (d + b) hc2).1
        have hn3 := hFP.2.2.2.2.2.2 (2 * b) d (d + b) (by omega) hc1 hc2
        have hob := oe_bits hGo (p := b) (by omega) (by omega)
        rw [hoe, if_pos ⟨hc1, hc2⟩] at hob
        unfold mnF mf at hn3 hob
        rw [if_pos hc1, if_pos hc2] at hn3 hob
        refine lv_aload_n hx hb dX7_oddEven_66 rfl (lv_at hl 2 rfl) ?_
        refine z_get hC hM (hmm 0 (by decide)) hF_10 zcl_X7 (by decide) zl_X7_51 rfl dX7_oddEven_67 ?_
        refine lv_iload_n hx hb dX7_oddEven_70 rfl (lv_at hl 1 rfl) ?_
        refine z_dald hC hM (hmm 15 (by decide)) hF_11 (by omega) (by omega) dX7_oddEven_71 ?_
        rw [(hs9 (d) (by omega)).1]
        refine lv_aload_n hx hb dX7_oddEven_72 rfl (lv_at hl 2 rfl) ?_
        refine z_get hC hM (hmm 0 (by decide)) hF_10 zcl_X7 (by decide) zl_X7_54 rfl dX7_oddEven_73 ?_
        refine lv_iload_n hx hb dX7_oddEven_76 rfl (lv_at hl 1 rfl) ?_
        refine z_iald hC hM (hmm 16 (by decide)) hF_12 (by omega) (by omega) dX7_oddEven_77 ?_
        rw [(hs9 (d) (by omega)).2]
        refine lv_i2d hx hb dX7_oddEven_78 ?_
        refine lv_ddiv hx hb dX7_oddEven_79 hn1 ?_
        refine lv_aload_n hx hb dX7_oddEven_80 rfl (lv_at hl 2 rfl) ?_
        refine z_get hC hM (hmm 0 (by decide)) hF_10 zcl_X7 (by decide) zl_X7_51 rfl dX7_oddEven_81 ?_
        refine lv_iload hx hb dX7_oddEven_84 (lv_at hl 0 rfl) ?_
        refine z_dald hC hM (hmm 15 (by decide)) hF_11 (by omega) (by omega) dX7_oddEven_86 ?_
        rw [(hs9 (d + b) (by omega)).1]
        refine lv_aload_n hx hb dX7_oddEven_87 rfl (lv_at hl 2 rfl) ?_
        refine z_get hC hM (hmm 0 (by decide)) hF_10 zcl_X7 (by decide) zl_X7_54 rfl dX7_oddEven_88 ?_
        refine lv_iload hx hb dX7_oddEven_91 (lv_at hl 0 rfl) ?_
        refine z_iald hC hM (hmm 16 (by decide)) hF_12 (by omega) (by omega) dX7_oddEven_93 ?_
        rw [(hs9 (d + b) (by omega)).2]
        refine lv_i2d hx hb dX7_oddEven_94 ?_
        refine lv_ddiv hx hb dX7_oddEven_95 hn2 ?_
        refine lv_dsub hx hb dX7_oddEven_96 hn3 ?_
        refine lv_dstore (lv' := [(5, .double (FP.dsub (FP.ddiv (fS (gk A i) (2 * b) 1000 d) (FP.i2d (nI (fC (gk A i) (2 * b) 1000 d)))) (FP.ddiv (fS (gk A i) (2 * b) 1000 (d + b)) (FP.i2d (nI (fC (gk A i) (2 * b) 1000 (d + b))))))), (4, .int (nI (d + b))), (3, .int (nI d)), (0, .ref ((ma 0))), (1, .int (nI i)), (2, .int (nI b))]) hx hb dX7_oddEven_97 hl (by decide) rfl (fun ls hl => ?_)
        refine lv_dload hx hb dX7_oddEven_99 (lv_at hl 0 rfl) ?_
        refine z_fcalll (z_runS hC hM (c_d2l hob.n64) zy_Jxe99ae_doubleToLongBits_ccdee zm_X7_104 rfl rfl hl.1 (Nat.le_of_ble_eq_true rfl) ⟨by decide, by decide⟩ ⟨by decide, by decide⟩ dX7_oddEven_101) hM (fun H locs hM => ?_)
        rw [← hQ]
        exact z_lret hC hM hr hlk (by decide) (by decide) (mr_0l hk0 (by rw [v_oddEven, hiv, hivb, hoe, if_pos ⟨hc1, hc2⟩]; unfold mnF mf; rw [if_pos hc1, if_pos hc2]) rfl (hMRc.trans (RSx.mr (x := (sg9, cg9, scB (gk A i) b, oN (bFo (gk A i) b))) hMIc ⟨fun q h1 h2 h3 => by rw [ef_9, ef_5]; simp only [va_up, h2, h3, if_false]; exact hrs_22.1 q h1 h2 h3, hF_10, hF_11, hF_12⟩))) dX7_oddEven_104
      · refine lv_dconst0 hx hb dX7_oddEven_62 ?_
        refine lv_goto (tgt := 97) hx hb dX7_oddEven_63 (by decide) ?_
        refine lv_dstore (lv' := [(5, .double FP.dconst0), (4, .int (nI (d + b))), (3, .int (nI d)), (0, .ref ((ma 0))), (1, .int (nI i)), (2, .int (nI b))]) hx hb dX7_oddEven_97 hl (by decide) rfl (fun ls hl => ?_)
        refine lv_dload hx hb dX7_oddEven_99 (lv_at hl 0 rfl) ?_
        refine z_fcalll (z_runS hC hM (c_d2l (BOK.n64 (v := FP.dconst0) (Or.inl (by decide +kernel)))) zy_Jxe99ae_doubleToLongBits_ccdee zm_X7_104 rfl rfl hl.1 (Nat.le_of_ble_eq_true rfl) ⟨by decide, by decide⟩ ⟨by decide, by decide⟩ dX7_oddEven_101) hM (fun H locs hM => ?_)
        rw [← hQ]
        exact z_lret hC hM hr hlk (by decide) (by decide) (mr_0l hk0 (by rw [v_oddEven, hiv, hivb, hoe, if_neg (fun z => by have z1 := z.2; omega)]; decide +kernel) rfl (hMRc.trans (RSx.mr (x := (sg9, cg9, scB (gk A i) b, oN (bFo (gk A i) b))) hMIc ⟨fun q h1 h2 h3 => by rw [ef_9, ef_5]; simp only [va_up, h2, h3, if_false]; exact hrs_22.1 q h1 h2 h3, hF_10, hF_11, hF_12⟩))) dX7_oddEven_104
  · refine lv_lconst (v := 0) hx hb dX7_oddEven_17 (by decide) ?_
    rw [← hQ]
    exact z_lret hC hM hr hlk (by decide) (by decide) (mr_xl (k := k_fold A x y1) rfl (fun _ => rfl) (mr_t hmm hmi hop hmc hF_2 (fun q h9 => by rw [ef_1]; simp only [va_up, h9, if_false])) (by omega)) dX7_oddEven_18
set_option maxHeartbeats 400000 in
set_option maxRecDepth 100000 in
theorem m_about {l : Launch} {base : Nat} {K : zK} {L : List Nat} {f : Nat → va_E} {A : zA} {ma : Nat → Nat} {t : Int32} (hV : VA A) (hMI : MI K L f A ma t) (x y1 : Int32) : zMet l yX7_about cX7_about 3 (some .int) (zr 2 0 0 43) base K L f [.ref ((ma 0)), .int x, .int y1] (zQi base K (fun r L1 f1 => (k_about A x y1 = 0 → r = v_about A x y1) ∧ MR K A ma L f A (nI (k_about A x y1)) L1 f1)) := by
  have hMI9 := hMI
  obtain ⟨hmm, hmi, ⟨sg, cg, bb, bf⟩, op, hop, hmc⟩ := hMI9
  have hV9 := hV
  obtain ⟨hv1, hv2, hv3, hvS, hvO, hvK, hvK1, hvL, hv11, hvW, hv23, hvW0, hvP⟩ := hV9
  have hg0 : f (ma 0) = eS 8 [.int t, .int (nI (ns A)), .ref ((ma 2)), .ref ((ma 3)), .ref ((ma 4)), .ref ((ma 5)), .ref ((ma 6)), .ref ((ma 7)), .ref ((ma 8)), .ref ((ma 9)), .ref ((ma 10)), .ref ((ma 11)), .ref ((ma 12)), .ref ((ma 13)), .ref ((ma 14)), .ref ((ma 15)), .ref ((ma 16)), .double bb, .int bf, .int (nI (nw A)), .ref ((ma 20)), .ref ((ma 21)), .ref ((ma 22)), .ref ((ma 23)), .int (nI (np A)), .ref ((ma 25)), .ref ((ma 26))] := hmc 0 (by decide)
  have hg20 : f (ma 20) = eI K 12 (fun j => nI ((A.1 20) j)) := hmc 20 (by decide)
  have hg21 : f (ma 21) = eI K 12 (fun j => nI ((A.1 21) j)) := hmc 21 (by decide)
  have hg22 : f (ma 22) = eI K 12 (fun j => nI ((A.1 22) j)) := hmc 22 (by decide)
  have hg23 : f (ma 23) = eZ K 12 (fun j => nI ((A.1 23) j)) := hmc 23 (by decide)
  refine z_met (by decide) (Nat.le_of_ble_eq_true rfl) (fun p e s m below meth c ls hC hM hr hlk hnm hl => ?_)
  have hx := hC.1
  have hb := hC.2.1
  have hml := hC.2.2.1
  have hown := hC.2.2.2.1
  have hts := hC.2.2.2.2.1
  generalize hA : ([.ref ((ma 0)), .int x, .int y1] : List Value).toArray = args at hC ⊢
  generalize hQ : MQ _ _ _ _ _ _ _ = Q
  obtain ⟨locs, hlocs⟩ : ∃ z : List Loc, z = [] := ⟨_, rfl⟩
  obtain ⟨H, hH⟩ : ∃ z : Heap, z = s.heap := ⟨_, rfl⟩
  rw [← hlocs, ← hH] at hM ⊢
  have hl : lv_has ls 3 [(0, .ref ((ma 0))), (1, .int x), (2, .int y1)] := hl
  refine lv_aload_n hx hb dX7_about_0 rfl (lv_at hl 0 rfl) ?_
  refine lv_aload_n hx hb dX7_about_1 rfl (lv_at hl 0 rfl) ?_
  refine lv_iload_n hx hb dX7_about_2 rfl (lv_at hl 1 rfl) ?_
  refine z_fcalli (z_runV hC hM (c_isWorld hV hMI x) zy_X7_isWorld zm_X7_145 (hmm 0 (by decide)) hg0 zcl_X7 rfl rfl rfl hl.1 (Nat.le_of_ble_eq_true rfl) ⟨by decide, by decide⟩ ⟨by decide, by decide⟩ dX7_about_3) hM (fun H locs hM => ?_)
  refine z_if_neB (tgt := 13) hx hb dX7_about_6 (by decide) (fun c_6 => ?_) (fun c_6 => ?_)
  · skip
    obtain ⟨w, hw0, hw9, hxw⟩ := nI_of_range (Int.le_refl 0) c_6.1 c_6.2
    subst hxw
    have hw : w < nw A := by omega
    have hiv := iv_nI (i := w) (by omega)
    obtain ⟨u1, u2, u3, u4⟩ := hvW w hw
    have u5 := hv23 w
    refine lv_iload_n hx hb dX7_about_13 rfl (lv_at hl 2 rfl) ?_
    refine lv_iconst (v := nI 0) hx hb dX7_about_14 (by decide) ?_
    refine lv_iconst (v := nI 3) hx hb dX7_about_15 (by decide) ?_
    refine z_fcalli (z_runS hC hM (c_isIn (x := y1) (ea := 0) (eb := 3) (by decide) (by decide)) zy_X7_isIn zm_X7_82 rfl rfl hl.1 (Nat.le_of_ble_eq_true rfl) ⟨by decide, by decide⟩ ⟨by decide, by decide⟩ dX7_about_16) hM (fun H locs hM => ?_)
    refine z_if_neB (tgt := 26) hx hb dX7_about_19 (by decide) (fun c_19 => ?_) (fun c_19 => ?_)
    · skip
      obtain ⟨a, ha1, ha2, hxa⟩ := nI_of_range (by decide) c_19.1 c_19.2
      subst hxa
      have hiva := iv_nI (i := a) (by omega)
      refine lv_iconst (v := nI 0) hx hb dX7_about_26 (by decide) ?_
      refine z_put (fs' := [.int (nI 0), .int (nI (ns A)), .ref ((ma 2)), .ref ((ma 3)), .ref ((ma 4)), .ref ((ma 5)), .ref ((ma 6)), .ref ((ma 7)), .ref ((ma 8)), .ref ((ma 9)), .ref ((ma 10)), .ref ((ma 11)), .ref ((ma 12)), .ref ((ma 13)), .ref ((ma 14)), .ref ((ma 15)), .ref ((ma 16)), .double bb, .int bf, .int (nI (nw A)), .ref ((ma 20)), .ref ((ma 21)), .ref ((ma 22)), .ref ((ma 23)), .int (nI (np A)), .ref ((ma 25)), .ref ((ma 26))]) hC hM (hmm 0 (by decide)) hg0 zcl_X7 (by decide) zl_X7_75 rfl rfl (by rfl) (Nat.le_of_ble_eq_true rfl) rfl dX7_about_27 (fun H locs hM => ?_)
      obtain ⟨f_1, ef_1⟩ : ∃ z9, z9 = va_up f ((ma 0)) (eS 8 [.int (nI 0), .int (nI (ns A)), .ref ((ma 2)), .ref ((ma 3)), .ref ((ma 4)), .ref ((ma 5)), .ref ((ma 6)), .ref ((ma 7)), .ref ((ma 8)), .ref ((ma 9)), .ref ((ma 10)), .ref ((ma 11)), .ref ((ma 12)), .ref ((ma 13)), .ref ((ma 14)), .ref ((ma 15)), .ref ((ma 16)), .double bb, .int bf, .int (nI (nw A)), .ref ((ma 20)), .ref ((ma 21)), .ref ((ma 22)), .ref ((ma 23)), .int (nI (np A)), .ref ((ma 25)), .ref ((ma 26))]) := ⟨_, rfl⟩
      rw [← ef_1] at hM
      have hF_2 : f_1 ((ma 0)) = eS 8 [.int (nI 0), .int (nI (ns A)), .ref ((ma 2)), .ref ((ma 3)), .ref ((ma 4)), .ref ((ma 5)), .ref ((ma 6)), .ref ((ma 7)), .ref ((ma 8)), .ref ((ma 9)), .ref ((ma 10)), .ref ((ma 11)), .ref ((ma 12)), .ref ((ma 13)), .ref ((ma 14)), .ref ((ma 15)), .ref ((ma 16)), .double bb, .int bf, .int (nI (nw A)), .ref ((ma 20)), .ref ((ma 21)), .ref ((ma 22)), .ref ((ma 23)), .int (nI (np A)), .ref ((ma 25)), .ref ((ma 26))] := by rw [ef_1]; exact va_up_self _ _ _
      have hF_3 : f_1 ((ma 20)) = eI K 12 (fun j => nI ((A.1 20) j)) := by rw [ef_1]; exact (va_up_ne _ _ (mne hmi (by decide) (by decide) (show 20 ≠ 0 by decide))).trans hg20
      have hF_4 : f_1 ((ma 21)) = eI K 12 (fun j => nI ((A.1 21) j)) := by rw [ef_1]; exact (va_up_ne _ _ (mne hmi (by decide) (by decide) (show 21 ≠ 0 by decide))).trans hg21
      have hF_5 : f_1 ((ma 22)) = eI K 12 (fun j => nI ((A.1 22) j)) := by rw [ef_1]; exact (va_up_ne _ _ (mne hmi (by decide) (by decide) (show 22 ≠ 0 by decide))).trans hg22
      have hF_6 : f_1 ((ma 23)) = eZ K 12 (fun j => nI ((A.1 23) j)) := by rw [ef_1]; exact (va_up_ne _ _ (mne hmi (by decide) (by decide) (show 23 ≠ 0 by decide))).trans hg23
      refine lv_aload_n hx hb dX7_about_30 rfl (lv_at hl 0 rfl) ?_
      refine z_get hC hM (hmm 0 (by decide)) hF_2 zcl_X7 (by decide) zl_X7_75 rfl dX7_about_31 ?_
      refine z_if_le (tgt := 39) hx hb (nI_toInt (by decide)) dX7_about_34 (by decide) (fun c_34 => ?_) (fun c_34 => ?_)
      · refine lv_iload_n hx hb dX7_about_39 rfl (lv_at hl 2 rfl) ?_
        refine z_if_ne (tgt := 52) hx hb (nI_toInt (by omega)) dX7_about_40 (by decide) (fun c_40 => ?_) (fun c_40 => ?_)
        · refine lv_iload_n hx hb dX7_about_52 rfl (lv_at hl 2 rfl) ?_
          refine lv_iconst (v := nI 1) hx hb dX7_about_53 (by decide) ?_
          refine z_icmp_ne (tgt := 66) hx hb (nI_toInt (by omega)) (nI_toInt (by decide)) dX7_about_54 (by decide) (fun c_54 => ?_) (fun c_54 => ?_)
          · refine lv_iload_n hx hb dX7_about_66 rfl (lv_at hl 2 rfl) ?_
            refine lv_iconst (v := nI 2) hx hb dX7_about_67 (by decide) ?_
            refine z_icmp_ne (tgt := 80) hx hb (nI_toInt (by omega)) (nI_toInt (by decide)) dX7_about_68 (by decide) (fun c_68 => ?_) (fun c_68 => ?_)
            · refine lv_aload_n hx hb dX7_about_80 rfl (lv_at hl 0 rfl) ?_
              refine z_get hC hM (hmm 0 (by decide)) hF_2 zcl_X7 (by decide) zl_X7_66 rfl dX7_about_81 ?_
              refine lv_iload_n hx hb dX7_about_84 rfl (lv_at hl 1 rfl) ?_
              refine z_zald hC hM (hmm 23 (by decide)) hF_6 (by omega) (by omega) dX7_about_85 ?_
              refine z_if_eq (tgt := 93) hx hb (nI_toInt (by omega)) dX7_about_86 (by decide) (fun c_86 => ?_) (fun c_86 => ?_)
              · refine lv_iconst (v := nI 0) hx hb dX7_about_93 (by decide) ?_
                rw [← hQ]
                exact z_iret hC hM hr hlk rfl (by decide) (by decide) (mr_0 (qab0 c_6 c_19) (by rw [v_about, hiv, hiva, if_neg (by omega), if_neg (by omega), if_neg (by omega)]; exact congrArg nI (by omega)) rfl (mr_t hmm hmi hop hmc hF_2 (fun q h9 => by rw [ef_1]; simp only [va_up, h9, if_false]))) dX7_about_94
              · refine lv_iconst (v := nI 1) hx hb dX7_about_89 (by decide) ?_
                refine lv_goto (tgt := 94) hx hb dX7_about_90 (by decide) ?_
                rw [← hQ]
                exact z_iret hC hM hr hlk rfl (by decide) (by decide) (mr_0 (qab0 c_6 c_19) (by rw [v_about, hiv, hiva, if_neg (by omega), if_neg (by omega), if_neg (by omega)]; exact congrArg nI (by omega)) rfl (mr_t hmm hmi hop hmc hF_2 (fun q h9 => by rw [ef_1]; simp only [va_up, h9, if_false]))) dX7_about_94
            · refine lv_aload_n hx hb dX7_about_71 rfl (lv_at hl 0 rfl) ?_
              refine z_get hC hM (hmm 0 (by decide)) hF_2 zcl_X7 (by decide) zl_X7_63 rfl dX7_about_72 ?_
              refine lv_iload_n hx hb dX7_about_75 rfl (lv_at hl 1 rfl) ?_
              refine z_iald hC hM (hmm 22 (by decide)) hF_5 (by omega) (by omega) dX7_about_76 ?_
              refine lv_goto (tgt := 94) hx hb dX7_about_77 (by decide) ?_
              rw [← hQ]
              exact z_iret hC hM hr hlk rfl (by decide) (by decide) (mr_0 (qab0 c_6 c_19) (by rw [v_about, hiv, hiva, if_neg (by omega), if_neg (by omega), if_pos (by omega)]) rfl (mr_t hmm hmi hop hmc hF_2 (fun q h9 => by rw [ef_1]; simp only [va_up, h9, if_false]))) dX7_about_94
          · refine lv_aload_n hx hb dX7_about_57 rfl (lv_at hl 0 rfl) ?_
            refine z_get hC hM (hmm 0 (by decide)) hF_2 zcl_X7 (by decide) zl_X7_60 rfl dX7_about_58 ?_
            refine lv_iload_n hx hb dX7_about_61 rfl (lv_at hl 1 rfl) ?_
            refine z_iald hC hM (hmm 21 (by decide)) hF_4 (by omega) (by omega) dX7_about_62 ?_
            refine lv_goto (tgt := 94) hx hb dX7_about_63 (by decide) ?_
            rw [← hQ]
            exact z_iret hC hM hr hlk rfl (by decide) (by decide) (mr_0 (qab0 c_6 c_19) (by rw [v_about, hiv, hiva, if_neg (by omega), if_pos (by omega)]) rfl (mr_t hmm hmi hop hmc hF_2 (fun q h9 => by rw [ef_1]; simp only [va_up, h9, if_false]))) dX7_about_94
        · refine lv_aload_n hx hb dX7_about_43 rfl (lv_at hl 0 rfl) ?_
          refine z_get hC hM (hmm 0 (by decide)) hF_2 zcl_X7 (by decide) zl_X7_57 rfl dX7_about_44 ?_
          refine lv_iload_n hx hb dX7_about_47 rfl (lv_at hl 1 rfl) ?_
          refine z_iald hC hM (hmm 20 (by decide)) hF_3 (by omega) (by omega) dX7_about_48 ?_
          refine lv_goto (tgt := 94) hx hb dX7_about_49 (by decide) ?_
          rw [← hQ]
          exact z_iret hC hM hr hlk rfl (by decide) (by decide) (mr_0 (qab0 c_6 c_19) (by rw [v_about, hiv, hiva, if_pos (by omega)]) rfl (mr_t hmm hmi hop hmc hF_2 (fun q h9 => by rw [ef_1]; simp only [va_up, h9, if_false]))) dX7_about_94
      · exact absurd c_34 (by omega)
    · refine lv_iconst (v := nI 2) hx hb dX7_about_22 (by decide) ?_
      refine lv_goto (tgt := 27) hx hb dX7_about_23 (by decide) ?_
      refine z_put (fs' := [.int (nI 2), .int (nI (ns A)), .ref ((ma 2)), .ref ((ma 3)), .ref ((ma 4)), .ref ((ma 5)), .ref ((ma 6)), .ref ((ma 7)), .ref ((ma 8)), .ref ((ma 9)), .ref ((ma 10)), .ref ((ma 11)), .ref ((ma 12)), .ref ((ma 13)), .ref ((ma 14)), .ref ((ma 15)), .ref ((ma 16)), .double bb, .int bf, .int (nI (nw A)), .ref ((ma 20)), .ref ((ma 21)), .ref ((ma 22)), .ref ((ma 23)), .int (nI (np A)), .ref ((ma 25)), .ref ((ma 26))]) hC hM (hmm 0 (by decide)) hg0 zcl_X7 (by decide) zl_X7_75 rfl rfl (by rfl) (Nat.le_of_ble_eq_true rfl) rfl dX7_about_27 (fun H locs hM => ?_)
      obtain ⟨f_7, ef_7⟩ : ∃ z9, z9 = va_up f ((ma 0)) (eS 8 [.int (nI 2), .int (nI (ns A)), .ref ((ma 2)), .ref ((ma 3)), .ref ((ma 4)), .ref ((ma 5)), .ref ((ma 6)), .ref ((ma 7)), .ref ((ma 8)), .ref ((ma 9)), .ref ((ma 10)), .ref ((ma 11)), .ref ((ma 12)), .ref ((ma 13)), .ref ((ma 14)), .ref ((ma 15)), .ref ((ma 16)), .double bb, .int bf, .int (nI (nw A)), .ref ((ma 20)), .ref ((ma 21)), .ref ((ma 22)), .ref ((ma 23)), .int (nI (np A)), .ref ((ma 25)), .ref ((ma 26))]) := ⟨_, rfl⟩
      rw [← ef_7] at hM
      have hF_8 : f_7 ((ma 0)) = eS 8 [.int (nI 2), .int (nI (ns A)), .ref ((ma 2)), .ref ((ma 3)), .ref ((ma 4)), .ref ((ma 5)), .ref ((ma 6)), .ref ((ma 7)), .ref ((ma 8)), .ref ((ma 9)), .ref ((ma 10)), .ref ((ma 11)), .ref ((ma 12)), .ref ((ma 13)), .ref ((ma 14)), .ref ((ma 15)), .ref ((ma 16)), .double bb, .int bf, .int (nI (nw A)), .ref ((ma 20)), .ref ((ma 21)), .ref ((ma 22)), .ref ((ma 23)), .int (nI (np A)), .ref ((ma 25)), .ref ((ma 26))] := by rw [ef_7]; exact va_up_self _ _ _
      have hF_9 : f_7 ((ma 20)) = eI K 12 (fun j => nI ((A.1 20) j)) := by rw [ef_7]; exact (va_up_ne _ _ (mne hmi (by decide) (by decide) (show 20 ≠ 0 by decide))).trans hg20
      have hF_10 : f_7 ((ma 21)) = eI K 12 (fun j => nI ((A.1 21) j)) := by rw [ef_7]; exact (va_up_ne _ _ (mne hmi (by decide) (by decide) (show 21 ≠ 0 by decide))).trans hg21
      have hF_11 : f_7 ((ma 22)) = eI K 12 (fun j => nI ((A.1 22) j)) := by rw [ef_7]; exact (va_up_ne _ _ (mne hmi (by decide) (by decide) (show 22 ≠ 0 by decide))).trans hg22
      have hF_12 : f_7 ((ma 23)) = eZ K 12 (fun j => nI ((A.1 23) j)) := by rw [ef_7]; exact (va_up_ne _ _ (mne hmi (by decide) (by decide) (show 23 ≠ 0 by decide))).trans hg23
      refine lv_aload_n hx hb dX7_about_30 rfl (lv_at hl 0 rfl) ?_
      refine z_get hC hM (hmm 0 (by decide)) hF_8 zcl_X7 (by decide) zl_X7_75 rfl dX7_about_31 ?_
      refine z_if_le (tgt := 39) hx hb (nI_toInt (by decide)) dX7_about_34 (by decide) (fun c_34 => ?_) (fun c_34 => ?_)
      · exact absurd c_34 (by omega)
      · refine lv_iconst (v := nI 0) hx hb dX7_about_37 (by decide) ?_
        rw [← hQ]
        exact z_iret hC hM hr hlk rfl (by decide) (by decide) (mr_x (qab2 c_6 c_19) (fun _ => rfl) (mr_t hmm hmi hop hmc hF_8 (fun q h9 => by rw [ef_7]; simp only [va_up, h9, if_false])) (by decide)) dX7_about_38
  · refine lv_iconst (v := nI 1) hx hb dX7_about_9 (by decide) ?_
    refine lv_goto (tgt := 27) hx hb dX7_about_10 (by decide) ?_
    refine z_put (fs' := [.int (nI 1), .int (nI (ns A)), .ref ((ma 2)), .ref ((ma 3)), .ref ((ma 4)), .ref ((ma 5)), .ref ((ma 6)), .ref ((ma 7)), .ref ((ma 8)), .ref ((ma 9)), .ref ((ma 10)), .ref ((ma 11)), .ref ((ma 12)), .ref ((ma 13)), .ref ((ma 14)), .ref ((ma 15)), .ref ((ma 16)), .double bb, .int bf, .int (nI (nw A)), .ref ((ma 20)), .ref ((ma 21)), .ref ((ma 22)), .ref ((ma 23)), .int (nI (np A)), .ref ((ma 25)), .ref ((ma 26))]) hC hM (hmm 0 (by decide)) hg0 zcl_X7 (by decide) zl_X7_75 rfl rfl (by rfl) (Nat.le_of_ble_eq_true rfl) rfl dX7_about_27 (fun H locs hM => ?_)
    obtain ⟨f_13, ef_13⟩ : ∃ z9, z9 = va_up f ((ma 0)) (eS 8 [.int (nI 1), .int (nI (ns A)), .ref ((ma 2)), .ref ((ma 3)), .ref ((ma 4)), .ref ((ma 5)), .ref ((ma 6)), .ref ((ma 7)), .ref ((ma 8)), .ref ((ma 9)), .ref ((ma 10)), .ref ((ma 11)), .ref ((ma 12)), .ref ((ma 13)), .ref ((ma 14)), .ref ((ma 15)), .ref ((ma 16)), .double bb, .int bf, .int (nI (nw A)), .ref ((ma 20)), .ref ((ma 21)), .ref ((ma 22)), .ref ((ma 23)), .int (nI (np A)), .ref ((ma 25)), .ref ((ma 26))]) := ⟨_, rfl⟩
    rw [← ef_13] at hM
    have hF_14 : f_13 ((ma 0)) = eS 8 [.int (nI 1), .int (nI (ns A)), .ref ((ma 2)), .ref ((ma 3)), .ref ((ma 4)), .ref ((ma 5)), .ref ((ma 6)), .ref ((ma 7)), .ref ((ma 8)), .ref ((ma 9)), .ref ((ma 10)), .ref ((ma 11)), .ref ((ma 12)), .ref ((ma 13)), .ref ((ma 14)), .ref ((ma 15)), .ref ((ma 16)), .double bb, .int bf, .int (nI (nw A)), .ref ((ma 20)), .ref ((ma 21)), .ref ((ma 22)), .ref ((ma 23)), .int (nI (np A)), .ref ((ma 25)), .ref ((ma 26))] := by rw [ef_13]; exact va_up_self _ _ _
    have hF_15 : f_13 ((ma 20)) = eI K 12 (fun j => nI ((A.1 20) j)) := by rw [ef_13]; exact (va_up_ne _ _ (mne hmi (by decide) (by decide) (show 20 ≠ 0 by decide))).trans hg20
    have hF_16 : f_13 ((ma 21)) = eI K 12 (fun j => nI ((A.1 21) j)) := by rw [ef_13]; exact (va_up_ne _ _ (mne hmi (by decide) (by decide) (show 21 ≠ 0 by decide))).trans hg21
    have hF_17 : f_13 ((ma 22)) = eI K 12 (fun j => nI ((A.1 22) j)) := by rw [ef_13]; exact (va_up_ne _ _ (mne hmi (by decide) (by decide) (show 22 ≠ 0 by decide))).trans hg22
    have hF_18 : f_13 ((ma 23)) = eZ K 12 (fun j => nI ((A.1 23) j)) := by rw [ef_13]; exact (va_up_ne _ _ (mne hmi (by decide) (by decide) (show 23 ≠ 0 by decide))).trans hg23
    refine lv_aload_n hx hb dX7_about_30 rfl (lv_at hl 0 rfl) ?_
    refine z_get hC hM (hmm 0 (by decide)) hF_14 zcl_X7 (by decide) zl_X7_75 rfl dX7_about_31 ?_
    refine z_if_le (tgt := 39) hx hb (nI_toInt (by decide)) dX7_about_34 (by decide) (fun c_34 => ?_) (fun c_34 => ?_)
    · exact absurd c_34 (by omega)
    · refine lv_iconst (v := nI 0) hx hb dX7_about_37 (by decide) ?_
      rw [← hQ]
      exact z_iret hC hM hr hlk rfl (by decide) (by decide) (mr_x (qab1 c_6) (fun _ => rfl) (mr_t hmm hmi hop hmc hF_14 (fun q h9 => by rw [ef_13]; simp only [va_up, h9, if_false])) (by decide)) dX7_about_38
set_option maxHeartbeats 400000 in
set_option maxRecDepth 100000 in
theorem m_anew {l : Launch} {base : Nat} {K : zK} {L : List Nat} {f : Nat → va_E} {A : zA} {ma : Nat → Nat} {t : Int32} (hV : VA A) (hMI : MI K L f A ma t) (x : Int32) : zMet l yX7_periodAnew cX7_periodAnew 2 (some .int) (zr 2 0 0 43) base K L f [.ref ((ma 0)), .int x] (zQi base K (fun r L1 f1 => (k_anew A x = 0 → r = v_anew A x) ∧ MR K A ma L f A (nI (k_anew A x)) L1 f1)) := by
  have hMI9 := hMI
  obtain ⟨hmm, hmi, ⟨sg, cg, bb, bf⟩, op, hop, hmc⟩ := hMI9
  have hV9 := hV
  obtain ⟨hv1, hv2, hv3, hvS, hvO, hvK, hvK1, hvL, hv11, hvW, hv23, hvW0, hvP⟩ := hV9
  have hg0 : f (ma 0) = eS 8 [.int t, .int (nI (ns A)), .ref ((ma 2)), .ref ((ma 3)), .ref ((ma 4)), .ref ((ma 5)), .ref ((ma 6)), .ref ((ma 7)), .ref ((ma 8)), .ref ((ma 9)), .ref ((ma 10)), .ref ((ma 11)), .ref ((ma 12)), .ref ((ma 13)), .ref ((ma 14)), .ref ((ma 15)), .ref ((ma 16)), .double bb, .int bf, .int (nI (nw A)), .ref ((ma 20)), .ref ((ma 21)), .ref ((ma 22)), .ref ((ma 23)), .int (nI (np A)), .ref ((ma 25)), .ref ((ma 26))] := hmc 0 (by decide)
  have hg21 : f (ma 21) = eI K 12 (fun j => nI ((A.1 21) j)) := hmc 21 (by decide)
  refine z_met (by decide) (Nat.le_of_ble_eq_true rfl) (fun p e s m below meth c ls hC hM hr hlk hnm hl => ?_)
  have hx := hC.1
  have hb := hC.2.1
  have hml := hC.2.2.1
  have hown := hC.2.2.2.1
  have hts := hC.2.2.2.2.1
  generalize hA : ([.ref ((ma 0)), .int x] : List Value).toArray = args at hC ⊢
  generalize hQ : MQ _ _ _ _ _ _ _ = Q
  obtain ⟨locs, hlocs⟩ : ∃ z : List Loc, z = [] := ⟨_, rfl⟩
  obtain ⟨H, hH⟩ : ∃ z : Heap, z = s.heap := ⟨_, rfl⟩
  rw [← hlocs, ← hH] at hM ⊢
  have hl : lv_has ls 2 [(0, .ref ((ma 0))), (1, .int x)] := hl
  refine lv_aload_n hx hb dX7_periodAnew_0 rfl (lv_at hl 0 rfl) ?_
  refine lv_aload_n hx hb dX7_periodAnew_1 rfl (lv_at hl 0 rfl) ?_
  refine lv_iload_n hx hb dX7_periodAnew_2 rfl (lv_at hl 1 rfl) ?_
  refine z_fcalli (z_runV hC hM (c_isWorld hV hMI x) zy_X7_isWorld zm_X7_145 (hmm 0 (by decide)) hg0 zcl_X7 rfl rfl rfl hl.1 (Nat.le_of_ble_eq_true rfl) ⟨by decide, by decide⟩ ⟨by decide, by decide⟩ dX7_periodAnew_3) hM (fun H locs hM => ?_)
  refine z_if_eqB (tgt := 13) hx hb dX7_periodAnew_6 (by decide) (fun c_6 => ?_) (fun c_6 => ?_)
  · refine lv_iconst (v := nI 1) hx hb dX7_periodAnew_13 (by decide) ?_
    refine z_put (fs' := [.int (nI 1), .int (nI (ns A)), .ref ((ma 2)), .ref ((ma 3)), .ref ((ma 4)), .ref ((ma 5)), .ref ((ma 6)), .ref ((ma 7)), .ref ((ma 8)), .ref ((ma 9)), .ref ((ma 10)), .ref ((ma 11)), .ref ((ma 12)), .ref ((ma 13)), .ref ((ma 14)), .ref ((ma 15)), .ref ((ma 16)), .double bb, .int bf, .int (nI (nw A)), .ref ((ma 20)), .ref ((ma 21)), .ref ((ma 22)), .ref ((ma 23)), .int (nI (np A)), .ref ((ma 25)), .ref ((ma 26))]) hC hM (hmm 0 (by decide)) hg0 zcl_X7 (by decide) zl_X7_75 rfl rfl (by rfl) (Nat.le_of_ble_eq_true rfl) rfl dX7_periodAnew_14 (fun H locs hM => ?_)
    obtain ⟨f_1, ef_1⟩ : ∃ z9, z9 = va_up f ((ma 0)) (eS 8 [.int (nI 1), .int (nI (ns A)), .ref ((ma 2)), .ref ((ma 3)), .ref ((ma 4)), .ref ((ma 5)), .ref ((ma 6)), .ref ((ma 7)), .ref ((ma 8)), .ref ((ma 9)), .ref ((ma 10)), .ref ((ma 11)), .ref ((ma 12)), .ref ((ma 13)), .ref ((ma 14)), .ref ((ma 15)), .ref ((ma 16)), .double bb, .int bf, .int (nI (nw A)), .ref ((ma 20)), .ref ((ma 21)), .ref ((ma 22)), .ref ((ma 23)), .int (nI (np A)), .ref ((ma 25)), .ref ((ma 26))]) := ⟨_, rfl⟩
    rw [← ef_1] at hM
    have hF_2 : f_1 ((ma 0)) = eS 8 [.int (nI 1), .int (nI (ns A)), .ref ((ma 2)), .ref ((ma 3)), .ref ((ma 4)), .ref ((ma 5)), .ref ((ma 6)), .ref ((ma 7)), .ref ((ma 8)), .ref ((ma 9)), .ref ((ma 10)), .ref ((ma 11)), .ref ((ma 12)), .ref ((ma 13)), .ref ((ma 14)), .ref ((ma 15)), .ref ((ma 16)), .double bb, .int bf, .int (nI (nw A)), .ref ((ma 20)), .ref ((ma 21)), .ref ((ma 22)), .ref ((ma 23)), .int (nI (np A)), .ref ((ma 25)), .ref ((ma 26))] := by rw [ef_1]; exact va_up_self _ _ _
    have hF_3 : f_1 ((ma 21)) = eI K 12 (fun j => nI ((A.1 21) j)) := by rw [ef_1]; exact (va_up_ne _ _ (mne hmi (by decide) (by decide) (show 21 ≠ 0 by decide))).trans hg21
    refine lv_aload_n hx hb dX7_periodAnew_17 rfl (lv_at hl 0 rfl) ?_
    refine z_get hC hM (hmm 0 (by decide)) hF_2 zcl_X7 (by decide) zl_X7_75 rfl dX7_periodAnew_18 ?_
    refine z_if_le (tgt := 28) hx hb (nI_toInt (by decide)) dX7_periodAnew_21 (by decide) (fun c_21 => ?_) (fun c_21 => ?_)
    · exact absurd c_21 (by omega)
    · refine lv_iconst (v := nI 0) hx hb dX7_periodAnew_24 (by decide) ?_
      refine lv_goto (tgt := 34) hx hb dX7_periodAnew_25 (by decide) ?_
      rw [← hQ]
      exact z_iret hC hM hr hlk rfl (by decide) (by decide) (mr_x (qan1 c_6) (fun _ => rfl) (mr_t hmm hmi hop hmc hF_2 (fun q h9 => by rw [ef_1]; simp only [va_up, h9, if_false])) (by decide)) dX7_periodAnew_34
  · skip
    obtain ⟨w, hw0, hw9, hxw⟩ := nI_of_range (Int.le_refl 0) c_6.1 c_6.2
    subst hxw
    have hw : w < nw A := by omega
    have hiv := iv_nI (i := w) (by omega)
    obtain ⟨u1, u2, u3, u4⟩ := hvW w hw
    have u5 := hv23 w
    refine lv_iconst (v := nI 0) hx hb dX7_periodAnew_9 (by decide) ?_
    refine lv_goto (tgt := 14) hx hb dX7_periodAnew_10 (by decide) ?_
    refine z_put (fs' := [.int (nI 0), .int (nI (ns A)), .ref ((ma 2)), .ref ((ma 3)), .ref ((ma 4)), .ref ((ma 5)), .ref ((ma 6)), .ref ((ma 7)), .ref ((ma 8)), .ref ((ma 9)), .ref ((ma 10)), .ref ((ma 11)), .ref ((ma 12)), .ref ((ma 13)), .ref ((ma 14)), .ref ((ma 15)), .ref ((ma 16)), .double bb, .int bf, .int (nI (nw A)), .ref ((ma 20)), .ref ((ma 21)), .ref ((ma 22)), .ref ((ma 23)), .int (nI (np A)), .ref ((ma 25)), .ref ((ma 26))]) hC hM (hmm 0 (by decide)) hg0 zcl_X7 (by decide) zl_X7_75 rfl rfl (by rfl) (Nat.le_of_ble_eq_true rfl) rfl dX7_periodAnew_14 (fun H locs hM => ?_)
    obtain ⟨f_4, ef_4⟩ : ∃ z9, z9 = va_up f ((ma 0)) (eS 8 [.int (nI 0), .int (nI (ns A)), .ref ((ma 2)), .ref ((ma 3)), .ref ((ma 4)), .ref ((ma 5)), .ref ((ma 6)), .ref ((ma 7)), .ref ((ma 8)), .ref ((ma 9)), .ref ((ma 10)), .ref ((ma 11)), .ref ((ma 12)), .ref ((ma 13)), .ref ((ma 14)), .ref ((ma 15)), .ref ((ma 16)), .double bb, .int bf, .int (nI (nw A)), .ref ((ma 20)), .ref ((ma 21)), .ref ((ma 22)), .ref ((ma 23)), .int (nI (np A)), .ref ((ma 25)), .ref ((ma 26))]) := ⟨_, rfl⟩
    rw [← ef_4] at hM
    have hF_5 : f_4 ((ma 0)) = eS 8 [.int (nI 0), .int (nI (ns A)), .ref ((ma 2)), .ref ((ma 3)), .ref ((ma 4)), .ref ((ma 5)), .ref ((ma 6)), .ref ((ma 7)), .ref ((ma 8)), .ref ((ma 9)), .ref ((ma 10)), .ref ((ma 11)), .ref ((ma 12)), .ref ((ma 13)), .ref ((ma 14)), .ref ((ma 15)), .ref ((ma 16)), .double bb, .int bf, .int (nI (nw A)), .ref ((ma 20)), .ref ((ma 21)), .ref ((ma 22)), .ref ((ma 23)), .int (nI (np A)), .ref ((ma 25)), .ref ((ma 26))] := by rw [ef_4]; exact va_up_self _ _ _
    have hF_6 : f_4 ((ma 21)) = eI K 12 (fun j => nI ((A.1 21) j)) := by rw [ef_4]; exact (va_up_ne _ _ (mne hmi (by decide) (by decide) (show 21 ≠ 0 by decide))).trans hg21
    refine lv_aload_n hx hb dX7_periodAnew_17 rfl (lv_at hl 0 rfl) ?_
    refine z_get hC hM (hmm 0 (by decide)) hF_5 zcl_X7 (by decide) zl_X7_75 rfl dX7_periodAnew_18 ?_
    refine z_if_le (tgt := 28) hx hb (nI_toInt (by decide)) dX7_periodAnew_21 (by decide) (fun c_21 => ?_) (fun c_21 => ?_)
    · refine lv_aload_n hx hb dX7_periodAnew_28 rfl (lv_at hl 0 rfl) ?_
      refine z_get hC hM (hmm 0 (by decide)) hF_5 zcl_X7 (by decide) zl_X7_60 rfl dX7_periodAnew_29 ?_
      refine lv_iload_n hx hb dX7_periodAnew_32 rfl (lv_at hl 1 rfl) ?_
      refine z_iald hC hM (hmm 21 (by decide)) hF_6 (by omega) (by omega) dX7_periodAnew_33 ?_
      rw [← hQ]
      exact z_iret hC hM hr hlk rfl (by decide) (by decide) (mr_0 (qan0 c_6) (by rw [v_anew, hiv]) rfl (mr_t hmm hmi hop hmc hF_5 (fun q h9 => by rw [ef_4]; simp only [va_up, h9, if_false]))) dX7_periodAnew_34
    · exact absurd c_21 (by omega)
set_option maxHeartbeats 400000 in
set_option maxRecDepth 100000 in
theorem m_fallenP {l : Launch} {base : Nat} {K : zK} {L : List Nat} {f : Nat → va_E} {A : zA} {ma : Nat → Nat} {t : Int32} (hV : VA A) (hMI : MI K L f A ma t) (x : Int32) : zMet l yX7_hasFallen cX7_hasFallen 2 (some .boolean) (zr 2 0 0 43) base K L f [.ref ((ma 0)), .int x] (zQi base K (fun r L1 f1 => (k_fallen A x = 0 → r = v_fallen A x) ∧ MR K A ma L f A (nI (k_fallen A x)) L1 f1)) := by
  have hMI9 := hMI
  obtain ⟨hmm, hmi, ⟨sg, cg, bb, bf⟩, op, hop, hmc⟩ := hMI9
  have hV9 := hV
  obtain ⟨hv1, hv2, hv3, hvS, hvO, hvK, hvK1, hvL, hv11, hvW, hv23, hvW0, hvP⟩ := hV9
  have hg0 : f (ma 0) = eS 8 [.int t, .int (nI (ns A)), .ref ((ma 2)), .ref ((ma 3)), .ref ((ma 4)), .ref ((ma 5)), .ref ((ma 6)), .ref ((ma 7)), .ref ((ma 8)), .ref ((ma 9)), .ref ((ma 10)), .ref ((ma 11)), .ref ((ma 12)), .ref ((ma 13)), .ref ((ma 14)), .ref ((ma 15)), .ref ((ma 16)), .double bb, .int bf, .int (nI (nw A)), .ref ((ma 20)), .ref ((ma 21)), .ref ((ma 22)), .ref ((ma 23)), .int (nI (np A)), .ref ((ma 25)), .ref ((ma 26))] := hmc 0 (by decide)
  refine z_met (by decide) (Nat.le_of_ble_eq_true rfl) (fun p e s m below meth c ls hC hM hr hlk hnm hl => ?_)
  have hx := hC.1
  have hb := hC.2.1
  have hml := hC.2.2.1
  have hown := hC.2.2.2.1
  have hts := hC.2.2.2.2.1
  generalize hA : ([.ref ((ma 0)), .int x] : List Value).toArray = args at hC ⊢
  generalize hQ : MQ _ _ _ _ _ _ _ = Q
  obtain ⟨locs, hlocs⟩ : ∃ z : List Loc, z = [] := ⟨_, rfl⟩
  obtain ⟨H, hH⟩ : ∃ z : Heap, z = s.heap := ⟨_, rfl⟩
  rw [← hlocs, ← hH] at hM ⊢
  have hl : lv_has ls 2 [(0, .ref ((ma 0))), (1, .int x)] := hl
  refine lv_aload_n hx hb dX7_hasFallen_0 rfl (lv_at hl 0 rfl) ?_
  refine lv_aload_n hx hb dX7_hasFallen_1 rfl (lv_at hl 0 rfl) ?_
  refine lv_iload_n hx hb dX7_hasFallen_2 rfl (lv_at hl 1 rfl) ?_
  refine z_fcalli (z_runV hC hM (c_isPaper hV hMI x) zy_X7_isPaper zm_X7_154 (hmm 0 (by decide)) hg0 zcl_X7 rfl rfl rfl hl.1 (Nat.le_of_ble_eq_true rfl) ⟨by decide, by decide⟩ ⟨by decide, by decide⟩ dX7_hasFallen_3) hM (fun H locs hM => ?_)
  refine z_if_eqB (tgt := 13) hx hb dX7_hasFallen_6 (by decide) (fun c_6 => ?_) (fun c_6 => ?_)
  · refine lv_iconst (v := nI 1) hx hb dX7_hasFallen_13 (by decide) ?_
    refine z_put (fs' := [.int (nI 1), .int (nI (ns A)), .ref ((ma 2)), .ref ((ma 3)), .ref ((ma 4)), .ref ((ma 5)), .ref ((ma 6)), .ref ((ma 7)), .ref ((ma 8)), .ref ((ma 9)), .ref ((ma 10)), .ref ((ma 11)), .ref ((ma 12)), .ref ((ma 13)), .ref ((ma 14)), .ref ((ma 15)), .ref ((ma 16)), .double bb, .int bf, .int (nI (nw A)), .ref ((ma 20)), .ref ((ma 21)), .ref ((ma 22)), .ref ((ma 23)), .int (nI (np A)), .ref ((ma 25)), .ref ((ma 26))]) hC hM (hmm 0 (by decide)) hg0 zcl_X7 (by decide) zl_X7_75 rfl rfl (by rfl) (Nat.le_of_ble_eq_true rfl) rfl dX7_hasFallen_14 (fun H locs hM => ?_)
    obtain ⟨f_1, ef_1⟩ : ∃ z9, z9 = va_up f ((ma 0)) (eS 8 [.int (nI 1), .int (nI (ns A)), .ref ((ma 2)), .ref ((ma 3)), .ref ((ma 4)), .ref ((ma 5)), .ref ((ma 6)), .ref ((ma 7)), .ref ((ma 8)), .ref ((ma 9)), .ref ((ma 10)), .ref ((ma 11)), .ref ((ma 12)), .ref ((ma 13)), .ref ((ma 14)), .ref ((ma 15)), .ref ((ma 16)), .double bb, .int bf, .int (nI (nw A)), .ref ((ma 20)), .ref ((ma 21)), .ref ((ma 22)), .ref ((ma 23)), .int (nI (np A)), .ref ((ma 25)), .ref ((ma 26))]) := ⟨_, rfl⟩
    rw [← ef_1] at hM
    have hF_2 : f_1 ((ma 0)) = eS 8 [.int (nI 1), .int (nI (ns A)), .ref ((ma 2)), .ref ((ma 3)), .ref ((ma 4)), .ref ((ma 5)), .ref ((ma 6)), .ref ((ma 7)), .ref ((ma 8)), .ref ((ma 9)), .ref ((ma 10)), .ref ((ma 11)), .ref ((ma 12)), .ref ((ma 13)), .ref ((ma 14)), .ref ((ma 15)), .ref ((ma 16)), .double bb, .int bf, .int (nI (nw A)), .ref ((ma 20)), .ref ((ma 21)), .ref ((ma 22)), .ref ((ma 23)), .int (nI (np A)), .ref ((ma 25)), .ref ((ma 26))] := by rw [ef_1]; exact va_up_self _ _ _
    refine lv_aload_n hx hb dX7_hasFallen_17 rfl (lv_at hl 0 rfl) ?_
    refine z_get hC hM (hmm 0 (by decide)) hF_2 zcl_X7 (by decide) zl_X7_75 rfl dX7_hasFallen_18 ?_
    refine z_if_ne (tgt := 36) hx hb (nI_toInt (by decide)) dX7_hasFallen_21 (by decide) (fun c_21 => ?_) (fun c_21 => ?_)
    · refine lv_iconst (v := nI 0) hx hb dX7_hasFallen_36 (by decide) ?_
      rw [← hQ]
      exact z_iret hC hM hr hlk rfl (by decide) (by decide) (mr_x (qfa1 c_6) (fun _ => rfl) (mr_t hmm hmi hop hmc hF_2 (fun q h9 => by rw [ef_1]; simp only [va_up, h9, if_false])) (by decide)) dX7_hasFallen_37
    · exact absurd c_21 (by omega)
  · skip
    obtain ⟨j, hj0, hj9, hxj⟩ := nI_of_range (Int.le_refl 0) c_6.1 c_6.2
    subst hxj
    have hj : j < np A := by omega
    have hivj := iv_nI (i := j) (by omega)
    refine lv_iconst (v := nI 0) hx hb dX7_hasFallen_9 (by decide) ?_
    refine lv_goto (tgt := 14) hx hb dX7_hasFallen_10 (by decide) ?_
    refine z_put (fs' := [.int (nI 0), .int (nI (ns A)), .ref ((ma 2)), .ref ((ma 3)), .ref ((ma 4)), .ref ((ma 5)), .ref ((ma 6)), .ref ((ma 7)), .ref ((ma 8)), .ref ((ma 9)), .ref ((ma 10)), .ref ((ma 11)), .ref ((ma 12)), .ref ((ma 13)), .ref ((ma 14)), .ref ((ma 15)), .ref ((ma 16)), .double bb, .int bf, .int (nI (nw A)), .ref ((ma 20)), .ref ((ma 21)), .ref ((ma 22)), .ref ((ma 23)), .int (nI (np A)), .ref ((ma 25)), .ref ((ma 26))]) hC hM (hmm 0 (by decide)) hg0 zcl_X7 (by decide) zl_X7_75 rfl rfl (by rfl) (Nat.le_of_ble_eq_true rfl) rfl dX7_hasFallen_14 (fun H locs hM => ?_)
    obtain ⟨f_3, ef_3⟩ : ∃ z9, z9 = va_up f ((ma 0)) (eS 8 [.int (nI 0), .int (nI (ns A)), .ref ((ma 2)), .ref ((ma 3)), .ref ((ma 4)), .ref ((ma 5)), .ref ((ma 6)), .ref ((ma 7)), .ref ((ma 8)), .ref ((ma 9)), .ref ((ma 10)), .ref ((ma 11)), .ref ((ma 12)), .ref ((ma 13)), .ref ((ma 14)), .ref ((ma 15)), .ref ((ma 16)), .double bb, .int bf, .int (nI (nw A)), .ref ((ma 20)), .ref ((ma 21)), .ref ((ma 22)), .ref ((ma 23)), .int (nI (np A)), .ref ((ma 25)), .ref ((ma 26))]) := ⟨_, rfl⟩
    rw [← ef_3] at hM
    have hF_4 : f_3 ((ma 0)) = eS 8 [.int (nI 0), .int (nI (ns A)), .ref ((ma 2)), .ref ((ma 3)), .ref ((ma 4)), .ref ((ma 5)), .ref ((ma 6)), .ref ((ma 7)), .ref ((ma 8)), .ref ((ma 9)), .ref ((ma 10)), .ref ((ma 11)), .ref ((ma 12)), .ref ((ma 13)), .ref ((ma 14)), .ref ((ma 15)), .ref ((ma 16)), .double bb, .int bf, .int (nI (nw A)), .ref ((ma 20)), .ref ((ma 21)), .ref ((ma 22)), .ref ((ma 23)), .int (nI (np A)), .ref ((ma 25)), .ref ((ma 26))] := by rw [ef_3]; exact va_up_self _ _ _
    refine lv_aload_n hx hb dX7_hasFallen_17 rfl (lv_at hl 0 rfl) ?_
    refine z_get hC hM (hmm 0 (by decide)) hF_4 zcl_X7 (by decide) zl_X7_75 rfl dX7_hasFallen_18 ?_
    refine z_if_ne (tgt := 36) hx hb (nI_toInt (by decide)) dX7_hasFallen_21 (by decide) (fun c_21 => ?_) (fun c_21 => ?_)
    · exact absurd c_21 (by omega)
    · have hMRc := mr_t (t' := nI 0) hmm hmi hop hmc hF_4 (fun q h9 => by rw [ef_3]; simp only [va_up, h9, if_false])
      have hMIc := hMRc.2.1
      refine lv_aload_n hx hb dX7_hasFallen_24 rfl (lv_at hl 0 rfl) ?_
      refine lv_iload_n hx hb dX7_hasFallen_25 rfl (lv_at hl 1 rfl) ?_
      refine z_fcalli (z_runV hC hM (m_fellN hV hMIc hj) zy_X7_fell zm_X7_151 (hmm 0 (by decide)) hF_4 zcl_X7 rfl rfl rfl hl.1 (Nat.le_of_ble_eq_true rfl) ⟨by decide, by decide⟩ ⟨by decide, by decide⟩ dX7_hasFallen_26) hM (fun H locs hM => ?_)
      refine z_if_eqB (tgt := 36) hx hb dX7_hasFallen_29 (by decide) (fun c_29 => ?_) (fun c_29 => ?_)
      · refine lv_iconst (v := nI 0) hx hb dX7_hasFallen_36 (by decide) ?_
        rw [← hQ]
        exact z_iret hC hM hr hlk rfl (by decide) (by decide) (mr_0 (qfa0 c_6) (by rw [v_fallen, hivj, b2_0 c_29]) rfl hMRc) dX7_hasFallen_37
      · refine lv_iconst (v := nI 1) hx hb dX7_hasFallen_32 (by decide) ?_
        refine lv_goto (tgt := 37) hx hb dX7_hasFallen_33 (by decide) ?_
        rw [← hQ]
        exact z_iret hC hM hr hlk rfl (by decide) (by decide) (mr_0 (qfa0 c_6) (by rw [v_fallen, hivj, b2_1 c_29]) rfl hMRc) dX7_hasFallen_37
set_option maxHeartbeats 400000 in
set_option maxRecDepth 100000 in
theorem m_paper {l : Launch} {base : Nat} {K : zK} {L : List Nat} {f : Nat → va_E} {A : zA} {ma : Nat → Nat} {t : Int32} (hV : VA A) (hMI : MI K L f A ma t) (x y1 : Int32) : zMet l yX7_paper cX7_paper 5 (some .int) (zr 2 0 0 43) base K L f [.ref ((ma 0)), .int x, .int y1] (zQi base K (fun r L1 f1 => (k_paper A x y1 = 0 → r = nI (np A)) ∧ MR K A ma L f (a_paper A x y1) (nI (k_paper A x y1)) L1 f1)) := by
  have hMI9 := hMI
  obtain ⟨hmm, hmi, ⟨sg, cg, bb, bf⟩, op, hop, hmc⟩ := hMI9
  have hV9 := hV
  obtain ⟨hv1, hv2, hv3, hvS, hvO, hvK, hvK1, hvL, hv11, hvW, hv23, hvW0, hvP⟩ := hV9
  have hg0 : f (ma 0) = eS 8 [.int t, .int (nI (ns A)), .ref ((ma 2)), .ref ((ma 3)), .ref ((ma 4)), .ref ((ma 5)), .ref ((ma 6)), .ref ((ma 7)), .ref ((ma 8)), .ref ((ma 9)), .ref ((ma 10)), .ref ((ma 11)), .ref ((ma 12)), .ref ((ma 13)), .ref ((ma 14)), .ref ((ma 15)), .ref ((ma 16)), .double bb, .int bf, .int (nI (nw A)), .ref ((ma 20)), .ref ((ma 21)), .ref ((ma 22)), .ref ((ma 23)), .int (nI (np A)), .ref ((ma 25)), .ref ((ma 26))] := hmc 0 (by decide)
  have hg23 : f (ma 23) = eZ K 12 (fun j => nI ((A.1 23) j)) := hmc 23 (by decide)
  have hg25 : f (ma 25) = eI K 30 (fun j => nI ((A.1 25) j)) := hmc 25 (by decide)
  have hg26 : f (ma 26) = eI K 30 op := hmc 26 (by decide)
  refine z_met (by decide) (Nat.le_of_ble_eq_true rfl) (fun p e s m below meth c ls hC hM hr hlk hnm hl => ?_)
  have hx := hC.1
  have hb := hC.2.1
  have hml := hC.2.2.1
  have hown := hC.2.2.2.1
  have hts := hC.2.2.2.2.1
  generalize hA : ([.ref ((ma 0)), .int x, .int y1] : List Value).toArray = args at hC ⊢
  generalize hQ : MQ _ _ _ _ _ _ _ = Q
  obtain ⟨locs, hlocs⟩ : ∃ z : List Loc, z = [] := ⟨_, rfl⟩
  obtain ⟨H, hH⟩ : ∃ z : Heap, z = s.heap := ⟨_, rfl⟩
  rw [← hlocs, ← hH] at hM ⊢
  have hl : lv_has ls 5 [(0, .ref ((ma 0))), (1, .int x), (2, .int y1)] := hl
  refine lv_aload_n hx hb dX7_paper_0 rfl (lv_at hl 0 rfl) ?_
  refine lv_iload_n hx hb dX7_paper_1 rfl (lv_at hl 1 rfl) ?_
  refine z_fcalli (z_runV hC hM (c_isWorld hV hMI x) zy_X7_isWorld zm_X7_145 (hmm 0 (by decide)) hg0 zcl_X7 rfl rfl rfl hl.1 (Nat.le_of_ble_eq_true rfl) ⟨by decide, by decide⟩ ⟨by decide, by decide⟩ dX7_paper_2) hM (fun H locs hM => ?_)
  refine z_if_eqB (tgt := 25) hx hb dX7_paper_5 (by decide) (fun c_5 => ?_) (fun c_5 => ?_)
  · refine lv_iconst (v := nI 0) hx hb dX7_paper_25 (by decide) ?_
    refine lv_istore_n (lv' := [(3, .int (nI 0)), (0, .ref ((ma 0))), (1, .int x), (2, .int y1)]) hx hb dX7_paper_26 rfl hl (by decide) rfl (fun ls hl => ?_)
    refine lv_iload_n hx hb dX7_paper_27 rfl (lv_at hl 0 rfl) ?_
    refine z_if_eq (tgt := 66) hx hb (nI_toInt (by decide)) dX7_paper_28 (by decide) (fun c_28 => ?_) (fun c_28 => ?_)
    · refine lv_iconst (v := nI 0) hx hb dX7_paper_66 (by decide) ?_
      refine lv_istore (lv' := [(4, .int (nI 0)), (3, .int (nI 0)), (0, .ref ((ma 0))), (1, .int x), (2, .int y1)]) hx hb dX7_paper_67 hl (by decide) rfl (fun ls hl => ?_)
      refine lv_aload_n hx hb dX7_paper_69 rfl (lv_at hl 2 rfl) ?_
      refine lv_iload_n hx hb dX7_paper_70 rfl (lv_at hl 1 rfl) ?_
      refine z_if_ne (tgt := 78) hx hb (nI_toInt (by decide)) dX7_paper_71 (by decide) (fun c_71 => ?_) (fun c_71 => ?_)
      · exact absurd c_71 (by omega)
      · refine lv_iconst (v := nI 1) hx hb dX7_paper_74 (by decide) ?_
        refine lv_goto (tgt := 88) hx hb dX7_paper_75 (by decide) ?_
        refine z_put (fs' := [.int (nI 1), .int (nI (ns A)), .ref ((ma 2)), .ref ((ma 3)), .ref ((ma 4)), .ref ((ma 5)), .ref ((ma 6)), .ref ((ma 7)), .ref ((ma 8)), .ref ((ma 9)), .ref ((ma 10)), .ref ((ma 11)), .ref ((ma 12)), .ref ((ma 13)), .ref ((ma 14)), .ref ((ma 15)), .ref ((ma 16)), .double bb, .int bf, .int (nI (nw A)), .ref ((ma 20)), .ref ((ma 21)), .ref ((ma 22)), .ref ((ma 23)), .int (nI (np A)), .ref ((ma 25)), .ref ((ma 26))]) hC hM (hmm 0 (by decide)) hg0 zcl_X7 (by decide) zl_X7_75 rfl rfl (by rfl) (Nat.le_of_ble_eq_true rfl) rfl dX7_paper_88 (fun H locs hM => ?_)
        obtain ⟨f_1, ef_1⟩ : ∃ z9, z9 = va_up f ((ma 0)) (eS 8 [.int (nI 1), .int (nI (ns A)), .ref ((ma 2)), .ref ((ma 3)), .ref ((ma 4)), .ref ((ma 5)), .ref ((ma 6)), .ref ((ma 7)), .ref ((ma 8)), .ref ((ma 9)), .ref ((ma 10)), .ref ((ma 11)), .ref ((ma 12)), .ref ((ma 13)), .ref ((ma 14)), .ref ((ma 15)), .ref ((ma 16)), .double bb, .int bf, .int (nI (nw A)), .ref ((ma 20)), .ref ((ma 21)), .ref ((ma 22)), .ref ((ma 23)), .int (nI (np A)), .ref ((ma 25)), .ref ((ma 26))]) := ⟨_, rfl⟩
        rw [← ef_1] at hM
        have hF_2 : f_1 ((ma 0)) = eS 8 [.int (nI 1), .int (nI (ns A)), .ref ((ma 2)), .ref ((ma 3)), .ref ((ma 4)), .ref ((ma 5)), .ref ((ma 6)), .ref ((ma 7)), .ref ((ma 8)), .ref ((ma 9)), .ref ((ma 10)), .ref ((ma 11)), .ref ((ma 12)), .ref ((ma 13)), .ref ((ma 14)), .ref ((ma 15)), .ref ((ma 16)), .double bb, .int bf, .int (nI (nw A)), .ref ((ma 20)), .ref ((ma 21)), .ref ((ma 22)), .ref ((ma 23)), .int (nI (np A)), .ref ((ma 25)), .ref ((ma 26))] := by rw [ef_1]; exact va_up_self _ _ _
        have hF_3 : f_1 ((ma 23)) = eZ K 12 (fun j => nI ((A.1 23) j)) := by rw [ef_1]; exact (va_up_ne _ _ (mne hmi (by decide) (by decide) (show 23 ≠ 0 by decide))).trans hg23
        have hF_4 : f_1 ((ma 25)) = eI K 30 (fun j => nI ((A.1 25) j)) := by rw [ef_1]; exact (va_up_ne _ _ (mne hmi (by decide) (by decide) (show 25 ≠ 0 by decide))).trans hg25
        have hF_5 : f_1 ((ma 26)) = eI K 30 op := by rw [ef_1]; exact (va_up_ne _ _ (mne hmi (by decide) (by decide) (show 26 ≠ 0 by decide))).trans hg26
        refine lv_aload_n hx hb dX7_paper_91 rfl (lv_at hl 2 rfl) ?_
        refine z_get hC hM (hmm 0 (by decide)) hF_2 zcl_X7 (by decide) zl_X7_75 rfl dX7_paper_92 ?_
        refine z_if_le (tgt := 100) hx hb (nI_toInt (by decide)) dX7_paper_95 (by decide) (fun c_95 => ?_) (fun c_95 => ?_)
        · exact absurd c_95 (by omega)
        · refine lv_iconst (v := nI 0) hx hb dX7_paper_98 (by decide) ?_
          rw [← hQ]
          exact z_iret hC hM hr hlk rfl (by decide) (by decide) (mr_x (kpa1 (fun z => c_5 z.1)) (fun z => if_neg z) (mr_t hmm hmi hop hmc hF_2 (fun q h9 => by rw [ef_1]; simp only [va_up, h9, if_false])) (by decide)) dX7_paper_99
    · exact absurd c_28 (by omega)
  · skip
    obtain ⟨w, hw0, hw9, hxw⟩ := nI_of_range (Int.le_refl 0) c_5.1 c_5.2
    subst hxw
    have hw : w < nw A := by omega
    have hiv := iv_nI (i := w) (by omega)
    obtain ⟨u1, u2, u3, u4⟩ := hvW w hw
    have u5 := hv23 w
    refine lv_iload_n hx hb dX7_paper_8 rfl (lv_at hl 2 rfl) ?_
    refine lv_iconst (v := (-1)) hx hb dX7_paper_9 (by decide) ?_
    refine z_icmp_eq (tgt := 21) hx hb rfl m1_toInt dX7_paper_10 (by decide) (fun c_10 => ?_) (fun c_10 => ?_)
    · skip
      have hy1 : y1 = -1 := i32_eq.mpr (c_10.trans m1_toInt.symm)
      subst hy1
      have hkk : isW A (nI w) ∧ ((-1 : Int32) = -1 ∨ isP A (-1)) := ⟨c_5, Or.inl rfl⟩
      refine lv_iconst (v := nI 1) hx hb dX7_paper_21 (by decide) ?_
      refine lv_goto (tgt := 26) hx hb dX7_paper_22 (by decide) ?_
      refine lv_istore_n (lv' := [(3, .int (nI 1)), (0, .ref ((ma 0))), (1, .int (nI w)), (2, .int ((-1)))]) hx hb dX7_paper_26 rfl hl (by decide) rfl (fun ls hl => ?_)
      refine lv_iload_n hx hb dX7_paper_27 rfl (lv_at hl 0 rfl) ?_
      refine z_if_eq (tgt := 66) hx hb (nI_toInt (by decide)) dX7_paper_28 (by decide) (fun c_28 => ?_) (fun c_28 => ?_)
      · exact absurd c_28 (by omega)
      · refine lv_aload_n hx hb dX7_paper_31 rfl (lv_at hl 1 rfl) ?_
        refine z_get hC hM (hmm 0 (by decide)) hg0 zcl_X7 (by decide) zl_X7_66 rfl dX7_paper_32 ?_
        refine lv_iload_n hx hb dX7_paper_35 rfl (lv_at hl 2 rfl) ?_
        refine z_zald hC hM (hmm 23 (by decide)) hg23 (by omega) (by omega) dX7_paper_36 ?_
        refine z_if_ne (tgt := 62) hx hb (nI_toInt (by omega)) dX7_paper_37 (by decide) (fun c_37 => ?_) (fun c_37 => ?_)
        · refine lv_iconst (v := nI 1) hx hb dX7_paper_62 (by decide) ?_
          refine lv_goto (tgt := 67) hx hb dX7_paper_63 (by decide) ?_
          refine lv_istore (lv' := [(4, .int (nI 1)), (3, .int (nI 1)), (0, .ref ((ma 0))), (1, .int (nI w)), (2, .int ((-1)))]) hx hb dX7_paper_67 hl (by decide) rfl (fun ls hl => ?_)
          refine lv_aload_n hx hb dX7_paper_69 rfl (lv_at hl 2 rfl) ?_
          refine lv_iload_n hx hb dX7_paper_70 rfl (lv_at hl 1 rfl) ?_
          refine z_if_ne (tgt := 78) hx hb (nI_toInt (by decide)) dX7_paper_71 (by decide) (fun c_71 => ?_) (fun c_71 => ?_)
          · refine lv_iload hx hb dX7_paper_78 (lv_at hl 0 rfl) ?_
            refine z_if_eq (tgt := 87) hx hb (nI_toInt (by decide)) dX7_paper_80 (by decide) (fun c_80 => ?_) (fun c_80 => ?_)
            · exact absurd c_80 (by omega)
            · refine lv_iconst (v := nI 2) hx hb dX7_paper_83 (by decide) ?_
              refine lv_goto (tgt := 88) hx hb dX7_paper_84 (by decide) ?_
              refine z_put (fs' := [.int (nI 2), .int (nI (ns A)), .ref ((ma 2)), .ref ((ma 3)), .ref ((ma 4)), .ref ((ma 5)), .ref ((ma 6)), .ref ((ma 7)), .ref ((ma 8)), .ref ((ma 9)), .ref ((ma 10)), .ref ((ma 11)), .ref ((ma 12)), .ref ((ma 13)), .ref ((ma 14)), .ref ((ma 15)), .ref ((ma 16)), .double bb, .int bf, .int (nI (nw A)), .ref ((ma 20)), .ref ((ma 21)), .ref ((ma 22)), .ref ((ma 23)), .int (nI (np A)), .ref ((ma 25)), .ref ((ma 26))]) hC hM (hmm 0 (by decide)) hg0 zcl_X7 (by decide) zl_X7_75 rfl rfl (by rfl) (Nat.le_of_ble_eq_true rfl) rfl dX7_paper_88 (fun H locs hM => ?_)
              obtain ⟨f_6, ef_6⟩ : ∃ z9, z9 = va_up f ((ma 0)) (eS 8 [.int (nI 2), .int (nI (ns A)), .ref ((ma 2)), .ref ((ma 3)), .ref ((ma 4)), .ref ((ma 5)), .ref ((ma 6)), .ref ((ma 7)), .ref ((ma 8)), .ref ((ma 9)), .ref ((ma 10)), .ref ((ma 11)), .ref ((ma 12)), .ref ((ma 13)), .ref ((ma 14)), .ref ((ma 15)), .ref ((ma 16)), .double bb, .int bf, .int (nI (nw A)), .ref ((ma 20)), .ref ((ma 21)), .ref ((ma 22)), .ref ((ma 23)), .int (nI (np A)), .ref ((ma 25)), .ref ((ma 26))]) := ⟨_, rfl⟩
              rw [← ef_6] at hM
              have hF_7 : f_6 ((ma 0)) = eS 8 [.int (nI 2), .int (nI (ns A)), .ref ((ma 2)), .ref ((ma 3)), .ref ((ma 4)), .ref ((ma 5)), .ref ((ma 6)), .ref ((ma 7)), .ref ((ma 8)), .ref ((ma 9)), .ref ((ma 10)), .ref ((ma 11)), .ref ((ma 12)), .ref ((ma 13)), .ref ((ma 14)), .ref ((ma 15)), .ref ((ma 16)), .double bb, .int bf, .int (nI (nw A)), .ref ((ma 20)), .ref ((ma 21)), .ref ((ma 22)), .ref ((ma 23)), .int (nI (np A)), .ref ((ma 25)), .ref ((ma 26))] := by rw [ef_6]; exact va_up_self _ _ _
              have hF_8 : f_6 ((ma 23)) = eZ K 12 (fun j => nI ((A.1 23) j)) := by rw [ef_6]; exact (va_up_ne _ _ (mne hmi (by decide) (by decide) (show 23 ≠ 0 by decide))).trans hg23
              have hF_9 : f_6 ((ma 25)) = eI K 30 (fun j => nI ((A.1 25) j)) := by rw [ef_6]; exact (va_up_ne _ _ (mne hmi (by decide) (by decide) (show 25 ≠ 0 by decide))).trans hg25
              have hF_10 : f_6 ((ma 26)) = eI K 30 op := by rw [ef_6]; exact (va_up_ne _ _ (mne hmi (by decide) (by decide) (show 26 ≠ 0 by decide))).trans hg26
              refine lv_aload_n hx hb dX7_paper_91 rfl (lv_at hl 2 rfl) ?_
              refine z_get hC hM (hmm 0 (by decide)) hF_7 zcl_X7 (by decide) zl_X7_75 rfl dX7_paper_92 ?_
              refine z_if_le (tgt := 100) hx hb (nI_toInt (by decide)) dX7_paper_95 (by decide) (fun c_95 => ?_) (fun c_95 => ?_)
              · exact absurd c_95 (by omega)
              · refine lv_iconst (v := nI 0) hx hb dX7_paper_98 (by decide) ?_
                rw [← hQ]
                exact z_iret hC hM hr hlk rfl (by decide) (by decide) (mr_x (kpa2 hkk (by rw [hiv]; exact Or.inl (by omega))) (fun z => if_neg z) (mr_t hmm hmi hop hmc hF_7 (fun q h9 => by rw [ef_6]; simp only [va_up, h9, if_false])) (by decide)) dX7_paper_99
          · exact absurd c_71 (by omega)
        · refine lv_iload_n hx hb dX7_paper_40 rfl (lv_at hl 3 rfl) ?_
          refine lv_iconst (v := (-1)) hx hb dX7_paper_41 (by decide) ?_
          refine z_icmp_eq (tgt := 53) hx hb m1_toInt m1_toInt dX7_paper_42 (by decide) (fun c_42 => ?_) (fun c_42 => ?_)
          · refine lv_aload_n hx hb dX7_paper_53 rfl (lv_at hl 1 rfl) ?_
            refine z_get hC hM (hmm 0 (by decide)) hg0 zcl_X7 (by decide) zl_X7_148 rfl dX7_paper_54 ?_
            refine lv_bipush (v := nI 30) hx hb dX7_paper_57 (by decide) ?_
            refine z_icmp_ne (tgt := 66) hx hb (nI_toInt (by omega)) (nI_toInt (by decide)) dX7_paper_59 (by decide) (fun c_59 => ?_) (fun c_59 => ?_)
            · refine lv_iconst (v := nI 0) hx hb dX7_paper_66 (by decide) ?_
              refine lv_istore (lv' := [(4, .int (nI 0)), (3, .int (nI 1)), (0, .ref ((ma 0))), (1, .int (nI w)), (2, .int ((-1)))]) hx hb dX7_paper_67 hl (by decide) rfl (fun ls hl => ?_)
              refine lv_aload_n hx hb dX7_paper_69 rfl (lv_at hl 2 rfl) ?_
              refine lv_iload_n hx hb dX7_paper_70 rfl (lv_at hl 1 rfl) ?_
              refine z_if_ne (tgt := 78) hx hb (nI_toInt (by decide)) dX7_paper_71 (by decide) (fun c_71 => ?_) (fun c_71 => ?_)
              · refine lv_iload hx hb dX7_paper_78 (lv_at hl 0 rfl) ?_
                refine z_if_eq (tgt := 87) hx hb (nI_toInt (by decide)) dX7_paper_80 (by decide) (fun c_80 => ?_) (fun c_80 => ?_)
                · refine lv_iconst (v := nI 0) hx hb dX7_paper_87 (by decide) ?_
                  refine z_put (fs' := [.int (nI 0), .int (nI (ns A)), .ref ((ma 2)), .ref ((ma 3)), .ref ((ma 4)), .ref ((ma 5)), .ref ((ma 6)), .ref ((ma 7)), .ref ((ma 8)), .ref ((ma 9)), .ref ((ma 10)), .ref ((ma 11)), .ref ((ma 12)), .ref ((ma 13)), .ref ((ma 14)), .ref ((ma 15)), .ref ((ma 16)), .double bb, .int bf, .int (nI (nw A)), .ref ((ma 20)), .ref ((ma 21)), .ref ((ma 22)), .ref ((ma 23)), .int (nI (np A)), .ref ((ma 25)), .ref ((ma 26))]) hC hM (hmm 0 (by decide)) hg0 zcl_X7 (by decide) zl_X7_75 rfl rfl (by rfl) (Nat.le_of_ble_eq_true rfl) rfl dX7_paper_88 (fun H locs hM => ?_)
                  obtain ⟨f_11, ef_11⟩ : ∃ z9, z9 = va_up f ((ma 0)) (eS 8 [.int (nI 0), .int (nI (ns A)), .ref ((ma 2)), .ref ((ma 3)), .ref ((ma 4)), .ref ((ma 5)), .ref ((ma 6)), .ref ((ma 7)), .ref ((ma 8)), .ref ((ma 9)), .ref ((ma 10)), .ref ((ma 11)), .ref ((ma 12)), .ref ((ma 13)), .ref ((ma 14)), .ref ((ma 15)), .ref ((ma 16)), .double bb, .int bf, .int (nI (nw A)), .ref ((ma 20)), .ref ((ma 21)), .ref ((ma 22)), .ref ((ma 23)), .int (nI (np A)), .ref ((ma 25)), .ref ((ma 26))]) := ⟨_, rfl⟩
                  rw [← ef_11] at hM
                  have hF_12 : f_11 ((ma 0)) = eS 8 [.int (nI 0), .int (nI (ns A)), .ref ((ma 2)), .ref ((ma 3)), .ref ((ma 4)), .ref ((ma 5)), .ref ((ma 6)), .ref ((ma 7)), .ref ((ma 8)), .ref ((ma 9)), .ref ((ma 10)), .ref ((ma 11)), .ref ((ma 12)), .ref ((ma 13)), .ref ((ma 14)), .ref ((ma 15)), .ref ((ma 16)), .double bb, .int bf, .int (nI (nw A)), .ref ((ma 20)), .ref ((ma 21)), .ref ((ma 22)), .ref ((ma 23)), .int (nI (np A)), .ref ((ma 25)), .ref ((ma 26))] := by rw [ef_11]; exact va_up_self _ _ _
                  have hF_13 : f_11 ((ma 23)) = eZ K 12 (fun j => nI ((A.1 23) j)) := by rw [ef_11]; exact (va_up_ne _ _ (mne hmi (by decide) (by decide) (show 23 ≠ 0 by decide))).trans hg23
                  have hF_14 : f_11 ((ma 25)) = eI K 30 (fun j => nI ((A.1 25) j)) := by rw [ef_11]; exact (va_up_ne _ _ (mne hmi (by decide) (by decide) (show 25 ≠ 0 by decide))).trans hg25
                  have hF_15 : f_11 ((ma 26)) = eI K 30 op := by rw [ef_11]; exact (va_up_ne _ _ (mne hmi (by decide) (by decide) (show 26 ≠ 0 by decide))).trans hg26
                  refine lv_aload_n hx hb dX7_paper_91 rfl (lv_at hl 2 rfl) ?_
                  refine z_get hC hM (hmm 0 (by decide)) hF_12 zcl_X7 (by decide) zl_X7_75 rfl dX7_paper_92 ?_
                  refine z_if_le (tgt := 100) hx hb (nI_toInt (by decide)) dX7_paper_95 (by decide) (fun c_95 => ?_) (fun c_95 => ?_)
                  · refine lv_aload_n hx hb dX7_paper_100 rfl (lv_at hl 2 rfl) ?_
                    refine z_get hC hM (hmm 0 (by decide)) hF_12 zcl_X7 (by decide) zl_X7_69 rfl dX7_paper_101 ?_
                    refine lv_aload_n hx hb dX7_paper_104 rfl (lv_at hl 2 rfl) ?_
                    refine z_get hC hM (hmm 0 (by decide)) hF_12 zcl_X7 (by decide) zl_X7_148 rfl dX7_paper_105 ?_
                    refine lv_iload_n hx hb dX7_paper_108 rfl (lv_at hl 3 rfl) ?_
                    refine z_iast hC hM (hmm 25 (by decide)) hF_14 (by omega) (by omega) dX7_paper_109 (fun H locs hM => ?_)
                    rw [up_nI] at hM
                    obtain ⟨f_16, ef_16⟩ : ∃ z9, z9 = va_up f_11 ((ma 25)) (eI K 30 (fun j => nI ((va_up (A.1 25) (np A) w) j))) := ⟨_, rfl⟩
                    rw [← ef_16] at hM
                    have hF_17 : f_16 ((ma 0)) = eS 8 [.int (nI 0), .int (nI (ns A)), .ref ((ma 2)), .ref ((ma 3)), .ref ((ma 4)), .ref ((ma 5)), .ref ((ma 6)), .ref ((ma 7)), .ref ((ma 8)), .ref ((ma 9)), .ref ((ma 10)), .ref ((ma 11)), .ref ((ma 12)), .ref ((ma 13)), .ref ((ma 14)), .ref ((ma 15)), .ref ((ma 16)), .double bb, .int bf, .int (nI (nw A)), .ref ((ma 20)), .ref ((ma 21)), .ref ((ma 22)), .ref ((ma 23)), .int (nI (np A)), .ref ((ma 25)), .ref ((ma 26))] := by rw [ef_16]; exact (va_up_ne _ _ (mne hmi (by decide) (by decide) (show 0 ≠ 25 by decide))).trans hF_12
                    have hF_18 : f_16 ((ma 23)) = eZ K 12 (fun j => nI ((A.1 23) j)) := by rw [ef_16]; exact (va_up_ne _ _ (mne hmi (by decide) (by decide) (show 23 ≠ 25 by decide))).trans hF_13
                    have hF_19 : f_16 ((ma 25)) = eI K 30 (fun j => nI ((va_up (A.1 25) (np A) w) j)) := by rw [ef_16]; exact va_up_self _ _ _
                    have hF_20 : f_16 ((ma 26)) = eI K 30 op := by rw [ef_16]; exact (va_up_ne _ _ (mne hmi (by decide) (by decide) (show 26 ≠ 25 by decide))).trans hF_15
                    refine lv_aload_n hx hb dX7_paper_110 rfl (lv_at hl 2 rfl) ?_
                    refine z_get hC hM (hmm 0 (by decide)) hF_17 zcl_X7 (by decide) zl_X7_72 rfl dX7_paper_111 ?_
                    refine lv_aload_n hx hb dX7_paper_114 rfl (lv_at hl 2 rfl) ?_
                    refine z_get hC hM (hmm 0 (by decide)) hF_17 zcl_X7 (by decide) zl_X7_148 rfl dX7_paper_115 ?_
                    refine lv_iload_n hx hb dX7_paper_118 rfl (lv_at hl 4 rfl) ?_
                    refine z_iast hC hM (hmm 26 (by decide)) hF_20 (by omega) (by omega) dX7_paper_119 (fun H locs hM => ?_)
                    obtain ⟨f_21, ef_21⟩ : ∃ z9, z9 = va_up f_16 ((ma 26)) (eI K 30 (va_up op (np A) ((-1)))) := ⟨_, rfl⟩
                    rw [← ef_21] at hM
                    have hF_22 : f_21 ((ma 0)) = eS 8 [.int (nI 0), .int (nI (ns A)), .ref ((ma 2)), .ref ((ma 3)), .ref ((ma 4)), .ref ((ma 5)), .ref ((ma 6)), .ref ((ma 7)), .ref ((ma 8)), .ref ((ma 9)), .ref ((ma 10)), .ref ((ma 11)), .ref ((ma 12)), .ref ((ma 13)), .ref ((ma 14)), .ref ((ma 15)), .ref ((ma 16)), .double bb, .int bf, .int (nI (nw A)), .ref ((ma 20)), .ref ((ma 21)), .ref ((ma 22)), .ref ((ma 23)), .int (nI (np A)), .ref ((ma 25)), .ref ((ma 26))] := by rw [ef_21]; exact (va_up_ne _ _ (mne hmi (by decide) (by decide) (show 0 ≠ 26 by decide))).trans hF_17
                    have hF_23 : f_21 ((ma 23)) = eZ K 12 (fun j => nI ((A.1 23) j)) := by rw [ef_21]; exact (va_up_ne _ _ (mne hmi (by decide) (by decide) (show 23 ≠ 26 by decide))).trans hF_18
                    have hF_24 : f_21 ((ma 25)) = eI K 30 (fun j => nI ((va_up (A.1 25) (np A) w) j)) := by rw [ef_21]; exact (va_up_ne _ _ (mne hmi (by decide) (by decide) (show 25 ≠ 26 by decide))).trans hF_19
                    have hF_25 : f_21 ((ma 26)) = eI K 30 (va_up op (np A) ((-1))) := by rw [ef_21]; exact va_up_self _ _ _
                    refine lv_aload_n hx hb dX7_paper_120 rfl (lv_at hl 2 rfl) ?_
                    refine lv_dup hx hb dX7_paper_121 rfl ?_
                    refine z_get hC hM (hmm 0 (by decide)) hF_22 zcl_X7 (by decide) zl_X7_148 rfl dX7_paper_122 ?_
                    refine lv_iconst (v := nI 1) hx hb dX7_paper_125 (by decide) ?_
                    refine z_iadd hx hb dX7_paper_126 ?_
                    refine z_put (fs' := [.int (nI 0), .int (nI (ns A)), .ref ((ma 2)), .ref ((ma 3)), .ref ((ma 4)), .ref ((ma 5)), .ref ((ma 6)), .ref ((ma 7)), .ref ((ma 8)), .ref ((ma 9)), .ref ((ma 10)), .ref ((ma 11)), .ref ((ma 12)), .ref ((ma 13)), .ref ((ma 14)), .ref ((ma 15)), .ref ((ma 16)), .double bb, .int bf, .int (nI (nw A)), .ref ((ma 20)), .ref ((ma 21)), .ref ((ma 22)), .ref ((ma 23)), .int (nI ((np A) + 1)), .ref ((ma 25)), .ref ((ma 26))]) hC hM (hmm 0 (by decide)) hF_22 zcl_X7 (by decide) zl_X7_148 rfl rfl (by rfl) (Nat.le_of_ble_eq_true rfl) rfl dX7_paper_127 (fun H locs hM => ?_)
                    obtain ⟨f_26, ef_26⟩ : ∃ z9, z9 = va_up f_21 ((ma 0)) (eS 8 [.int (nI 0), .int (nI (ns A)), .ref ((ma 2)), .ref ((ma 3)), .ref ((ma 4)), .ref ((ma 5)), .ref ((ma 6)), .ref ((ma 7)), .ref ((ma 8)), .ref ((ma 9)), .ref ((ma 10)), .ref ((ma 11)), .ref ((ma 12)), .ref ((ma 13)), .ref ((ma 14)), .ref ((ma 15)), .ref ((ma 16)), .double bb, .int bf, .int (nI (nw A)), .ref ((ma 20)), .ref ((ma 21)), .ref ((ma 22)), .ref ((ma 23)), .int (nI ((np A) + 1)), .ref ((ma 25)), .ref ((ma 26))]) := ⟨_, rfl⟩
                    rw [← ef_26] at hM
                    have hF_27 : f_26 ((ma 0)) = eS 8 [.int (nI 0), .int (nI (ns A)), .ref ((ma 2)), .ref ((ma 3)), .ref ((ma 4)), .ref ((ma 5)), .ref ((ma 6)), .ref ((ma 7)), .ref ((ma 8)), .ref ((ma 9)), .ref ((ma 10)), .ref ((ma 11)), .ref ((ma 12)), .ref ((ma 13)), .ref ((ma 14)), .ref ((ma 15)), .ref ((ma 16)), .double bb, .int bf, .int (nI (nw A)), .ref ((ma 20)), .ref ((ma 21)), .ref ((ma 22)), .ref ((ma 23)), .int (nI ((np A) + 1)), .ref ((ma 25)), .ref ((ma 26))] := by rw [ef_26]; exact va_up_self _ _ _
                    have hF_28 : f_26 ((ma 23)) = eZ K 12 (fun j => nI ((A.1 23) j)) := by rw [ef_26]; exact (va_up_ne _ _ (mne hmi (by decide) (by decide) (show 23 ≠ 0 by decide))).trans hF_23
                    have hF_29 : f_26 ((ma 25)) = eI K 30 (fun j => nI ((va_up (A.1 25) (np A) w) j)) := by rw [ef_26]; exact (va_up_ne _ _ (mne hmi (by decide) (by decide) (show 25 ≠ 0 by decide))).trans hF_24
                    have hF_30 : f_26 ((ma 26)) = eI K 30 (va_up op (np A) ((-1))) := by rw [ef_26]; exact (va_up_ne _ _ (mne hmi (by decide) (by decide) (show 26 ≠ 0 by decide))).trans hF_25
                    refine lv_aload_n hx hb dX7_paper_130 rfl (lv_at hl 2 rfl) ?_
                    refine z_get hC hM (hmm 0 (by decide)) hF_27 zcl_X7 (by decide) zl_X7_148 rfl dX7_paper_131 ?_
                    refine lv_iconst (v := nI 1) hx hb dX7_paper_134 (by decide) ?_
                    refine z_isub hx hb (by omega) dX7_paper_135 ?_
                    have hfu9 : ∀ k, mk k → k ≠ 0 → k ≠ 25 → k ≠ 26 → f_26 (ma k) = f (ma k) := fun k hk n0 n25 n26 => by
                      have m0 := mne hmi hk (show mk 0 by decide) n0
                      have m25 := mne hmi hk (show mk 25 by decide) n25
                      have m26 := mne hmi hk (show mk 26 by decide) n26
                      rw [ef_26, ef_21, ef_16, ef_11]
                      simp only [va_up, m0, m25, m26, if_false]
                    have hfr9 : ∀ q, (∀ k, mk k → q ≠ ma k) → f_26 q = f q := fun q hq => by
                      have m0 := hq 0 (by decide)
                      have m25 := hq 25 (by decide)
                      have m26 := hq 26 (by decide)
                      rw [ef_26, ef_21, ef_16, ef_11]
                      simp only [va_up, m0, m25, m26, if_false]
                    have hMR9 : MR K (A) ma L f (paA A w 0) (nI 0) L f_26 := mr_ok (x' := (sg, cg, bb, bf)) (op' := va_up op (np A) ((-1))) hmm hmi (hop_pa hop rfl) (mk_all hF_27 ((hfu9 2 (by decide) (by decide) (by decide) (by decide)).trans (hmc 2 (by decide))) ((hfu9 3 (by decide) (by decide) (by decide) (by decide)).trans (hmc 3 (by decide))) ((hfu9 4 (by decide) (by decide) (by decide) (by decide)).trans (hmc 4 (by decide))) ((hfu9 5 (by decide) (by decide) (by decide) (by decide)).trans (hmc 5 (by decide))) ((hfu9 6 (by decide) (by decide) (by decide) (by decide)).trans (hmc 6 (by decide))) ((hfu9 7 (by decide) (by decide) (by decide) (by decide)).trans (hmc 7 (by decide))) ((hfu9 8 (by decide) (by decide) (by decide) (by decide)).trans (hmc 8 (by decide))) ((hfu9 9 (by decide) (by decide) (by decide) (by decide)).trans (hmc 9 (by decide))) ((hfu9 10 (by decide) (by decide) (by decide) (by decide)).trans (hmc 10 (by decide))) ((hfu9 11 (by decide) (by decide) (by decide) (by decide)).trans (hmc 11 (by decide))) ((hfu9 12 (by decide) (by decide) (by decide) (by decide)).trans (hmc 12 (by decide))) ((hfu9 13 (by decide) (by decide) (by decide) (by decide)).trans (hmc 13 (by decide))) ((hfu9 14 (by decide) (by decide) (by decide) (by decide)).trans (hmc 14 (by decide))) ((hfu9 15 (by decide) (by decide) (by decide) (by decide)).trans (hmc 15 (by decide))) ((hfu9 16 (by decide) (by decide) (by decide) (by decide)).trans (hmc 16 (by decide))) ((hfu9 20 (by decide) (by decide) (by decide) (by decide)).trans (hmc 20 (by decide))) ((hfu9 21 (by decide) (by decide) (by decide) (by decide)).trans (hmc 21 (by decide))) ((hfu9 22 (by decide) (by decide) (by decide) (by decide)).trans (hmc 22 (by decide))) ((hfu9 23 (by decide) (by decide) (by decide) (by decide)).trans (hmc 23 (by decide))) hF_29 hF_30) hfr9
                    rw [← hQ]
                    exact z_iret hC hM hr hlk rfl (by decide) (by decide) (mr_0 (kpa0 hkk (by rw [hiv]; exact fun z => z.elim (fun z => by omega) (fun z => z.elim (fun z => z.1 rfl) (fun z => by omega)))) rfl (by rw [a_paper, if_pos (kpa0 hkk (by rw [hiv]; exact fun z => z.elim (fun z => by omega) (fun z => z.elim (fun z => z.1 rfl) (fun z => by omega)))), hiv, if_pos rfl]) hMR9) dX7_paper_136
                  · exact absurd c_95 (by omega)
                · exact absurd c_80 (by omega)
              · exact absurd c_71 (by omega)
            · refine lv_iconst (v := nI 1) hx hb dX7_paper_62 (by decide) ?_
              refine lv_goto (tgt := 67) hx hb dX7_paper_63 (by decide) ?_
              refine lv_istore (lv' := [(4, .int (nI 1)), (3, .int (nI 1)), (0, .ref ((ma 0))), (1, .int (nI w)), (2, .int ((-1)))]) hx hb dX7_paper_67 hl (by decide) rfl (fun ls hl => ?_)
              refine lv_aload_n hx hb dX7_paper_69 rfl (lv_at hl 2 rfl) ?_
              refine lv_iload_n hx hb dX7_paper_70 rfl (lv_at hl 1 rfl) ?_
              refine z_if_ne (tgt := 78) hx hb (nI_toInt (by decide)) dX7_paper_71 (by decide) (fun c_71 => ?_) (fun c_71 => ?_)
              · refine lv_iload hx hb dX7_paper_78 (lv_at hl 0 rfl) ?_
                refine z_if_eq (tgt := 87) hx hb (nI_toInt (by decide)) dX7_paper_80 (by decide) (fun c_80 => ?_) (fun c_80 => ?_)
                · exact absurd c_80 (by omega)
                · refine lv_iconst (v := nI 2) hx hb dX7_paper_83 (by decide) ?_
                  refine lv_goto (tgt := 88) hx hb dX7_paper_84 (by decide) ?_
                  refine z_put (fs' := [.int (nI 2), .int (nI (ns A)), .ref ((ma 2)), .ref ((ma 3)), .ref ((ma 4)), .ref ((ma 5)), .ref ((ma 6)), .ref ((ma 7)), .ref ((ma 8)), .ref ((ma 9)), .ref ((ma 10)), .ref ((ma 11)), .ref ((ma 12)), .ref ((ma 13)), .ref ((ma 14)), .ref ((ma 15)), .ref ((ma 16)), .double bb, .int bf, .int (nI (nw A)), .ref ((ma 20)), .ref ((ma 21)), .ref ((ma 22)), .ref ((ma 23)), .int (nI (np A)), .ref ((ma 25)), .ref ((ma 26))]) hC hM (hmm 0 (by decide)) hg0 zcl_X7 (by decide) zl_X7_75 rfl rfl (by rfl) (Nat.le_of_ble_eq_true rfl) rfl dX7_paper_88 (fun H locs hM => ?_)
                  obtain ⟨f_31, ef_31⟩ : ∃ z9, z9 = va_up f ((ma 0)) (eS 8 [.int (nI 2), .int (nI (ns A)), .ref ((ma 2)), .ref ((ma 3)), .ref ((ma 4)), .ref ((ma 5)), .ref ((ma 6)), .ref ((ma 7)), .ref ((ma 8)), .ref ((ma 9)), .ref ((ma 10)), .ref ((ma 11)), .ref ((ma 12)), .ref ((ma 13)), .ref ((ma 14)), .ref ((ma 15)), .ref ((ma 16)), .double bb, .int bf, .int (nI (nw A)), .ref ((ma 20)), .ref ((ma 21)), .ref ((ma 22)), .ref ((ma 23)), .int (nI (np A)), .ref ((ma 25)), .ref ((ma 26))]) := ⟨_, rfl⟩
                  rw [← ef_31] at hM
                  have hF_32 : f_31 ((ma 0)) = eS 8 [.int (nI 2), .int (nI (ns A)), .ref ((ma 2)), .ref ((ma 3)), .ref ((ma 4)), .ref ((ma 5)), .ref ((ma 6)), .ref ((ma 7)), .ref ((ma 8)), .ref ((ma 9)), .ref ((ma 10)), .ref ((ma 11)), .ref ((ma 12)), .ref ((ma 13)), .ref ((ma 14)), .ref ((ma 15)), .ref ((ma 16)), .double bb, .int bf, .int (nI (nw A)), .ref ((ma 20)), .ref ((ma 21)), .ref ((ma 22)), .ref ((ma 23)), .int (nI (np A)), .ref ((ma 25)), .ref ((ma 26))] := by rw [ef_31]; exact va_up_self _ _ _
                  have hF_33 : f_31 ((ma 23)) = eZ K 12 (fun j => nI ((A.1 23) j)) := by rw [ef_31]; exact (va_up_ne _ _ (mne hmi (by decide) (by decide) (show 23 ≠ 0 by decide))).trans hg23
                  have hF_34 : f_31 ((ma 25)) = eI K 30 (fun j => nI ((A.1 25) j)) := by rw [ef_31]; exact (va_up_ne _ _ (mne hmi (by decide) (by decide) (show 25 ≠ 0 by decide))).trans hg25
                  have hF_35 : f_31 ((ma 26)) = eI K 30 op := by rw [ef_31]; exact (va_up_ne _ _ (mne hmi (by decide) (by decide) (show 26 ≠ 0 by decide))).trans hg26
                  refine lv_aload_n hx hb dX7_paper_91 rfl (lv_at hl 2 rfl) ?_
                  refine z_get hC hM (hmm 0 (by decide)) hF_32 zcl_X7 (by decide) zl_X7_75 rfl dX7_paper_92 ?_
                  refine z_if_le (tgt := 100) hx hb (nI_toInt (by decide)) dX7_paper_95 (by decide) (fun c_95 => ?_) (fun c_95 => ?_)
                  · exact absurd c_95 (by omega)
                  · refine lv_iconst (v := nI 0) hx hb dX7_paper_98 (by decide) ?_
                    rw [← hQ]
                    exact z_iret hC hM hr hlk rfl (by decide) (by decide) (mr_x (kpa2 hkk (Or.inr (Or.inr (by omega)))) (fun z => if_neg z) (mr_t hmm hmi hop hmc hF_32 (fun q h9 => by rw [ef_31]; simp only [va_up, h9, if_false])) (by decide)) dX7_paper_99
              · exact absurd c_71 (by omega)
          · exact absurd rfl c_42
    · refine lv_aload_n hx hb dX7_paper_13 rfl (lv_at hl 0 rfl) ?_
      refine lv_iload_n hx hb dX7_paper_14 rfl (lv_at hl 2 rfl) ?_
      refine z_fcalli (z_runV hC hM (c_isPaper hV hMI y1) zy_X7_isPaper zm_X7_154 (hmm 0 (by decide)) hg0 zcl_X7 rfl rfl rfl hl.1 (Nat.le_of_ble_eq_true rfl) ⟨by decide, by decide⟩ ⟨by decide, by decide⟩ dX7_paper_15) hM (fun H locs hM => ?_)
      refine z_if_eqB (tgt := 25) hx hb dX7_paper_18 (by decide) (fun c_18 => ?_) (fun c_18 => ?_)
      · refine lv_iconst (v := nI 0) hx hb dX7_paper_25 (by decide) ?_
        refine lv_istore_n (lv' := [(3, .int (nI 0)), (0, .ref ((ma 0))), (1, .int (nI w)), (2, .int y1)]) hx hb dX7_paper_26 rfl hl (by decide) rfl (fun ls hl => ?_)
        refine lv_iload_n hx hb dX7_paper_27 rfl (lv_at hl 0 rfl) ?_
        refine z_if_eq (tgt := 66) hx hb (nI_toInt (by decide)) dX7_paper_28 (by decide) (fun c_28 => ?_) (fun c_28 => ?_)
        · refine lv_iconst (v := nI 0) hx hb dX7_paper_66 (by decide) ?_
          refine lv_istore (lv' := [(4, .int (nI 0)), (3, .int (nI 0)), (0, .ref ((ma 0))), (1, .int (nI w)), (2, .int y1)]) hx hb dX7_paper_67 hl (by decide) rfl (fun ls hl => ?_)
          refine lv_aload_n hx hb dX7_paper_69 rfl (lv_at hl 2 rfl) ?_
          refine lv_iload_n hx hb dX7_paper_70 rfl (lv_at hl 1 rfl) ?_
          refine z_if_ne (tgt := 78) hx hb (nI_toInt (by decide)) dX7_paper_71 (by decide) (fun c_71 => ?_) (fun c_71 => ?_)
          · exact absurd c_71 (by omega)
          · refine lv_iconst (v := nI 1) hx hb dX7_paper_74 (by decide) ?_
            refine lv_goto (tgt := 88) hx hb dX7_paper_75 (by decide) ?_
            refine z_put (fs' := [.int (nI 1), .int (nI (ns A)), .ref ((ma 2)), .ref ((ma 3)), .ref ((ma 4)), .ref ((ma 5)), .ref ((ma 6)), .ref ((ma 7)), .ref ((ma 8)), .ref ((ma 9)), .ref ((ma 10)), .ref ((ma 11)), .ref ((ma 12)), .ref ((ma 13)), .ref ((ma 14)), .ref ((ma 15)), .ref ((ma 16)), .double bb, .int bf, .int (nI (nw A)), .ref ((ma 20)), .ref ((ma 21)), .ref ((ma 22)), .ref ((ma 23)), .int (nI (np A)), .ref ((ma 25)), .ref ((ma 26))]) hC hM (hmm 0 (by decide)) hg0 zcl_X7 (by decide) zl_X7_75 rfl rfl (by rfl) (Nat.le_of_ble_eq_true rfl) rfl dX7_paper_88 (fun H locs hM => ?_)
            obtain ⟨f_36, ef_36⟩ : ∃ z9, z9 = va_up f ((ma 0)) (eS 8 [.int (nI 1), .int (nI (ns A)), .ref ((ma 2)), .ref ((ma 3)), .ref ((ma 4)), .ref ((ma 5)), .ref ((ma 6)), .ref ((ma 7)), .ref ((ma 8)), .ref ((ma 9)), .ref ((ma 10)), .ref ((ma 11)), .ref ((ma 12)), .ref ((ma 13)), .ref ((ma 14)), .ref ((ma 15)), .ref ((ma 16)), .double bb, .int bf, .int (nI (nw A)), .ref ((ma 20)), .ref ((ma 21)), .ref ((ma 22)), .ref ((ma 23)), .int (nI (np A)), .ref ((ma 25)), .ref ((ma 26))]) := ⟨_, rfl⟩
            rw [← ef_36] at hM
            have hF_37 : f_36 ((ma 0)) = eS 8 [.int (nI 1), .int (nI (ns A)), .ref ((ma 2)), .ref ((ma 3)), .ref ((ma 4)), .ref ((ma 5)), .ref ((ma 6)), .ref ((ma 7)), .ref ((ma 8)), .ref ((ma 9)), .ref ((ma 10)), .ref ((ma 11)), .ref ((ma 12)), .ref ((ma 13)), .ref ((ma 14)), .ref ((ma 15)), .ref ((ma 16)), .double bb, .int bf, .int (nI (nw A)), .ref ((ma 20)), .ref ((ma 21)), .ref ((ma 22)), .ref ((ma 23)), .int (nI (np A)), .ref ((ma 25)), .ref ((ma 26))] := by rw [ef_36]; exact va_up_self _ _ _
            have hF_38 : f_36 ((ma 23)) = eZ K 12 (fun j => nI ((A.1 23) j)) := by rw [ef_36]; exact (va_up_ne _ _ (mne hmi (by decide) (by decide) (show 23 ≠ 0 by decide))).trans hg23
            have hF_39 : f_36 ((ma 25)) = eI K 30 (fun j => nI ((A.1 25) j)) := by rw [ef_36]; exact (va_up_ne _ _ (mne hmi (by decide) (by decide) (show 25 ≠ 0 by decide))).trans hg25
            have hF_40 : f_36 ((ma 26)) = eI K 30 op := by rw [ef_36]; exact (va_up_ne _ _ (mne hmi (by decide) (by decide) (show 26 ≠ 0 by decide))).trans hg26
            refine lv_aload_n hx hb dX7_paper_91 rfl (lv_at hl 2 rfl) ?_
            refine z_get hC hM (hmm 0 (by decide)) hF_37 zcl_X7 (by decide) zl_X7_75 rfl dX7_paper_92 ?_
            refine z_if_le (tgt := 100) hx hb (nI_toInt (by decide)) dX7_paper_95 (by decide) (fun c_95 => ?_) (fun c_95 => ?_)
            · exact absurd c_95 (by omega)
            · refine lv_iconst (v := nI 0) hx hb dX7_paper_98 (by decide) ?_
              rw [← hQ]
              exact z_iret hC hM hr hlk rfl (by decide) (by decide) (mr_x (kpa1 (fun z => z.2.elim (fun y => c_10 (by rw [y]; exact m1_toInt)) c_18)) (fun z => if_neg z) (mr_t hmm hmi hop hmc hF_37 (fun q h9 => by rw [ef_36]; simp only [va_up, h9, if_false])) (by decide)) dX7_paper_99
        · exact absurd c_28 (by omega)
      · skip
        obtain ⟨j, hj0, hj9, hxj⟩ := nI_of_range (Int.le_refl 0) c_18.1 c_18.2
        subst hxj
        have hj : j < np A := by omega
        have hivj := iv_nI (i := j) (by omega)
        have hkk : isW A (nI w) ∧ (nI j = -1 ∨ isP A (nI j)) := ⟨c_5, Or.inr c_18⟩
        have hnj : nI j ≠ -1 := fun z => c_10 (by rw [z]; exact m1_toInt)
        refine lv_iconst (v := nI 1) hx hb dX7_paper_21 (by decide) ?_
        refine lv_goto (tgt := 26) hx hb dX7_paper_22 (by decide) ?_
        refine lv_istore_n (lv' := [(3, .int (nI 1)), (0, .ref ((ma 0))), (1, .int (nI w)), (2, .int (nI j))]) hx hb dX7_paper_26 rfl hl (by decide) rfl (fun ls hl => ?_)
        refine lv_iload_n hx hb dX7_paper_27 rfl (lv_at hl 0 rfl) ?_
        refine z_if_eq (tgt := 66) hx hb (nI_toInt (by decide)) dX7_paper_28 (by decide) (fun c_28 => ?_) (fun c_28 => ?_)
        · exact absurd c_28 (by omega)
        · refine lv_aload_n hx hb dX7_paper_31 rfl (lv_at hl 1 rfl) ?_
          refine z_get hC hM (hmm 0 (by decide)) hg0 zcl_X7 (by decide) zl_X7_66 rfl dX7_paper_32 ?_
          refine lv_iload_n hx hb dX7_paper_35 rfl (lv_at hl 2 rfl) ?_
          refine z_zald hC hM (hmm 23 (by decide)) hg23 (by omega) (by omega) dX7_paper_36 ?_
          refine z_if_ne (tgt := 62) hx hb (nI_toInt (by omega)) dX7_paper_37 (by decide) (fun c_37 => ?_) (fun c_37 => ?_)
          · refine lv_iconst (v := nI 1) hx hb dX7_paper_62 (by decide) ?_
            refine lv_goto (tgt := 67) hx hb dX7_paper_63 (by decide) ?_
            refine lv_istore (lv' := [(4, .int (nI 1)), (3, .int (nI 1)), (0, .ref ((ma 0))), (1, .int (nI w)), (2, .int (nI j))]) hx hb dX7_paper_67 hl (by decide) rfl (fun ls hl => ?_)
            refine lv_aload_n hx hb dX7_paper_69 rfl (lv_at hl 2 rfl) ?_
            refine lv_iload_n hx hb dX7_paper_70 rfl (lv_at hl 1 rfl) ?_
            refine z_if_ne (tgt := 78) hx hb (nI_toInt (by decide)) dX7_paper_71 (by decide) (fun c_71 => ?_) (fun c_71 => ?_)
            · refine lv_iload hx hb dX7_paper_78 (lv_at hl 0 rfl) ?_
              refine z_if_eq (tgt := 87) hx hb (nI_toInt (by decide)) dX7_paper_80 (by decide) (fun c_80 => ?_) (fun c_80 => ?_)
              · exact absurd c_80 (by omega)
              · refine lv_iconst (v := nI 2) hx hb dX7_paper_83 (by decide) ?_
                refine lv_goto (tgt := 88) hx hb dX7_paper_84 (by decide) ?_
                refine z_put (fs' := [.int (nI 2), .int (nI (ns A)), .ref ((ma 2)), .ref ((ma 3)), .ref ((ma 4)), .ref ((ma 5)), .ref ((ma 6)), .ref ((ma 7)), .ref ((ma 8)), .ref ((ma 9)), .ref ((ma 10)), .ref ((ma 11)), .ref ((ma 12)), .ref ((ma 13)), .ref ((ma 14)), .ref ((ma 15)), .ref ((ma 16)), .double bb, .int bf, .int (nI (nw A)), .ref ((ma 20)), .ref ((ma 21)), .ref ((ma 22)), .ref ((ma 23)), .int (nI (np A)), .ref ((ma 25)), .ref ((ma 26))]) hC hM (hmm 0 (by decide)) hg0 zcl_X7 (by decide) zl_X7_75 rfl rfl (by rfl) (Nat.le_of_ble_eq_true rfl) rfl dX7_paper_88 (fun H locs hM => ?_)
                obtain ⟨f_41, ef_41⟩ : ∃ z9, z9 = va_up f ((ma 0)) (eS 8 [.int (nI 2), .int (nI (ns A)), .ref ((ma 2)), .ref ((ma 3)), .ref ((ma 4)), .ref ((ma 5)), .ref ((ma 6)), .ref ((ma 7)), .ref ((ma 8)), .ref ((ma 9)), .ref ((ma 10)), .ref ((ma 11)), .ref ((ma 12)), .ref ((ma 13)), .ref ((ma 14)), .ref ((ma 15)), .ref ((ma 16)), .double bb, .int bf, .int (nI (nw A)), .ref ((ma 20)), .ref ((ma 21)), .ref ((ma 22)), .ref ((ma 23)), .int (nI (np A)), .ref ((ma 25)), .ref ((ma 26))]) := ⟨_, rfl⟩
                rw [← ef_41] at hM
                have hF_42 : f_41 ((ma 0)) = eS 8 [.int (nI 2), .int (nI (ns A)), .ref ((ma 2)), .ref ((ma 3)), .ref ((ma 4)), .ref ((ma 5)), .ref ((ma 6)), .ref ((ma 7)), .ref ((ma 8)), .ref ((ma 9)), .ref ((ma 10)), .ref ((ma 11)), .ref ((ma 12)), .ref ((ma 13)), .ref ((ma 14)), .ref ((ma 15)), .ref ((ma 16)), .double bb, .int bf, .int (nI (nw A)), .ref ((ma 20)), .ref ((ma 21)), .ref ((ma 22)), .ref ((ma 23)), .int (nI (np A)), .ref ((ma 25)), .ref ((ma 26))] := by rw [ef_41]; exact va_up_self _ _ _
                have hF_43 : f_41 ((ma 23)) = eZ K 12 (fun j => nI ((A.1 23) j)) := by rw [ef_41]; exact (va_up_ne _ _ (mne hmi (by decide) (by decide) (show 23 ≠ 0 by decide))).trans hg23
                have hF_44 : f_41 ((ma 25)) = eI K 30 (fun j => nI ((A.1 25) j)) := by rw [ef_41]; exact (va_up_ne _ _ (mne hmi (by decide) (by decide) (show 25 ≠ 0 by decide))).trans hg25
                have hF_45 : f_41 ((ma 26)) = eI K 30 op := by rw [ef_41]; exact (va_up_ne _ _ (mne hmi (by decide) (by decide) (show 26 ≠ 0 by decide))).trans hg26
                refine lv_aload_n hx hb dX7_paper_91 rfl (lv_at hl 2 rfl) ?_
                refine z_get hC hM (hmm 0 (by decide)) hF_42 zcl_X7 (by decide) zl_X7_75 rfl dX7_paper_92 ?_
                refine z_if_le (tgt := 100) hx hb (nI_toInt (by decide)) dX7_paper_95 (by decide) (fun c_95 => ?_) (fun c_95 => ?_)
                · exact absurd c_95 (by omega)
                · refine lv_iconst (v := nI 0) hx hb dX7_paper_98 (by decide) ?_
                  rw [← hQ]
                  exact z_iret hC hM hr hlk rfl (by decide) (by decide) (mr_x (kpa2 hkk (by rw [hiv]; exact Or.inl (by omega))) (fun z => if_neg z) (mr_t hmm hmi hop hmc hF_42 (fun q h9 => by rw [ef_41]; simp only [va_up, h9, if_false])) (by decide)) dX7_paper_99
            · exact absurd c_71 (by omega)
          · refine lv_iload_n hx hb dX7_paper_40 rfl (lv_at hl 3 rfl) ?_
            refine lv_iconst (v := (-1)) hx hb dX7_paper_41 (by decide) ?_
            refine z_icmp_eq (tgt := 53) hx hb (nI_toInt (by omega)) m1_toInt dX7_paper_42 (by decide) (fun c_42 => ?_) (fun c_42 => ?_)
            · exact absurd c_42 (by omega)
            · refine lv_aload_n hx hb dX7_paper_45 rfl (lv_at hl 1 rfl) ?_
              refine lv_iload_n hx hb dX7_paper_46 rfl (lv_at hl 3 rfl) ?_
              refine z_fcalli (z_runV hC hM (m_fellN hV hMI hj) zy_X7_fell zm_X7_151 (hmm 0 (by decide)) hg0 zcl_X7 rfl rfl rfl hl.1 (Nat.le_of_ble_eq_true rfl) ⟨by decide, by decide⟩ ⟨by decide, by decide⟩ dX7_paper_47) hM (fun H locs hM => ?_)
              refine z_if_neB (tgt := 62) hx hb dX7_paper_50 (by decide) (fun c_50 => ?_) (fun c_50 => ?_)
              · refine lv_iconst (v := nI 1) hx hb dX7_paper_62 (by decide) ?_
                refine lv_goto (tgt := 67) hx hb dX7_paper_63 (by decide) ?_
                refine lv_istore (lv' := [(4, .int (nI 1)), (3, .int (nI 1)), (0, .ref ((ma 0))), (1, .int (nI w)), (2, .int (nI j))]) hx hb dX7_paper_67 hl (by decide) rfl (fun ls hl => ?_)
                refine lv_aload_n hx hb dX7_paper_69 rfl (lv_at hl 2 rfl) ?_
                refine lv_iload_n hx hb dX7_paper_70 rfl (lv_at hl 1 rfl) ?_
                refine z_if_ne (tgt := 78) hx hb (nI_toInt (by decide)) dX7_paper_71 (by decide) (fun c_71 => ?_) (fun c_71 => ?_)
                · refine lv_iload hx hb dX7_paper_78 (lv_at hl 0 rfl) ?_
                  refine z_if_eq (tgt := 87) hx hb (nI_toInt (by decide)) dX7_paper_80 (by decide) (fun c_80 => ?_) (fun c_80 => ?_)
                  · exact absurd c_80 (by omega)
                  · refine lv_iconst (v := nI 2) hx hb dX7_paper_83 (by decide) ?_
                    refine lv_goto (tgt := 88) hx hb dX7_paper_84 (by decide) ?_
                    refine z_put (fs' := [.int (nI 2), .int (nI (ns A)), .ref ((ma 2)), .ref ((ma 3)), .ref ((ma 4)), .ref ((ma 5)), .ref ((ma 6)), .ref ((ma 7)), .ref ((ma 8)), .ref ((ma 9)), .ref ((ma 10)), .ref ((ma 11)), .ref ((ma 12)), .ref ((ma 13)), .ref ((ma 14)), .ref ((ma 15)), .ref ((ma 16)), .double bb, .int bf, .int (nI (nw A)), .ref ((ma 20)), .ref ((ma 21)), .ref ((ma 22)), .ref ((ma 23)), .int (nI (np A)), .ref ((ma 25)), .ref ((ma 26))]) hC hM (hmm 0 (by decide)) hg0 zcl_X7 (by decide) zl_X7_75 rfl rfl (by rfl) (Nat.le_of_ble_eq_true rfl) rfl dX7_paper_88 (fun H locs hM => ?_)
                    obtain ⟨f_46, ef_46⟩ : ∃ z9, z9 = va_up f ((ma 0)) (eS 8 [.int (nI 2), .int (nI (ns A)), .ref ((ma 2)), .ref ((ma 3)), .ref ((ma 4)), .ref ((ma 5)), .ref ((ma 6)), .ref ((ma 7)), .ref ((ma 8)), .ref ((ma 9)), .ref ((ma 10)), .ref ((ma 11)), .ref ((ma 12)), .ref ((ma 13)), .ref ((ma 14)), .ref ((ma 15)), .ref ((ma 16)), .double bb, .int bf, .int (nI (nw A)), .ref ((ma 20)), .ref ((ma 21)), .ref ((ma 22)), .ref ((ma 23)), .int (nI (np A)), .ref ((ma 25)), .ref ((ma 26))]) := ⟨_, rfl⟩
                    rw [← ef_46] at hM
                    have hF_47 : f_46 ((ma 0)) = eS 8 [.int (nI 2), .int (nI (ns A)), .ref ((ma 2)), .ref ((ma 3)), .ref ((ma 4)), .ref ((ma 5)), .ref ((ma 6)), .ref ((ma 7)), .ref ((ma 8)), .ref ((ma 9)), .ref ((ma 10)), .ref ((ma 11)), .ref ((ma 12)), .ref ((ma 13)), .ref ((ma 14)), .ref ((ma 15)), .ref ((ma 16)), .double bb, .int bf, .int (nI (nw A)), .ref ((ma 20)), .ref ((ma 21)), .ref ((ma 22)), .ref ((ma 23)), .int (nI (np A)), .ref ((ma 25)), .ref ((ma 26))] := by rw [ef_46]; exact va_up_self _ _ _
                    have hF_48 : f_46 ((ma 23)) = eZ K 12 (fun j => nI ((A.1 23) j)) := by rw [ef_46]; exact (va_up_ne _ _ (mne hmi (by decide) (by decide) (show 23 ≠ 0 by decide))).trans hg23
                    have hF_49 : f_46 ((ma 25)) = eI K 30 (fun j => nI ((A.1 25) j)) := by rw [ef_46]; exact (va_up_ne _ _ (mne hmi (by decide) (by decide) (show 25 ≠ 0 by decide))).trans hg25
                    have hF_50 : f_46 ((ma 26)) = eI K 30 op := by rw [ef_46]; exact (va_up_ne _ _ (mne hmi (by decide) (by decide) (show 26 ≠ 0 by decide))).trans hg26
                    refine lv_aload_n hx hb dX7_paper_91 rfl (lv_at hl 2 rfl) ?_
                    refine z_get hC hM (hmm 0 (by decide)) hF_47 zcl_X7 (by decide) zl_X7_75 rfl dX7_paper_92 ?_
                    refine z_if_le (tgt := 100) hx hb (nI_toInt (by decide)) dX7_paper_95 (by decide) (fun c_95 => ?_) (fun c_95 => ?_)
                    · exact absurd c_95 (by omega)
                    · refine lv_iconst (v := nI 0) hx hb dX7_paper_98 (by decide) ?_
                      rw [← hQ]
                      exact z_iret hC hM hr hlk rfl (by decide) (by decide) (mr_x (kpa2 hkk (Or.inr (Or.inl ⟨hnj, by rw [hivj]; exact c_50⟩))) (fun z => if_neg z) (mr_t hmm hmi hop hmc hF_47 (fun q h9 => by rw [ef_46]; simp only [va_up, h9, if_false])) (by decide)) dX7_paper_99
                · exact absurd c_71 (by omega)
              · refine lv_aload_n hx hb dX7_paper_53 rfl (lv_at hl 1 rfl) ?_
                refine z_get hC hM (hmm 0 (by decide)) hg0 zcl_X7 (by decide) zl_X7_148 rfl dX7_paper_54 ?_
                refine lv_bipush (v := nI 30) hx hb dX7_paper_57 (by decide) ?_
                refine z_icmp_ne (tgt := 66) hx hb (nI_toInt (by omega)) (nI_toInt (by decide)) dX7_paper_59 (by decide) (fun c_59 => ?_) (fun c_59 => ?_)
                · refine lv_iconst (v := nI 0) hx hb dX7_paper_66 (by decide) ?_
                  refine lv_istore (lv' := [(4, .int (nI 0)), (3, .int (nI 1)), (0, .ref ((ma 0))), (1, .int (nI w)), (2, .int (nI j))]) hx hb dX7_paper_67 hl (by decide) rfl (fun ls hl => ?_)
                  refine lv_aload_n hx hb dX7_paper_69 rfl (lv_at hl 2 rfl) ?_
                  refine lv_iload_n hx hb dX7_paper_70 rfl (lv_at hl 1 rfl) ?_
                  refine z_if_ne (tgt := 78) hx hb (nI_toInt (by decide)) dX7_paper_71 (by decide) (fun c_71 => ?_) (fun c_71 => ?_)
                  · refine lv_iload hx hb dX7_paper_78 (lv_at hl 0 rfl) ?_
                    refine z_if_eq (tgt := 87) hx hb (nI_toInt (by decide)) dX7_paper_80 (by decide) (fun c_80 => ?_) (fun c_80 => ?_)
                    · refine lv_iconst (v := nI 0) hx hb dX7_paper_87 (by decide) ?_
                      refine z_put (fs' := [.int (nI 0), .int (nI (ns A)), .ref ((ma 2)), .ref ((ma 3)), .ref ((ma 4)), .ref ((ma 5)), .ref ((ma 6)), .ref ((ma 7)), .ref ((ma 8)), .ref ((ma 9)), .ref ((ma 10)), .ref ((ma 11)), .ref ((ma 12)), .ref ((ma 13)), .ref ((ma 14)), .ref ((ma 15)), .ref ((ma 16)), .double bb, .int bf, .int (nI (nw A)), .ref ((ma 20)), .ref ((ma 21)), .ref ((ma 22)), .ref ((ma 23)), .int (nI (np A)), .ref ((ma 25)), .ref ((ma 26))]) hC hM (hmm 0 (by decide)) hg0 zcl_X7 (by decide) zl_X7_75 rfl rfl (by rfl) (Nat.le_of_ble_eq_true rfl) rfl dX7_paper_88 (fun H locs hM => ?_)
                      obtain ⟨f_51, ef_51⟩ : ∃ z9, z9 = va_up f ((ma 0)) (eS 8 [.int (nI 0), .int (nI (ns A)), .ref ((ma 2)), .ref ((ma 3)), .ref ((ma 4)), .ref ((ma 5)), .ref ((ma 6)), .ref ((ma 7)), .ref ((ma 8)), .ref ((ma 9)), .ref ((ma 10)), .ref ((ma 11)), .ref ((ma 12)), .ref ((ma 13)), .ref ((ma 14)), .ref ((ma 15)), .ref ((ma 16)), .double bb, .int bf, .int (nI (nw A)), .ref ((ma 20)), .ref ((ma 21)), .ref ((ma 22)), .ref ((ma 23)), .int (nI (np A)), .ref ((ma 25)), .ref ((ma 26))]) := ⟨_, rfl⟩
                      rw [← ef_51] at hM
                      have hF_52 : f_51 ((ma 0)) = eS 8 [.int (nI 0), .int (nI (ns A)), .ref ((ma 2)), .ref ((ma 3)), .ref ((ma 4)), .ref ((ma 5)), .ref ((ma 6)), .ref ((ma 7)), .ref ((ma 8)), .ref ((ma 9)), .ref ((ma 10)), .ref ((ma 11)), .ref ((ma 12)), .ref ((ma 13)), .ref ((ma 14)), .ref ((ma 15)), .ref ((ma 16)), .double bb, .int bf, .int (nI (nw A)), .ref ((ma 20)), .ref ((ma 21)), .ref ((ma 22)), .ref ((ma 23)), .int (nI (np A)), .ref ((ma 25)), .ref ((ma 26))] := by rw [ef_51]; exact va_up_self _ _ _
                      have hF_53 : f_51 ((ma 23)) = eZ K 12 (fun j => nI ((A.1 23) j)) := by rw [ef_51]; exact (va_up_ne _ _ (mne hmi (by decide) (by decide) (show 23 ≠ 0 by decide))).trans hg23
                      have hF_54 : f_51 ((ma 25)) = eI K 30 (fun j => nI ((A.1 25) j)) := by rw [ef_51]; exact (va_up_ne _ _ (mne hmi (by decide) (by decide) (show 25 ≠ 0 by decide))).trans hg25
                      have hF_55 : f_51 ((ma 26)) = eI K 30 op := by rw [ef_51]; exact (va_up_ne _ _ (mne hmi (by decide) (by decide) (show 26 ≠ 0 by decide))).trans hg26
                      refine lv_aload_n hx hb dX7_paper_91 rfl (lv_at hl 2 rfl) ?_
                      refine z_get hC hM (hmm 0 (by decide)) hF_52 zcl_X7 (by decide) zl_X7_75 rfl dX7_paper_92 ?_
                      refine z_if_le (tgt := 100) hx hb (nI_toInt (by decide)) dX7_paper_95 (by decide) (fun c_95 => ?_) (fun c_95 => ?_)
                      · refine lv_aload_n hx hb dX7_paper_100 rfl (lv_at hl 2 rfl) ?_
                        refine z_get hC hM (hmm 0 (by decide)) hF_52 zcl_X7 (by decide) zl_X7_69 rfl dX7_paper_101 ?_
                        refine lv_aload_n hx hb dX7_paper_104 rfl (lv_at hl 2 rfl) ?_
                        refine z_get hC hM (hmm 0 (by decide)) hF_52 zcl_X7 (by decide) zl_X7_148 rfl dX7_paper_105 ?_
                        refine lv_iload_n hx hb dX7_paper_108 rfl (lv_at hl 3 rfl) ?_
                        refine z_iast hC hM (hmm 25 (by decide)) hF_54 (by omega) (by omega) dX7_paper_109 (fun H locs hM => ?_)
                        rw [up_nI] at hM
                        obtain ⟨f_56, ef_56⟩ : ∃ z9, z9 = va_up f_51 ((ma 25)) (eI K 30 (fun j => nI ((va_up (A.1 25) (np A) w) j))) := ⟨_, rfl⟩
                        rw [← ef_56] at hM
                        have hF_57 : f_56 ((ma 0)) = eS 8 [.int (nI 0), .int (nI (ns A)), .ref ((ma 2)), .ref ((ma 3)), .ref ((ma 4)), .ref ((ma 5)), .ref ((ma 6)), .ref ((ma 7)), .ref ((ma 8)), .ref ((ma 9)), .ref ((ma 10)), .ref ((ma 11)), .ref ((ma 12)), .ref ((ma 13)), .ref ((ma 14)), .ref ((ma 15)), .ref ((ma 16)), .double bb, .int bf, .int (nI (nw A)), .ref ((ma 20)), .ref ((ma 21)), .ref ((ma 22)), .ref ((ma 23)), .int (nI (np A)), .ref ((ma 25)), .ref ((ma 26))] := by rw [ef_56]; exact (va_up_ne _ _ (mne hmi (by decide) (by decide) (show 0 ≠ 25 by decide))).trans hF_52
                        have hF_58 : f_56 ((ma 23)) = eZ K 12 (fun j => nI ((A.1 23) j)) := by rw [ef_56]; exact (va_up_ne _ _ (mne hmi (by decide) (by decide) (show 23 ≠ 25 by decide))).trans hF_53
                        have hF_59 : f_56 ((ma 25)) = eI K 30 (fun j => nI ((va_up (A.1 25) (np A) w) j)) := by rw [ef_56]; exact va_up_self _ _ _
                        have hF_60 : f_56 ((ma 26)) = eI K 30 op := by rw [ef_56]; exact (va_up_ne _ _ (mne hmi (by decide) (by decide) (show 26 ≠ 25 by decide))).trans hF_55
                        refine lv_aload_n hx hb dX7_paper_110 rfl (lv_at hl 2 rfl) ?_
                        refine z_get hC hM (hmm 0 (by decide)) hF_57 zcl_X7 (by decide) zl_X7_72 rfl dX7_paper_111 ?_
                        refine lv_aload_n hx hb dX7_paper_114 rfl (lv_at hl 2 rfl) ?_
                        refine z_get hC hM (hmm 0 (by decide)) hF_57 zcl_X7 (by decide) zl_X7_148 rfl dX7_paper_115 ?_
                        refine lv_iload_n hx hb dX7_paper_118 rfl (lv_at hl 4 rfl) ?_
                        refine z_iast hC hM (hmm 26 (by decide)) hF_60 (by omega) (by omega) dX7_paper_119 (fun H locs hM => ?_)
                        obtain ⟨f_61, ef_61⟩ : ∃ z9, z9 = va_up f_56 ((ma 26)) (eI K 30 (va_up op (np A) (nI j))) := ⟨_, rfl⟩
                        rw [← ef_61] at hM
                        have hF_62 : f_61 ((ma 0)) = eS 8 [.int (nI 0), .int (nI (ns A)), .ref ((ma 2)), .ref ((ma 3)), .ref ((ma 4)), .ref ((ma 5)), .ref ((ma 6)), .ref ((ma 7)), .ref ((ma 8)), .ref ((ma 9)), .ref ((ma 10)), .ref ((ma 11)), .ref ((ma 12)), .ref ((ma 13)), .ref ((ma 14)), .ref ((ma 15)), .ref ((ma 16)), .double bb, .int bf, .int (nI (nw A)), .ref ((ma 20)), .ref ((ma 21)), .ref ((ma 22)), .ref ((ma 23)), .int (nI (np A)), .ref ((ma 25)), .ref ((ma 26))] := by rw [ef_61]; exact (va_up_ne _ _ (mne hmi (by decide) (by decide) (show 0 ≠ 26 by decide))).trans hF_57
                        have hF_63 : f_61 ((ma 23)) = eZ K 12 (fun j => nI ((A.1 23) j)) := by rw [ef_61]; exact (va_up_ne _ _ (mne hmi (by decide) (by decide) (show 23 ≠ 26 by decide))).trans hF_58
                        have hF_64 : f_61 ((ma 25)) = eI K 30 (fun j => nI ((va_up (A.1 25) (np A) w) j)) := by rw [ef_61]; exact (va_up_ne _ _ (mne hmi (by decide) (by decide) (show 25 ≠ 26 by decide))).trans hF_59
                        have hF_65 : f_61 ((ma 26)) = eI K 30 (va_up op (np A) (nI j)) := by rw [ef_61]; exact va_up_self _ _ _
                        refine lv_aload_n hx hb dX7_paper_120 rfl (lv_at hl 2 rfl) ?_
                        refine lv_dup hx hb dX7_paper_121 rfl ?_
                        refine z_get hC hM (hmm 0 (by decide)) hF_62 zcl_X7 (by decide) zl_X7_148 rfl dX7_paper_122 ?_
                        refine lv_iconst (v := nI 1) hx hb dX7_paper_125 (by decide) ?_
                        refine z_iadd hx hb dX7_paper_126 ?_
                        refine z_put (fs' := [.int (nI 0), .int (nI (ns A)), .ref ((ma 2)), .ref ((ma 3)), .ref ((ma 4)), .ref ((ma 5)), .ref ((ma 6)), .ref ((ma 7)), .ref ((ma 8)), .ref ((ma 9)), .ref ((ma 10)), .ref ((ma 11)), .ref ((ma 12)), .ref ((ma 13)), .ref ((ma 14)), .ref ((ma 15)), .ref ((ma 16)), .double bb, .int bf, .int (nI (nw A)), .ref ((ma 20)), .ref ((ma 21)), .ref ((ma 22)), .ref ((ma 23)), .int (nI ((np A) + 1)), .ref ((ma 25)), .ref ((ma 26))]) hC hM (hmm 0 (by decide)) hF_62 zcl_X7 (by decide) zl_X7_148 rfl rfl (by rfl) (Nat.le_of_ble_eq_true rfl) rfl dX7_paper_127 (fun H locs hM => ?_)
                        obtain ⟨f_66, ef_66⟩ : ∃ z9, z9 = va_up f_61 ((ma 0)) (eS 8 [.int (nI 0), .int (nI (ns A)), .ref ((ma 2)), .ref ((ma 3)), .ref ((ma 4)), .ref ((ma 5)), .ref ((ma 6)), .ref ((ma 7)), .ref ((ma 8)), .ref ((ma 9)), .ref ((ma 10)), .ref ((ma 11)), .ref ((ma 12)), .ref ((ma 13)), .ref ((ma 14)), .ref ((ma 15)), .ref ((ma 16)), .double bb, .int bf, .int (nI (nw A)), .ref ((ma 20)), .ref ((ma 21)), .ref ((ma 22)), .ref ((ma 23)), .int (nI ((np A) + 1)), .ref ((ma 25)), .ref ((ma 26))]) := ⟨_, rfl⟩
                        rw [← ef_66] at hM
                        have hF_67 : f_66 ((ma 0)) = eS 8 [.int (nI 0), .int (nI (ns A)), .ref ((ma 2)), .ref ((ma 3)), .ref ((ma 4)), .ref ((ma 5)), .ref ((ma 6)), .ref ((ma 7)), .ref ((ma 8)), .ref ((ma 9)), .ref ((ma 10)), .ref ((ma 11)), .ref ((ma 12)), .ref ((ma 13)), .ref ((ma 14)), .ref ((ma 15)), .ref ((ma 16)), .double bb, .int bf, .int (nI (nw A)), .ref ((ma 20)), .ref ((ma 21)), .ref ((ma 22)), .ref ((ma 23)), .int (nI ((np A) + 1)), .ref ((ma 25)), .ref ((ma 26))] := by rw [ef_66]; exact va_up_self _ _ _
                        have hF_68 : f_66 ((ma 23)) = eZ K 12 (fun j => nI ((A.1 23) j)) := by rw [ef_66]; exact (va_up_ne _ _ (mne hmi (by decide) (by decide) (show 23 ≠ 0 by decide))).trans hF_63
                        have hF_69 : f_66 ((ma 25)) = eI K 30 (fun j => nI ((va_up (A.1 25) (np A) w) j)) := by rw [ef_66]; exact (va_up_ne _ _ (mne hmi (by decide) (by decide) (show 25 ≠ 0 by decide))).trans hF_64
                        have hF_70 : f_66 ((ma 26)) = eI K 30 (va_up op (np A) (nI j)) := by rw [ef_66]; exact (va_up_ne _ _ (mne hmi (by decide) (by decide) (show 26 ≠ 0 by decide))).trans hF_65
                        refine lv_aload_n hx hb dX7_paper_130 rfl (lv_at hl 2 rfl) ?_
                        refine z_get hC hM (hmm 0 (by decide)) hF_67 zcl_X7 (by decide) zl_X7_148 rfl dX7_paper_131 ?_
                        refine lv_iconst (v := nI 1) hx hb dX7_paper_134 (by decide) ?_
                        refine z_isub hx hb (by omega) dX7_paper_135 ?_
                        have hfu9 : ∀ k, mk k → k ≠ 0 → k ≠ 25 → k ≠ 26 → f_66 (ma k) = f (ma k) := fun k hk n0 n25 n26 => by
                          have m0 := mne hmi hk (show mk 0 by decide) n0
                          have m25 := mne hmi hk (show mk 25 by decide) n25
                          have m26 := mne hmi hk (show mk 26 by decide) n26
                          rw [ef_66, ef_61, ef_56, ef_51]
                          simp only [va_up, m0, m25, m26, if_false]
                        have hfr9 : ∀ q, (∀ k, mk k → q ≠ ma k) → f_66 q = f q := fun q hq => by
                          have m0 := hq 0 (by decide)
                          have m25 := hq 25 (by decide)
                          have m26 := hq 26 (by decide)
                          rw [ef_66, ef_61, ef_56, ef_51]
                          simp only [va_up, m0, m25, m26, if_false]
                        have hMR9 : MR K (A) ma L f (paA A w (j + 1)) (nI 0) L f_66 := mr_ok (x' := (sg, cg, bb, bf)) (op' := va_up op (np A) (nI j)) hmm hmi (hop_pa hop (oP_s j).symm) (mk_all hF_67 ((hfu9 2 (by decide) (by decide) (by decide) (by decide)).trans (hmc 2 (by decide))) ((hfu9 3 (by decide) (by decide) (by decide) (by decide)).trans (hmc 3 (by decide))) ((hfu9 4 (by decide) (by decide) (by decide) (by decide)).trans (hmc 4 (by decide))) ((hfu9 5 (by decide) (by decide) (by decide) (by decide)).trans (hmc 5 (by decide))) ((hfu9 6 (by decide) (by decide) (by decide) (by decide)).trans (hmc 6 (by decide))) ((hfu9 7 (by decide) (by decide) (by decide) (by decide)).trans (hmc 7 (by decide))) ((hfu9 8 (by decide) (by decide) (by decide) (by decide)).trans (hmc 8 (by decide))) ((hfu9 9 (by decide) (by decide) (by decide) (by decide)).trans (hmc 9 (by decide))) ((hfu9 10 (by decide) (by decide) (by decide) (by decide)).trans (hmc 10 (by decide))) ((hfu9 11 (by decide) (by decide) (by decide) (by decide)).trans (hmc 11 (by decide))) ((hfu9 12 (by decide) (by decide) (by decide) (by decide)).trans (hmc 12 (by decide))) ((hfu9 13 (by decide) (by decide) (by decide) (by decide)).trans (hmc 13 (by decide))) ((hfu9 14 (by decide) (by decide) (by decide) (by decide)).trans (hmc 14 (by decide))) ((hfu9 15 (by decide) (by decide) (by decide) (by decide)).trans (hmc 15 (by decide))) ((hfu9 16 (by decide) (by decide) (by decide) (by decide)).trans (hmc 16 (by decide))) ((hfu9 20 (by decide) (by decide) (by decide) (by decide)).trans (hmc 20 (by decide))) ((hfu9 21 (by decide) (by decide) (by decide) (by decide)).trans (hmc 21 (by decide))) ((hfu9 22 (by decide) (by decide) (by decide) (by decide)).trans (hmc 22 (by decide))) ((hfu9 23 (by decide) (by decide) (by decide) (by decide)).trans (hmc 23 (by decide))) hF_69 hF_70) hfr9
                        rw [← hQ]
                        exact z_iret hC hM hr hlk rfl (by decide) (by decide) (mr_0 (kpa0 hkk (by rw [hiv, hivj]; exact fun z => z.elim (fun z => by omega) (fun z => z.elim (fun z => c_50 z.2) (fun z => by omega)))) rfl (by rw [a_paper, if_pos (kpa0 hkk (by rw [hiv, hivj]; exact fun z => z.elim (fun z => by omega) (fun z => z.elim (fun z => c_50 z.2) (fun z => by omega)))), hiv, if_neg hnj, hivj]) hMR9) dX7_paper_136
                      · exact absurd c_95 (by omega)
                    · exact absurd c_80 (by omega)
                  · exact absurd c_71 (by omega)
                · refine lv_iconst (v := nI 1) hx hb dX7_paper_62 (by decide) ?_
                  refine lv_goto (tgt := 67) hx hb dX7_paper_63 (by decide) ?_
                  refine lv_istore (lv' := [(4, .int (nI 1)), (3, .int (nI 1)), (0, .ref ((ma 0))), (1, .int (nI w)), (2, .int (nI j))]) hx hb dX7_paper_67 hl (by decide) rfl (fun ls hl => ?_)
                  refine lv_aload_n hx hb dX7_paper_69 rfl (lv_at hl 2 rfl) ?_
                  refine lv_iload_n hx hb dX7_paper_70 rfl (lv_at hl 1 rfl) ?_
                  refine z_if_ne (tgt := 78) hx hb (nI_toInt (by decide)) dX7_paper_71 (by decide) (fun c_71 => ?_) (fun c_71 => ?_)
                  · refine lv_iload hx hb dX7_paper_78 (lv_at hl 0 rfl) ?_
                    refine z_if_eq (tgt := 87) hx hb (nI_toInt (by decide)) dX7_paper_80 (by decide) (fun c_80 => ?_) (fun c_80 => ?_)
                    · exact absurd c_80 (by omega)
                    · refine lv_iconst (v := nI 2) hx hb dX7_paper_83 (by decide) ?_
                      refine lv_goto (tgt := 88) hx hb dX7_paper_84 (by decide) ?_
                      refine z_put (fs' := [.int (nI 2), .int (nI (ns A)), .ref ((ma 2)), .ref ((ma 3)), .ref ((ma 4)), .ref ((ma 5)), .ref ((ma 6)), .ref ((ma 7)), .ref ((ma 8)), .ref ((ma 9)), .ref ((ma 10)), .ref ((ma 11)), .ref ((ma 12)), .ref ((ma 13)), .ref ((ma 14)), .ref ((ma 15)), .ref ((ma 16)), .double bb, .int bf, .int (nI (nw A)), .ref ((ma 20)), .ref ((ma 21)), .ref ((ma 22)), .ref ((ma 23)), .int (nI (np A)), .ref ((ma 25)), .ref ((ma 26))]) hC hM (hmm 0 (by decide)) hg0 zcl_X7 (by decide) zl_X7_75 rfl rfl (by rfl) (Nat.le_of_ble_eq_true rfl) rfl dX7_paper_88 (fun H locs hM => ?_)
                      obtain ⟨f_71, ef_71⟩ : ∃ z9, z9 = va_up f ((ma 0)) (eS 8 [.int (nI 2), .int (nI (ns A)), .ref ((ma 2)), .ref ((ma 3)), .ref ((ma 4)), .ref ((ma 5)), .ref ((ma 6)), .ref ((ma 7)), .ref ((ma 8)), .ref ((ma 9)), .ref ((ma 10)), .ref ((ma 11)), .ref ((ma 12)), .ref ((ma 13)), .ref ((ma 14)), .ref ((ma 15)), .ref ((ma 16)), .double bb, .int bf, .int (nI (nw A)), .ref ((ma 20)), .ref ((ma 21)), .ref ((ma 22)), .ref ((ma 23)), .int (nI (np A)), .ref ((ma 25)), .ref ((ma 26))]) := ⟨_, rfl⟩
                      rw [← ef_71] at hM
                      have hF_72 : f_71 ((ma 0)) = eS 8 [.int (nI 2), .int (nI (ns A)), .ref ((ma 2)), .ref ((ma 3)), .ref ((ma 4)), .ref ((ma 5)), .ref ((ma 6)), .ref ((ma 7)), .ref ((ma 8)), .ref ((ma 9)), .ref ((ma 10)), .ref ((ma 11)), .ref ((ma 12)), .ref ((ma 13)), .ref ((ma 14)), .ref ((ma 15)), .ref ((ma 16)), .double bb, .int bf, .int (nI (nw A)), .ref ((ma 20)), .ref ((ma 21)), .ref ((ma 22)), .ref ((ma 23)), .int (nI (np A)), .ref ((ma 25)), .ref ((ma 26))] := by rw [ef_71]; exact va_up_self _ _ _
                      have hF_73 : f_71 ((ma 23)) = eZ K 12 (fun j => nI ((A.1 23) j)) := by rw [ef_71]; exact (va_up_ne _ _ (mne hmi (by decide) (by decide) (show 23 ≠ 0 by decide))).trans hg23
                      have hF_74 : f_71 ((ma 25)) = eI K 30 (fun j => nI ((A.1 25) j)) := by rw [ef_71]; exact (va_up_ne _ _ (mne hmi (by decide) (by decide) (show 25 ≠ 0 by decide))).trans hg25
                      have hF_75 : f_71 ((ma 26)) = eI K 30 op := by rw [ef_71]; exact (va_up_ne _ _ (mne hmi (by decide) (by decide) (show 26 ≠ 0 by decide))).trans hg26
                      refine lv_aload_n hx hb dX7_paper_91 rfl (lv_at hl 2 rfl) ?_
                      refine z_get hC hM (hmm 0 (by decide)) hF_72 zcl_X7 (by decide) zl_X7_75 rfl dX7_paper_92 ?_
                      refine z_if_le (tgt := 100) hx hb (nI_toInt (by decide)) dX7_paper_95 (by decide) (fun c_95 => ?_) (fun c_95 => ?_)
                      · exact absurd c_95 (by omega)
                      · refine lv_iconst (v := nI 0) hx hb dX7_paper_98 (by decide) ?_
                        rw [← hQ]
                        exact z_iret hC hM hr hlk rfl (by decide) (by decide) (mr_x (kpa2 hkk (Or.inr (Or.inr (by omega)))) (fun z => if_neg z) (mr_t hmm hmi hop hmc hF_72 (fun q h9 => by rw [ef_71]; simp only [va_up, h9, if_false])) (by decide)) dX7_paper_99
                  · exact absurd c_71 (by omega)
set_option maxHeartbeats 400000 in
set_option maxRecDepth 100000 in
theorem m_withdraw {l : Launch} {base : Nat} {K : zK} {L : List Nat} {f : Nat → va_E} {A : zA} {ma : Nat → Nat} {t : Int32} (hV : VA A) (hMI : MI K L f A ma t) (x : Int32) : zMet l yX7_withdraw cX7_withdraw 3 (some .int) (zr 2 0 0 44) base K L f [.ref ((ma 0)), .int x] (zQi base K (fun r L1 f1 => (k_withdraw A x = 0 → r = v_withdraw A x) ∧ MR K A ma L f (a_withdraw A x) (nI (k_withdraw A x)) L1 f1)) := by
  have hMI9 := hMI
  obtain ⟨hmm, hmi, ⟨sg, cg, bb, bf⟩, op, hop, hmc⟩ := hMI9
  have hV9 := hV
  obtain ⟨hv1, hv2, hv3, hvS, hvO, hvK, hvK1, hvL, hv11, hvW, hv23, hvW0, hvP⟩ := hV9
  have hg0 : f (ma 0) = eS 8 [.int t, .int (nI (ns A)), .ref ((ma 2)), .ref ((ma 3)), .ref ((ma 4)), .ref ((ma 5)), .ref ((ma 6)), .ref ((ma 7)), .ref ((ma 8)), .ref ((ma 9)), .ref ((ma 10)), .ref ((ma 11)), .ref ((ma 12)), .ref ((ma 13)), .ref ((ma 14)), .ref ((ma 15)), .ref ((ma 16)), .double bb, .int bf, .int (nI (nw A)), .ref ((ma 20)), .ref ((ma 21)), .ref ((ma 22)), .ref ((ma 23)), .int (nI (np A)), .ref ((ma 25)), .ref ((ma 26))] := hmc 0 (by decide)
  have hg23 : f (ma 23) = eZ K 12 (fun j => nI ((A.1 23) j)) := hmc 23 (by decide)
  refine z_met (by decide) (Nat.le_of_ble_eq_true rfl) (fun p e s m below meth c ls hC hM hr hlk hnm hl => ?_)
  have hx := hC.1
  have hb := hC.2.1
  have hml := hC.2.2.1
  have hown := hC.2.2.2.1
  have hts := hC.2.2.2.2.1
  generalize hA : ([.ref ((ma 0)), .int x] : List Value).toArray = args at hC ⊢
  generalize hQ : MQ _ _ _ _ _ _ _ = Q
  obtain ⟨locs, hlocs⟩ : ∃ z : List Loc, z = [] := ⟨_, rfl⟩
  obtain ⟨H, hH⟩ : ∃ z : Heap, z = s.heap := ⟨_, rfl⟩
  rw [← hlocs, ← hH] at hM ⊢
  have hl : lv_has ls 3 [(0, .ref ((ma 0))), (1, .int x)] := hl
  refine lv_aload_n hx hb dX7_withdraw_0 rfl (lv_at hl 0 rfl) ?_
  refine lv_aload_n hx hb dX7_withdraw_1 rfl (lv_at hl 0 rfl) ?_
  refine lv_iload_n hx hb dX7_withdraw_2 rfl (lv_at hl 1 rfl) ?_
  refine z_fcalli (z_runV hC hM (c_isWorld hV hMI x) zy_X7_isWorld zm_X7_145 (hmm 0 (by decide)) hg0 zcl_X7 rfl rfl rfl hl.1 (Nat.le_of_ble_eq_true rfl) ⟨by decide, by decide⟩ ⟨by decide, by decide⟩ dX7_withdraw_3) hM (fun H locs hM => ?_)
  refine z_if_neB (tgt := 13) hx hb dX7_withdraw_6 (by decide) (fun c_6 => ?_) (fun c_6 => ?_)
  · skip
    obtain ⟨w, hw0, hw9, hxw⟩ := nI_of_range (Int.le_refl 0) c_6.1 c_6.2
    subst hxw
    have hw : w < nw A := by omega
    have hiv := iv_nI (i := w) (by omega)
    obtain ⟨u1, u2, u3, u4⟩ := hvW w hw
    have u5 := hv23 w
    refine lv_aload_n hx hb dX7_withdraw_13 rfl (lv_at hl 0 rfl) ?_
    refine z_get hC hM (hmm 0 (by decide)) hg0 zcl_X7 (by decide) zl_X7_66 rfl dX7_withdraw_14 ?_
    refine lv_iload_n hx hb dX7_withdraw_17 rfl (lv_at hl 1 rfl) ?_
    refine z_zald hC hM (hmm 23 (by decide)) hg23 (by omega) (by omega) dX7_withdraw_18 ?_
    refine z_if_eq (tgt := 26) hx hb (nI_toInt (by omega)) dX7_withdraw_19 (by decide) (fun c_19 => ?_) (fun c_19 => ?_)
    · refine lv_iconst (v := nI 0) hx hb dX7_withdraw_26 (by decide) ?_
      refine z_put (fs' := [.int (nI 0), .int (nI (ns A)), .ref ((ma 2)), .ref ((ma 3)), .ref ((ma 4)), .ref ((ma 5)), .ref ((ma 6)), .ref ((ma 7)), .ref ((ma 8)), .ref ((ma 9)), .ref ((ma 10)), .ref ((ma 11)), .ref ((ma 12)), .ref ((ma 13)), .ref ((ma 14)), .ref ((ma 15)), .ref ((ma 16)), .double bb, .int bf, .int (nI (nw A)), .ref ((ma 20)), .ref ((ma 21)), .ref ((ma 22)), .ref ((ma 23)), .int (nI (np A)), .ref ((ma 25)), .ref ((ma 26))]) hC hM (hmm 0 (by decide)) hg0 zcl_X7 (by decide) zl_X7_75 rfl rfl (by rfl) (Nat.le_of_ble_eq_true rfl) rfl dX7_withdraw_27 (fun H locs hM => ?_)
      obtain ⟨f_1, ef_1⟩ : ∃ z9, z9 = va_up f ((ma 0)) (eS 8 [.int (nI 0), .int (nI (ns A)), .ref ((ma 2)), .ref ((ma 3)), .ref ((ma 4)), .ref ((ma 5)), .ref ((ma 6)), .ref ((ma 7)), .ref ((ma 8)), .ref ((ma 9)), .ref ((ma 10)), .ref ((ma 11)), .ref ((ma 12)), .ref ((ma 13)), .ref ((ma 14)), .ref ((ma 15)), .ref ((ma 16)), .double bb, .int bf, .int (nI (nw A)), .ref ((ma 20)), .ref ((ma 21)), .ref ((ma 22)), .ref ((ma 23)), .int (nI (np A)), .ref ((ma 25)), .ref ((ma 26))]) := ⟨_, rfl⟩
      rw [← ef_1] at hM
      have hF_2 : f_1 ((ma 0)) = eS 8 [.int (nI 0), .int (nI (ns A)), .ref ((ma 2)), .ref ((ma 3)), .ref ((ma 4)), .ref ((ma 5)), .ref ((ma 6)), .ref ((ma 7)), .ref ((ma 8)), .ref ((ma 9)), .ref ((ma 10)), .ref ((ma 11)), .ref ((ma 12)), .ref ((ma 13)), .ref ((ma 14)), .ref ((ma 15)), .ref ((ma 16)), .double bb, .int bf, .int (nI (nw A)), .ref ((ma 20)), .ref ((ma 21)), .ref ((ma 22)), .ref ((ma 23)), .int (nI (np A)), .ref ((ma 25)), .ref ((ma 26))] := by rw [ef_1]; exact va_up_self _ _ _
      have hF_3 : f_1 ((ma 23)) = eZ K 12 (fun j => nI ((A.1 23) j)) := by rw [ef_1]; exact (va_up_ne _ _ (mne hmi (by decide) (by decide) (show 23 ≠ 0 by decide))).trans hg23
      refine lv_aload_n hx hb dX7_withdraw_30 rfl (lv_at hl 0 rfl) ?_
      refine z_get hC hM (hmm 0 (by decide)) hF_2 zcl_X7 (by decide) zl_X7_75 rfl dX7_withdraw_31 ?_
      refine z_if_le (tgt := 39) hx hb (nI_toInt (by decide)) dX7_withdraw_34 (by decide) (fun c_34 => ?_) (fun c_34 => ?_)
      · have hMRc := mr_t (t' := nI 0) hmm hmi hop hmc hF_2 (fun q h9 => by rw [ef_1]; simp only [va_up, h9, if_false])
        have hMIc := hMRc.2.1
        refine lv_aload_n hx hb dX7_withdraw_39 rfl (lv_at hl 0 rfl) ?_
        refine z_fcalli (z_runV hC hM (m_fallen hV hMIc) zy_X7_fallen zm_X7_157 (hmm 0 (by decide)) hF_2 zcl_X7 rfl rfl rfl hl.1 (Nat.le_of_ble_eq_true rfl) ⟨by decide, by decide⟩ ⟨by decide, by decide⟩ dX7_withdraw_40) hM (fun H locs hM => ?_)
        refine lv_istore_n (lv' := [(2, .int (nI (faN A (np A)))), (0, .ref ((ma 0))), (1, .int (nI w))]) hx hb dX7_withdraw_43 rfl hl (by decide) rfl (fun ls hl => ?_)
        refine lv_aload_n hx hb dX7_withdraw_44 rfl (lv_at hl 1 rfl) ?_
        refine z_get hC hM (hmm 0 (by decide)) hF_2 zcl_X7 (by decide) zl_X7_66 rfl dX7_withdraw_45 ?_
        refine lv_iload_n hx hb dX7_withdraw_48 rfl (lv_at hl 2 rfl) ?_
        refine lv_iconst (v := nI 1) hx hb dX7_withdraw_49 (by decide) ?_
        refine z_zast hC hM (hmm 23 (by decide)) hF_3 (by omega) (by omega) (by decide) dX7_withdraw_50 (fun H locs hM => ?_)
        rw [up_nI] at hM
        obtain ⟨f_4, ef_4⟩ : ∃ z9, z9 = va_up f_1 ((ma 23)) (eZ K 12 (fun j => nI ((va_up (A.1 23) w 1) j))) := ⟨_, rfl⟩
        rw [← ef_4] at hM
        have hF_5 : f_4 ((ma 0)) = eS 8 [.int (nI 0), .int (nI (ns A)), .ref ((ma 2)), .ref ((ma 3)), .ref ((ma 4)), .ref ((ma 5)), .ref ((ma 6)), .ref ((ma 7)), .ref ((ma 8)), .ref ((ma 9)), .ref ((ma 10)), .ref ((ma 11)), .ref ((ma 12)), .ref ((ma 13)), .ref ((ma 14)), .ref ((ma 15)), .ref ((ma 16)), .double bb, .int bf, .int (nI (nw A)), .ref ((ma 20)), .ref ((ma 21)), .ref ((ma 22)), .ref ((ma 23)), .int (nI (np A)), .ref ((ma 25)), .ref ((ma 26))] := by rw [ef_4]; exact (va_up_ne _ _ (mne hmi (by decide) (by decide) (show 0 ≠ 23 by decide))).trans hF_2
        have hF_6 : f_4 ((ma 23)) = eZ K 12 (fun j => nI ((va_up (A.1 23) w 1) j)) := by rw [ef_4]; exact va_up_self _ _ _
        have hfu9 : ∀ k, mk k → k ≠ 0 → k ≠ 23 → f_4 (ma k) = f (ma k) := fun k hk n0 n23 => by
          have m0 := mne hmi hk (show mk 0 by decide) n0
          have m23 := mne hmi hk (show mk 23 by decide) n23
          rw [ef_4, ef_1]
          simp only [va_up, m0, m23, if_false]
        have hfr9 : ∀ q, (∀ k, mk k → q ≠ ma k) → f_4 q = f q := fun q hq => by
          have m0 := hq 0 (by decide)
          have m23 := hq 23 (by decide)
          rw [ef_4, ef_1]
          simp only [va_up, m0, m23, if_false]
        have hMR9 : MR K (A) ma L f (wdA A w) (nI 0) L f_4 := mr_ok (x' := (sg, cg, bb, bf)) (op' := op) hmm hmi hop (mk_all hF_5 ((hfu9 2 (by decide) (by decide) (by decide)).trans (hmc 2 (by decide))) ((hfu9 3 (by decide) (by decide) (by decide)).trans (hmc 3 (by decide))) ((hfu9 4 (by decide) (by decide) (by decide)).trans (hmc 4 (by decide))) ((hfu9 5 (by decide) (by decide) (by decide)).trans (hmc 5 (by decide))) ((hfu9 6 (by decide) (by decide) (by decide)).trans (hmc 6 (by decide))) ((hfu9 7 (by decide) (by decide) (by decide)).trans (hmc 7 (by decide))) ((hfu9 8 (by decide) (by decide) (by decide)).trans (hmc 8 (by decide))) ((hfu9 9 (by decide) (by decide) (by decide)).trans (hmc 9 (by decide))) ((hfu9 10 (by decide) (by decide) (by decide)).trans (hmc 10 (by decide))) ((hfu9 11 (by decide) (by decide) (by decide)).trans (hmc 11 (by decide))) ((hfu9 12 (by decide) (by decide) (by decide)).trans (hmc 12 (by decide))) ((hfu9 13 (by decide) (by decide) (by decide)).trans (hmc 13 (by decide))) ((hfu9 14 (by decide) (by decide) (by decide)).trans (hmc 14 (by decide))) ((hfu9 15 (by decide) (by decide) (by decide)).trans (hmc 15 (by decide))) ((hfu9 16 (by decide) (by decide) (by decide)).trans (hmc 16 (by decide))) ((hfu9 20 (by decide) (by decide) (by decide)).trans (hmc 20 (by decide))) ((hfu9 21 (by decide) (by decide) (by decide)).trans (hmc 21 (by decide))) ((hfu9 22 (by decide) (by decide) (by decide)).trans (hmc 22 (by decide))) hF_6 ((hfu9 25 (by decide) (by decide) (by decide)).trans (hmc 25 (by decide))) ((hfu9 26 (by decide) (by decide) (by decide)).trans (hmc 26 (by decide)))) hfr9
        refine lv_aload_n hx hb dX7_withdraw_51 rfl (lv_at hl 1 rfl) ?_
        refine z_fcalli (z_runV hC hM (m_fallen (hV.wd hw) hMR9.2.1) zy_X7_fallen zm_X7_157 (hmm 0 (by decide)) hF_5 zcl_X7 rfl rfl rfl hl.1 (Nat.le_of_ble_eq_true rfl) ⟨by decide, by decide⟩ ⟨by decide, by decide⟩ dX7_withdraw_52) hM (fun H locs hM => ?_)
        refine lv_iload_n hx hb dX7_withdraw_55 rfl (lv_at hl 0 rfl) ?_
        refine z_isub hx hb (flN_fa (A := A) (w := w) (np A)).2 dX7_withdraw_56 ?_
        rw [← hQ]
        exact z_iret hC hM hr hlk rfl (by decide) (by decide) (mr_0 (qwd0 c_6 (by rw [hiv]; omega)) (by rw [v_withdraw, a_withdraw, if_pos (qwd0 c_6 (by rw [hiv]; omega)), hiv]; rfl) (by rw [a_withdraw, if_pos (qwd0 c_6 (by rw [hiv]; omega)), hiv]; rfl) hMR9) dX7_withdraw_57
      · exact absurd c_34 (by omega)
    · refine lv_iconst (v := nI 2) hx hb dX7_withdraw_22 (by decide) ?_
      refine lv_goto (tgt := 27) hx hb dX7_withdraw_23 (by decide) ?_
      refine z_put (fs' := [.int (nI 2), .int (nI (ns A)), .ref ((ma 2)), .ref ((ma 3)), .ref ((ma 4)), .ref ((ma 5)), .ref ((ma 6)), .ref ((ma 7)), .ref ((ma 8)), .ref ((ma 9)), .ref ((ma 10)), .ref ((ma 11)), .ref ((ma 12)), .ref ((ma 13)), .ref ((ma 14)), .ref ((ma 15)), .ref ((ma 16)), .double bb, .int bf, .int (nI (nw A)), .ref ((ma 20)), .ref ((ma 21)), .ref ((ma 22)), .ref ((ma 23)), .int (nI (np A)), .ref ((ma 25)), .ref ((ma 26))]) hC hM (hmm 0 (by decide)) hg0 zcl_X7 (by decide) zl_X7_75 rfl rfl (by rfl) (Nat.le_of_ble_eq_true rfl) rfl dX7_withdraw_27 (fun H locs hM => ?_)
      obtain ⟨f_7, ef_7⟩ : ∃ z9, z9 = va_up f ((ma 0)) (eS 8 [.int (nI 2), .int (nI (ns A)), .ref ((ma 2)), .ref ((ma 3)), .ref ((ma 4)), .ref ((ma 5)), .ref ((ma 6)), .ref ((ma 7)), .ref ((ma 8)), .ref ((ma 9)), .ref ((ma 10)), .ref ((ma 11)), .ref ((ma 12)), .ref ((ma 13)), .ref ((ma 14)), .ref ((ma 15)), .ref ((ma 16)), .double bb, .int bf, .int (nI (nw A)), .ref ((ma 20)), .ref ((ma 21)), .ref ((ma 22)), .ref ((ma 23)), .int (nI (np A)), .ref ((ma 25)), .ref ((ma 26))]) := ⟨_, rfl⟩
      rw [← ef_7] at hM
      have hF_8 : f_7 ((ma 0)) = eS 8 [.int (nI 2), .int (nI (ns A)), .ref ((ma 2)), .ref ((ma 3)), .ref ((ma 4)), .ref ((ma 5)), .ref ((ma 6)), .ref ((ma 7)), .ref ((ma 8)), .ref ((ma 9)), .ref ((ma 10)), .ref ((ma 11)), .ref ((ma 12)), .ref ((ma 13)), .ref ((ma 14)), .ref ((ma 15)), .ref ((ma 16)), .double bb, .int bf, .int (nI (nw A)), .ref ((ma 20)), .ref ((ma 21)), .ref ((ma 22)), .ref ((ma 23)), .int (nI (np A)), .ref ((ma 25)), .ref ((ma 26))] := by rw [ef_7]; exact va_up_self _ _ _
      have hF_9 : f_7 ((ma 23)) = eZ K 12 (fun j => nI ((A.1 23) j)) := by rw [ef_7]; exact (va_up_ne _ _ (mne hmi (by decide) (by decide) (show 23 ≠ 0 by decide))).trans hg23
      refine lv_aload_n hx hb dX7_withdraw_30 rfl (lv_at hl 0 rfl) ?_
      refine z_get hC hM (hmm 0 (by decide)) hF_8 zcl_X7 (by decide) zl_X7_75 rfl dX7_withdraw_31 ?_
      refine z_if_le (tgt := 39) hx hb (nI_toInt (by decide)) dX7_withdraw_34 (by decide) (fun c_34 => ?_) (fun c_34 => ?_)
      · exact absurd c_34 (by omega)
      · refine lv_iconst (v := nI 0) hx hb dX7_withdraw_37 (by decide) ?_
        rw [← hQ]
        exact z_iret hC hM hr hlk rfl (by decide) (by decide) (mr_x (qwd2 c_6 (by rw [hiv]; omega)) (fun z => if_neg z) (mr_t hmm hmi hop hmc hF_8 (fun q h9 => by rw [ef_7]; simp only [va_up, h9, if_false])) (by decide)) dX7_withdraw_38
  · refine lv_iconst (v := nI 1) hx hb dX7_withdraw_9 (by decide) ?_
    refine lv_goto (tgt := 27) hx hb dX7_withdraw_10 (by decide) ?_
    refine z_put (fs' := [.int (nI 1), .int (nI (ns A)), .ref ((ma 2)), .ref ((ma 3)), .ref ((ma 4)), .ref ((ma 5)), .ref ((ma 6)), .ref ((ma 7)), .ref ((ma 8)), .ref ((ma 9)), .ref ((ma 10)), .ref ((ma 11)), .ref ((ma 12)), .ref ((ma 13)), .ref ((ma 14)), .ref ((ma 15)), .ref ((ma 16)), .double bb, .int bf, .int (nI (nw A)), .ref ((ma 20)), .ref ((ma 21)), .ref ((ma 22)), .ref ((ma 23)), .int (nI (np A)), .ref ((ma 25)), .ref ((ma 26))]) hC hM (hmm 0 (by decide)) hg0 zcl_X7 (by decide) zl_X7_75 rfl rfl (by rfl) (Nat.le_of_ble_eq_true rfl) rfl dX7_withdraw_27 (fun H locs hM => ?_)
    obtain ⟨f_10, ef_10⟩ : ∃ z9, z9 = va_up f ((ma 0)) (eS 8 [.int (nI 1), .int (nI (ns A)), .ref ((ma 2)), .ref ((ma 3)), .ref ((ma 4)), .ref ((ma 5)), .ref ((ma 6)), .ref ((ma 7)), .ref ((ma 8)), .ref ((ma 9)), .ref ((ma 10)), .ref ((ma 11)), .ref ((ma 12)), .ref ((ma 13)), .ref ((ma 14)), .ref ((ma 15)), .ref ((ma 16)), .double bb, .int bf, .int (nI (nw A)), .ref ((ma 20)), .ref ((ma 21)), .ref ((ma 22)), .ref ((ma 23)), .int (nI (np A)), .ref ((ma 25)), .ref ((ma 26))]) := ⟨_, rfl⟩
    rw [← ef_10] at hM
    have hF_11 : f_10 ((ma 0)) = eS 8 [.int (nI 1), .int (nI (ns A)), .ref ((ma 2)), .ref ((ma 3)), .ref ((ma 4)), .ref ((ma 5)), .ref ((ma 6)), .ref ((ma 7)), .ref ((ma 8)), .ref ((ma 9)), .ref ((ma 10)), .ref ((ma 11)), .ref ((ma 12)), .ref ((ma 13)), .ref ((ma 14)), .ref ((ma 15)), .ref ((ma 16)), .double bb, .int bf, .int (nI (nw A)), .ref ((ma 20)), .ref ((ma 21)), .ref ((ma 22)), .ref ((ma 23)), .int (nI (np A)), .ref ((ma 25)), .ref ((ma 26))] := by rw [ef_10]; exact va_up_self _ _ _
    have hF_12 : f_10 ((ma 23)) = eZ K 12 (fun j => nI ((A.1 23) j)) := by rw [ef_10]; exact (va_up_ne _ _ (mne hmi (by decide) (by decide) (show 23 ≠ 0 by decide))).trans hg23
    refine lv_aload_n hx hb dX7_withdraw_30 rfl (lv_at hl 0 rfl) ?_
    refine z_get hC hM (hmm 0 (by decide)) hF_11 zcl_X7 (by decide) zl_X7_75 rfl dX7_withdraw_31 ?_
    refine z_if_le (tgt := 39) hx hb (nI_toInt (by decide)) dX7_withdraw_34 (by decide) (fun c_34 => ?_) (fun c_34 => ?_)
    · exact absurd c_34 (by omega)
    · refine lv_iconst (v := nI 0) hx hb dX7_withdraw_37 (by decide) ?_
      rw [← hQ]
      exact z_iret hC hM hr hlk rfl (by decide) (by decide) (mr_x (qwd1 c_6) (fun z => if_neg z) (mr_t hmm hmi hop hmc hF_11 (fun q h9 => by rw [ef_10]; simp only [va_up, h9, if_false])) (by decide)) dX7_withdraw_38
set_option maxHeartbeats 400000 in
set_option maxRecDepth 100000 in
theorem m_world {l : Launch} {base : Nat} {K : zK} {L : List Nat} {f : Nat → va_E} {A : zA} {ma : Nat → Nat} {t : Int32} (hV : VA A) (hMI : MI K L f A ma t) (x y1 : Int32) : zMet l yX7_world cX7_world 4 (some .int) (zr 3 0 0 78) base K L f [.ref ((ma 0)), .int x, .int y1] (zQi base K (fun r L1 f1 => (k_world A x y1 = 0 → r = nI (nw A)) ∧ MR K A ma L f (a_world A x y1) (nI (k_world A x y1)) L1 f1)) := by
  have hMI9 := hMI
  obtain ⟨hmm, hmi, ⟨sg, cg, bb, bf⟩, op, hop, hmc⟩ := hMI9
  have hV9 := hV
  obtain ⟨hv1, hv2, hv3, hvS, hvO, hvK, hvK1, hvL, hv11, hvW, hv23, hvW0, hvP⟩ := hV9
  have hg0 : f (ma 0) = eS 8 [.int t, .int (nI (ns A)), .ref ((ma 2)), .ref ((ma 3)), .ref ((ma 4)), .ref ((ma 5)), .ref ((ma 6)), .ref ((ma 7)), .ref ((ma 8)), .ref ((ma 9)), .ref ((ma 10)), .ref ((ma 11)), .ref ((ma 12)), .ref ((ma 13)), .ref ((ma 14)), .ref ((ma 15)), .ref ((ma 16)), .double bb, .int bf, .int (nI (nw A)), .ref ((ma 20)), .ref ((ma 21)), .ref ((ma 22)), .ref ((ma 23)), .int (nI (np A)), .ref ((ma 25)), .ref ((ma 26))] := hmc 0 (by decide)
  have hg20 : f (ma 20) = eI K 12 (fun j => nI ((A.1 20) j)) := hmc 20 (by decide)
  have hg21 : f (ma 21) = eI K 12 (fun j => nI ((A.1 21) j)) := hmc 21 (by decide)
  have hg22 : f (ma 22) = eI K 12 (fun j => nI ((A.1 22) j)) := hmc 22 (by decide)
  refine z_met (by decide) (Nat.le_of_ble_eq_true rfl) (fun p e s m below meth c ls hC hM hr hlk hnm hl => ?_)
  have hx := hC.1
  have hb := hC.2.1
  have hml := hC.2.2.1
  have hown := hC.2.2.2.1
  have hts := hC.2.2.2.2.1
  generalize hA : ([.ref ((ma 0)), .int x, .int y1] : List Value).toArray = args at hC ⊢
  generalize hQ : MQ _ _ _ _ _ _ _ = Q
  obtain ⟨locs, hlocs⟩ : ∃ z : List Loc, z = [] := ⟨_, rfl⟩
  obtain ⟨H, hH⟩ : ∃ z : Heap, z = s.heap := ⟨_, rfl⟩
  rw [← hlocs, ← hH] at hM ⊢
  have hl : lv_has ls 4 [(0, .ref ((ma 0))), (1, .int x), (2, .int y1)] := hl
  refine lv_aload_n hx hb dX7_world_0 rfl (lv_at hl 0 rfl) ?_
  refine lv_aload_n hx hb dX7_world_1 rfl (lv_at hl 0 rfl) ?_
  refine lv_iload_n hx hb dX7_world_2 rfl (lv_at hl 1 rfl) ?_
  refine z_fcalli (z_runV hC hM (c_isStar hV hMI x) zy_X7_isStar zm_X7_87 (hmm 0 (by decide)) hg0 zcl_X7 rfl rfl rfl hl.1 (Nat.le_of_ble_eq_true rfl) ⟨by decide, by decide⟩ ⟨by decide, by decide⟩ dX7_world_3) hM (fun H locs hM => ?_)
  refine z_if_neB (tgt := 13) hx hb dX7_world_6 (by decide) (fun c_6 => ?_) (fun c_6 => ?_)
  · skip
    obtain ⟨i, hi0, hi9, hxi⟩ := nI_of_range (Int.le_refl 0) c_6.1 c_6.2
    subst hxi
    have hi : i < ns A := by omega
    have hiv := iv_nI (i := i) (by omega)
    obtain ⟨w1, w2, w3, w4, w5, w6, w7, w8⟩ := hvS i hi
    have hkl := fN_le (gk A i) 1000
    refine lv_iload_n hx hb dX7_world_13 rfl (lv_at hl 2 rfl) ?_
    refine z_fcalli (z_runS hC hM (c_isThr y1) zy_X7_isThreshold zm_X7_136 rfl rfl hl.1 (Nat.le_of_ble_eq_true rfl) ⟨by decide, by decide⟩ ⟨by decide, by decide⟩ dX7_world_14) hM (fun H locs hM => ?_)
    refine z_if_neB (tgt := 24) hx hb dX7_world_17 (by decide) (fun c_17 => ?_) (fun c_17 => ?_)
    · refine lv_aload_n hx hb dX7_world_24 rfl (lv_at hl 0 rfl) ?_
      refine z_get hC hM (hmm 0 (by decide)) hg0 zcl_X7 (by decide) zl_X7_142 rfl dX7_world_25 ?_
      refine lv_bipush (v := nI 12) hx hb dX7_world_28 (by decide) ?_
      refine z_icmp_ne (tgt := 37) hx hb (nI_toInt (by omega)) (nI_toInt (by decide)) dX7_world_30 (by decide) (fun c_30 => ?_) (fun c_30 => ?_)
      · refine lv_iconst (v := nI 0) hx hb dX7_world_37 (by decide) ?_
        refine z_put (fs' := [.int (nI 0), .int (nI (ns A)), .ref ((ma 2)), .ref ((ma 3)), .ref ((ma 4)), .ref ((ma 5)), .ref ((ma 6)), .ref ((ma 7)), .ref ((ma 8)), .ref ((ma 9)), .ref ((ma 10)), .ref ((ma 11)), .ref ((ma 12)), .ref ((ma 13)), .ref ((ma 14)), .ref ((ma 15)), .ref ((ma 16)), .double bb, .int bf, .int (nI (nw A)), .ref ((ma 20)), .ref ((ma 21)), .ref ((ma 22)), .ref ((ma 23)), .int (nI (np A)), .ref ((ma 25)), .ref ((ma 26))]) hC hM (hmm 0 (by decide)) hg0 zcl_X7 (by decide) zl_X7_75 rfl rfl (by rfl) (Nat.le_of_ble_eq_true rfl) rfl dX7_world_38 (fun H locs hM => ?_)
        obtain ⟨f_1, ef_1⟩ : ∃ z9, z9 = va_up f ((ma 0)) (eS 8 [.int (nI 0), .int (nI (ns A)), .ref ((ma 2)), .ref ((ma 3)), .ref ((ma 4)), .ref ((ma 5)), .ref ((ma 6)), .ref ((ma 7)), .ref ((ma 8)), .ref ((ma 9)), .ref ((ma 10)), .ref ((ma 11)), .ref ((ma 12)), .ref ((ma 13)), .ref ((ma 14)), .ref ((ma 15)), .ref ((ma 16)), .double bb, .int bf, .int (nI (nw A)), .ref ((ma 20)), .ref ((ma 21)), .ref ((ma 22)), .ref ((ma 23)), .int (nI (np A)), .ref ((ma 25)), .ref ((ma 26))]) := ⟨_, rfl⟩
        rw [← ef_1] at hM
        have hF_2 : f_1 ((ma 0)) = eS 8 [.int (nI 0), .int (nI (ns A)), .ref ((ma 2)), .ref ((ma 3)), .ref ((ma 4)), .ref ((ma 5)), .ref ((ma 6)), .ref ((ma 7)), .ref ((ma 8)), .ref ((ma 9)), .ref ((ma 10)), .ref ((ma 11)), .ref ((ma 12)), .ref ((ma 13)), .ref ((ma 14)), .ref ((ma 15)), .ref ((ma 16)), .double bb, .int bf, .int (nI (nw A)), .ref ((ma 20)), .ref ((ma 21)), .ref ((ma 22)), .ref ((ma 23)), .int (nI (np A)), .ref ((ma 25)), .ref ((ma 26))] := by rw [ef_1]; exact va_up_self _ _ _
        have hF_3 : f_1 ((ma 20)) = eI K 12 (fun j => nI ((A.1 20) j)) := by rw [ef_1]; exact (va_up_ne _ _ (mne hmi (by decide) (by decide) (show 20 ≠ 0 by decide))).trans hg20
        have hF_4 : f_1 ((ma 21)) = eI K 12 (fun j => nI ((A.1 21) j)) := by rw [ef_1]; exact (va_up_ne _ _ (mne hmi (by decide) (by decide) (show 21 ≠ 0 by decide))).trans hg21
        have hF_5 : f_1 ((ma 22)) = eI K 12 (fun j => nI ((A.1 22) j)) := by rw [ef_1]; exact (va_up_ne _ _ (mne hmi (by decide) (by decide) (show 22 ≠ 0 by decide))).trans hg22
        refine lv_aload_n hx hb dX7_world_41 rfl (lv_at hl 0 rfl) ?_
        refine z_get hC hM (hmm 0 (by decide)) hF_2 zcl_X7 (by decide) zl_X7_75 rfl dX7_world_42 ?_
        refine z_if_le (tgt := 52) hx hb (nI_toInt (by decide)) dX7_world_45 (by decide) (fun c_45 => ?_) (fun c_45 => ?_)
        · have hMRc := mr_t (t' := nI 0) hmm hmi hop hmc hF_2 (fun q h9 => by rw [ef_1]; simp only [va_up, h9, if_false])
          have hMIc := hMRc.2.1
          refine lv_aload_n hx hb dX7_world_52 rfl (lv_at hl 0 rfl) ?_
          refine lv_iload_n hx hb dX7_world_53 rfl (lv_at hl 1 rfl) ?_
          refine lv_iload_n hx hb dX7_world_54 rfl (lv_at hl 2 rfl) ?_
          refine z_calli (z_runV hC hM (m_periodOf hV hMIc hi y1) zy_X7_periodOf zm_X7_139 (hmm 0 (by decide)) hF_2 zcl_X7 rfl rfl rfl hl.1 (Nat.le_of_ble_eq_true rfl) ⟨by decide, by decide⟩ ⟨by decide, by decide⟩ dX7_world_55) hM (fun r L1 f1 H locs hp hM => ?_)
          obtain ⟨e9L, rfl, x9, hrs⟩ := hp
          have e9L := e9L.symm
          subst e9L
          have hpd := pdT_le (gk A i) y1
          refine lv_istore_n (lv' := [(3, .int (nI (pdT (gk A i) y1))), (0, .ref ((ma 0))), (1, .int (nI i)), (2, .int y1)]) hx hb dX7_world_58 rfl hl (by decide) rfl (fun ls hl => ?_)
          refine lv_aload_n hx hb dX7_world_59 rfl (lv_at hl 1 rfl) ?_
          refine lv_aload_n hx hb dX7_world_60 rfl (lv_at hl 1 rfl) ?_
          refine z_get hC hM (hmm 0 (by decide)) hrs.2.1 zcl_X7 (by decide) zl_X7_75 rfl dX7_world_61 ?_
          refine z_if_ne (tgt := 75) hx hb (nI_toInt (by decide)) dX7_world_64 (by decide) (fun c_64 => ?_) (fun c_64 => ?_)
          · exact absurd c_64 (by omega)
          · refine lv_iload_n hx hb dX7_world_67 rfl (lv_at hl 0 rfl) ?_
            refine z_if_ne (tgt := 75) hx hb (nI_toInt (by omega)) dX7_world_68 (by decide) (fun c_68 => ?_) (fun c_68 => ?_)
            · refine lv_aload_n hx hb dX7_world_75 rfl (lv_at hl 1 rfl) ?_
              refine z_get hC hM (hmm 0 (by decide)) hrs.2.1 zcl_X7 (by decide) zl_X7_75 rfl dX7_world_76 ?_
              refine z_put (fs' := [.int (nI 0), .int (nI (ns A)), .ref ((ma 2)), .ref ((ma 3)), .ref ((ma 4)), .ref ((ma 5)), .ref ((ma 6)), .ref ((ma 7)), .ref ((ma 8)), .ref ((ma 9)), .ref ((ma 10)), .ref ((ma 11)), .ref ((ma 12)), .ref ((ma 13)), .ref ((ma 14)), .ref ((ma 15)), .ref ((ma 16)), .double x9.2.2.1, .int x9.2.2.2, .int (nI (nw A)), .ref ((ma 20)), .ref ((ma 21)), .ref ((ma 22)), .ref ((ma 23)), .int (nI (np A)), .ref ((ma 25)), .ref ((ma 26))]) hC hM (hmm 0 (by decide)) hrs.2.1 zcl_X7 (by decide) zl_X7_75 rfl rfl (by rfl) (Nat.le_of_ble_eq_true rfl) rfl dX7_world_79 (fun H locs hM => ?_)
              obtain ⟨f_6, ef_6⟩ : ∃ z9, z9 = va_up f1 ((ma 0)) (eS 8 [.int (nI 0), .int (nI (ns A)), .ref ((ma 2)), .ref ((ma 3)), .ref ((ma 4)), .ref ((ma 5)), .ref ((ma 6)), .ref ((ma 7)), .ref ((ma 8)), .ref ((ma 9)), .ref ((ma 10)), .ref ((ma 11)), .ref ((ma 12)), .ref ((ma 13)), .ref ((ma 14)), .ref ((ma 15)), .ref ((ma 16)), .double x9.2.2.1, .int x9.2.2.2, .int (nI (nw A)), .ref ((ma 20)), .ref ((ma 21)), .ref ((ma 22)), .ref ((ma 23)), .int (nI (np A)), .ref ((ma 25)), .ref ((ma 26))]) := ⟨_, rfl⟩
              rw [← ef_6] at hM
              have hF_7 : f_6 ((ma 0)) = eS 8 [.int (nI 0), .int (nI (ns A)), .ref ((ma 2)), .ref ((ma 3)), .ref ((ma 4)), .ref ((ma 5)), .ref ((ma 6)), .ref ((ma 7)), .ref ((ma 8)), .ref ((ma 9)), .ref ((ma 10)), .ref ((ma 11)), .ref ((ma 12)), .ref ((ma 13)), .ref ((ma 14)), .ref ((ma 15)), .ref ((ma 16)), .double x9.2.2.1, .int x9.2.2.2, .int (nI (nw A)), .ref ((ma 20)), .ref ((ma 21)), .ref ((ma 22)), .ref ((ma 23)), .int (nI (np A)), .ref ((ma 25)), .ref ((ma 26))] := by rw [ef_6]; exact va_up_self _ _ _
              have hF_8 : f_6 ((ma 20)) = eI K 12 (fun j => nI ((A.1 20) j)) := by rw [ef_6]; exact (va_up_ne _ _ (mne hmi (by decide) (by decide) (show 20 ≠ 0 by decide))).trans ((hrs.1 _ (mne hmi (by decide) (by decide) (show 20 ≠ 0 by decide)) (mne hmi (by decide) (by decide) (show 20 ≠ 15 by decide)) (mne hmi (by decide) (by decide) (show 20 ≠ 16 by decide))).trans hF_3)
              have hF_9 : f_6 ((ma 21)) = eI K 12 (fun j => nI ((A.1 21) j)) := by rw [ef_6]; exact (va_up_ne _ _ (mne hmi (by decide) (by decide) (show 21 ≠ 0 by decide))).trans ((hrs.1 _ (mne hmi (by decide) (by decide) (show 21 ≠ 0 by decide)) (mne hmi (by decide) (by decide) (show 21 ≠ 15 by decide)) (mne hmi (by decide) (by decide) (show 21 ≠ 16 by decide))).trans hF_4)
              have hF_10 : f_6 ((ma 22)) = eI K 12 (fun j => nI ((A.1 22) j)) := by rw [ef_6]; exact (va_up_ne _ _ (mne hmi (by decide) (by decide) (show 22 ≠ 0 by decide))).trans ((hrs.1 _ (mne hmi (by decide) (by decide) (show 22 ≠ 0 by decide)) (mne hmi (by decide) (by decide) (show 22 ≠ 15 by decide)) (mne hmi (by decide) (by decide) (show 22 ≠ 16 by decide))).trans hF_5)
              refine lv_aload_n hx hb dX7_world_82 rfl (lv_at hl 1 rfl) ?_
              refine z_get hC hM (hmm 0 (by decide)) hF_7 zcl_X7 (by decide) zl_X7_75 rfl dX7_world_83 ?_
              refine z_if_le (tgt := 91) hx hb (nI_toInt (by decide)) dX7_world_86 (by decide) (fun c_86 => ?_) (fun c_86 => ?_)
              · have hrs2 := RSx.thr (t' := nI 0) hmi hrs hF_7 (fun q h9 => by rw [ef_6]; simp only [va_up, h9, if_false])
                have hMI2 := RSx.mi hMIc hrs2
                obtain ⟨hge, hfew9⟩ := pdT_ge (g := gk A i) (t := y1) (by omega)
                refine lv_aload_n hx hb dX7_world_91 rfl (lv_at hl 1 rfl) ?_
                refine lv_iload_n hx hb dX7_world_92 rfl (lv_at hl 2 rfl) ?_
                refine lv_iload_n hx hb dX7_world_93 rfl (lv_at hl 0 rfl) ?_
                refine z_callv (z_runV hC hM (m_scores hV hMI2 hi (p9 := (pdT (gk A i) y1)) (by omega) (by omega) (by omega)) zy_X7_scores zm_X7_133 (hmm 0 (by decide)) hF_7 zcl_X7 rfl rfl rfl hl.1 (Nat.le_of_ble_eq_true rfl) ⟨by decide, by decide⟩ ⟨by decide, by decide⟩ dX7_world_94) hM (fun L1 f1_94 H locs hp hM => ?_)
                obtain ⟨e9L, sg_94, cg_94, hrs_94⟩ := hp
                have e9L := e9L.symm
                subst e9L
                have hMI_94 := RSx.mi hMI2 hrs_94
                obtain ⟨-, -, x2, op2, hop2, hmc2⟩ := id hMI_94
                refine lv_aload_n hx hb dX7_world_97 rfl (lv_at hl 1 rfl) ?_
                refine z_get hC hM (hmm 0 (by decide)) hrs_94.2.1 zcl_X7 (by decide) zl_X7_57 rfl dX7_world_98 ?_
                refine lv_aload_n hx hb dX7_world_101 rfl (lv_at hl 1 rfl) ?_
                refine z_get hC hM (hmm 0 (by decide)) hrs_94.2.1 zcl_X7 (by decide) zl_X7_142 rfl dX7_world_102 ?_
                refine lv_iload_n hx hb dX7_world_105 rfl (lv_at hl 2 rfl) ?_
                refine z_iast hC hM (hmm 20 (by decide)) ((hrs_94.1 _ (mne hmi (by decide) (by decide) (show 20 ≠ 0 by decide)) (mne hmi (by decide) (by decide) (show 20 ≠ 15 by decide)) (mne hmi (by decide) (by decide) (show 20 ≠ 16 by decide))).trans hF_8) (by omega) (by omega) dX7_world_106 (fun H locs hM => ?_)
                rw [up_nI] at hM
                obtain ⟨f_11, ef_11⟩ : ∃ z9, z9 = va_up f1_94 ((ma 20)) (eI K 12 (fun j => nI ((va_up (A.1 20) (nw A) i) j))) := ⟨_, rfl⟩
                rw [← ef_11] at hM
                have hF_12 : f_11 ((ma 0)) = eS 8 [.int (nI 0), .int (nI (ns A)), .ref ((ma 2)), .ref ((ma 3)), .ref ((ma 4)), .ref ((ma 5)), .ref ((ma 6)), .ref ((ma 7)), .ref ((ma 8)), .ref ((ma 9)), .ref ((ma 10)), .ref ((ma 11)), .ref ((ma 12)), .ref ((ma 13)), .ref ((ma 14)), .ref ((ma 15)), .ref ((ma 16)), .double (scB (gk A i) ((pdT (gk A i) y1))), .int (oN (bFo (gk A i) ((pdT (gk A i) y1)))), .int (nI (nw A)), .ref ((ma 20)), .ref ((ma 21)), .ref ((ma 22)), .ref ((ma 23)), .int (nI (np A)), .ref ((ma 25)), .ref ((ma 26))] := by rw [ef_11]; exact (va_up_ne _ _ (mne hmi (by decide) (by decide) (show 0 ≠ 20 by decide))).trans hrs_94.2.1
                have hF_13 : f_11 ((ma 20)) = eI K 12 (fun j => nI ((va_up (A.1 20) (nw A) i) j)) := by rw [ef_11]; exact va_up_self _ _ _
                have hF_14 : f_11 ((ma 21)) = eI K 12 (fun j => nI ((A.1 21) j)) := by rw [ef_11]; exact (va_up_ne _ _ (mne hmi (by decide) (by decide) (show 21 ≠ 20 by decide))).trans ((hrs_94.1 _ (mne hmi (by decide) (by decide) (show 21 ≠ 0 by decide)) (mne hmi (by decide) (by decide) (show 21 ≠ 15 by decide)) (mne hmi (by decide) (by decide) (show 21 ≠ 16 by decide))).trans hF_9)
                have hF_15 : f_11 ((ma 22)) = eI K 12 (fun j => nI ((A.1 22) j)) := by rw [ef_11]; exact (va_up_ne _ _ (mne hmi (by decide) (by decide) (show 22 ≠ 20 by decide))).trans ((hrs_94.1 _ (mne hmi (by decide) (by decide) (show 22 ≠ 0 by decide)) (mne hmi (by decide) (by decide) (show 22 ≠ 15 by decide)) (mne hmi (by decide) (by decide) (show 22 ≠ 16 by decide))).trans hF_10)
                refine lv_aload_n hx hb dX7_world_107 rfl (lv_at hl 1 rfl) ?_
                refine z_get hC hM (hmm 0 (by decide)) hF_12 zcl_X7 (by decide) zl_X7_60 rfl dX7_world_108 ?_
                refine lv_aload_n hx hb dX7_world_111 rfl (lv_at hl 1 rfl) ?_
                refine z_get hC hM (hmm 0 (by decide)) hF_12 zcl_X7 (by decide) zl_X7_142 rfl dX7_world_112 ?_
                refine lv_iload_n hx hb dX7_world_115 rfl (lv_at hl 0 rfl) ?_
                refine z_iast hC hM (hmm 21 (by decide)) hF_14 (by omega) (by omega) dX7_world_116 (fun H locs hM => ?_)
                rw [up_nI] at hM
                obtain ⟨f_16, ef_16⟩ : ∃ z9, z9 = va_up f_11 ((ma 21)) (eI K 12 (fun j => nI ((va_up (A.1 21) (nw A) (pdT (gk A i) y1)) j))) := ⟨_, rfl⟩
                rw [← ef_16] at hM
                have hF_17 : f_16 ((ma 0)) = eS 8 [.int (nI 0), .int (nI (ns A)), .ref ((ma 2)), .ref ((ma 3)), .ref ((ma 4)), .ref ((ma 5)), .ref ((ma 6)), .ref ((ma 7)), .ref ((ma 8)), .ref ((ma 9)), .ref ((ma 10)), .ref ((ma 11)), .ref ((ma 12)), .ref ((ma 13)), .ref ((ma 14)), .ref ((ma 15)), .ref ((ma 16)), .double (scB (gk A i) ((pdT (gk A i) y1))), .int (oN (bFo (gk A i) ((pdT (gk A i) y1)))), .int (nI (nw A)), .ref ((ma 20)), .ref ((ma 21)), .ref ((ma 22)), .ref ((ma 23)), .int (nI (np A)), .ref ((ma 25)), .ref ((ma 26))] := by rw [ef_16]; exact (va_up_ne _ _ (mne hmi (by decide) (by decide) (show 0 ≠ 21 by decide))).trans hF_12
                have hF_18 : f_16 ((ma 20)) = eI K 12 (fun j => nI ((va_up (A.1 20) (nw A) i) j)) := by rw [ef_16]; exact (va_up_ne _ _ (mne hmi (by decide) (by decide) (show 20 ≠ 21 by decide))).trans hF_13
                have hF_19 : f_16 ((ma 21)) = eI K 12 (fun j => nI ((va_up (A.1 21) (nw A) (pdT (gk A i) y1)) j)) := by rw [ef_16]; exact va_up_self _ _ _
                have hF_20 : f_16 ((ma 22)) = eI K 12 (fun j => nI ((A.1 22) j)) := by rw [ef_16]; exact (va_up_ne _ _ (mne hmi (by decide) (by decide) (show 22 ≠ 21 by decide))).trans hF_15
                refine lv_aload_n hx hb dX7_world_117 rfl (lv_at hl 1 rfl) ?_
                refine z_get hC hM (hmm 0 (by decide)) hF_17 zcl_X7 (by decide) zl_X7_63 rfl dX7_world_118 ?_
                refine lv_aload_n hx hb dX7_world_121 rfl (lv_at hl 1 rfl) ?_
                refine z_get hC hM (hmm 0 (by decide)) hF_17 zcl_X7 (by decide) zl_X7_142 rfl dX7_world_122 ?_
                refine lv_aload_n hx hb dX7_world_125 rfl (lv_at hl 1 rfl) ?_
                refine z_get hC hM (hmm 0 (by decide)) hF_17 zcl_X7 (by decide) zl_X7_120 rfl dX7_world_126 ?_
                obtain ⟨d, hd9, hdl, hdc⟩ := bFo_some (g := gk A i) (p := (pdT (gk A i) y1)) (by omega) (by omega)
                have ho9 : oN (bFo (gk A i) (pdT (gk A i) y1)) = nI d := by rw [bFo, bfS, hd9]; rfl
                rw [ho9]
                have hph : phN (gk A i) (pdT (gk A i) y1) = d := by rw [phN, bFo, bfS, hd9]
                refine z_iast hC hM (hmm 22 (by decide)) hF_20 (by omega) (by omega) dX7_world_129 (fun H locs hM => ?_)
                rw [up_nI] at hM
                obtain ⟨f_21, ef_21⟩ : ∃ z9, z9 = va_up f_16 ((ma 22)) (eI K 12 (fun j => nI ((va_up (A.1 22) (nw A) d) j))) := ⟨_, rfl⟩
                rw [← ef_21] at hM
                have hF_22 : f_21 ((ma 0)) = eS 8 [.int (nI 0), .int (nI (ns A)), .ref ((ma 2)), .ref ((ma 3)), .ref ((ma 4)), .ref ((ma 5)), .ref ((ma 6)), .ref ((ma 7)), .ref ((ma 8)), .ref ((ma 9)), .ref ((ma 10)), .ref ((ma 11)), .ref ((ma 12)), .ref ((ma 13)), .ref ((ma 14)), .ref ((ma 15)), .ref ((ma 16)), .double (scB (gk A i) ((pdT (gk A i) y1))), .int (oN (bFo (gk A i) ((pdT (gk A i) y1)))), .int (nI (nw A)), .ref ((ma 20)), .ref ((ma 21)), .ref ((ma 22)), .ref ((ma 23)), .int (nI (np A)), .ref ((ma 25)), .ref ((ma 26))] := by rw [ef_21]; exact (va_up_ne _ _ (mne hmi (by decide) (by decide) (show 0 ≠ 22 by decide))).trans hF_17
                have hF_23 : f_21 ((ma 20)) = eI K 12 (fun j => nI ((va_up (A.1 20) (nw A) i) j)) := by rw [ef_21]; exact (va_up_ne _ _ (mne hmi (by decide) (by decide) (show 20 ≠ 22 by decide))).trans hF_18
                have hF_24 : f_21 ((ma 21)) = eI K 12 (fun j => nI ((va_up (A.1 21) (nw A) (pdT (gk A i) y1)) j)) := by rw [ef_21]; exact (va_up_ne _ _ (mne hmi (by decide) (by decide) (show 21 ≠ 22 by decide))).trans hF_19
                have hF_25 : f_21 ((ma 22)) = eI K 12 (fun j => nI ((va_up (A.1 22) (nw A) d) j)) := by rw [ef_21]; exact va_up_self _ _ _
                refine lv_aload_n hx hb dX7_world_130 rfl (lv_at hl 1 rfl) ?_
                refine lv_dup hx hb dX7_world_131 rfl ?_
                refine z_get hC hM (hmm 0 (by decide)) hF_22 zcl_X7 (by decide) zl_X7_142 rfl dX7_world_132 ?_
                refine lv_iconst (v := nI 1) hx hb dX7_world_135 (by decide) ?_
                refine z_iadd hx hb dX7_world_136 ?_
                refine z_put (fs' := [.int (nI 0), .int (nI (ns A)), .ref ((ma 2)), .ref ((ma 3)), .ref ((ma 4)), .ref ((ma 5)), .ref ((ma 6)), .ref ((ma 7)), .ref ((ma 8)), .ref ((ma 9)), .ref ((ma 10)), .ref ((ma 11)), .ref ((ma 12)), .ref ((ma 13)), .ref ((ma 14)), .ref ((ma 15)), .ref ((ma 16)), .double (scB (gk A i) ((pdT (gk A i) y1))), .int (oN (bFo (gk A i) ((pdT (gk A i) y1)))), .int (nI ((nw A) + 1)), .ref ((ma 20)), .ref ((ma 21)), .ref ((ma 22)), .ref ((ma 23)), .int (nI (np A)), .ref ((ma 25)), .ref ((ma 26))]) hC hM (hmm 0 (by decide)) hF_22 zcl_X7 (by decide) zl_X7_142 rfl rfl (by rfl) (Nat.le_of_ble_eq_true rfl) rfl dX7_world_137 (fun H locs hM => ?_)
                obtain ⟨f_26, ef_26⟩ : ∃ z9, z9 = va_up f_21 ((ma 0)) (eS 8 [.int (nI 0), .int (nI (ns A)), .ref ((ma 2)), .ref ((ma 3)), .ref ((ma 4)), .ref ((ma 5)), .ref ((ma 6)), .ref ((ma 7)), .ref ((ma 8)), .ref ((ma 9)), .ref ((ma 10)), .ref ((ma 11)), .ref ((ma 12)), .ref ((ma 13)), .ref ((ma 14)), .ref ((ma 15)), .ref ((ma 16)), .double (scB (gk A i) ((pdT (gk A i) y1))), .int (oN (bFo (gk A i) ((pdT (gk A i) y1)))), .int (nI ((nw A) + 1)), .ref ((ma 20)), .ref ((ma 21)), .ref ((ma 22)), .ref ((ma 23)), .int (nI (np A)), .ref ((ma 25)), .ref ((ma 26))]) := ⟨_, rfl⟩
                rw [← ef_26] at hM
                have hF_27 : f_26 ((ma 0)) = eS 8 [.int (nI 0), .int (nI (ns A)), .ref ((ma 2)), .ref ((ma 3)), .ref ((ma 4)), .ref ((ma 5)), .ref ((ma 6)), .ref ((ma 7)), .ref ((ma 8)), .ref ((ma 9)), .ref ((ma 10)), .ref ((ma 11)), .ref ((ma 12)), .ref ((ma 13)), .ref ((ma 14)), .ref ((ma 15)), .ref ((ma 16)), .double (scB (gk A i) ((pdT (gk A i) y1))), .int (oN (bFo (gk A i) ((pdT (gk A i) y1)))), .int (nI ((nw A) + 1)), .ref ((ma 20)), .ref ((ma 21)), .ref ((ma 22)), .ref ((ma 23)), .int (nI (np A)), .ref ((ma 25)), .ref ((ma 26))] := by rw [ef_26]; exact va_up_self _ _ _
                have hF_28 : f_26 ((ma 20)) = eI K 12 (fun j => nI ((va_up (A.1 20) (nw A) i) j)) := by rw [ef_26]; exact (va_up_ne _ _ (mne hmi (by decide) (by decide) (show 20 ≠ 0 by decide))).trans hF_23
                have hF_29 : f_26 ((ma 21)) = eI K 12 (fun j => nI ((va_up (A.1 21) (nw A) (pdT (gk A i) y1)) j)) := by rw [ef_26]; exact (va_up_ne _ _ (mne hmi (by decide) (by decide) (show 21 ≠ 0 by decide))).trans hF_24
                have hF_30 : f_26 ((ma 22)) = eI K 12 (fun j => nI ((va_up (A.1 22) (nw A) d) j)) := by rw [ef_26]; exact (va_up_ne _ _ (mne hmi (by decide) (by decide) (show 22 ≠ 0 by decide))).trans hF_25
                refine lv_aload_n hx hb dX7_world_140 rfl (lv_at hl 1 rfl) ?_
                refine z_get hC hM (hmm 0 (by decide)) hF_27 zcl_X7 (by decide) zl_X7_142 rfl dX7_world_141 ?_
                refine lv_iconst (v := nI 1) hx hb dX7_world_144 (by decide) ?_
                refine z_isub hx hb (by omega) dX7_world_145 ?_
                have hfu9 : ∀ k, mk k → k ≠ 0 → k ≠ 20 → k ≠ 21 → k ≠ 22 → f_26 (ma k) = f1_94 (ma k) := fun k hk n0 n20 n21 n22 => by
                  have m0 := mne hmi hk (show mk 0 by decide) n0
                  have m20 := mne hmi hk (show mk 20 by decide) n20
                  have m21 := mne hmi hk (show mk 21 by decide) n21
                  have m22 := mne hmi hk (show mk 22 by decide) n22
                  rw [ef_26, ef_21, ef_16, ef_11]
                  simp only [va_up, m0, m20, m21, m22, if_false]
                have hfr9 : ∀ q, (∀ k, mk k → q ≠ ma k) → f_26 q = f1_94 q := fun q hq => by
                  have m0 := hq 0 (by decide)
                  have m20 := hq 20 (by decide)
                  have m21 := hq 21 (by decide)
                  have m22 := hq 22 (by decide)
                  rw [ef_26, ef_21, ef_16, ef_11]
                  simp only [va_up, m0, m20, m21, m22, if_false]
                have hMR9 : MR K (A) ma L f1_94 (woA A i (pdT (gk A i) y1) d) (nI 0) L f_26 := mr_ok (x' := (x2.1, x2.2.1, scB (gk A i) (pdT (gk A i) y1), oN (bFo (gk A i) (pdT (gk A i) y1)))) (op' := op2) hmm hmi hop2 (mk_all hF_27 ((hfu9 2 (by decide) (by decide) (by decide) (by decide) (by decide)).trans (hmc2 2 (by decide))) ((hfu9 3 (by decide) (by decide) (by decide) (by decide) (by decide)).trans (hmc2 3 (by decide))) ((hfu9 4 (by decide) (by decide) (by decide) (by decide) (by decide)).trans (hmc2 4 (by decide))) ((hfu9 5 (by decide) (by decide) (by decide) (by decide) (by decide)).trans (hmc2 5 (by decide))) ((hfu9 6 (by decide) (by decide) (by decide) (by decide) (by decide)).trans (hmc2 6 (by decide))) ((hfu9 7 (by decide) (by decide) (by decide) (by decide) (by decide)).trans (hmc2 7 (by decide))) ((hfu9 8 (by decide) (by decide) (by decide) (by decide) (by decide)).trans (hmc2 8 (by decide))) ((hfu9 9 (by decide) (by decide) (by decide) (by decide) (by decide)).trans (hmc2 9 (by decide))) ((hfu9 10 (by decide) (by decide) (by decide) (by decide) (by decide)).trans (hmc2 10 (by decide))) ((hfu9 11 (by decide) (by decide) (by decide) (by decide) (by decide)).trans (hmc2 11 (by decide))) ((hfu9 12 (by decide) (by decide) (by decide) (by decide) (by decide)).trans (hmc2 12 (by decide))) ((hfu9 13 (by decide) (by decide) (by decide) (by decide) (by decide)).trans (hmc2 13 (by decide))) ((hfu9 14 (by decide) (by decide) (by decide) (by decide) (by decide)).trans (hmc2 14 (by decide))) ((hfu9 15 (by decide) (by decide) (by decide) (by decide) (by decide)).trans (hmc2 15 (by decide))) ((hfu9 16 (by decide) (by decide) (by decide) (by decide) (by decide)).trans (hmc2 16 (by decide))) hF_28 hF_29 hF_30 ((hfu9 23 (by decide) (by decide) (by decide) (by decide) (by decide)).trans (hmc2 23 (by decide))) ((hfu9 25 (by decide) (by decide) (by decide) (by decide) (by decide)).trans (hmc2 25 (by decide))) ((hfu9 26 (by decide) (by decide) (by decide) (by decide) (by decide)).trans (hmc2 26 (by decide)))) hfr9
                rw [← hQ]
                exact z_iret hC hM hr hlk rfl (by decide) (by decide) (mr_0 (kw0 c_6 c_17 (by rw [hiv]; omega)) rfl (by rw [a_world, if_pos (kw0 c_6 c_17 (by rw [hiv]; omega)), hiv, hph]) (((hMRc.trans (RSx.mr hMIc hrs2)).trans (RSx.mr hMI2 hrs_94)).trans hMR9)) dX7_world_146
              · exact absurd c_86 (by omega)
            · refine lv_iconst (v := nI 3) hx hb dX7_world_71 (by decide) ?_
              refine lv_goto (tgt := 79) hx hb dX7_world_72 (by decide) ?_
              refine z_put (fs' := [.int (nI 3), .int (nI (ns A)), .ref ((ma 2)), .ref ((ma 3)), .ref ((ma 4)), .ref ((ma 5)), .ref ((ma 6)), .ref ((ma 7)), .ref ((ma 8)), .ref ((ma 9)), .ref ((ma 10)), .ref ((ma 11)), .ref ((ma 12)), .ref ((ma 13)), .ref ((ma 14)), .ref ((ma 15)), .ref ((ma 16)), .double x9.2.2.1, .int x9.2.2.2, .int (nI (nw A)), .ref ((ma 20)), .ref ((ma 21)), .ref ((ma 22)), .ref ((ma 23)), .int (nI (np A)), .ref ((ma 25)), .ref ((ma 26))]) hC hM (hmm 0 (by decide)) hrs.2.1 zcl_X7 (by decide) zl_X7_75 rfl rfl (by rfl) (Nat.le_of_ble_eq_true rfl) rfl dX7_world_79 (fun H locs hM => ?_)
              obtain ⟨f_31, ef_31⟩ : ∃ z9, z9 = va_up f1 ((ma 0)) (eS 8 [.int (nI 3), .int (nI (ns A)), .ref ((ma 2)), .ref ((ma 3)), .ref ((ma 4)), .ref ((ma 5)), .ref ((ma 6)), .ref ((ma 7)), .ref ((ma 8)), .ref ((ma 9)), .ref ((ma 10)), .ref ((ma 11)), .ref ((ma 12)), .ref ((ma 13)), .ref ((ma 14)), .ref ((ma 15)), .ref ((ma 16)), .double x9.2.2.1, .int x9.2.2.2, .int (nI (nw A)), .ref ((ma 20)), .ref ((ma 21)), .ref ((ma 22)), .ref ((ma 23)), .int (nI (np A)), .ref ((ma 25)), .ref ((ma 26))]) := ⟨_, rfl⟩
              rw [← ef_31] at hM
              have hF_32 : f_31 ((ma 0)) = eS 8 [.int (nI 3), .int (nI (ns A)), .ref ((ma 2)), .ref ((ma 3)), .ref ((ma 4)), .ref ((ma 5)), .ref ((ma 6)), .ref ((ma 7)), .ref ((ma 8)), .ref ((ma 9)), .ref ((ma 10)), .ref ((ma 11)), .ref ((ma 12)), .ref ((ma 13)), .ref ((ma 14)), .ref ((ma 15)), .ref ((ma 16)), .double x9.2.2.1, .int x9.2.2.2, .int (nI (nw A)), .ref ((ma 20)), .ref ((ma 21)), .ref ((ma 22)), .ref ((ma 23)), .int (nI (np A)), .ref ((ma 25)), .ref ((ma 26))] := by rw [ef_31]; exact va_up_self _ _ _
              have hF_33 : f_31 ((ma 20)) = eI K 12 (fun j => nI ((A.1 20) j)) := by rw [ef_31]; exact (va_up_ne _ _ (mne hmi (by decide) (by decide) (show 20 ≠ 0 by decide))).trans ((hrs.1 _ (mne hmi (by decide) (by decide) (show 20 ≠ 0 by decide)) (mne hmi (by decide) (by decide) (show 20 ≠ 15 by decide)) (mne hmi (by decide) (by decide) (show 20 ≠ 16 by decide))).trans hF_3)
              have hF_34 : f_31 ((ma 21)) = eI K 12 (fun j => nI ((A.1 21) j)) := by rw [ef_31]; exact (va_up_ne _ _ (mne hmi (by decide) (by decide) (show 21 ≠ 0 by decide))).trans ((hrs.1 _ (mne hmi (by decide) (by decide) (show 21 ≠ 0 by decide)) (mne hmi (by decide) (by decide) (show 21 ≠ 15 by decide)) (mne hmi (by decide) (by decide) (show 21 ≠ 16 by decide))).trans hF_4)
              have hF_35 : f_31 ((ma 22)) = eI K 12 (fun j => nI ((A.1 22) j)) := by rw [ef_31]; exact (va_up_ne _ _ (mne hmi (by decide) (by decide) (show 22 ≠ 0 by decide))).trans ((hrs.1 _ (mne hmi (by decide) (by decide) (show 22 ≠ 0 by decide)) (mne hmi (by decide) (by decide) (show 22 ≠ 15 by decide)) (mne hmi (by decide) (by decide) (show 22 ≠ 16 by decide))).trans hF_5)
              refine lv_aload_n hx hb dX7_world_82 rfl (lv_at hl 1 rfl) ?_
              refine z_get hC hM (hmm 0 (by decide)) hF_32 zcl_X7 (by decide) zl_X7_75 rfl dX7_world_83 ?_
              refine z_if_le (tgt := 91) hx hb (nI_toInt (by decide)) dX7_world_86 (by decide) (fun c_86 => ?_) (fun c_86 => ?_)
              · exact absurd c_86 (by omega)
              · refine lv_iconst (v := nI 0) hx hb dX7_world_89 (by decide) ?_
                rw [← hQ]
                exact z_iret hC hM hr hlk rfl (by decide) (by decide) (mr_x (kw3 c_6 c_17 (Or.inr (by rw [hiv]; omega))) (fun z => if_neg z) (hMRc.trans (RSx.mr hMIc (RSx.thr hmi hrs hF_32 (fun q h9 => by rw [ef_31]; simp only [va_up, h9, if_false])))) (by decide)) dX7_world_90
        · exact absurd c_45 (by omega)
      · refine lv_iconst (v := nI 3) hx hb dX7_world_33 (by decide) ?_
        refine lv_goto (tgt := 38) hx hb dX7_world_34 (by decide) ?_
        refine z_put (fs' := [.int (nI 3), .int (nI (ns A)), .ref ((ma 2)), .ref ((ma 3)), .ref ((ma 4)), .ref ((ma 5)), .ref ((ma 6)), .ref ((ma 7)), .ref ((ma 8)), .ref ((ma 9)), .ref ((ma 10)), .ref ((ma 11)), .ref ((ma 12)), .ref ((ma 13)), .ref ((ma 14)), .ref ((ma 15)), .ref ((ma 16)), .double bb, .int bf, .int (nI (nw A)), .ref ((ma 20)), .ref ((ma 21)), .ref ((ma 22)), .ref ((ma 23)), .int (nI (np A)), .ref ((ma 25)), .ref ((ma 26))]) hC hM (hmm 0 (by decide)) hg0 zcl_X7 (by decide) zl_X7_75 rfl rfl (by rfl) (Nat.le_of_ble_eq_true rfl) rfl dX7_world_38 (fun H locs hM => ?_)
        obtain ⟨f_36, ef_36⟩ : ∃ z9, z9 = va_up f ((ma 0)) (eS 8 [.int (nI 3), .int (nI (ns A)), .ref ((ma 2)), .ref ((ma 3)), .ref ((ma 4)), .ref ((ma 5)), .ref ((ma 6)), .ref ((ma 7)), .ref ((ma 8)), .ref ((ma 9)), .ref ((ma 10)), .ref ((ma 11)), .ref ((ma 12)), .ref ((ma 13)), .ref ((ma 14)), .ref ((ma 15)), .ref ((ma 16)), .double bb, .int bf, .int (nI (nw A)), .ref ((ma 20)), .ref ((ma 21)), .ref ((ma 22)), .ref ((ma 23)), .int (nI (np A)), .ref ((ma 25)), .ref ((ma 26))]) := ⟨_, rfl⟩
        rw [← ef_36] at hM
        have hF_37 : f_36 ((ma 0)) = eS 8 [.int (nI 3), .int (nI (ns A)), .ref ((ma 2)), .ref ((ma 3)), .ref ((ma 4)), .ref ((ma 5)), .ref ((ma 6)), .ref ((ma 7)), .ref ((ma 8)), .ref ((ma 9)), .ref ((ma 10)), .ref ((ma 11)), .ref ((ma 12)), .ref ((ma 13)), .ref ((ma 14)), .ref ((ma 15)), .ref ((ma 16)), .double bb, .int bf, .int (nI (nw A)), .ref ((ma 20)), .ref ((ma 21)), .ref ((ma 22)), .ref ((ma 23)), .int (nI (np A)), .ref ((ma 25)), .ref ((ma 26))] := by rw [ef_36]; exact va_up_self _ _ _
        have hF_38 : f_36 ((ma 20)) = eI K 12 (fun j => nI ((A.1 20) j)) := by rw [ef_36]; exact (va_up_ne _ _ (mne hmi (by decide) (by decide) (show 20 ≠ 0 by decide))).trans hg20
        have hF_39 : f_36 ((ma 21)) = eI K 12 (fun j => nI ((A.1 21) j)) := by rw [ef_36]; exact (va_up_ne _ _ (mne hmi (by decide) (by decide) (show 21 ≠ 0 by decide))).trans hg21
        have hF_40 : f_36 ((ma 22)) = eI K 12 (fun j => nI ((A.1 22) j)) := by rw [ef_36]; exact (va_up_ne _ _ (mne hmi (by decide) (by decide) (show 22 ≠ 0 by decide))).trans hg22
        refine lv_aload_n hx hb dX7_world_41 rfl (lv_at hl 0 rfl) ?_
        refine z_get hC hM (hmm 0 (by decide)) hF_37 zcl_X7 (by decide) zl_X7_75 rfl dX7_world_42 ?_
        refine z_if_le (tgt := 52) hx hb (nI_toInt (by decide)) dX7_world_45 (by decide) (fun c_45 => ?_) (fun c_45 => ?_)
        · exact absurd c_45 (by omega)
        · refine lv_iconst (v := nI 0) hx hb dX7_world_48 (by decide) ?_
          refine lv_goto (tgt := 58) hx hb dX7_world_49 (by decide) ?_
          refine lv_istore_n (lv' := [(3, .int (nI 0)), (0, .ref ((ma 0))), (1, .int (nI i)), (2, .int y1)]) hx hb dX7_world_58 rfl hl (by decide) rfl (fun ls hl => ?_)
          refine lv_aload_n hx hb dX7_world_59 rfl (lv_at hl 1 rfl) ?_
          refine lv_aload_n hx hb dX7_world_60 rfl (lv_at hl 1 rfl) ?_
          refine z_get hC hM (hmm 0 (by decide)) hF_37 zcl_X7 (by decide) zl_X7_75 rfl dX7_world_61 ?_
          refine z_if_ne (tgt := 75) hx hb (nI_toInt (by decide)) dX7_world_64 (by decide) (fun c_64 => ?_) (fun c_64 => ?_)
          · refine lv_aload_n hx hb dX7_world_75 rfl (lv_at hl 1 rfl) ?_
            refine z_get hC hM (hmm 0 (by decide)) hF_37 zcl_X7 (by decide) zl_X7_75 rfl dX7_world_76 ?_
            refine z_put (fs' := [.int (nI 3), .int (nI (ns A)), .ref ((ma 2)), .ref ((ma 3)), .ref ((ma 4)), .ref ((ma 5)), .ref ((ma 6)), .ref ((ma 7)), .ref ((ma 8)), .ref ((ma 9)), .ref ((ma 10)), .ref ((ma 11)), .ref ((ma 12)), .ref ((ma 13)), .ref ((ma 14)), .ref ((ma 15)), .ref ((ma 16)), .double bb, .int bf, .int (nI (nw A)), .ref ((ma 20)), .ref ((ma 21)), .ref ((ma 22)), .ref ((ma 23)), .int (nI (np A)), .ref ((ma 25)), .ref ((ma 26))]) hC hM (hmm 0 (by decide)) hF_37 zcl_X7 (by decide) zl_X7_75 rfl rfl (by rfl) (Nat.le_of_ble_eq_true rfl) rfl dX7_world_79 (fun H locs hM => ?_)
            obtain ⟨f_41, ef_41⟩ : ∃ z9, z9 = va_up f_36 ((ma 0)) (eS 8 [.int (nI 3), .int (nI (ns A)), .ref ((ma 2)), .ref ((ma 3)), .ref ((ma 4)), .ref ((ma 5)), .ref ((ma 6)), .ref ((ma 7)), .ref ((ma 8)), .ref ((ma 9)), .ref ((ma 10)), .ref ((ma 11)), .ref ((ma 12)), .ref ((ma 13)), .ref ((ma 14)), .ref ((ma 15)), .ref ((ma 16)), .double bb, .int bf, .int (nI (nw A)), .ref ((ma 20)), .ref ((ma 21)), .ref ((ma 22)), .ref ((ma 23)), .int (nI (np A)), .ref ((ma 25)), .ref ((ma 26))]) := ⟨_, rfl⟩
            rw [← ef_41] at hM
            have hF_42 : f_41 ((ma 0)) = eS 8 [.int (nI 3), .int (nI (ns A)), .ref ((ma 2)), .ref ((ma 3)), .ref ((ma 4)), .ref ((ma 5)), .ref ((ma 6)), .ref ((ma 7)), .ref ((ma 8)), .ref ((ma 9)), .ref ((ma 10)), .ref ((ma 11)), .ref ((ma 12)), .ref ((ma 13)), .ref ((ma 14)), .ref ((ma 15)), .ref ((ma 16)), .double bb, .int bf, .int (nI (nw A)), .ref ((ma 20)), .ref ((ma 21)), .ref ((ma 22)), .ref ((ma 23)), .int (nI (np A)), .ref ((ma 25)), .ref ((ma 26))] := by rw [ef_41]; exact va_up_self _ _ _
            have hF_43 : f_41 ((ma 20)) = eI K 12 (fun j => nI ((A.1 20) j)) := by rw [ef_41]; exact (va_up_ne _ _ (mne hmi (by decide) (by decide) (show 20 ≠ 0 by decide))).trans hF_38
            have hF_44 : f_41 ((ma 21)) = eI K 12 (fun j => nI ((A.1 21) j)) := by rw [ef_41]; exact (va_up_ne _ _ (mne hmi (by decide) (by decide) (show 21 ≠ 0 by decide))).trans hF_39
            have hF_45 : f_41 ((ma 22)) = eI K 12 (fun j => nI ((A.1 22) j)) := by rw [ef_41]; exact (va_up_ne _ _ (mne hmi (by decide) (by decide) (show 22 ≠ 0 by decide))).trans hF_40
            refine lv_aload_n hx hb dX7_world_82 rfl (lv_at hl 1 rfl) ?_
            refine z_get hC hM (hmm 0 (by decide)) hF_42 zcl_X7 (by decide) zl_X7_75 rfl dX7_world_83 ?_
            refine z_if_le (tgt := 91) hx hb (nI_toInt (by decide)) dX7_world_86 (by decide) (fun c_86 => ?_) (fun c_86 => ?_)
            · exact absurd c_86 (by omega)
            · refine lv_iconst (v := nI 0) hx hb dX7_world_89 (by decide) ?_
              rw [← hQ]
              exact z_iret hC hM hr hlk rfl (by decide) (by decide) (mr_x (kw3 c_6 c_17 (Or.inl (by omega))) (fun z => if_neg z) (mr_t hmm hmi hop hmc hF_42 (fun q h9 => by rw [ef_41, ef_36]; simp only [va_up, h9, if_false])) (by decide)) dX7_world_90
          · exact absurd c_64 (by omega)
    · refine lv_iconst (v := nI 2) hx hb dX7_world_20 (by decide) ?_
      refine lv_goto (tgt := 38) hx hb dX7_world_21 (by decide) ?_
      refine z_put (fs' := [.int (nI 2), .int (nI (ns A)), .ref ((ma 2)), .ref ((ma 3)), .ref ((ma 4)), .ref ((ma 5)), .ref ((ma 6)), .ref ((ma 7)), .ref ((ma 8)), .ref ((ma 9)), .ref ((ma 10)), .ref ((ma 11)), .ref ((ma 12)), .ref ((ma 13)), .ref ((ma 14)), .ref ((ma 15)), .ref ((ma 16)), .double bb, .int bf, .int (nI (nw A)), .ref ((ma 20)), .ref ((ma 21)), .ref ((ma 22)), .ref ((ma 23)), .int (nI (np A)), .ref ((ma 25)), .ref ((ma 26))]) hC hM (hmm 0 (by decide)) hg0 zcl_X7 (by decide) zl_X7_75 rfl rfl (by rfl) (Nat.le_of_ble_eq_true rfl) rfl dX7_world_38 (fun H locs hM => ?_)
      obtain ⟨f_46, ef_46⟩ : ∃ z9, z9 = va_up f ((ma 0)) (eS 8 [.int (nI 2), .int (nI (ns A)), .ref ((ma 2)), .ref ((ma 3)), .ref ((ma 4)), .ref ((ma 5)), .ref ((ma 6)), .ref ((ma 7)), .ref ((ma 8)), .ref ((ma 9)), .ref ((ma 10)), .ref ((ma 11)), .ref ((ma 12)), .ref ((ma 13)), .ref ((ma 14)), .ref ((ma 15)), .ref ((ma 16)), .double bb, .int bf, .int (nI (nw A)), .ref ((ma 20)), .ref ((ma 21)), .ref ((ma 22)), .ref ((ma 23)), .int (nI (np A)), .ref ((ma 25)), .ref ((ma 26))]) := ⟨_, rfl⟩
      rw [← ef_46] at hM
      have hF_47 : f_46 ((ma 0)) = eS 8 [.int (nI 2), .int (nI (ns A)), .ref ((ma 2)), .ref ((ma 3)), .ref ((ma 4)), .ref ((ma 5)), .ref ((ma 6)), .ref ((ma 7)), .ref ((ma 8)), .ref ((ma 9)), .ref ((ma 10)), .ref ((ma 11)), .ref ((ma 12)), .ref ((ma 13)), .ref ((ma 14)), .ref ((ma 15)), .ref ((ma 16)), .double bb, .int bf, .int (nI (nw A)), .ref ((ma 20)), .ref ((ma 21)), .ref ((ma 22)), .ref ((ma 23)), .int (nI (np A)), .ref ((ma 25)), .ref ((ma 26))] := by rw [ef_46]; exact va_up_self _ _ _
      have hF_48 : f_46 ((ma 20)) = eI K 12 (fun j => nI ((A.1 20) j)) := by rw [ef_46]; exact (va_up_ne _ _ (mne hmi (by decide) (by decide) (show 20 ≠ 0 by decide))).trans hg20
      have hF_49 : f_46 ((ma 21)) = eI K 12 (fun j => nI ((A.1 21) j)) := by rw [ef_46]; exact (va_up_ne _ _ (mne hmi (by decide) (by decide) (show 21 ≠ 0 by decide))).trans hg21
      have hF_50 : f_46 ((ma 22)) = eI K 12 (fun j => nI ((A.1 22) j)) := by rw [ef_46]; exact (va_up_ne _ _ (mne hmi (by decide) (by decide) (show 22 ≠ 0 by decide))).trans hg22
      refine lv_aload_n hx hb dX7_world_41 rfl (lv_at hl 0 rfl) ?_
      refine z_get hC hM (hmm 0 (by decide)) hF_47 zcl_X7 (by decide) zl_X7_75 rfl dX7_world_42 ?_
      refine z_if_le (tgt := 52) hx hb (nI_toInt (by decide)) dX7_world_45 (by decide) (fun c_45 => ?_) (fun c_45 => ?_)
      · exact absurd c_45 (by omega)
      · refine lv_iconst (v := nI 0) hx hb dX7_world_48 (by decide) ?_
        refine lv_goto (tgt := 58) hx hb dX7_world_49 (by decide) ?_
        refine lv_istore_n (lv' := [(3, .int (nI 0)), (0, .ref ((ma 0))), (1, .int (nI i)), (2, .int y1)]) hx hb dX7_world_58 rfl hl (by decide) rfl (fun ls hl => ?_)
        refine lv_aload_n hx hb dX7_world_59 rfl (lv_at hl 1 rfl) ?_
        refine lv_aload_n hx hb dX7_world_60 rfl (lv_at hl 1 rfl) ?_
        refine z_get hC hM (hmm 0 (by decide)) hF_47 zcl_X7 (by decide) zl_X7_75 rfl dX7_world_61 ?_
        refine z_if_ne (tgt := 75) hx hb (nI_toInt (by decide)) dX7_world_64 (by decide) (fun c_64 => ?_) (fun c_64 => ?_)
        · refine lv_aload_n hx hb dX7_world_75 rfl (lv_at hl 1 rfl) ?_
          refine z_get hC hM (hmm 0 (by decide)) hF_47 zcl_X7 (by decide) zl_X7_75 rfl dX7_world_76 ?_
          refine z_put (fs' := [.int (nI 2), .int (nI (ns A)), .ref ((ma 2)), .ref ((ma 3)), .ref ((ma 4)), .ref ((ma 5)), .ref ((ma 6)), .ref ((ma 7)), .ref ((ma 8)), .ref ((ma 9)), .ref ((ma 10)), .ref ((ma 11)), .ref ((ma 12)), .ref ((ma 13)), .ref ((ma 14)), .ref ((ma 15)), .ref ((ma 16)), .double bb, .int bf, .int (nI (nw A)), .ref ((ma 20)), .ref ((ma 21)), .ref ((ma 22)), .ref ((ma 23)), .int (nI (np A)), .ref ((ma 25)), .ref ((ma 26))]) hC hM (hmm 0 (by decide)) hF_47 zcl_X7 (by decide) zl_X7_75 rfl rfl (by rfl) (Nat.le_of_ble_eq_true rfl) rfl dX7_world_79 (fun H locs hM => ?_)
          obtain ⟨f_51, ef_51⟩ : ∃ z9, z9 = va_up f_46 ((ma 0)) (eS 8 [.int (nI 2), .int (nI (ns A)), .ref ((ma 2)), .ref ((ma 3)), .ref ((ma 4)), .ref ((ma 5)), .ref ((ma 6)), .ref ((ma 7)), .ref ((ma 8)), .ref ((ma 9)), .ref ((ma 10)), .ref ((ma 11)), .ref ((ma 12)), .ref ((ma 13)), .ref ((ma 14)), .ref ((ma 15)), .ref ((ma 16)), .double bb, .int bf, .int (nI (nw A)), .ref ((ma 20)), .ref ((ma 21)), .ref ((ma 22)), .ref ((ma 23)), .int (nI (np A)), .ref ((ma 25)), .ref ((ma 26))]) := ⟨_, rfl⟩
          rw [← ef_51] at hM
          have hF_52 : f_51 ((ma 0)) = eS 8 [.int (nI 2), .int (nI (ns A)), .ref ((ma 2)), .ref ((ma 3)), .ref ((ma 4)), .ref ((ma 5)), .ref ((ma 6)), .ref ((ma 7)), .ref ((ma 8)), .ref ((ma 9)), .ref ((ma 10)), .ref ((ma 11)), .ref ((ma 12)), .ref ((ma 13)), .ref ((ma 14)), .ref ((ma 15)), .ref ((ma 16)), .double bb, .int bf, .int (nI (nw A)), .ref ((ma 20)), .ref ((ma 21)), .ref ((ma 22)), .ref ((ma 23)), .int (nI (np A)), .ref ((ma 25)), .ref ((ma 26))] := by rw [ef_51]; exact va_up_self _ _ _
          have hF_53 : f_51 ((ma 20)) = eI K 12 (fun j => nI ((A.1 20) j)) := by rw [ef_51]; exact (va_up_ne _ _ (mne hmi (by decide) (by decide) (show 20 ≠ 0 by decide))).trans hF_48
          have hF_54 : f_51 ((ma 21)) = eI K 12 (fun j => nI ((A.1 21) j)) := by rw [ef_51]; exact (va_up_ne _ _ (mne hmi (by decide) (by decide) (show 21 ≠ 0 by decide))).trans hF_49
          have hF_55 : f_51 ((ma 22)) = eI K 12 (fun j => nI ((A.1 22) j)) := by rw [ef_51]; exact (va_up_ne _ _ (mne hmi (by decide) (by decide) (show 22 ≠ 0 by decide))).trans hF_50
          refine lv_aload_n hx hb dX7_world_82 rfl (lv_at hl 1 rfl) ?_
          refine z_get hC hM (hmm 0 (by decide)) hF_52 zcl_X7 (by decide) zl_X7_75 rfl dX7_world_83 ?_
          refine z_if_le (tgt := 91) hx hb (nI_toInt (by decide)) dX7_world_86 (by decide) (fun c_86 => ?_) (fun c_86 => ?_)
          · exact absurd c_86 (by omega)
          · refine lv_iconst (v := nI 0) hx hb dX7_world_89 (by decide) ?_
            rw [← hQ]
            exact z_iret hC hM hr hlk rfl (by decide) (by decide) (mr_x (kw2 c_6 c_17) (fun z => if_neg z) (mr_t hmm hmi hop hmc hF_52 (fun q h9 => by rw [ef_51, ef_46]; simp only [va_up, h9, if_false])) (by decide)) dX7_world_90
        · exact absurd c_64 (by omega)
  · refine lv_iconst (v := nI 1) hx hb dX7_world_9 (by decide) ?_
    refine lv_goto (tgt := 38) hx hb dX7_world_10 (by decide) ?_
    refine z_put (fs' := [.int (nI 1), .int (nI (ns A)), .ref ((ma 2)), .ref ((ma 3)), .ref ((ma 4)), .ref ((ma 5)), .ref ((ma 6)), .ref ((ma 7)), .ref ((ma 8)), .ref ((ma 9)), .ref ((ma 10)), .ref ((ma 11)), .ref ((ma 12)), .ref ((ma 13)), .ref ((ma 14)), .ref ((ma 15)), .ref ((ma 16)), .double bb, .int bf, .int (nI (nw A)), .ref ((ma 20)), .ref ((ma 21)), .ref ((ma 22)), .ref ((ma 23)), .int (nI (np A)), .ref ((ma 25)), .ref ((ma 26))]) hC hM (hmm 0 (by decide)) hg0 zcl_X7 (by decide) zl_X7_75 rfl rfl (by rfl) (Nat.le_of_ble_eq_true rfl) rfl dX7_world_38 (fun H locs hM => ?_)
    obtain ⟨f_56, ef_56⟩ : ∃ z9, z9 = va_up f ((ma 0)) (eS 8 [.int (nI 1), .int (nI (ns A)), .ref ((ma 2)), .ref ((ma 3)), .ref ((ma 4)), .ref ((ma 5)), .ref ((ma 6)), .ref ((ma 7)), .ref ((ma 8)), .ref ((ma 9)), .ref ((ma 10)), .ref ((ma 11)), .ref ((ma 12)), .ref ((ma 13)), .ref ((ma 14)), .ref ((ma 15)), .ref ((ma 16)), .double bb, .int bf, .int (nI (nw A)), .ref ((ma 20)), .ref ((ma 21)), .ref ((ma 22)), .ref ((ma 23)), .int (nI (np A)), .ref ((ma 25)), .ref ((ma 26))]) := ⟨_, rfl⟩
    rw [← ef_56] at hM
    have hF_57 : f_56 ((ma 0)) = eS 8 [.int (nI 1), .int (nI (ns A)), .ref ((ma 2)), .ref ((ma 3)), .ref ((ma 4)), .ref ((ma 5)), .ref ((ma 6)), .ref ((ma 7)), .ref ((ma 8)), .ref ((ma 9)), .ref ((ma 10)), .ref ((ma 11)), .ref ((ma 12)), .ref ((ma 13)), .ref ((ma 14)), .ref ((ma 15)), .ref ((ma 16)), .double bb, .int bf, .int (nI (nw A)), .ref ((ma 20)), .ref ((ma 21)), .ref ((ma 22)), .ref ((ma 23)), .int (nI (np A)), .ref ((ma 25)), .ref ((ma 26))] := by rw [ef_56]; exact va_up_self _ _ _
    have hF_58 : f_56 ((ma 20)) = eI K 12 (fun j => nI ((A.1 20) j)) := by rw [ef_56]; exact (va_up_ne _ _ (mne hmi (by decide) (by decide) (show 20 ≠ 0 by decide))).trans hg20
    have hF_59 : f_56 ((ma 21)) = eI K 12 (fun j => nI ((A.1 21) j)) := by rw [ef_56]; exact (va_up_ne _ _ (mne hmi (by decide) (by decide) (show 21 ≠ 0 by decide))).trans hg21
    have hF_60 : f_56 ((ma 22)) = eI K 12 (fun j => nI ((A.1 22) j)) := by rw [ef_56]; exact (va_up_ne _ _ (mne hmi (by decide) (by decide) (show 22 ≠ 0 by decide))).trans hg22
    refine lv_aload_n hx hb dX7_world_41 rfl (lv_at hl 0 rfl) ?_
    refine z_get hC hM (hmm 0 (by decide)) hF_57 zcl_X7 (by decide) zl_X7_75 rfl dX7_world_42 ?_
    refine z_if_le (tgt := 52) hx hb (nI_toInt (by decide)) dX7_world_45 (by decide) (fun c_45 => ?_) (fun c_45 => ?_)
    · exact absurd c_45 (by omega)
    · refine lv_iconst (v := nI 0) hx hb dX7_world_48 (by decide) ?_
      refine lv_goto (tgt := 58) hx hb dX7_world_49 (by decide) ?_
      refine lv_istore_n (lv' := [(3, .int (nI 0)), (0, .ref ((ma 0))), (1, .int x), (2, .int y1)]) hx hb dX7_world_58 rfl hl (by decide) rfl (fun ls hl => ?_)
      refine lv_aload_n hx hb dX7_world_59 rfl (lv_at hl 1 rfl) ?_
      refine lv_aload_n hx hb dX7_world_60 rfl (lv_at hl 1 rfl) ?_
      refine z_get hC hM (hmm 0 (by decide)) hF_57 zcl_X7 (by decide) zl_X7_75 rfl dX7_world_61 ?_
      refine z_if_ne (tgt := 75) hx hb (nI_toInt (by decide)) dX7_world_64 (by decide) (fun c_64 => ?_) (fun c_64 => ?_)
      · refine lv_aload_n hx hb dX7_world_75 rfl (lv_at hl 1 rfl) ?_
        refine z_get hC hM (hmm 0 (by decide)) hF_57 zcl_X7 (by decide) zl_X7_75 rfl dX7_world_76 ?_
        refine z_put (fs' := [.int (nI 1), .int (nI (ns A)), .ref ((ma 2)), .ref ((ma 3)), .ref ((ma 4)), .ref ((ma 5)), .ref ((ma 6)), .ref ((ma 7)), .ref ((ma 8)), .ref ((ma 9)), .ref ((ma 10)), .ref ((ma 11)), .ref ((ma 12)), .ref ((ma 13)), .ref ((ma 14)), .ref ((ma 15)), .ref ((ma 16)), .double bb, .int bf, .int (nI (nw A)), .ref ((ma 20)), .ref ((ma 21)), .ref ((ma 22)), .ref ((ma 23)), .int (nI (np A)), .ref ((ma 25)), .ref ((ma 26))]) hC hM (hmm 0 (by decide)) hF_57 zcl_X7 (by decide) zl_X7_75 rfl rfl (by rfl) (Nat.le_of_ble_eq_true rfl) rfl dX7_world_79 (fun H locs hM => ?_)
        obtain ⟨f_61, ef_61⟩ : ∃ z9, z9 = va_up f_56 ((ma 0)) (eS 8 [.int (nI 1), .int (nI (ns A)), .ref ((ma 2)), .ref ((ma 3)), .ref ((ma 4)), .ref ((ma 5)), .ref ((ma 6)), .ref ((ma 7)), .ref ((ma 8)), .ref ((ma 9)), .ref ((ma 10)), .ref ((ma 11)), .ref ((ma 12)), .ref ((ma 13)), .ref ((ma 14)), .ref ((ma 15)), .ref ((ma 16)), .double bb, .int bf, .int (nI (nw A)), .ref ((ma 20)), .ref ((ma 21)), .ref ((ma 22)), .ref ((ma 23)), .int (nI (np A)), .ref ((ma 25)), .ref ((ma 26))]) := ⟨_, rfl⟩
        rw [← ef_61] at hM
        have hF_62 : f_61 ((ma 0)) = eS 8 [.int (nI 1), .int (nI (ns A)), .ref ((ma 2)), .ref ((ma 3)), .ref ((ma 4)), .ref ((ma 5)), .ref ((ma 6)), .ref ((ma 7)), .ref ((ma 8)), .ref ((ma 9)), .ref ((ma 10)), .ref ((ma 11)), .ref ((ma 12)), .ref ((ma 13)), .ref ((ma 14)), .ref ((ma 15)), .ref ((ma 16)), .double bb, .int bf, .int (nI (nw A)), .ref ((ma 20)), .ref ((ma 21)), .ref ((ma 22)), .ref ((ma 23)), .int (nI (np A)), .ref ((ma 25)), .ref ((ma 26))] := by rw [ef_61]; exact va_up_self _ _ _
        have hF_63 : f_61 ((ma 20)) = eI K 12 (fun j => nI ((A.1 20) j)) := by rw [ef_61]; exact (va_up_ne _ _ (mne hmi (by decide) (by decide) (show 20 ≠ 0 by decide))).trans hF_58
        have hF_64 : f_61 ((ma 21)) = eI K 12 (fun j => nI ((A.1 21) j)) := by rw [ef_61]; exact (va_up_ne _ _ (mne hmi (by decide) (by decide) (show 21 ≠ 0 by decide))).trans hF_59
        have hF_65 : f_61 ((ma 22)) = eI K 12 (fun j => nI ((A.1 22) j)) := by rw [ef_61]; exact (va_up_ne _ _ (mne hmi (by decide) (by decide) (show 22 ≠ 0 by decide))).trans hF_60
        refine lv_aload_n hx hb dX7_world_82 rfl (lv_at hl 1 rfl) ?_
        refine z_get hC hM (hmm 0 (by decide)) hF_62 zcl_X7 (by decide) zl_X7_75 rfl dX7_world_83 ?_
        refine z_if_le (tgt := 91) hx hb (nI_toInt (by decide)) dX7_world_86 (by decide) (fun c_86 => ?_) (fun c_86 => ?_)
        · exact absurd c_86 (by omega)
        · refine lv_iconst (v := nI 0) hx hb dX7_world_89 (by decide) ?_
          rw [← hQ]
          exact z_iret hC hM hr hlk rfl (by decide) (by decide) (mr_x (kw1 c_6) (fun z => if_neg z) (mr_t hmm hmi hop hmc hF_62 (fun q h9 => by rw [ef_61, ef_56]; simp only [va_up, h9, if_false])) (by decide)) dX7_world_90
      · exact absurd c_64 (by omega)
