/-! CONTRACTS of TransitryModel: scores, periods, fallen papers (rows laid by wip/whole/ref3.py) -/
set_option maxHeartbeats 400000 in
set_option maxRecDepth 100000 in
theorem m_scores {l : Launch} {base : Nat} {K : zK} {L : List Nat} {f : Nat → va_E} {A : zA} {ma : Nat → Nat} {t : Int32} (hV : VA A) (hMI : MI K L f A ma t) {i p9 : Nat} (hi : i < ns A) (hp0 : 2 ≤ p9) (hp1 : p9 ≤ 60) (h20 : 20 ≤ A.1 14 i) : zMet l yX7_scores cX7_scores 9 (none) (zr 1 0 0 24) base K L f [.ref ((ma 0)), .int (nI i), .int (nI p9)] (zQv base K (fun L1 f1 => L1 = L ∧ ∃ (sg1 : Nat → UInt64) (cg1 : Nat → Nat), RSx K A ma t f f1 (sg1, cg1, scB (gk A i) p9, oN (bFo (gk A i) p9)))) := by
  have hMI9 := hMI
  obtain ⟨hmm, hmi, ⟨sg, cg, bb, bf⟩, op, hop, hmc⟩ := hMI9
  have hV9 := hV
  obtain ⟨hv1, hv2, hv3, hvS, hvO, hvK, hvK1, hvL, hv11, hvW, hv23, hvW0, hvP⟩ := hV9
  have hg0 : f (ma 0) = eS 8 [.int t, .int (nI (ns A)), .ref ((ma 2)), .ref ((ma 3)), .ref ((ma 4)), .ref ((ma 5)), .ref ((ma 6)), .ref ((ma 7)), .ref ((ma 8)), .ref ((ma 9)), .ref ((ma 10)), .ref ((ma 11)), .ref ((ma 12)), .ref ((ma 13)), .ref ((ma 14)), .ref ((ma 15)), .ref ((ma 16)), .double bb, .int bf, .int (nI (nw A)), .ref ((ma 20)), .ref ((ma 21)), .ref ((ma 22)), .ref ((ma 23)), .int (nI (np A)), .ref ((ma 25)), .ref ((ma 26))] := hmc 0 (by decide)
  have hg15 : f (ma 15) = eD K 120 sg := hmc 15 (by decide)
  have hg16 : f (ma 16) = eI K 120 (fun j => nI (cg j)) := hmc 16 (by decide)
  obtain ⟨w1, w2, w3, w4, w5, w6, w7, w8⟩ := hvS i hi
  have hFP := fp_ok (gk_ok hV i)
  refine z_met (by decide) (Nat.le_of_ble_eq_true rfl) (fun p e s m below meth c ls hC hM hr hlk hnm hl => ?_)
  have hx := hC.1
  have hb := hC.2.1
  have hml := hC.2.2.1
  have hown := hC.2.2.2.1
  have hts := hC.2.2.2.2.1
  generalize hA : ([.ref ((ma 0)), .int (nI i), .int (nI p9)] : List Value).toArray = args at hC ⊢
  generalize hQ : MQ _ _ _ _ _ _ _ = Q
  obtain ⟨locs, hlocs⟩ : ∃ z : List Loc, z = [] := ⟨_, rfl⟩
  obtain ⟨H, hH⟩ : ∃ z : Heap, z = s.heap := ⟨_, rfl⟩
  rw [← hlocs, ← hH] at hM ⊢
  have hl : lv_has ls 9 [(0, .ref ((ma 0))), (1, .int (nI i)), (2, .int (nI p9))] := hl
  refine lv_aload_n hx hb dX7_scores_0 rfl (lv_at hl 0 rfl) ?_
  refine lv_iload_n hx hb dX7_scores_1 rfl (lv_at hl 1 rfl) ?_
  refine z_fcalld (z_runV hC hM (m_meanOf hV hMI hi (by omega)) zy_X7_meanOf zm_X7_112 (hmm 0 (by decide)) hg0 zcl_X7 rfl rfl rfl hl.1 (Nat.le_of_ble_eq_true rfl) ⟨by decide, by decide⟩ ⟨by decide, by decide⟩ dX7_scores_2) hM (fun H locs hM => ?_)
  refine lv_dstore_n (lv' := [(3, .double (mnT (gk A i))), (0, .ref ((ma 0))), (1, .int (nI i)), (2, .int (nI p9))]) hx hb dX7_scores_5 rfl hl (by decide) rfl (fun ls hl => ?_)
  refine lv_aload_n hx hb dX7_scores_6 rfl (lv_at hl 1 rfl) ?_
  refine lv_iload_n hx hb dX7_scores_7 rfl (lv_at hl 2 rfl) ?_
  refine lv_iload_n hx hb dX7_scores_8 rfl (lv_at hl 3 rfl) ?_
  refine z_callv (z_runV hC hM (m_folds hV hMI hi (p9 := p9) (by omega) (by omega)) zy_X7_folds zm_X7_116 (hmm 0 (by decide)) hg0 zcl_X7 rfl rfl rfl hl.1 (Nat.le_of_ble_eq_true rfl) ⟨by decide, by decide⟩ ⟨by decide, by decide⟩ dX7_scores_9) hM (fun L1 f1 H locs hp hM => ?_)
  obtain ⟨e9L, sg9, cg9, hs9, e9f⟩ := hp
  have e9L := e9L.symm
  subst e9L e9f
  obtain ⟨f_1, ef_1⟩ : ∃ z9, z9 = va_up f ((ma 15)) (eD K 120 sg9) := ⟨_, rfl⟩
  rw [← ef_1] at hM
  have hF_2 : f_1 ((ma 0)) = eS 8 [.int t, .int (nI (ns A)), .ref ((ma 2)), .ref ((ma 3)), .ref ((ma 4)), .ref ((ma 5)), .ref ((ma 6)), .ref ((ma 7)), .ref ((ma 8)), .ref ((ma 9)), .ref ((ma 10)), .ref ((ma 11)), .ref ((ma 12)), .ref ((ma 13)), .ref ((ma 14)), .ref ((ma 15)), .ref ((ma 16)), .double bb, .int bf, .int (nI (nw A)), .ref ((ma 20)), .ref ((ma 21)), .ref ((ma 22)), .ref ((ma 23)), .int (nI (np A)), .ref ((ma 25)), .ref ((ma 26))] := by rw [ef_1]; exact (va_up_ne _ _ (mne hmi (by decide) (by decide) (show 0 ≠ 15 by decide))).trans hg0
  have hF_3 : f_1 ((ma 15)) = eD K 120 sg9 := by rw [ef_1]; exact va_up_self _ _ _
  have hF_4 : f_1 ((ma 16)) = eI K 120 (fun j => nI (cg j)) := by rw [ef_1]; exact (va_up_ne _ _ (mne hmi (by decide) (by decide) (show 16 ≠ 15 by decide))).trans hg16
  obtain ⟨f_5, ef_5⟩ : ∃ z9, z9 = va_up f_1 ((ma 16)) (eI K 120 (fun j => nI (cg9 j))) := ⟨_, rfl⟩
  rw [← ef_5] at hM
  have hF_6 : f_5 ((ma 0)) = eS 8 [.int t, .int (nI (ns A)), .ref ((ma 2)), .ref ((ma 3)), .ref ((ma 4)), .ref ((ma 5)), .ref ((ma 6)), .ref ((ma 7)), .ref ((ma 8)), .ref ((ma 9)), .ref ((ma 10)), .ref ((ma 11)), .ref ((ma 12)), .ref ((ma 13)), .ref ((ma 14)), .ref ((ma 15)), .ref ((ma 16)), .double bb, .int bf, .int (nI (nw A)), .ref ((ma 20)), .ref ((ma 21)), .ref ((ma 22)), .ref ((ma 23)), .int (nI (np A)), .ref ((ma 25)), .ref ((ma 26))] := by rw [ef_5]; exact (va_up_ne _ _ (mne hmi (by decide) (by decide) (show 0 ≠ 16 by decide))).trans hF_2
  have hF_7 : f_5 ((ma 15)) = eD K 120 sg9 := by rw [ef_5]; exact (va_up_ne _ _ (mne hmi (by decide) (by decide) (show 15 ≠ 16 by decide))).trans hF_3
  have hF_8 : f_5 ((ma 16)) = eI K 120 (fun j => nI (cg9 j)) := by rw [ef_5]; exact va_up_self _ _ _
  refine lv_aload_n hx hb dX7_scores_12 rfl (lv_at hl 1 rfl) ?_
  refine lv_iconst (v := (-1)) hx hb dX7_scores_13 (by decide) ?_
  refine z_put (fs' := [.int t, .int (nI (ns A)), .ref ((ma 2)), .ref ((ma 3)), .ref ((ma 4)), .ref ((ma 5)), .ref ((ma 6)), .ref ((ma 7)), .ref ((ma 8)), .ref ((ma 9)), .ref ((ma 10)), .ref ((ma 11)), .ref ((ma 12)), .ref ((ma 13)), .ref ((ma 14)), .ref ((ma 15)), .ref ((ma 16)), .double bb, .int ((-1)), .int (nI (nw A)), .ref ((ma 20)), .ref ((ma 21)), .ref ((ma 22)), .ref ((ma 23)), .int (nI (np A)), .ref ((ma 25)), .ref ((ma 26))]) hC hM (hmm 0 (by decide)) hF_6 zcl_X7 (by decide) zl_X7_120 rfl rfl (by rfl) (Nat.le_of_ble_eq_true rfl) rfl dX7_scores_14 (fun H locs hM => ?_)
  obtain ⟨f_9, ef_9⟩ : ∃ z9, z9 = va_up f_5 ((ma 0)) (eS 8 [.int t, .int (nI (ns A)), .ref ((ma 2)), .ref ((ma 3)), .ref ((ma 4)), .ref ((ma 5)), .ref ((ma 6)), .ref ((ma 7)), .ref ((ma 8)), .ref ((ma 9)), .ref ((ma 10)), .ref ((ma 11)), .ref ((ma 12)), .ref ((ma 13)), .ref ((ma 14)), .ref ((ma 15)), .ref ((ma 16)), .double bb, .int ((-1)), .int (nI (nw A)), .ref ((ma 20)), .ref ((ma 21)), .ref ((ma 22)), .ref ((ma 23)), .int (nI (np A)), .ref ((ma 25)), .ref ((ma 26))]) := ⟨_, rfl⟩
  rw [← ef_9] at hM
  have hF_10 : f_9 ((ma 0)) = eS 8 [.int t, .int (nI (ns A)), .ref ((ma 2)), .ref ((ma 3)), .ref ((ma 4)), .ref ((ma 5)), .ref ((ma 6)), .ref ((ma 7)), .ref ((ma 8)), .ref ((ma 9)), .ref ((ma 10)), .ref ((ma 11)), .ref ((ma 12)), .ref ((ma 13)), .ref ((ma 14)), .ref ((ma 15)), .ref ((ma 16)), .double bb, .int ((-1)), .int (nI (nw A)), .ref ((ma 20)), .ref ((ma 21)), .ref ((ma 22)), .ref ((ma 23)), .int (nI (np A)), .ref ((ma 25)), .ref ((ma 26))] := by rw [ef_9]; exact va_up_self _ _ _
  have hF_11 : f_9 ((ma 15)) = eD K 120 sg9 := by rw [ef_9]; exact (va_up_ne _ _ (mne hmi (by decide) (by decide) (show 15 ≠ 0 by decide))).trans hF_7
  have hF_12 : f_9 ((ma 16)) = eI K 120 (fun j => nI (cg9 j)) := by rw [ef_9]; exact (va_up_ne _ _ (mne hmi (by decide) (by decide) (show 16 ≠ 0 by decide))).trans hF_8
  refine lv_iconst (v := nI 0) hx hb dX7_scores_17 (by decide) ?_
  refine lv_istore (lv' := [(5, .int (nI 0)), (3, .double (mnT (gk A i))), (0, .ref ((ma 0))), (1, .int (nI i)), (2, .int (nI p9))]) hx hb dX7_scores_18 hl (by decide) rfl (fun ls hl => ?_)
  have LOOP20 : ∀ k, k ≤ p9 → ∀ (ls : Array Slot) (H : Heap) (locs : List Loc) (f1 : Nat → va_E), lv_has ls 9 [(5, .int (nI k)), (3, .double (mnT (gk A i))), (0, .ref ((ma 0))), (1, .int (nI i)), (2, .int (nI p9))] → zM base K L f1 s H locs → f1 ((ma 0)) = eS 8 [.int t, .int (nI (ns A)), .ref ((ma 2)), .ref ((ma 3)), .ref ((ma 4)), .ref ((ma 5)), .ref ((ma 6)), .ref ((ma 7)), .ref ((ma 8)), .ref ((ma 9)), .ref ((ma 10)), .ref ((ma 11)), .ref ((ma 12)), .ref ((ma 13)), .ref ((ma 14)), .ref ((ma 15)), .ref ((ma 16)), .double (grB bb (mnT (gk A i)) (fS (gk A i) p9 1000) (fC (gk A i) p9 1000) (bfG (mnT (gk A i)) (fS (gk A i) p9 1000) (fC (gk A i) p9 1000) k)), .int (oN (bfG (mnT (gk A i)) (fS (gk A i) p9 1000) (fC (gk A i) p9 1000) k)), .int (nI (nw A)), .ref ((ma 20)), .ref ((ma 21)), .ref ((ma 22)), .ref ((ma 23)), .int (nI (np A)), .ref ((ma 25)), .ref ((ma 26))] → f1 ((ma 15)) = eD K 120 sg9 → f1 ((ma 16)) = eI K 120 (fun j => nI (cg9 j)) → (∀ q, q ≠ ((ma 0)) → f1 q = f_9 q) → W p l e (zr 1 0 0 24) s m args below meth c H locs 0 0 Q (F0 m 20 ls []) := by
    refine z_down p9 ?_ ?_
    · intro ls H locs f1 hl hM hG0 hG1 hG2 hfr
      refine lv_iload hx hb dX7_scores_20 (lv_at hl 0 rfl) ?_
      refine lv_iload_n hx hb dX7_scores_22 rfl (lv_at hl 4 rfl) ?_
      refine z_icmp_ge (tgt := 132) hx hb (nI_toInt (by omega)) (nI_toInt (by omega)) dX7_scores_23 (by decide) (fun c_23 => ?_) (fun c_23 => ?_)
      · rw [← hQ]
        exact z_vret hC hM hr hlk (by decide) (by decide) ⟨rfl, sg9, cg9, fun q h1 h2 h3 => by rw [hfr q h1, ef_9, ef_5, ef_1]; simp only [va_up, h1, h2, h3, if_false], (by obtain ⟨b, hb9, -, -⟩ := bFo_some (g := gk A i) (p := p9) (by omega) (by omega); rw [bFo, bfS, hG0, hb9, ← scB_at hb9]; rfl), hG1, hG2⟩ dX7_scores_132
      · exact absurd c_23 (by omega)
    · intro k hk ih ls H locs f1 hl hM hG0 hG1 hG2 hfr
      have hcl := fC_le (gk A i) p9 1000 k
      cases hbf : bfG (mnT (gk A i)) (fS (gk A i) p9 1000) (fC (gk A i) p9 1000) k with
      | none =>
        rw [hbf] at hG0
        have hG0 : f1 (ma 0) = eS 8 [.int t, .int (nI (ns A)), .ref ((ma 2)), .ref ((ma 3)), .ref ((ma 4)), .ref ((ma 5)), .ref ((ma 6)), .ref ((ma 7)), .ref ((ma 8)), .ref ((ma 9)), .ref ((ma 10)), .ref ((ma 11)), .ref ((ma 12)), .ref ((ma 13)), .ref ((ma 14)), .ref ((ma 15)), .ref ((ma 16)), .double bb, .int ((-1)), .int (nI (nw A)), .ref ((ma 20)), .ref ((ma 21)), .ref ((ma 22)), .ref ((ma 23)), .int (nI (np A)), .ref ((ma 25)), .ref ((ma 26))] := hG0
        refine lv_iload hx hb dX7_scores_20 (lv_at hl 0 rfl) ?_
        refine lv_iload_n hx hb dX7_scores_22 rfl (lv_at hl 4 rfl) ?_
        refine z_icmp_ge (tgt := 132) hx hb (nI_toInt (by omega)) (nI_toInt (by omega)) dX7_scores_23 (by decide) (fun c_23 => ?_) (fun c_23 => ?_)
        · exact absurd c_23 (by omega)
        · refine lv_aload_n hx hb dX7_scores_26 rfl (lv_at hl 2 rfl) ?_
          refine z_get hC hM (hmm 0 (by decide)) hG0 zcl_X7 (by decide) zl_X7_54 rfl dX7_scores_27 ?_
          refine lv_iload hx hb dX7_scores_30 (lv_at hl 0 rfl) ?_
          refine z_iald hC hM (hmm 16 (by decide)) hG2 (by omega) (by omega) dX7_scores_32 ?_
          rw [(hs9 k hk).2]
          refine z_if_le (tgt := 126) hx hb (nI_toInt (by omega)) dX7_scores_33 (by decide) (fun c_33 => ?_) (fun c_33 => ?_)
          · refine lv_iinc (v := nI (k + 1)) (lv' := [(5, .int (nI (k + 1))), (3, .double (mnT (gk A i))), (0, .ref ((ma 0))), (1, .int (nI i)), (2, .int (nI p9))]) hx hb dX7_scores_126 hl (k := 0) rfl (nI_add k 1) (by decide) rfl (fun ls hl => ?_)
            refine lv_goto (tgt := 20) hx hb dX7_scores_129 (by decide) ?_
            have e9 := (bfG_no (by omega)).trans hbf
            exact ih ls H locs f1 (lv_sub hl [0, 1, 2, 3, 4] rfl) hM (by rw [e9]; exact hG0) hG1 hG2 hfr
          · have hcp : 0 < fC (gk A i) p9 1000 k := by omega
            have hF3 := FP_fold hFP (by omega) k hcp
            rw [mf, if_pos hcp] at hF3
            refine lv_dload_n hx hb dX7_scores_36 rfl (lv_at hl 1 rfl) ?_
            refine lv_aload_n hx hb dX7_scores_37 rfl (lv_at hl 2 rfl) ?_
            refine z_get hC hM (hmm 0 (by decide)) hG0 zcl_X7 (by decide) zl_X7_51 rfl dX7_scores_38 ?_
            refine lv_iload hx hb dX7_scores_41 (lv_at hl 0 rfl) ?_
            refine z_dald hC hM (hmm 15 (by decide)) hG1 (by omega) (by omega) dX7_scores_43 ?_
            rw [(hs9 k hk).1]
            refine lv_aload_n hx hb dX7_scores_44 rfl (lv_at hl 2 rfl) ?_
            refine z_get hC hM (hmm 0 (by decide)) hG0 zcl_X7 (by decide) zl_X7_54 rfl dX7_scores_45 ?_
            refine lv_iload hx hb dX7_scores_48 (lv_at hl 0 rfl) ?_
            refine z_iald hC hM (hmm 16 (by decide)) hG2 (by omega) (by omega) dX7_scores_50 ?_
            rw [(hs9 k hk).2]
            refine lv_i2d hx hb dX7_scores_51 ?_
            refine lv_ddiv hx hb dX7_scores_52 hF3.1 ?_
            refine lv_dsub hx hb dX7_scores_53 hF3.2.1 ?_
            refine lv_aload_n hx hb dX7_scores_54 rfl (lv_at hl 2 rfl) ?_
            refine z_get hC hM (hmm 0 (by decide)) hG0 zcl_X7 (by decide) zl_X7_54 rfl dX7_scores_55 ?_
            refine lv_iload hx hb dX7_scores_58 (lv_at hl 0 rfl) ?_
            refine z_iald hC hM (hmm 16 (by decide)) hG2 (by omega) (by omega) dX7_scores_60 ?_
            rw [(hs9 k hk).2]
            refine lv_i2d hx hb dX7_scores_61 ?_
            refine lv_dmul hx hb dX7_scores_62 hF3.2.2 ?_
            refine lv_dstore (lv' := [(6, .double (FP.dmul (FP.dsub (mnT (gk A i)) (FP.ddiv (fS (gk A i) p9 1000 k) (FP.i2d (nI (fC (gk A i) p9 1000 k))))) (FP.i2d (nI (fC (gk A i) p9 1000 k))))), (5, .int (nI k)), (3, .double (mnT (gk A i))), (0, .ref ((ma 0))), (1, .int (nI i)), (2, .int (nI p9))]) hx hb dX7_scores_63 hl (by decide) rfl (fun ls hl => ?_)
            have e7 : FP.dmul (FP.dsub (mnT (gk A i)) (FP.ddiv (fS (gk A i) p9 1000 k) (FP.i2d (nI (fC (gk A i) p9 1000 k))))) (FP.i2d (nI (fC (gk A i) p9 1000 k))) = sf (mnT (gk A i)) (fS (gk A i) p9 1000) (fC (gk A i) p9 1000) k := by rw [sf, mf, if_pos hcp, if_pos hcp]; rfl
            rw [e7] at hl
            refine lv_aload_n hx hb dX7_scores_65 rfl (lv_at hl 3 rfl) ?_
            refine z_get hC hM (hmm 0 (by decide)) hG0 zcl_X7 (by decide) zl_X7_120 rfl dX7_scores_66 ?_
            refine lv_iconst (v := (-1)) hx hb dX7_scores_69 (by decide) ?_
            refine z_icmp_eq (tgt := 83) hx hb m1_toInt m1_toInt dX7_scores_70 (by decide) (fun c_70 => ?_) (fun c_70 => ?_)
            · refine lv_iconst (v := nI 1) hx hb dX7_scores_83 (by decide) ?_
              refine lv_goto (tgt := 88) hx hb dX7_scores_84 (by decide) ?_
              refine lv_istore (lv' := [(8, .int (nI 1)), (6, .double (sf (mnT (gk A i)) (fS (gk A i) p9 1000) (fC (gk A i) p9 1000) k)), (5, .int (nI k)), (3, .double (mnT (gk A i))), (0, .ref ((ma 0))), (1, .int (nI i)), (2, .int (nI p9))]) hx hb dX7_scores_88 hl (by decide) rfl (fun ls hl => ?_)
              refine lv_aload_n hx hb dX7_scores_90 rfl (lv_at hl 4 rfl) ?_
              refine lv_iload hx hb dX7_scores_91 (lv_at hl 0 rfl) ?_
              refine z_if_eq (tgt := 101) hx hb (nI_toInt (by decide)) dX7_scores_93 (by decide) (fun c_93 => ?_) (fun c_93 => ?_)
              · exact absurd c_93 (by omega)
              · refine lv_dload hx hb dX7_scores_96 (lv_at hl 1 rfl) ?_
                refine lv_goto (tgt := 105) hx hb dX7_scores_98 (by decide) ?_
                refine z_put (fs' := [.int t, .int (nI (ns A)), .ref ((ma 2)), .ref ((ma 3)), .ref ((ma 4)), .ref ((ma 5)), .ref ((ma 6)), .ref ((ma 7)), .ref ((ma 8)), .ref ((ma 9)), .ref ((ma 10)), .ref ((ma 11)), .ref ((ma 12)), .ref ((ma 13)), .ref ((ma 14)), .ref ((ma 15)), .ref ((ma 16)), .double (sf (mnT (gk A i)) (fS (gk A i) p9 1000) (fC (gk A i) p9 1000) k), .int ((-1)), .int (nI (nw A)), .ref ((ma 20)), .ref ((ma 21)), .ref ((ma 22)), .ref ((ma 23)), .int (nI (np A)), .ref ((ma 25)), .ref ((ma 26))]) hC hM (hmm 0 (by decide)) hG0 zcl_X7 (by decide) zl_X7_123 rfl rfl (by rfl) (Nat.le_of_ble_eq_true rfl) rfl dX7_scores_105 (fun H locs hM => ?_)
                obtain ⟨f_13, ef_13⟩ : ∃ z9, z9 = va_up f1 ((ma 0)) (eS 8 [.int t, .int (nI (ns A)), .ref ((ma 2)), .ref ((ma 3)), .ref ((ma 4)), .ref ((ma 5)), .ref ((ma 6)), .ref ((ma 7)), .ref ((ma 8)), .ref ((ma 9)), .ref ((ma 10)), .ref ((ma 11)), .ref ((ma 12)), .ref ((ma 13)), .ref ((ma 14)), .ref ((ma 15)), .ref ((ma 16)), .double (sf (mnT (gk A i)) (fS (gk A i) p9 1000) (fC (gk A i) p9 1000) k), .int ((-1)), .int (nI (nw A)), .ref ((ma 20)), .ref ((ma 21)), .ref ((ma 22)), .ref ((ma 23)), .int (nI (np A)), .ref ((ma 25)), .ref ((ma 26))]) := ⟨_, rfl⟩
                rw [← ef_13] at hM
                have hF_14 : f_13 ((ma 0)) = eS 8 [.int t, .int (nI (ns A)), .ref ((ma 2)), .ref ((ma 3)), .ref ((ma 4)), .ref ((ma 5)), .ref ((ma 6)), .ref ((ma 7)), .ref ((ma 8)), .ref ((ma 9)), .ref ((ma 10)), .ref ((ma 11)), .ref ((ma 12)), .ref ((ma 13)), .ref ((ma 14)), .ref ((ma 15)), .ref ((ma 16)), .double (sf (mnT (gk A i)) (fS (gk A i) p9 1000) (fC (gk A i) p9 1000) k), .int ((-1)), .int (nI (nw A)), .ref ((ma 20)), .ref ((ma 21)), .ref ((ma 22)), .ref ((ma 23)), .int (nI (np A)), .ref ((ma 25)), .ref ((ma 26))] := by rw [ef_13]; exact va_up_self _ _ _
                have hF_15 : f_13 ((ma 15)) = eD K 120 sg9 := by rw [ef_13]; exact (va_up_ne _ _ (mne hmi (by decide) (by decide) (show 15 ≠ 0 by decide))).trans hG1
                have hF_16 : f_13 ((ma 16)) = eI K 120 (fun j => nI (cg9 j)) := by rw [ef_13]; exact (va_up_ne _ _ (mne hmi (by decide) (by decide) (show 16 ≠ 0 by decide))).trans hG2
                refine lv_aload_n hx hb dX7_scores_108 rfl (lv_at hl 4 rfl) ?_
                refine lv_iload hx hb dX7_scores_109 (lv_at hl 0 rfl) ?_
                refine z_if_eq (tgt := 119) hx hb (nI_toInt (by decide)) dX7_scores_111 (by decide) (fun c_111 => ?_) (fun c_111 => ?_)
                · exact absurd c_111 (by omega)
                · refine lv_iload hx hb dX7_scores_114 (lv_at hl 2 rfl) ?_
                  refine lv_goto (tgt := 123) hx hb dX7_scores_116 (by decide) ?_
                  refine z_put (fs' := [.int t, .int (nI (ns A)), .ref ((ma 2)), .ref ((ma 3)), .ref ((ma 4)), .ref ((ma 5)), .ref ((ma 6)), .ref ((ma 7)), .ref ((ma 8)), .ref ((ma 9)), .ref ((ma 10)), .ref ((ma 11)), .ref ((ma 12)), .ref ((ma 13)), .ref ((ma 14)), .ref ((ma 15)), .ref ((ma 16)), .double (sf (mnT (gk A i)) (fS (gk A i) p9 1000) (fC (gk A i) p9 1000) k), .int (nI k), .int (nI (nw A)), .ref ((ma 20)), .ref ((ma 21)), .ref ((ma 22)), .ref ((ma 23)), .int (nI (np A)), .ref ((ma 25)), .ref ((ma 26))]) hC hM (hmm 0 (by decide)) hF_14 zcl_X7 (by decide) zl_X7_120 rfl rfl (by rfl) (Nat.le_of_ble_eq_true rfl) rfl dX7_scores_123 (fun H locs hM => ?_)
                  obtain ⟨f_17, ef_17⟩ : ∃ z9, z9 = va_up f_13 ((ma 0)) (eS 8 [.int t, .int (nI (ns A)), .ref ((ma 2)), .ref ((ma 3)), .ref ((ma 4)), .ref ((ma 5)), .ref ((ma 6)), .ref ((ma 7)), .ref ((ma 8)), .ref ((ma 9)), .ref ((ma 10)), .ref ((ma 11)), .ref ((ma 12)), .ref ((ma 13)), .ref ((ma 14)), .ref ((ma 15)), .ref ((ma 16)), .double (sf (mnT (gk A i)) (fS (gk A i) p9 1000) (fC (gk A i) p9 1000) k), .int (nI k), .int (nI (nw A)), .ref ((ma 20)), .ref ((ma 21)), .ref ((ma 22)), .ref ((ma 23)), .int (nI (np A)), .ref ((ma 25)), .ref ((ma 26))]) := ⟨_, rfl⟩
                  rw [← ef_17] at hM
                  have hF_18 : f_17 ((ma 0)) = eS 8 [.int t, .int (nI (ns A)), .ref ((ma 2)), .ref ((ma 3)), .ref ((ma 4)), .ref ((ma 5)), .ref ((ma 6)), .ref ((ma 7)), .ref ((ma 8)), .ref ((ma 9)), .ref ((ma 10)), .ref ((ma 11)), .ref ((ma 12)), .ref ((ma 13)), .ref ((ma 14)), .ref ((ma 15)), .ref ((ma 16)), .double (sf (mnT (gk A i)) (fS (gk A i) p9 1000) (fC (gk A i) p9 1000) k), .int (nI k), .int (nI (nw A)), .ref ((ma 20)), .ref ((ma 21)), .ref ((ma 22)), .ref ((ma 23)), .int (nI (np A)), .ref ((ma 25)), .ref ((ma 26))] := by rw [ef_17]; exact va_up_self _ _ _
                  have hF_19 : f_17 ((ma 15)) = eD K 120 sg9 := by rw [ef_17]; exact (va_up_ne _ _ (mne hmi (by decide) (by decide) (show 15 ≠ 0 by decide))).trans hF_15
                  have hF_20 : f_17 ((ma 16)) = eI K 120 (fun j => nI (cg9 j)) := by rw [ef_17]; exact (va_up_ne _ _ (mne hmi (by decide) (by decide) (show 16 ≠ 0 by decide))).trans hF_16
                  refine lv_iinc (v := nI (k + 1)) (lv' := [(5, .int (nI (k + 1))), (8, .int (nI 1)), (6, .double (sf (mnT (gk A i)) (fS (gk A i) p9 1000) (fC (gk A i) p9 1000) k)), (3, .double (mnT (gk A i))), (0, .ref ((ma 0))), (1, .int (nI i)), (2, .int (nI p9))]) hx hb dX7_scores_126 hl (k := 2) rfl (nI_add k 1) (by decide) rfl (fun ls hl => ?_)
                  refine lv_goto (tgt := 20) hx hb dX7_scores_129 (by decide) ?_
                  have e9 := bfG_1 hcp hbf
                  have hfr : ∀ q, q ≠ ((ma 0)) → f_17 q = f_9 q := fun q hq0 => by
                    rw [ef_17, ef_13]
                    simp only [va_up, hq0, if_false]
                    exact hfr q hq0
                  exact ih ls H locs f_17 (lv_sub hl [0, 3, 4, 5, 6] rfl) hM (by rw [e9]; exact hF_18) hF_19 hF_20 hfr
            · exact absurd rfl c_70
      | some b =>
        rw [hbf] at hG0
        have hG0 : f1 (ma 0) = eS 8 [.int t, .int (nI (ns A)), .ref ((ma 2)), .ref ((ma 3)), .ref ((ma 4)), .ref ((ma 5)), .ref ((ma 6)), .ref ((ma 7)), .ref ((ma 8)), .ref ((ma 9)), .ref ((ma 10)), .ref ((ma 11)), .ref ((ma 12)), .ref ((ma 13)), .ref ((ma 14)), .ref ((ma 15)), .ref ((ma 16)), .double (sf (mnT (gk A i)) (fS (gk A i) p9 1000) (fC (gk A i) p9 1000) b), .int (nI b), .int (nI (nw A)), .ref ((ma 20)), .ref ((ma 21)), .ref ((ma 22)), .ref ((ma 23)), .int (nI (np A)), .ref ((ma 25)), .ref ((ma 26))] := hG0
        have hblt := (bfG_lt _ _ hbf).1
        refine lv_iload hx hb dX7_scores_20 (lv_at hl 0 rfl) ?_
        refine lv_iload_n hx hb dX7_scores_22 rfl (lv_at hl 4 rfl) ?_
        refine z_icmp_ge (tgt := 132) hx hb (nI_toInt (by omega)) (nI_toInt (by omega)) dX7_scores_23 (by decide) (fun c_23 => ?_) (fun c_23 => ?_)
        · exact absurd c_23 (by omega)
        · refine lv_aload_n hx hb dX7_scores_26 rfl (lv_at hl 2 rfl) ?_
          refine z_get hC hM (hmm 0 (by decide)) hG0 zcl_X7 (by decide) zl_X7_54 rfl dX7_scores_27 ?_
          refine lv_iload hx hb dX7_scores_30 (lv_at hl 0 rfl) ?_
          refine z_iald hC hM (hmm 16 (by decide)) hG2 (by omega) (by omega) dX7_scores_32 ?_
          rw [(hs9 k hk).2]
          refine z_if_le (tgt := 126) hx hb (nI_toInt (by omega)) dX7_scores_33 (by decide) (fun c_33 => ?_) (fun c_33 => ?_)
          · refine lv_iinc (v := nI (k + 1)) (lv' := [(5, .int (nI (k + 1))), (3, .double (mnT (gk A i))), (0, .ref ((ma 0))), (1, .int (nI i)), (2, .int (nI p9))]) hx hb dX7_scores_126 hl (k := 0) rfl (nI_add k 1) (by decide) rfl (fun ls hl => ?_)
            refine lv_goto (tgt := 20) hx hb dX7_scores_129 (by decide) ?_
            have e9 := (bfG_no (by omega)).trans hbf
            exact ih ls H locs f1 (lv_sub hl [0, 1, 2, 3, 4] rfl) hM (by rw [e9]; exact hG0) hG1 hG2 hfr
          · have hcp : 0 < fC (gk A i) p9 1000 k := by omega
            have hF3 := FP_fold hFP (by omega) k hcp
            rw [mf, if_pos hcp] at hF3
            refine lv_dload_n hx hb dX7_scores_36 rfl (lv_at hl 1 rfl) ?_
            refine lv_aload_n hx hb dX7_scores_37 rfl (lv_at hl 2 rfl) ?_
            refine z_get hC hM (hmm 0 (by decide)) hG0 zcl_X7 (by decide) zl_X7_51 rfl dX7_scores_38 ?_
            refine lv_iload hx hb dX7_scores_41 (lv_at hl 0 rfl) ?_
            refine z_dald hC hM (hmm 15 (by decide)) hG1 (by omega) (by omega) dX7_scores_43 ?_
            rw [(hs9 k hk).1]
            refine lv_aload_n hx hb dX7_scores_44 rfl (lv_at hl 2 rfl) ?_
            refine z_get hC hM (hmm 0 (by decide)) hG0 zcl_X7 (by decide) zl_X7_54 rfl dX7_scores_45 ?_
            refine lv_iload hx hb dX7_scores_48 (lv_at hl 0 rfl) ?_
            refine z_iald hC hM (hmm 16 (by decide)) hG2 (by omega) (by omega) dX7_scores_50 ?_
            rw [(hs9 k hk).2]
            refine lv_i2d hx hb dX7_scores_51 ?_
            refine lv_ddiv hx hb dX7_scores_52 hF3.1 ?_
            refine lv_dsub hx hb dX7_scores_53 hF3.2.1 ?_
            refine lv_aload_n hx hb dX7_scores_54 rfl (lv_at hl 2 rfl) ?_
            refine z_get hC hM (hmm 0 (by decide)) hG0 zcl_X7 (by decide) zl_X7_54 rfl dX7_scores_55 ?_
            refine lv_iload hx hb dX7_scores_58 (lv_at hl 0 rfl) ?_
            refine z_iald hC hM (hmm 16 (by decide)) hG2 (by omega) (by omega) dX7_scores_60 ?_
            rw [(hs9 k hk).2]
            refine lv_i2d hx hb dX7_scores_61 ?_
            refine lv_dmul hx hb dX7_scores_62 hF3.2.2 ?_
            refine lv_dstore (lv' := [(6, .double (FP.dmul (FP.dsub (mnT (gk A i)) (FP.ddiv (fS (gk A i) p9 1000 k) (FP.i2d (nI (fC (gk A i) p9 1000 k))))) (FP.i2d (nI (fC (gk A i) p9 1000 k))))), (5, .int (nI k)), (3, .double (mnT (gk A i))), (0, .ref ((ma 0))), (1, .int (nI i)), (2, .int (nI p9))]) hx hb dX7_scores_63 hl (by decide) rfl (fun ls hl => ?_)
            have e7 : FP.dmul (FP.dsub (mnT (gk A i)) (FP.ddiv (fS (gk A i) p9 1000 k) (FP.i2d (nI (fC (gk A i) p9 1000 k))))) (FP.i2d (nI (fC (gk A i) p9 1000 k))) = sf (mnT (gk A i)) (fS (gk A i) p9 1000) (fC (gk A i) p9 1000) k := by rw [sf, mf, if_pos hcp, if_pos hcp]; rfl
            rw [e7] at hl
            refine lv_aload_n hx hb dX7_scores_65 rfl (lv_at hl 3 rfl) ?_
            refine z_get hC hM (hmm 0 (by decide)) hG0 zcl_X7 (by decide) zl_X7_120 rfl dX7_scores_66 ?_
            refine lv_iconst (v := (-1)) hx hb dX7_scores_69 (by decide) ?_
            refine z_icmp_eq (tgt := 83) hx hb (nI_toInt (by omega)) m1_toInt dX7_scores_70 (by decide) (fun c_70 => ?_) (fun c_70 => ?_)
            · exact absurd c_70 (by omega)
            · refine lv_dload hx hb dX7_scores_73 (lv_at hl 0 rfl) ?_
              refine lv_aload_n hx hb dX7_scores_75 rfl (lv_at hl 3 rfl) ?_
              refine z_get hC hM (hmm 0 (by decide)) hG0 zcl_X7 (by decide) zl_X7_123 rfl dX7_scores_76 ?_
              refine lv_dcmp hx hb dX7_scores_79 ?_
              refine z_if_le (tgt := 87) hx hb (dc_l _ _) dX7_scores_80 (by decide) (fun c_80 => ?_) (fun c_80 => ?_)
              · refine lv_iconst (v := nI 0) hx hb dX7_scores_87 (by decide) ?_
                refine lv_istore (lv' := [(8, .int (nI 0)), (6, .double (sf (mnT (gk A i)) (fS (gk A i) p9 1000) (fC (gk A i) p9 1000) k)), (5, .int (nI k)), (3, .double (mnT (gk A i))), (0, .ref ((ma 0))), (1, .int (nI i)), (2, .int (nI p9))]) hx hb dX7_scores_88 hl (by decide) rfl (fun ls hl => ?_)
                refine lv_aload_n hx hb dX7_scores_90 rfl (lv_at hl 4 rfl) ?_
                refine lv_iload hx hb dX7_scores_91 (lv_at hl 0 rfl) ?_
                refine z_if_eq (tgt := 101) hx hb (nI_toInt (by decide)) dX7_scores_93 (by decide) (fun c_93 => ?_) (fun c_93 => ?_)
                · refine lv_aload_n hx hb dX7_scores_101 rfl (lv_at hl 4 rfl) ?_
                  refine z_get hC hM (hmm 0 (by decide)) hG0 zcl_X7 (by decide) zl_X7_123 rfl dX7_scores_102 ?_
                  refine z_put (fs' := [.int t, .int (nI (ns A)), .ref ((ma 2)), .ref ((ma 3)), .ref ((ma 4)), .ref ((ma 5)), .ref ((ma 6)), .ref ((ma 7)), .ref ((ma 8)), .ref ((ma 9)), .ref ((ma 10)), .ref ((ma 11)), .ref ((ma 12)), .ref ((ma 13)), .ref ((ma 14)), .ref ((ma 15)), .ref ((ma 16)), .double (sf (mnT (gk A i)) (fS (gk A i) p9 1000) (fC (gk A i) p9 1000) b), .int (nI b), .int (nI (nw A)), .ref ((ma 20)), .ref ((ma 21)), .ref ((ma 22)), .ref ((ma 23)), .int (nI (np A)), .ref ((ma 25)), .ref ((ma 26))]) hC hM (hmm 0 (by decide)) hG0 zcl_X7 (by decide) zl_X7_123 rfl rfl (by rfl) (Nat.le_of_ble_eq_true rfl) rfl dX7_scores_105 (fun H locs hM => ?_)
                  obtain ⟨f_21, ef_21⟩ : ∃ z9, z9 = va_up f1 ((ma 0)) (eS 8 [.int t, .int (nI (ns A)), .ref ((ma 2)), .ref ((ma 3)), .ref ((ma 4)), .ref ((ma 5)), .ref ((ma 6)), .ref ((ma 7)), .ref ((ma 8)), .ref ((ma 9)), .ref ((ma 10)), .ref ((ma 11)), .ref ((ma 12)), .ref ((ma 13)), .ref ((ma 14)), .ref ((ma 15)), .ref ((ma 16)), .double (sf (mnT (gk A i)) (fS (gk A i) p9 1000) (fC (gk A i) p9 1000) b), .int (nI b), .int (nI (nw A)), .ref ((ma 20)), .ref ((ma 21)), .ref ((ma 22)), .ref ((ma 23)), .int (nI (np A)), .ref ((ma 25)), .ref ((ma 26))]) := ⟨_, rfl⟩
                  rw [← ef_21] at hM
                  have hF_22 : f_21 ((ma 0)) = eS 8 [.int t, .int (nI (ns A)), .ref ((ma 2)), .ref ((ma 3)), .ref ((ma 4)), .ref ((ma 5)), .ref ((ma 6)), .ref ((ma 7)), .ref ((ma 8)), .ref ((ma 9)), .ref ((ma 10)), .ref ((ma 11)), .ref ((ma 12)), .ref ((ma 13)), .ref ((ma 14)), .ref ((ma 15)), .ref ((ma 16)), .double (sf (mnT (gk A i)) (fS (gk A i) p9 1000) (fC (gk A i) p9 1000) b), .int (nI b), .int (nI (nw A)), .ref ((ma 20)), .ref ((ma 21)), .ref ((ma 22)), .ref ((ma 23)), .int (nI (np A)), .ref ((ma 25)), .ref ((ma 26))] := by rw [ef_21]; exact va_up_self _ _ _
                  have hF_23 : f_21 ((ma 15)) = eD K 120 sg9 := by rw [ef_21]; exact (va_up_ne _ _ (mne hmi (by decide) (by decide) (show 15 ≠ 0 by decide))).trans hG1
                  have hF_24 : f_21 ((ma 16)) = eI K 120 (fun j => nI (cg9 j)) := by rw [ef_21]; exact (va_up_ne _ _ (mne hmi (by decide) (by decide) (show 16 ≠ 0 by decide))).trans hG2
                  refine lv_aload_n hx hb dX7_scores_108 rfl (lv_at hl 4 rfl) ?_
                  refine lv_iload hx hb dX7_scores_109 (lv_at hl 0 rfl) ?_
                  refine z_if_eq (tgt := 119) hx hb (nI_toInt (by decide)) dX7_scores_111 (by decide) (fun c_111 => ?_) (fun c_111 => ?_)
                  · refine lv_aload_n hx hb dX7_scores_119 rfl (lv_at hl 4 rfl) ?_
                    refine z_get hC hM (hmm 0 (by decide)) hF_22 zcl_X7 (by decide) zl_X7_120 rfl dX7_scores_120 ?_
                    refine z_put (fs' := [.int t, .int (nI (ns A)), .ref ((ma 2)), .ref ((ma 3)), .ref ((ma 4)), .ref ((ma 5)), .ref ((ma 6)), .ref ((ma 7)), .ref ((ma 8)), .ref ((ma 9)), .ref ((ma 10)), .ref ((ma 11)), .ref ((ma 12)), .ref ((ma 13)), .ref ((ma 14)), .ref ((ma 15)), .ref ((ma 16)), .double (sf (mnT (gk A i)) (fS (gk A i) p9 1000) (fC (gk A i) p9 1000) b), .int (nI b), .int (nI (nw A)), .ref ((ma 20)), .ref ((ma 21)), .ref ((ma 22)), .ref ((ma 23)), .int (nI (np A)), .ref ((ma 25)), .ref ((ma 26))]) hC hM (hmm 0 (by decide)) hF_22 zcl_X7 (by decide) zl_X7_120 rfl rfl (by rfl) (Nat.le_of_ble_eq_true rfl) rfl dX7_scores_123 (fun H locs hM => ?_)
                    obtain ⟨f_25, ef_25⟩ : ∃ z9, z9 = va_up f_21 ((ma 0)) (eS 8 [.int t, .int (nI (ns A)), .ref ((ma 2)), .ref ((ma 3)), .ref ((ma 4)), .ref ((ma 5)), .ref ((ma 6)), .ref ((ma 7)), .ref ((ma 8)), .ref ((ma 9)), .ref ((ma 10)), .ref ((ma 11)), .ref ((ma 12)), .ref ((ma 13)), .ref ((ma 14)), .ref ((ma 15)), .ref ((ma 16)), .double (sf (mnT (gk A i)) (fS (gk A i) p9 1000) (fC (gk A i) p9 1000) b), .int (nI b), .int (nI (nw A)), .ref ((ma 20)), .ref ((ma 21)), .ref ((ma 22)), .ref ((ma 23)), .int (nI (np A)), .ref ((ma 25)), .ref ((ma 26))]) := ⟨_, rfl⟩
                    rw [← ef_25] at hM
                    have hF_26 : f_25 ((ma 0)) = eS 8 [.int t, .int (nI (ns A)), .ref ((ma 2)), .ref ((ma 3)), .ref ((ma 4)), .ref ((ma 5)), .ref ((ma 6)), .ref ((ma 7)), .ref ((ma 8)), .ref ((ma 9)), .ref ((ma 10)), .ref ((ma 11)), .ref ((ma 12)), .ref ((ma 13)), .ref ((ma 14)), .ref ((ma 15)), .ref ((ma 16)), .double (sf (mnT (gk A i)) (fS (gk A i) p9 1000) (fC (gk A i) p9 1000) b), .int (nI b), .int (nI (nw A)), .ref ((ma 20)), .ref ((ma 21)), .ref ((ma 22)), .ref ((ma 23)), .int (nI (np A)), .ref ((ma 25)), .ref ((ma 26))] := by rw [ef_25]; exact va_up_self _ _ _
                    have hF_27 : f_25 ((ma 15)) = eD K 120 sg9 := by rw [ef_25]; exact (va_up_ne _ _ (mne hmi (by decide) (by decide) (show 15 ≠ 0 by decide))).trans hF_23
                    have hF_28 : f_25 ((ma 16)) = eI K 120 (fun j => nI (cg9 j)) := by rw [ef_25]; exact (va_up_ne _ _ (mne hmi (by decide) (by decide) (show 16 ≠ 0 by decide))).trans hF_24
                    refine lv_iinc (v := nI (k + 1)) (lv' := [(5, .int (nI (k + 1))), (8, .int (nI 0)), (6, .double (sf (mnT (gk A i)) (fS (gk A i) p9 1000) (fC (gk A i) p9 1000) k)), (3, .double (mnT (gk A i))), (0, .ref ((ma 0))), (1, .int (nI i)), (2, .int (nI p9))]) hx hb dX7_scores_126 hl (k := 2) rfl (nI_add k 1) (by decide) rfl (fun ls hl => ?_)
                    refine lv_goto (tgt := 20) hx hb dX7_scores_129 (by decide) ?_
                    have e9 := bfG_3 hcp hbf c_80
                    have hfr : ∀ q, q ≠ ((ma 0)) → f_25 q = f_9 q := fun q hq0 => by
                      rw [ef_25, ef_21]
                      simp only [va_up, hq0, if_false]
                      exact hfr q hq0
                    exact ih ls H locs f_25 (lv_sub hl [0, 3, 4, 5, 6] rfl) hM (by rw [e9]; exact hF_26) hF_27 hF_28 hfr
                  · exact absurd c_111 (by omega)
                · exact absurd c_93 (by omega)
              · refine lv_iconst (v := nI 1) hx hb dX7_scores_83 (by decide) ?_
                refine lv_goto (tgt := 88) hx hb dX7_scores_84 (by decide) ?_
                refine lv_istore (lv' := [(8, .int (nI 1)), (6, .double (sf (mnT (gk A i)) (fS (gk A i) p9 1000) (fC (gk A i) p9 1000) k)), (5, .int (nI k)), (3, .double (mnT (gk A i))), (0, .ref ((ma 0))), (1, .int (nI i)), (2, .int (nI p9))]) hx hb dX7_scores_88 hl (by decide) rfl (fun ls hl => ?_)
                refine lv_aload_n hx hb dX7_scores_90 rfl (lv_at hl 4 rfl) ?_
                refine lv_iload hx hb dX7_scores_91 (lv_at hl 0 rfl) ?_
                refine z_if_eq (tgt := 101) hx hb (nI_toInt (by decide)) dX7_scores_93 (by decide) (fun c_93 => ?_) (fun c_93 => ?_)
                · exact absurd c_93 (by omega)
                · refine lv_dload hx hb dX7_scores_96 (lv_at hl 1 rfl) ?_
                  refine lv_goto (tgt := 105) hx hb dX7_scores_98 (by decide) ?_
                  refine z_put (fs' := [.int t, .int (nI (ns A)), .ref ((ma 2)), .ref ((ma 3)), .ref ((ma 4)), .ref ((ma 5)), .ref ((ma 6)), .ref ((ma 7)), .ref ((ma 8)), .ref ((ma 9)), .ref ((ma 10)), .ref ((ma 11)), .ref ((ma 12)), .ref ((ma 13)), .ref ((ma 14)), .ref ((ma 15)), .ref ((ma 16)), .double (sf (mnT (gk A i)) (fS (gk A i) p9 1000) (fC (gk A i) p9 1000) k), .int (nI b), .int (nI (nw A)), .ref ((ma 20)), .ref ((ma 21)), .ref ((ma 22)), .ref ((ma 23)), .int (nI (np A)), .ref ((ma 25)), .ref ((ma 26))]) hC hM (hmm 0 (by decide)) hG0 zcl_X7 (by decide) zl_X7_123 rfl rfl (by rfl) (Nat.le_of_ble_eq_true rfl) rfl dX7_scores_105 (fun H locs hM => ?_)
                  obtain ⟨f_29, ef_29⟩ : ∃ z9, z9 = va_up f1 ((ma 0)) (eS 8 [.int t, .int (nI (ns A)), .ref ((ma 2)), .ref ((ma 3)), .ref ((ma 4)), .ref ((ma 5)), .ref ((ma 6)), .ref ((ma 7)), .ref ((ma 8)), .ref ((ma 9)), .ref ((ma 10)), .ref ((ma 11)), .ref ((ma 12)), .ref ((ma 13)), .ref ((ma 14)), .ref ((ma 15)), .ref ((ma 16)), .double (sf (mnT (gk A i)) (fS (gk A i) p9 1000) (fC (gk A i) p9 1000) k), .int (nI b), .int (nI (nw A)), .ref ((ma 20)), .ref ((ma 21)), .ref ((ma 22)), .ref ((ma 23)), .int (nI (np A)), .ref ((ma 25)), .ref ((ma 26))]) := ⟨_, rfl⟩
                  rw [← ef_29] at hM
                  have hF_30 : f_29 ((ma 0)) = eS 8 [.int t, .int (nI (ns A)), .ref ((ma 2)), .ref ((ma 3)), .ref ((ma 4)), .ref ((ma 5)), .ref ((ma 6)), .ref ((ma 7)), .ref ((ma 8)), .ref ((ma 9)), .ref ((ma 10)), .ref ((ma 11)), .ref ((ma 12)), .ref ((ma 13)), .ref ((ma 14)), .ref ((ma 15)), .ref ((ma 16)), .double (sf (mnT (gk A i)) (fS (gk A i) p9 1000) (fC (gk A i) p9 1000) k), .int (nI b), .int (nI (nw A)), .ref ((ma 20)), .ref ((ma 21)), .ref ((ma 22)), .ref ((ma 23)), .int (nI (np A)), .ref ((ma 25)), .ref ((ma 26))] := by rw [ef_29]; exact va_up_self _ _ _
                  have hF_31 : f_29 ((ma 15)) = eD K 120 sg9 := by rw [ef_29]; exact (va_up_ne _ _ (mne hmi (by decide) (by decide) (show 15 ≠ 0 by decide))).trans hG1
                  have hF_32 : f_29 ((ma 16)) = eI K 120 (fun j => nI (cg9 j)) := by rw [ef_29]; exact (va_up_ne _ _ (mne hmi (by decide) (by decide) (show 16 ≠ 0 by decide))).trans hG2
                  refine lv_aload_n hx hb dX7_scores_108 rfl (lv_at hl 4 rfl) ?_
                  refine lv_iload hx hb dX7_scores_109 (lv_at hl 0 rfl) ?_
                  refine z_if_eq (tgt := 119) hx hb (nI_toInt (by decide)) dX7_scores_111 (by decide) (fun c_111 => ?_) (fun c_111 => ?_)
                  · exact absurd c_111 (by omega)
                  · refine lv_iload hx hb dX7_scores_114 (lv_at hl 2 rfl) ?_
                    refine lv_goto (tgt := 123) hx hb dX7_scores_116 (by decide) ?_
                    refine z_put (fs' := [.int t, .int (nI (ns A)), .ref ((ma 2)), .ref ((ma 3)), .ref ((ma 4)), .ref ((ma 5)), .ref ((ma 6)), .ref ((ma 7)), .ref ((ma 8)), .ref ((ma 9)), .ref ((ma 10)), .ref ((ma 11)), .ref ((ma 12)), .ref ((ma 13)), .ref ((ma 14)), .ref ((ma 15)), .ref ((ma 16)), .double (sf (mnT (gk A i)) (fS (gk A i) p9 1000) (fC (gk A i) p9 1000) k), .int (nI k), .int (nI (nw A)), .ref ((ma 20)), .ref ((ma 21)), .ref ((ma 22)), .ref ((ma 23)), .int (nI (np A)), .ref ((ma 25)), .ref ((ma 26))]) hC hM (hmm 0 (by decide)) hF_30 zcl_X7 (by decide) zl_X7_120 rfl rfl (by rfl) (Nat.le_of_ble_eq_true rfl) rfl dX7_scores_123 (fun H locs hM => ?_)
                    obtain ⟨f_33, ef_33⟩ : ∃ z9, z9 = va_up f_29 ((ma 0)) (eS 8 [.int t, .int (nI (ns A)), .ref ((ma 2)), .ref ((ma 3)), .ref ((ma 4)), .ref ((ma 5)), .ref ((ma 6)), .ref ((ma 7)), .ref ((ma 8)), .ref ((ma 9)), .ref ((ma 10)), .ref ((ma 11)), .ref ((ma 12)), .ref ((ma 13)), .ref ((ma 14)), .ref ((ma 15)), .ref ((ma 16)), .double (sf (mnT (gk A i)) (fS (gk A i) p9 1000) (fC (gk A i) p9 1000) k), .int (nI k), .int (nI (nw A)), .ref ((ma 20)), .ref ((ma 21)), .ref ((ma 22)), .ref ((ma 23)), .int (nI (np A)), .ref ((ma 25)), .ref ((ma 26))]) := ⟨_, rfl⟩
                    rw [← ef_33] at hM
                    have hF_34 : f_33 ((ma 0)) = eS 8 [.int t, .int (nI (ns A)), .ref ((ma 2)), .ref ((ma 3)), .ref ((ma 4)), .ref ((ma 5)), .ref ((ma 6)), .ref ((ma 7)), .ref ((ma 8)), .ref ((ma 9)), .ref ((ma 10)), .ref ((ma 11)), .ref ((ma 12)), .ref ((ma 13)), .ref ((ma 14)), .ref ((ma 15)), .ref ((ma 16)), .double (sf (mnT (gk A i)) (fS (gk A i) p9 1000) (fC (gk A i) p9 1000) k), .int (nI k), .int (nI (nw A)), .ref ((ma 20)), .ref ((ma 21)), .ref ((ma 22)), .ref ((ma 23)), .int (nI (np A)), .ref ((ma 25)), .ref ((ma 26))] := by rw [ef_33]; exact va_up_self _ _ _
                    have hF_35 : f_33 ((ma 15)) = eD K 120 sg9 := by rw [ef_33]; exact (va_up_ne _ _ (mne hmi (by decide) (by decide) (show 15 ≠ 0 by decide))).trans hF_31
                    have hF_36 : f_33 ((ma 16)) = eI K 120 (fun j => nI (cg9 j)) := by rw [ef_33]; exact (va_up_ne _ _ (mne hmi (by decide) (by decide) (show 16 ≠ 0 by decide))).trans hF_32
                    refine lv_iinc (v := nI (k + 1)) (lv' := [(5, .int (nI (k + 1))), (8, .int (nI 1)), (6, .double (sf (mnT (gk A i)) (fS (gk A i) p9 1000) (fC (gk A i) p9 1000) k)), (3, .double (mnT (gk A i))), (0, .ref ((ma 0))), (1, .int (nI i)), (2, .int (nI p9))]) hx hb dX7_scores_126 hl (k := 2) rfl (nI_add k 1) (by decide) rfl (fun ls hl => ?_)
                    refine lv_goto (tgt := 20) hx hb dX7_scores_129 (by decide) ?_
                    have e9 := bfG_2 hcp hbf c_80
                    have hfr : ∀ q, q ≠ ((ma 0)) → f_33 q = f_9 q := fun q hq0 => by
                      rw [ef_33, ef_29]
                      simp only [va_up, hq0, if_false]
                      exact hfr q hq0
                    exact ih ls H locs f_33 (lv_sub hl [0, 3, 4, 5, 6] rfl) hM (by rw [e9]; exact hF_34) hF_35 hF_36 hfr
  exact LOOP20 0 (Nat.zero_le _) ls H locs f_9 (lv_sub hl [0, 1, 2, 3, 4] rfl) hM hF_10 hF_11 hF_12 (fun _ _ => rfl)
set_option maxHeartbeats 400000 in
set_option maxRecDepth 100000 in
theorem m_periodOf {l : Launch} {base : Nat} {K : zK} {L : List Nat} {f : Nat → va_E} {A : zA} {ma : Nat → Nat} {t : Int32} (hV : VA A) (hMI : MI K L f A ma t) {i : Nat} (hi : i < ns A) (y : Int32) : zMet l yX7_periodOf cX7_periodOf 7 (some .int) (zr 2 0 0 52) base K L f [.ref ((ma 0)), .int (nI i), .int y] (zQi base K (fun r L1 f1 => L1 = L ∧ r = nI (pdT (gk A i) y) ∧ ∃ x, RSx K A ma t f f1 x)) := by
  have hMI9 := hMI
  obtain ⟨hmm, hmi, ⟨sg, cg, bb, bf⟩, op, hop, hmc⟩ := hMI9
  have hV9 := hV
  obtain ⟨hv1, hv2, hv3, hvS, hvO, hvK, hvK1, hvL, hv11, hvW, hv23, hvW0, hvP⟩ := hV9
  have hg0 : f (ma 0) = eS 8 [.int t, .int (nI (ns A)), .ref ((ma 2)), .ref ((ma 3)), .ref ((ma 4)), .ref ((ma 5)), .ref ((ma 6)), .ref ((ma 7)), .ref ((ma 8)), .ref ((ma 9)), .ref ((ma 10)), .ref ((ma 11)), .ref ((ma 12)), .ref ((ma 13)), .ref ((ma 14)), .ref ((ma 15)), .ref ((ma 16)), .double bb, .int bf, .int (nI (nw A)), .ref ((ma 20)), .ref ((ma 21)), .ref ((ma 22)), .ref ((ma 23)), .int (nI (np A)), .ref ((ma 25)), .ref ((ma 26))] := hmc 0 (by decide)
  obtain ⟨w1, w2, w3, w4, w5, w6, w7, w8⟩ := hvS i hi
  refine z_met (by decide) (Nat.le_of_ble_eq_true rfl) (fun p e s m below meth c ls hC hM hr hlk hnm hl => ?_)
  have hx := hC.1
  have hb := hC.2.1
  have hml := hC.2.2.1
  have hown := hC.2.2.2.1
  have hts := hC.2.2.2.2.1
  generalize hA : ([.ref ((ma 0)), .int (nI i), .int y] : List Value).toArray = args at hC ⊢
  generalize hQ : MQ _ _ _ _ _ _ _ = Q
  obtain ⟨locs, hlocs⟩ : ∃ z : List Loc, z = [] := ⟨_, rfl⟩
  obtain ⟨H, hH⟩ : ∃ z : Heap, z = s.heap := ⟨_, rfl⟩
  rw [← hlocs, ← hH] at hM ⊢
  have hl : lv_has ls 7 [(0, .ref ((ma 0))), (1, .int (nI i)), (2, .int y)] := hl
  refine lv_aload_n hx hb dX7_periodOf_0 rfl (lv_at hl 0 rfl) ?_
  refine lv_iload_n hx hb dX7_periodOf_1 rfl (lv_at hl 1 rfl) ?_
  refine z_fcalli (z_runV hC hM (c_hasFew hV hMI hi) zy_X7_hasFew zm_X7_127 (hmm 0 (by decide)) hg0 zcl_X7 rfl rfl rfl hl.1 (Nat.le_of_ble_eq_true rfl) ⟨by decide, by decide⟩ ⟨by decide, by decide⟩ dX7_periodOf_2) hM (fun H locs hM => ?_)
  refine z_if_eqB (tgt := 10) hx hb dX7_periodOf_5 (by decide) (fun c_5 => ?_) (fun c_5 => ?_)
  · refine lv_iconst (v := nI 2) hx hb dX7_periodOf_10 (by decide) ?_
    refine lv_istore_n (lv' := [(3, .int (nI 2)), (0, .ref ((ma 0))), (1, .int (nI i)), (2, .int y)]) hx hb dX7_periodOf_11 rfl hl (by decide) rfl (fun ls hl => ?_)
    refine lv_aload_n hx hb dX7_periodOf_12 rfl (lv_at hl 1 rfl) ?_
    refine lv_iload_n hx hb dX7_periodOf_13 rfl (lv_at hl 2 rfl) ?_
    refine lv_iconst (v := nI 2) hx hb dX7_periodOf_14 (by decide) ?_
    refine z_callv (z_runV hC hM (m_scores hV hMI hi (p9 := 2) (by omega) (by omega) (by omega)) zy_X7_scores zm_X7_133 (hmm 0 (by decide)) hg0 zcl_X7 rfl rfl rfl hl.1 (Nat.le_of_ble_eq_true rfl) ⟨by decide, by decide⟩ ⟨by decide, by decide⟩ dX7_periodOf_15) hM (fun L1 f1_15 H locs hp hM => ?_)
    obtain ⟨e9L, sg_15, cg_15, hrs_15⟩ := hp
    have e9L := e9L.symm
    subst e9L
    have hMI_15 := RSx.mi hMI hrs_15
    refine lv_aload_n hx hb dX7_periodOf_18 rfl (lv_at hl 1 rfl) ?_
    refine z_get hC hM (hmm 0 (by decide)) hrs_15.2.1 zcl_X7 (by decide) zl_X7_123 rfl dX7_periodOf_19 ?_
    refine lv_dstore (lv' := [(4, .double (scB (gk A i) 2)), (3, .int (nI 2)), (0, .ref ((ma 0))), (1, .int (nI i)), (2, .int y)]) hx hb dX7_periodOf_22 hl (by decide) rfl (fun ls hl => ?_)
    refine lv_iconst (v := nI 3) hx hb dX7_periodOf_24 (by decide) ?_
    refine lv_istore (lv' := [(6, .int (nI 3)), (4, .double (scB (gk A i) 2)), (3, .int (nI 2)), (0, .ref ((ma 0))), (1, .int (nI i)), (2, .int y)]) hx hb dX7_periodOf_25 hl (by decide) rfl (fun ls hl => ?_)
    have LOOP27 : ∀ j, j ≤ 58 → ∀ (ls : Array Slot) (H : Heap) (locs : List Loc) (f1 : Nat → va_E) (x9 : mX), lv_has ls 7 [(6, .int (nI (j + 3))), (4, .double ((pdS (gk A i) j).2)), (3, .int (nI ((pdS (gk A i) j).1))), (0, .ref ((ma 0))), (1, .int (nI i)), (2, .int y)] → zM base K L f1 s H locs → (RSx K A ma t f f1 x9) → W p l e (zr 2 0 0 52) s m args below meth c H locs 0 0 Q (F0 m 27 ls []) := by
      refine z_down 58 ?_ ?_
      · intro ls H locs f1 x9 hl hM hrs
        have hMIj := RSx.mi hMI hrs
        have hgj := hrs.2.1
        refine lv_iload hx hb dX7_periodOf_27 (lv_at hl 0 rfl) ?_
        refine lv_bipush (v := nI 60) hx hb dX7_periodOf_29 (by decide) ?_
        refine z_icmp_gt (tgt := 85) hx hb (nI_toInt (by omega)) (nI_toInt (by decide)) dX7_periodOf_31 (by decide) (fun c_31 => ?_) (fun c_31 => ?_)
        · refine lv_dload hx hb dX7_periodOf_85 (lv_at hl 1 rfl) ?_
          refine lv_iload_n hx hb dX7_periodOf_87 rfl (lv_at hl 5 rfl) ?_
          refine lv_i2d hx hb dX7_periodOf_88 ?_
          refine lv_dcmp hx hb dX7_periodOf_89 ?_
          refine z_if_le (tgt := 97) hx hb (dc_l _ _) dX7_periodOf_90 (by decide) (fun c_90 => ?_) (fun c_90 => ?_)
          · refine lv_iconst (v := nI 0) hx hb dX7_periodOf_97 (by decide) ?_
            rw [← hQ]
            exact z_iret hC hM hr hlk rfl (by decide) (by decide) ⟨rfl, (by rw [pdT, if_neg (by omega), if_neg (by omega)]), ⟨_, hrs⟩⟩ dX7_periodOf_98
          · refine lv_iload_n hx hb dX7_periodOf_93 rfl (lv_at hl 2 rfl) ?_
            refine lv_goto (tgt := 98) hx hb dX7_periodOf_94 (by decide) ?_
            rw [← hQ]
            exact z_iret hC hM hr hlk rfl (by decide) (by decide) ⟨rfl, (by rw [pdT, if_neg (by omega), if_pos c_90]), ⟨_, hrs⟩⟩ dX7_periodOf_98
        · exact absurd c_31 (by omega)
      · intro j hj ih ls H locs f1 x9 hl hM hrs
        have hMIj := RSx.mi hMI hrs
        have hgj := hrs.2.1
        refine lv_iload hx hb dX7_periodOf_27 (lv_at hl 0 rfl) ?_
        refine lv_bipush (v := nI 60) hx hb dX7_periodOf_29 (by decide) ?_
        refine z_icmp_gt (tgt := 85) hx hb (nI_toInt (by omega)) (nI_toInt (by decide)) dX7_periodOf_31 (by decide) (fun c_31 => ?_) (fun c_31 => ?_)
        · exact absurd c_31 (by omega)
        · refine lv_aload_n hx hb dX7_periodOf_34 rfl (lv_at hl 3 rfl) ?_
          refine lv_iload_n hx hb dX7_periodOf_35 rfl (lv_at hl 4 rfl) ?_
          refine lv_iload hx hb dX7_periodOf_36 (lv_at hl 0 rfl) ?_
          refine z_callv (z_runV hC hM (m_scores hV hMIj hi (p9 := j + 3) (by omega) (by omega) (by omega)) zy_X7_scores zm_X7_133 (hmm 0 (by decide)) hgj zcl_X7 rfl rfl rfl hl.1 (Nat.le_of_ble_eq_true rfl) ⟨by decide, by decide⟩ ⟨by decide, by decide⟩ dX7_periodOf_38) hM (fun L1 f1_38 H locs hp hM => ?_)
          obtain ⟨e9L, sg_38, cg_38, hrs_38⟩ := hp
          have e9L := e9L.symm
          subst e9L
          have hMI_38 := RSx.mi hMIj hrs_38
          refine lv_aload_n hx hb dX7_periodOf_41 rfl (lv_at hl 3 rfl) ?_
          refine z_get hC hM (hmm 0 (by decide)) hrs_38.2.1 zcl_X7 (by decide) zl_X7_123 rfl dX7_periodOf_42 ?_
          refine lv_dload hx hb dX7_periodOf_45 (lv_at hl 1 rfl) ?_
          refine lv_dcmp hx hb dX7_periodOf_47 ?_
          refine z_if_le (tgt := 56) hx hb (dc_l _ _) dX7_periodOf_48 (by decide) (fun c_48 => ?_) (fun c_48 => ?_)
          · refine lv_iload_n hx hb dX7_periodOf_56 rfl (lv_at hl 2 rfl) ?_
            refine lv_istore_n (lv' := [(3, .int (nI ((pdS (gk A i) j).1))), (6, .int (nI (j + 3))), (4, .double ((pdS (gk A i) j).2)), (0, .ref ((ma 0))), (1, .int (nI i)), (2, .int y)]) hx hb dX7_periodOf_57 rfl hl (by decide) rfl (fun ls hl => ?_)
            refine lv_aload_n hx hb dX7_periodOf_58 rfl (lv_at hl 3 rfl) ?_
            refine z_get hC hM (hmm 0 (by decide)) hrs_38.2.1 zcl_X7 (by decide) zl_X7_123 rfl dX7_periodOf_59 ?_
            refine lv_dload hx hb dX7_periodOf_62 (lv_at hl 2 rfl) ?_
            refine lv_dcmp hx hb dX7_periodOf_64 ?_
            refine z_if_le (tgt := 75) hx hb (dc_l _ _) dX7_periodOf_65 (by decide) (fun c_65 => ?_) (fun c_65 => ?_)
            · refine lv_dload hx hb dX7_periodOf_75 (lv_at hl 2 rfl) ?_
              refine lv_dstore (lv' := [(4, .double ((pdS (gk A i) j).2)), (3, .int (nI ((pdS (gk A i) j).1))), (6, .int (nI (j + 3))), (0, .ref ((ma 0))), (1, .int (nI i)), (2, .int y)]) hx hb dX7_periodOf_77 hl (by decide) rfl (fun ls hl => ?_)
              refine lv_iinc (v := nI ((j + 3) + 1)) (lv' := [(6, .int (nI ((j + 3) + 1))), (4, .double ((pdS (gk A i) j).2)), (3, .int (nI ((pdS (gk A i) j).1))), (0, .ref ((ma 0))), (1, .int (nI i)), (2, .int y)]) hx hb dX7_periodOf_79 hl (k := 2) rfl (nI_add (j + 3) 1) (by decide) rfl (fun ls hl => ?_)
              refine lv_goto (tgt := 27) hx hb dX7_periodOf_82 (by decide) ?_
              have e9 := (pdS_0 c_48).symm
              exact ih ls H locs f1_38 _ (by rw [show j + 1 + 3 = j + 3 + 1 by omega, ← e9]; exact lv_sub hl [0, 1, 2, 3, 4, 5] rfl) hM (RSx.trans hrs hrs_38)
            · exact absurd c_65 (by omega)
          · refine lv_iload hx hb dX7_periodOf_51 (lv_at hl 0 rfl) ?_
            refine lv_goto (tgt := 57) hx hb dX7_periodOf_53 (by decide) ?_
            refine lv_istore_n (lv' := [(3, .int (nI (j + 3))), (6, .int (nI (j + 3))), (4, .double ((pdS (gk A i) j).2)), (0, .ref ((ma 0))), (1, .int (nI i)), (2, .int y)]) hx hb dX7_periodOf_57 rfl hl (by decide) rfl (fun ls hl => ?_)
            refine lv_aload_n hx hb dX7_periodOf_58 rfl (lv_at hl 3 rfl) ?_
            refine z_get hC hM (hmm 0 (by decide)) hrs_38.2.1 zcl_X7 (by decide) zl_X7_123 rfl dX7_periodOf_59 ?_
            refine lv_dload hx hb dX7_periodOf_62 (lv_at hl 2 rfl) ?_
            refine lv_dcmp hx hb dX7_periodOf_64 ?_
            refine z_if_le (tgt := 75) hx hb (dc_l _ _) dX7_periodOf_65 (by decide) (fun c_65 => ?_) (fun c_65 => ?_)
            · exact absurd c_65 (by omega)
            · refine lv_aload_n hx hb dX7_periodOf_68 rfl (lv_at hl 3 rfl) ?_
              refine z_get hC hM (hmm 0 (by decide)) hrs_38.2.1 zcl_X7 (by decide) zl_X7_123 rfl dX7_periodOf_69 ?_
              refine lv_goto (tgt := 77) hx hb dX7_periodOf_72 (by decide) ?_
              refine lv_dstore (lv' := [(4, .double (scB (gk A i) (j + 3))), (3, .int (nI (j + 3))), (6, .int (nI (j + 3))), (0, .ref ((ma 0))), (1, .int (nI i)), (2, .int y)]) hx hb dX7_periodOf_77 hl (by decide) rfl (fun ls hl => ?_)
              refine lv_iinc (v := nI ((j + 3) + 1)) (lv' := [(6, .int (nI ((j + 3) + 1))), (4, .double (scB (gk A i) (j + 3))), (3, .int (nI (j + 3))), (0, .ref ((ma 0))), (1, .int (nI i)), (2, .int y)]) hx hb dX7_periodOf_79 hl (k := 2) rfl (nI_add (j + 3) 1) (by decide) rfl (fun ls hl => ?_)
              refine lv_goto (tgt := 27) hx hb dX7_periodOf_82 (by decide) ?_
              have e9 := (pdS_1 c_48).symm
              exact ih ls H locs f1_38 _ (by rw [show j + 1 + 3 = j + 3 + 1 by omega, ← e9]; exact lv_sub hl [0, 1, 2, 3, 4, 5] rfl) hM (RSx.trans hrs hrs_38)
    exact LOOP27 0 (Nat.zero_le _) ls H locs f1_15 _ (lv_sub hl [0, 1, 2, 3, 4, 5] rfl) hM hrs_15
  · refine lv_iconst (v := nI 0) hx hb dX7_periodOf_8 (by decide) ?_
    rw [← hQ]
    exact z_iret hC hM hr hlk rfl (by decide) (by decide) ⟨rfl, (by rw [pdT, if_pos (by omega)]), ⟨(sg, cg, bb, bf), fun _ _ _ _ => rfl, hmc 0 (by decide), hmc 15 (by decide), hmc 16 (by decide)⟩⟩ dX7_periodOf_9
set_option maxHeartbeats 400000 in
set_option maxRecDepth 100000 in
theorem m_fell {l : Launch} {base : Nat} {K : zK} {L : List Nat} {f : Nat → va_E} {A : zA} {ma : Nat → Nat} {t : Int32} (hV : VA A) (hMI : MI K L f A ma t) {c1 : Nat} (hc : c1 ≤ np A) : zMet l yX7_fell cX7_fell 3 (some .boolean) (zr 0 0 0 0) base K L f [.ref ((ma 0)), .int (oP c1)] (zFi base K (zb (fellC A c1)) L f) := by
  have hMI9 := hMI
  obtain ⟨hmm, hmi, ⟨sg, cg, bb, bf⟩, op, hop, hmc⟩ := hMI9
  have hV9 := hV
  obtain ⟨hv1, hv2, hv3, hvS, hvO, hvK, hvK1, hvL, hv11, hvW, hv23, hvW0, hvP⟩ := hV9
  have hg0 : f (ma 0) = eS 8 [.int t, .int (nI (ns A)), .ref ((ma 2)), .ref ((ma 3)), .ref ((ma 4)), .ref ((ma 5)), .ref ((ma 6)), .ref ((ma 7)), .ref ((ma 8)), .ref ((ma 9)), .ref ((ma 10)), .ref ((ma 11)), .ref ((ma 12)), .ref ((ma 13)), .ref ((ma 14)), .ref ((ma 15)), .ref ((ma 16)), .double bb, .int bf, .int (nI (nw A)), .ref ((ma 20)), .ref ((ma 21)), .ref ((ma 22)), .ref ((ma 23)), .int (nI (np A)), .ref ((ma 25)), .ref ((ma 26))] := hmc 0 (by decide)
  have hg23 : f (ma 23) = eZ K 12 (fun j => nI ((A.1 23) j)) := hmc 23 (by decide)
  have hg25 : f (ma 25) = eI K 30 (fun j => nI ((A.1 25) j)) := hmc 25 (by decide)
  have hg26 : f (ma 26) = eI K 30 op := hmc 26 (by decide)
  refine z_met (by decide) (Nat.le_of_ble_eq_true rfl) (fun p e s m below meth c ls hC hM hr hlk hnm hl => ?_)
  have hx := hC.1
  have hb := hC.2.1
  have hml := hC.2.2.1
  have hown := hC.2.2.2.1
  have hts := hC.2.2.2.2.1
  generalize hA : ([.ref ((ma 0)), .int (oP c1)] : List Value).toArray = args at hC ⊢
  generalize hQ : MQ _ _ _ _ _ _ _ = Q
  obtain ⟨locs, hlocs⟩ : ∃ z : List Loc, z = [] := ⟨_, rfl⟩
  obtain ⟨H, hH⟩ : ∃ z : Heap, z = s.heap := ⟨_, rfl⟩
  rw [← hlocs, ← hH] at hM ⊢
  have hl : lv_has ls 3 [(0, .ref ((ma 0))), (1, .int (oP c1))] := hl
  refine lv_iload_n hx hb dX7_fell_0 rfl (lv_at hl 1 rfl) ?_
  refine lv_istore_n (lv' := [(2, .int (oP c1)), (0, .ref ((ma 0))), (1, .int (oP c1))]) hx hb dX7_fell_1 rfl hl (by decide) rfl (fun ls hl => ?_)
  have LOOP : ∀ n c2 : Nat, c2 ≤ n → c2 ≤ np A → (fellC A c2 ↔ fellC A c1) → ∀ (ls : Array Slot) (H : Heap) (locs : List Loc), lv_has ls 3 [(2, .int (oP c2)), (0, .ref (ma 0))] → zM base K L f s H locs → W p l e (zr 0 0 0 0) s m args below meth c H locs 0 0 Q (F0 m 2 ls []) := by
    intro n
    induction n with
    | zero =>
      intro c2 h1 h2 h3 ls H locs hl hM
      obtain rfl : c2 = 0 := by omega
      have hl : lv_has ls 3 [(2, .int ((-1))), (0, .ref ((ma 0)))] := hl
      refine lv_iload_n hx hb dX7_fell_2 rfl (lv_at hl 0 rfl) ?_
      refine lv_iconst (v := (-1)) hx hb dX7_fell_3 (by decide) ?_
      refine z_icmp_eq (tgt := 31) hx hb m1_toInt m1_toInt dX7_fell_4 (by decide) (fun c_4 => ?_) (fun c_4 => ?_)
      · refine lv_iload_n hx hb dX7_fell_31 rfl (lv_at hl 0 rfl) ?_
        refine lv_iconst (v := (-1)) hx hb dX7_fell_32 (by decide) ?_
        refine z_icmp_eq (tgt := 40) hx hb m1_toInt m1_toInt dX7_fell_33 (by decide) (fun c_33 => ?_) (fun c_33 => ?_)
        · refine lv_iconst (v := nI 0) hx hb dX7_fell_40 (by decide) ?_
          rw [← hQ]
          exact z_iret hC hM hr hlk rfl (by decide) (by decide) ⟨(zb_f (fun z => (h3.mpr z).1 rfl)), rfl, rfl⟩ dX7_fell_41
        · exact absurd rfl c_33
      · exact absurd rfl c_4
    | succ n ih =>
      intro c2 h1 h2 h3 ls H locs hl hM
      cases c2 with
      | zero =>
        have hl : lv_has ls 3 [(2, .int ((-1))), (0, .ref ((ma 0)))] := hl
        refine lv_iload_n hx hb dX7_fell_2 rfl (lv_at hl 0 rfl) ?_
        refine lv_iconst (v := (-1)) hx hb dX7_fell_3 (by decide) ?_
        refine z_icmp_eq (tgt := 31) hx hb m1_toInt m1_toInt dX7_fell_4 (by decide) (fun c_4 => ?_) (fun c_4 => ?_)
        · refine lv_iload_n hx hb dX7_fell_31 rfl (lv_at hl 0 rfl) ?_
          refine lv_iconst (v := (-1)) hx hb dX7_fell_32 (by decide) ?_
          refine z_icmp_eq (tgt := 40) hx hb m1_toInt m1_toInt dX7_fell_33 (by decide) (fun c_33 => ?_) (fun c_33 => ?_)
          · refine lv_iconst (v := nI 0) hx hb dX7_fell_40 (by decide) ?_
            rw [← hQ]
            exact z_iret hC hM hr hlk rfl (by decide) (by decide) ⟨(zb_f (fun z => (h3.mpr z).1 rfl)), rfl, rfl⟩ dX7_fell_41
          · exact absurd rfl c_33
        · exact absurd rfl c_4
      | succ j =>
        rw [oP_s] at hl
        have hj : j < np A := by omega
        obtain ⟨u1, u2⟩ := hvP j hj
        have u3 := hv23 (A.1 25 j)
        have h4 := fellC_s hV hj
        refine lv_iload_n hx hb dX7_fell_2 rfl (lv_at hl 0 rfl) ?_
        refine lv_iconst (v := (-1)) hx hb dX7_fell_3 (by decide) ?_
        refine z_icmp_eq (tgt := 31) hx hb (nI_toInt (by omega)) m1_toInt dX7_fell_4 (by decide) (fun c_4 => ?_) (fun c_4 => ?_)
        · exact absurd c_4 (by omega)
        · refine lv_aload_n hx hb dX7_fell_7 rfl (lv_at hl 1 rfl) ?_
          refine z_get hC hM (hmm 0 (by decide)) hg0 zcl_X7 (by decide) zl_X7_66 rfl dX7_fell_8 ?_
          refine lv_aload_n hx hb dX7_fell_11 rfl (lv_at hl 1 rfl) ?_
          refine z_get hC hM (hmm 0 (by decide)) hg0 zcl_X7 (by decide) zl_X7_69 rfl dX7_fell_12 ?_
          refine lv_iload_n hx hb dX7_fell_15 rfl (lv_at hl 0 rfl) ?_
          refine z_iald hC hM (hmm 25 (by decide)) hg25 (by omega) (by omega) dX7_fell_16 ?_
          refine z_zald hC hM (hmm 23 (by decide)) hg23 (by omega) (by omega) dX7_fell_17 ?_
          refine z_if_ne (tgt := 31) hx hb (nI_toInt (by omega)) dX7_fell_18 (by decide) (fun c_18 => ?_) (fun c_18 => ?_)
          · refine lv_iload_n hx hb dX7_fell_31 rfl (lv_at hl 0 rfl) ?_
            refine lv_iconst (v := (-1)) hx hb dX7_fell_32 (by decide) ?_
            refine z_icmp_eq (tgt := 40) hx hb (nI_toInt (by omega)) m1_toInt dX7_fell_33 (by decide) (fun c_33 => ?_) (fun c_33 => ?_)
            · exact absurd c_33 (by omega)
            · refine lv_iconst (v := nI 1) hx hb dX7_fell_36 (by decide) ?_
              refine lv_goto (tgt := 41) hx hb dX7_fell_37 (by decide) ?_
              rw [← hQ]
              exact z_iret hC hM hr hlk rfl (by decide) (by decide) ⟨(zb_t (h3.mp (h4.mpr (Or.inl (by omega))))), rfl, rfl⟩ dX7_fell_41
          · refine lv_aload_n hx hb dX7_fell_21 rfl (lv_at hl 1 rfl) ?_
            refine z_get hC hM (hmm 0 (by decide)) hg0 zcl_X7 (by decide) zl_X7_72 rfl dX7_fell_22 ?_
            refine lv_iload_n hx hb dX7_fell_25 rfl (lv_at hl 0 rfl) ?_
            refine z_iald hC hM (hmm 26 (by decide)) hg26 (by omega) (by omega) dX7_fell_26 ?_
            refine lv_istore_n (lv' := [(2, .int (op j)), (0, .ref ((ma 0)))]) hx hb dX7_fell_27 rfl hl (by decide) rfl (fun ls hl => ?_)
            refine lv_goto (tgt := 2) hx hb dX7_fell_28 (by decide) ?_
            exact ih (A.1 26 j) (by omega) (by omega) ((h4.trans ⟨fun z => z.resolve_left (fun z => by omega), Or.inr⟩).symm.trans h3) ls H locs (by rw [← hop j hj]; exact lv_sub hl [0, 1] rfl) hM
  exact LOOP c1 c1 (Nat.le_refl _) hc Iff.rfl ls H locs (lv_sub hl [0, 1] rfl) hM
theorem m_fellN {l : Launch} {base : Nat} {K : zK} {L : List Nat} {f : Nat → va_E} {A : zA} {ma : Nat → Nat} {t : Int32} (hV : VA A) (hMI : MI K L f A ma t) {j : Nat} (hj : j < np A) : zMet l yX7_fell cX7_fell 3 (some .boolean) (zr 0 0 0 0) base K L f [.ref (ma 0), .int (nI j)] (zFi base K (zb (fell A j = true)) L f) := by
  have h := m_fell (l := l) (base := base) hV hMI (c1 := j + 1) (by omega)
  rw [oP_s, zb_c (C := fellC A (j + 1)) (D := fell A j = true) ⟨fun z => z.2, fun z => ⟨Nat.succ_ne_zero j, z⟩⟩] at h
  exact h
theorem faN_le (A : zA) : ∀ n, faN A n ≤ n
  | 0 => Nat.le_refl 0
  | n + 1 => by
    have := faN_le A n
    unfold faN
    split <;> omega
set_option maxHeartbeats 400000 in
set_option maxRecDepth 100000 in
theorem m_fallen {l : Launch} {base : Nat} {K : zK} {L : List Nat} {f : Nat → va_E} {A : zA} {ma : Nat → Nat} {t : Int32} (hV : VA A) (hMI : MI K L f A ma t)  : zMet l yX7_fallen cX7_fallen 3 (some .int) (zr 1 0 0 22) base K L f [.ref ((ma 0))] (zFi base K (nI (faN A (np A))) L f) := by
  have hMI9 := hMI
  obtain ⟨hmm, hmi, ⟨sg, cg, bb, bf⟩, op, hop, hmc⟩ := hMI9
  have hV9 := hV
  obtain ⟨hv1, hv2, hv3, hvS, hvO, hvK, hvK1, hvL, hv11, hvW, hv23, hvW0, hvP⟩ := hV9
  have hg0 : f (ma 0) = eS 8 [.int t, .int (nI (ns A)), .ref ((ma 2)), .ref ((ma 3)), .ref ((ma 4)), .ref ((ma 5)), .ref ((ma 6)), .ref ((ma 7)), .ref ((ma 8)), .ref ((ma 9)), .ref ((ma 10)), .ref ((ma 11)), .ref ((ma 12)), .ref ((ma 13)), .ref ((ma 14)), .ref ((ma 15)), .ref ((ma 16)), .double bb, .int bf, .int (nI (nw A)), .ref ((ma 20)), .ref ((ma 21)), .ref ((ma 22)), .ref ((ma 23)), .int (nI (np A)), .ref ((ma 25)), .ref ((ma 26))] := hmc 0 (by decide)
  refine z_met (by decide) (Nat.le_of_ble_eq_true rfl) (fun p e s m below meth c ls hC hM hr hlk hnm hl => ?_)
  have hx := hC.1
  have hb := hC.2.1
  have hml := hC.2.2.1
  have hown := hC.2.2.2.1
  have hts := hC.2.2.2.2.1
  generalize hA : ([.ref ((ma 0))] : List Value).toArray = args at hC ⊢
  generalize hQ : MQ _ _ _ _ _ _ _ = Q
  obtain ⟨locs, hlocs⟩ : ∃ z : List Loc, z = [] := ⟨_, rfl⟩
  obtain ⟨H, hH⟩ : ∃ z : Heap, z = s.heap := ⟨_, rfl⟩
  rw [← hlocs, ← hH] at hM ⊢
  have hl : lv_has ls 3 [(0, .ref ((ma 0)))] := hl
  refine lv_iconst (v := nI 0) hx hb dX7_fallen_0 (by decide) ?_
  refine lv_istore_n (lv' := [(1, .int (nI 0)), (0, .ref ((ma 0)))]) hx hb dX7_fallen_1 rfl hl (by decide) rfl (fun ls hl => ?_)
  refine lv_iconst (v := nI 0) hx hb dX7_fallen_2 (by decide) ?_
  refine lv_istore_n (lv' := [(2, .int (nI 0)), (1, .int (nI 0)), (0, .ref ((ma 0)))]) hx hb dX7_fallen_3 rfl hl (by decide) rfl (fun ls hl => ?_)
  have LOOP4 : ∀ k, k ≤ (np A) → ∀ (ls : Array Slot) (H : Heap) (locs : List Loc), lv_has ls 3 [(2, .int (nI k)), (1, .int (nI (faN A k))), (0, .ref ((ma 0)))] → zM base K L f s H locs → W p l e (zr 1 0 0 22) s m args below meth c H locs 0 0 Q (F0 m 4 ls []) := by
    refine z_down ((np A)) ?_ ?_
    · intro ls H locs hl hM
      refine lv_iload_n hx hb dX7_fallen_4 rfl (lv_at hl 0 rfl) ?_
      refine lv_aload_n hx hb dX7_fallen_5 rfl (lv_at hl 2 rfl) ?_
      refine z_get hC hM (hmm 0 (by decide)) hg0 zcl_X7 (by decide) zl_X7_148 rfl dX7_fallen_6 ?_
      refine z_icmp_ge (tgt := 34) hx hb (nI_toInt (by omega)) (nI_toInt (by omega)) dX7_fallen_9 (by decide) (fun c_9 => ?_) (fun c_9 => ?_)
      · refine lv_iload_n hx hb dX7_fallen_34 rfl (lv_at hl 1 rfl) ?_
        rw [← hQ]
        exact z_iret hC hM hr hlk rfl (by decide) (by decide) ⟨rfl, rfl, rfl⟩ dX7_fallen_35
      · exact absurd c_9 (by omega)
    · intro k hk ih ls H locs hl hM
      refine lv_iload_n hx hb dX7_fallen_4 rfl (lv_at hl 0 rfl) ?_
      refine lv_aload_n hx hb dX7_fallen_5 rfl (lv_at hl 2 rfl) ?_
      refine z_get hC hM (hmm 0 (by decide)) hg0 zcl_X7 (by decide) zl_X7_148 rfl dX7_fallen_6 ?_
      refine z_icmp_ge (tgt := 34) hx hb (nI_toInt (by omega)) (nI_toInt (by omega)) dX7_fallen_9 (by decide) (fun c_9 => ?_) (fun c_9 => ?_)
      · exact absurd c_9 (by omega)
      · refine lv_iload_n hx hb dX7_fallen_12 rfl (lv_at hl 1 rfl) ?_
        refine lv_aload_n hx hb dX7_fallen_13 rfl (lv_at hl 2 rfl) ?_
        refine lv_iload_n hx hb dX7_fallen_14 rfl (lv_at hl 0 rfl) ?_
        refine z_fcalli (z_runV hC hM (m_fellN hV hMI hk) zy_X7_fell zm_X7_151 (hmm 0 (by decide)) hg0 zcl_X7 rfl rfl rfl hl.1 (Nat.le_of_ble_eq_true rfl) ⟨by decide, by decide⟩ ⟨by decide, by decide⟩ dX7_fallen_15) hM (fun H locs hM => ?_)
        refine z_if_eqB (tgt := 25) hx hb dX7_fallen_18 (by decide) (fun c_18 => ?_) (fun c_18 => ?_)
        · refine lv_iconst (v := nI 0) hx hb dX7_fallen_25 (by decide) ?_
          refine z_iadd hx hb dX7_fallen_26 ?_
          refine lv_istore_n (lv' := [(1, .int (nI ((faN A k) + 0))), (2, .int (nI k)), (0, .ref ((ma 0)))]) hx hb dX7_fallen_27 rfl hl (by decide) rfl (fun ls hl => ?_)
          refine lv_iinc (v := nI (k + 1)) (lv' := [(2, .int (nI (k + 1))), (1, .int (nI ((faN A k) + 0))), (0, .ref ((ma 0)))]) hx hb dX7_fallen_28 hl (k := 1) rfl (nI_add k 1) (by decide) rfl (fun ls hl => ?_)
          refine lv_goto (tgt := 4) hx hb dX7_fallen_31 (by decide) ?_
          have e9 : (faN A k) + 0 = faN A (k + 1) := by rw [faN, if_neg c_18]; exact Nat.add_zero _
          rw [e9] at hl
          exact ih ls H locs (lv_sub hl [0, 1, 2] rfl) hM
        · refine lv_iconst (v := nI 1) hx hb dX7_fallen_21 (by decide) ?_
          refine lv_goto (tgt := 26) hx hb dX7_fallen_22 (by decide) ?_
          refine z_iadd hx hb dX7_fallen_26 ?_
          refine lv_istore_n (lv' := [(1, .int (nI ((faN A k) + 1))), (2, .int (nI k)), (0, .ref ((ma 0)))]) hx hb dX7_fallen_27 rfl hl (by decide) rfl (fun ls hl => ?_)
          refine lv_iinc (v := nI (k + 1)) (lv' := [(2, .int (nI (k + 1))), (1, .int (nI ((faN A k) + 1))), (0, .ref ((ma 0)))]) hx hb dX7_fallen_28 hl (k := 1) rfl (nI_add k 1) (by decide) rfl (fun ls hl => ?_)
          refine lv_goto (tgt := 4) hx hb dX7_fallen_31 (by decide) ?_
          have e9 : (faN A k) + 1 = faN A (k + 1) := by rw [faN, if_pos c_18]
          rw [e9] at hl
          exact ih ls H locs (lv_sub hl [0, 1, 2] rfl) hM
  exact LOOP4 0 (Nat.zero_le _) ls H locs (lv_sub hl [0, 1, 2] rfl) hM
