/-! CONTRACTS of Transitry's own methods, second part (rows laid by wip/whole/pub2.py) -/
set_option maxHeartbeats 400000 in
set_option maxRecDepth 100000 in
theorem p_oddEven {l : Launch} {base : Nat} {K : zK} {L : List Nat} {f : Nat → va_E} (hst : l.stackTraces = false) {A : zA} {ad : Nat → Nat} (hI : CI K L f A ad) (x y1 : Int32) : zXMet l yX6_oddEven cX6_oddEven 6 (some .long) (zr 8 3 18 134) base K L f [.ref ((ad 1)), .int x, .int y1] (zQl base K (fun r L1 f1 => k_fold A x y1 = 0 ∧ r = v_oddEven A x y1 ∧ CR K A ad L f A L1 f1)) (fun E L1 f1 => xE [xIO, xIA, xIS] (k_fold A x y1) E ∧ CR K A ad L f A L1 f1) := by
  have hI9 := hI
  obtain ⟨hV, hmem, hinj, hCX, hCF, hh5, hl6, hl8, hl10, hSt, hWo, hPa⟩ := hI9
  have hV9 := hV
  obtain ⟨hv1, hv2, hv3, hvS, -, -, -, -, hv11, hvW, hv23, -, hvP⟩ := hV9
  have hLo := hmem 1 (live_c (by omega))
  have hfo : f (ad 1) = eS 7 [.ref ((ad 6)), .ref ((ad 8)), .ref ((ad 10)), .ref ((ad 5)), .int (nI (hN A 1000)), .ref ((ad 2))] := hCX
  have hth : ∀ n E, k_fold A x y1 = n + 1 → [xIO, xIA, xIS][n]? = some E → (xE [xIO, xIA, xIS] (k_fold A x y1) E ∧ CR K A ad L f A L f) := fun n E h1 h2 => ⟨⟨by omega, by rw [h1]; exact h2⟩, CR.id hI⟩
  refine z_xmet (by decide) (Nat.le_of_ble_eq_true rfl) (fun p e s m below meth c ls hC hM hr hlk hxt hl => ?_)
  have hx := hC.1
  have hb := hC.2.1
  have hml := hC.2.2.1
  have hown := hC.2.2.2.1
  have hts := hC.2.2.2.2.1
  generalize hA : ([.ref ((ad 1)), .int x, .int y1] : List Value).toArray = args at hC ⊢
  generalize hQ : vx_MQ _ _ _ _ _ _ _ _ = Q
  obtain ⟨locs, hlocs⟩ : ∃ z : List Loc, z = [] := ⟨_, rfl⟩
  obtain ⟨H, hH⟩ : ∃ z : Heap, z = s.heap := ⟨_, rfl⟩
  rw [← hlocs, ← hH] at hM ⊢
  have hl : lv_has ls 6 [(0, .ref ((ad 1))), (1, .int x), (2, .int y1)] := hl
  refine lv_aload_n hx hb dX6_oddEven_0 rfl (lv_at hl 0 rfl) ?_
  refine lv_iload_n hx hb dX6_oddEven_1 rfl (lv_at hl 1 rfl) ?_
  refine lv_iload_n hx hb dX6_oddEven_2 rfl (lv_at hl 2 rfl) ?_
  refine z_xpcallq hQ (z_xrunV hC hM (c_nToFold (nn := fun i => ad (103 + 10 * i)) (lo := fun i => ad (104 + 10 * i)) (kc := fun i => A.1 14 i) (v0 := fun i => nI (A.1 2 i)) (v1 := fun i => ad (101 + 10 * i)) (v2 := fun i => nI (A.1 8 i)) (v3 := fun i => nI (A.1 9 i)) (v4 := fun i => nI (A.1 10 i)) hst hLo hfo hl6 (by omega) (fun i hi => ⟨hmem _ (live_s hi (by omega)), (hSt i hi).1⟩) (fun i hi => ⟨hmem _ (live_s hi (by omega)), (hSt i hi).2.2.1⟩) (fun i hi => by show A.1 14 i ≤ 1000; rw [(hvS i hi).2.2.2.2.2.2.1]; exact fN_le _ _) x y1) zy_X6_nightsToFold zm_X6_134 hLo hfo zcl_X6 rfl rfl rfl hl.1 (Nat.le_of_ble_eq_true rfl) ⟨by decide, by decide⟩ ⟨by decide, by decide⟩ dX6_oddEven_3) hM hxt hlk (by decide) (by decide) (fun E hE => hE.elim (fun h => by obtain ⟨rfl, h9⟩ := h; exact hth 0 _ (kf1 h9) rfl) (fun ⟨i, hi, hx, h⟩ => by subst hx; have hs9 : isS A (nI i) := iR_nI (by omega) (by omega) (by omega); have hiv := iv_nI (i := i) (by omega); exact h.elim (fun h => by obtain ⟨rfl, h9⟩ := h; exact hth 1 _ (kf2 hs9 h9) rfl) (fun h => by obtain ⟨rfl, h9, h8⟩ := h; exact hth 2 _ (kf3 hs9 h9 (by rw [hiv]; exact h8)) rfl))) (fun r_3 hp_3 H locs hM => ?_)
  obtain ⟨i, hi, hx9, hy9, hk20, rfl⟩ := hp_3
  subst hx9
  obtain ⟨b, hb1, hb2, rfl⟩ := inR_nI (by decide) hy9
  have hivb := iv_nI (i := b) (by omega)
  have hk20 : 20 ≤ A.1 14 i := hk20
  have hiv := iv_nI (i := i) (by omega)
  have hs9 : isS A (nI i) := iR_nI (by omega) (by omega) (by omega)
  obtain ⟨hS1, hS2, hS3, hS4, hS5⟩ := hSt i hi
  obtain ⟨w1, w2, w3, w4, w5, w6, w7, w8⟩ := hvS i hi
  have hGo := gk_ok hV i
  have hFP := fp_ok hGo
  have hCF9 := hCF
  obtain ⟨fl, mn, sg, cg, hffo, hfso, hfco, hz1, hz2, hz3⟩ := hCF
  have hk0 : k_fold A (nI i) (nI b) = 0 := kf0 hs9 (iR_nI (by omega) (by omega) (by omega)) (by rw [hiv]; exact hk20)
  refine lv_astore_n (lv' := [(3, .ref ((ad (103 + 10 * i)))), (0, .ref ((ad 1))), (1, .int (nI i)), (2, .int (nI b))]) hx hb dX6_oddEven_6 rfl hl (by decide) rfl (fun ls hl => ?_)
  refine lv_aload_n hx hb dX6_oddEven_7 rfl (lv_at hl 1 rfl) ?_
  refine z_get hC hM hLo hfo zcl_X6 (by decide) zl_X6_33 rfl dX6_oddEven_8 ?_
  refine lv_iload_n hx hb dX6_oddEven_11 rfl (lv_at hl 3 rfl) ?_
  refine lv_aload_n hx hb dX6_oddEven_12 rfl (lv_at hl 0 rfl) ?_
  refine z_fcallv (z_runV hC hM (c_foldBy (hmem _ (live_c (by omega))) hffo (hmem _ (live_c (by omega))) hfso (hmem _ (live_c (by omega))) hfco hz1 (fun j hj => congrArg nI (hz2 j hj)) (hmem _ (live_s hi (by omega))) hS3 (hmem _ (live_s hi (by omega))) hS4 w7 hFP (ad_ne hinj (live_c (by omega)) (live_c (by omega)) (by omega)) (ad_ne hinj (live_c (by omega)) (live_c (by omega)) (by omega)) (ad_ne hinj (live_c (by omega)) (live_s hi (by omega)) (by omega)) (ad_ne hinj (live_c (by omega)) (live_s hi (by omega)) (by omega)) (ad_ne hinj (live_c (by omega)) (live_c (by omega)) (by omega)) (ad_ne hinj (live_c (by omega)) (live_s hi (by omega)) (by omega)) (ad_ne hinj (live_c (by omega)) (live_s hi (by omega)) (by omega)) (ad_ne hinj (live_c (by omega)) (live_s hi (by omega)) (by omega)) (ad_ne hinj (live_c (by omega)) (live_s hi (by omega)) (by omega)) (ad_ne hinj (live_s hi (by omega)) (live_s hi (by omega)) (by omega)) (by omega) (by omega)) zy_X0_foldBy zm_X6_138 (hmem 2 (live_c (by omega))) hffo zcl_X0 rfl rfl rfl hl.1 (Nat.le_of_ble_eq_true rfl) ⟨by decide, by decide⟩ ⟨by decide, by decide⟩ dX6_oddEven_13) hM (fun H locs hM => ?_)
  obtain ⟨f_1, ef_1⟩ : ∃ z9, z9 = va_up f ((ad 3)) (eD K 120 (fS (gk A i) b 1000)) := ⟨_, rfl⟩
  rw [← ef_1] at hM
  have hF_2 : f_1 ((ad 1)) = eS 7 [.ref ((ad 6)), .ref ((ad 8)), .ref ((ad 10)), .ref ((ad 5)), .int (nI (hN A 1000)), .ref ((ad 2))] := by rw [ef_1]; exact (va_up_ne _ _ (ad_ne hinj (live_c (by omega)) (live_c (by omega)) (by omega))).trans hfo
  have hF_3 : f_1 ((ad 2)) = eS 1 [.ref ((ad 3)), .ref ((ad 4)), .int (nI fl), .double mn] := by rw [ef_1]; exact (va_up_ne _ _ (ad_ne hinj (live_c (by omega)) (live_c (by omega)) (by omega))).trans hffo
  have hF_4 : f_1 ((ad 3)) = eD K 120 (fS (gk A i) b 1000) := by rw [ef_1]; exact va_up_self _ _ _
  have hF_5 : f_1 ((ad 4)) = eI K 120 (fun j => nI (cg j)) := by rw [ef_1]; exact (va_up_ne _ _ (ad_ne hinj (live_c (by omega)) (live_c (by omega)) (by omega))).trans hfco
  have hF_6 : f_1 ((ad (103 + 10 * i))) = eS 2 [.ref ((ad (104 + 10 * i))), .int (nI (A.1 14 i))] := by rw [ef_1]; exact (va_up_ne _ _ (ad_ne hinj (live_s hi (by omega)) (live_c (by omega)) (by omega))).trans hS3
  have hF_7 : f_1 ((ad (104 + 10 * i))) = eD K 1000 (gk A i) := by rw [ef_1]; exact (va_up_ne _ _ (ad_ne hinj (live_s hi (by omega)) (live_c (by omega)) (by omega))).trans hS4
  obtain ⟨f_8, ef_8⟩ : ∃ z9, z9 = va_up f_1 ((ad 4)) (eI K 120 (fun j => nI ((fC (gk A i) b 1000) j))) := ⟨_, rfl⟩
  rw [← ef_8] at hM
  have hF_9 : f_8 ((ad 1)) = eS 7 [.ref ((ad 6)), .ref ((ad 8)), .ref ((ad 10)), .ref ((ad 5)), .int (nI (hN A 1000)), .ref ((ad 2))] := by rw [ef_8]; exact (va_up_ne _ _ (ad_ne hinj (live_c (by omega)) (live_c (by omega)) (by omega))).trans hF_2
  have hF_10 : f_8 ((ad 2)) = eS 1 [.ref ((ad 3)), .ref ((ad 4)), .int (nI fl), .double mn] := by rw [ef_8]; exact (va_up_ne _ _ (ad_ne hinj (live_c (by omega)) (live_c (by omega)) (by omega))).trans hF_3
  have hF_11 : f_8 ((ad 3)) = eD K 120 (fS (gk A i) b 1000) := by rw [ef_8]; exact (va_up_ne _ _ (ad_ne hinj (live_c (by omega)) (live_c (by omega)) (by omega))).trans hF_4
  have hF_12 : f_8 ((ad 4)) = eI K 120 (fun j => nI ((fC (gk A i) b 1000) j)) := by rw [ef_8]; exact va_up_self _ _ _
  have hF_13 : f_8 ((ad (103 + 10 * i))) = eS 2 [.ref ((ad (104 + 10 * i))), .int (nI (A.1 14 i))] := by rw [ef_8]; exact (va_up_ne _ _ (ad_ne hinj (live_s hi (by omega)) (live_c (by omega)) (by omega))).trans hF_6
  have hF_14 : f_8 ((ad (104 + 10 * i))) = eD K 1000 (gk A i) := by rw [ef_8]; exact (va_up_ne _ _ (ad_ne hinj (live_s hi (by omega)) (live_c (by omega)) (by omega))).trans hF_7
  obtain ⟨f_15, ef_15⟩ : ∃ z9, z9 = va_up f_8 ((ad 2)) (eS 1 [.ref ((ad 3)), .ref ((ad 4)), .int (nI b), .double (mnT (gk A i))]) := ⟨_, rfl⟩
  rw [← ef_15] at hM
  have hF_16 : f_15 ((ad 1)) = eS 7 [.ref ((ad 6)), .ref ((ad 8)), .ref ((ad 10)), .ref ((ad 5)), .int (nI (hN A 1000)), .ref ((ad 2))] := by rw [ef_15]; exact (va_up_ne _ _ (ad_ne hinj (live_c (by omega)) (live_c (by omega)) (by omega))).trans hF_9
  have hF_17 : f_15 ((ad 2)) = eS 1 [.ref ((ad 3)), .ref ((ad 4)), .int (nI b), .double (mnT (gk A i))] := by rw [ef_15]; exact va_up_self _ _ _
  have hF_18 : f_15 ((ad 3)) = eD K 120 (fS (gk A i) b 1000) := by rw [ef_15]; exact (va_up_ne _ _ (ad_ne hinj (live_c (by omega)) (live_c (by omega)) (by omega))).trans hF_11
  have hF_19 : f_15 ((ad 4)) = eI K 120 (fun j => nI ((fC (gk A i) b 1000) j)) := by rw [ef_15]; exact (va_up_ne _ _ (ad_ne hinj (live_c (by omega)) (live_c (by omega)) (by omega))).trans hF_12
  have hF_20 : f_15 ((ad (103 + 10 * i))) = eS 2 [.ref ((ad (104 + 10 * i))), .int (nI (A.1 14 i))] := by rw [ef_15]; exact (va_up_ne _ _ (ad_ne hinj (live_s hi (by omega)) (live_c (by omega)) (by omega))).trans hF_13
  have hF_21 : f_15 ((ad (104 + 10 * i))) = eD K 1000 (gk A i) := by rw [ef_15]; exact (va_up_ne _ _ (ad_ne hinj (live_s hi (by omega)) (live_c (by omega)) (by omega))).trans hF_14
  refine lv_aload_n hx hb dX6_oddEven_16 rfl (lv_at hl 1 rfl) ?_
  refine z_get hC hM hLo hF_16 zcl_X6 (by decide) zl_X6_33 rfl dX6_oddEven_17 ?_
  refine z_fcalli (z_runV hC hM (c_bestFold (hmem _ (live_c (by omega))) hF_17 (hmem _ (live_c (by omega))) hF_18 (hmem _ (live_c (by omega))) hF_19 (fun j => by have := fC_le (gk A i) b 1000 j; omega) (by omega) (fun x hx9 h9 => FP_fold hFP (by omega) x h9)) zy_X0_bestFold zm_X6_142 (hmem 2 (live_c (by omega))) hF_17 zcl_X0 rfl rfl rfl hl.1 (Nat.le_of_ble_eq_true rfl) ⟨by decide, by decide⟩ ⟨by decide, by decide⟩ dX6_oddEven_20) hM (fun H locs hM => ?_)
  obtain ⟨d, hd9, hdl, hdc⟩ := bFo_some (g := gk A i) (p := b) (by omega) (by omega)
  rw [hd9, show oN (some d) = nI d from rfl]
  have hoe : oeF (gk A i) b = if 0 < fC (gk A i) (2 * b) 1000 d ∧ 0 < fC (gk A i) (2 * b) 1000 (d + b) then FP.dsub (mnF (gk A i) (2 * b) d) (mnF (gk A i) (2 * b) (d + b)) else 0 := by rw [oeF, bFo, bfS, hd9]
  refine lv_istore (lv' := [(4, .int (nI d)), (3, .ref ((ad (103 + 10 * i)))), (0, .ref ((ad 1))), (1, .int (nI i)), (2, .int (nI b))]) hx hb dX6_oddEven_23 hl (by decide) rfl (fun ls hl => ?_)
  refine lv_iload hx hb dX6_oddEven_25 (lv_at hl 0 rfl) ?_
  refine lv_iload_n hx hb dX6_oddEven_27 rfl (lv_at hl 4 rfl) ?_
  refine z_iadd hx hb dX6_oddEven_28 ?_
  refine lv_istore (lv' := [(5, .int (nI (d + b))), (4, .int (nI d)), (3, .ref ((ad (103 + 10 * i)))), (0, .ref ((ad 1))), (1, .int (nI i)), (2, .int (nI b))]) hx hb dX6_oddEven_29 hl (by decide) rfl (fun ls hl => ?_)
  refine lv_aload_n hx hb dX6_oddEven_31 rfl (lv_at hl 3 rfl) ?_
  refine z_get hC hM hLo hF_16 zcl_X6 (by decide) zl_X6_33 rfl dX6_oddEven_32 ?_
  refine lv_iconst (v := nI 2) hx hb dX6_oddEven_35 (by decide) ?_
  refine lv_iload_n hx hb dX6_oddEven_36 rfl (lv_at hl 5 rfl) ?_
  refine z_imul hx hb dX6_oddEven_37 ?_
  refine lv_aload_n hx hb dX6_oddEven_38 rfl (lv_at hl 2 rfl) ?_
  refine z_fcallv (z_runV hC hM (c_foldBy (hmem _ (live_c (by omega))) hF_17 (hmem _ (live_c (by omega))) hF_18 (hmem _ (live_c (by omega))) hF_19 (fun j hj => fS_out (by omega) 1000 j (by omega)) (fun j hj => congrArg nI (fC_out (by omega) 1000 j (by omega))) (hmem _ (live_s hi (by omega))) hF_20 (hmem _ (live_s hi (by omega))) hF_21 w7 hFP (ad_ne hinj (live_c (by omega)) (live_c (by omega)) (by omega)) (ad_ne hinj (live_c (by omega)) (live_c (by omega)) (by omega)) (ad_ne hinj (live_c (by omega)) (live_s hi (by omega)) (by omega)) (ad_ne hinj (live_c (by omega)) (live_s hi (by omega)) (by omega)) (ad_ne hinj (live_c (by omega)) (live_c (by omega)) (by omega)) (ad_ne hinj (live_c (by omega)) (live_s hi (by omega)) (by omega)) (ad_ne hinj (live_c (by omega)) (live_s hi (by omega)) (by omega)) (ad_ne hinj (live_c (by omega)) (live_s hi (by omega)) (by omega)) (ad_ne hinj (live_c (by omega)) (live_s hi (by omega)) (by omega)) (ad_ne hinj (live_s hi (by omega)) (live_s hi (by omega)) (by omega)) (by omega) (by omega)) zy_X0_foldBy zm_X6_138 (hmem 2 (live_c (by omega))) hF_17 zcl_X0 rfl rfl rfl hl.1 (Nat.le_of_ble_eq_true rfl) ⟨by decide, by decide⟩ ⟨by decide, by decide⟩ dX6_oddEven_39) hM (fun H locs hM => ?_)
  obtain ⟨f_22, ef_22⟩ : ∃ z9, z9 = va_up f_15 ((ad 3)) (eD K 120 (fS (gk A i) (2 * b) 1000)) := ⟨_, rfl⟩
  rw [← ef_22] at hM
  have hF_23 : f_22 ((ad 1)) = eS 7 [.ref ((ad 6)), .ref ((ad 8)), .ref ((ad 10)), .ref ((ad 5)), .int (nI (hN A 1000)), .ref ((ad 2))] := by rw [ef_22]; exact (va_up_ne _ _ (ad_ne hinj (live_c (by omega)) (live_c (by omega)) (by omega))).trans hF_16
  have hF_24 : f_22 ((ad 2)) = eS 1 [.ref ((ad 3)), .ref ((ad 4)), .int (nI b), .double (mnT (gk A i))] := by rw [ef_22]; exact (va_up_ne _ _ (ad_ne hinj (live_c (by omega)) (live_c (by omega)) (by omega))).trans hF_17
  have hF_25 : f_22 ((ad 3)) = eD K 120 (fS (gk A i) (2 * b) 1000) := by rw [ef_22]; exact va_up_self _ _ _
  have hF_26 : f_22 ((ad 4)) = eI K 120 (fun j => nI ((fC (gk A i) b 1000) j)) := by rw [ef_22]; exact (va_up_ne _ _ (ad_ne hinj (live_c (by omega)) (live_c (by omega)) (by omega))).trans hF_19
  have hF_27 : f_22 ((ad (103 + 10 * i))) = eS 2 [.ref ((ad (104 + 10 * i))), .int (nI (A.1 14 i))] := by rw [ef_22]; exact (va_up_ne _ _ (ad_ne hinj (live_s hi (by omega)) (live_c (by omega)) (by omega))).trans hF_20
  have hF_28 : f_22 ((ad (104 + 10 * i))) = eD K 1000 (gk A i) := by rw [ef_22]; exact (va_up_ne _ _ (ad_ne hinj (live_s hi (by omega)) (live_c (by omega)) (by omega))).trans hF_21
  obtain ⟨f_29, ef_29⟩ : ∃ z9, z9 = va_up f_22 ((ad 4)) (eI K 120 (fun j => nI ((fC (gk A i) (2 * b) 1000) j))) := ⟨_, rfl⟩
  rw [← ef_29] at hM
  have hF_30 : f_29 ((ad 1)) = eS 7 [.ref ((ad 6)), .ref ((ad 8)), .ref ((ad 10)), .ref ((ad 5)), .int (nI (hN A 1000)), .ref ((ad 2))] := by rw [ef_29]; exact (va_up_ne _ _ (ad_ne hinj (live_c (by omega)) (live_c (by omega)) (by omega))).trans hF_23
  have hF_31 : f_29 ((ad 2)) = eS 1 [.ref ((ad 3)), .ref ((ad 4)), .int (nI b), .double (mnT (gk A i))] := by rw [ef_29]; exact (va_up_ne _ _ (ad_ne hinj (live_c (by omega)) (live_c (by omega)) (by omega))).trans hF_24
  have hF_32 : f_29 ((ad 3)) = eD K 120 (fS (gk A i) (2 * b) 1000) := by rw [ef_29]; exact (va_up_ne _ _ (ad_ne hinj (live_c (by omega)) (live_c (by omega)) (by omega))).trans hF_25
  have hF_33 : f_29 ((ad 4)) = eI K 120 (fun j => nI ((fC (gk A i) (2 * b) 1000) j)) := by rw [ef_29]; exact va_up_self _ _ _
  have hF_34 : f_29 ((ad (103 + 10 * i))) = eS 2 [.ref ((ad (104 + 10 * i))), .int (nI (A.1 14 i))] := by rw [ef_29]; exact (va_up_ne _ _ (ad_ne hinj (live_s hi (by omega)) (live_c (by omega)) (by omega))).trans hF_27
  have hF_35 : f_29 ((ad (104 + 10 * i))) = eD K 1000 (gk A i) := by rw [ef_29]; exact (va_up_ne _ _ (ad_ne hinj (live_s hi (by omega)) (live_c (by omega)) (by omega))).trans hF_28
  obtain ⟨f_36, ef_36⟩ : ∃ z9, z9 = va_up f_29 ((ad 2)) (eS 1 [.ref ((ad 3)), .ref ((ad 4)), .int (nI (2 * b)), .double (mnT (gk A i))]) := ⟨_, rfl⟩
  rw [← ef_36] at hM
  have hF_37 : f_36 ((ad 1)) = eS 7 [.ref ((ad 6)), .ref ((ad 8)), .ref ((ad 10)), .ref ((ad 5)), .int (nI (hN A 1000)), .ref ((ad 2))] := by rw [ef_36]; exact (va_up_ne _ _ (ad_ne hinj (live_c (by omega)) (live_c (by omega)) (by omega))).trans hF_30
  have hF_38 : f_36 ((ad 2)) = eS 1 [.ref ((ad 3)), .ref ((ad 4)), .int (nI (2 * b)), .double (mnT (gk A i))] := by rw [ef_36]; exact va_up_self _ _ _
  have hF_39 : f_36 ((ad 3)) = eD K 120 (fS (gk A i) (2 * b) 1000) := by rw [ef_36]; exact (va_up_ne _ _ (ad_ne hinj (live_c (by omega)) (live_c (by omega)) (by omega))).trans hF_32
  have hF_40 : f_36 ((ad 4)) = eI K 120 (fun j => nI ((fC (gk A i) (2 * b) 1000) j)) := by rw [ef_36]; exact (va_up_ne _ _ (ad_ne hinj (live_c (by omega)) (live_c (by omega)) (by omega))).trans hF_33
  have hF_41 : f_36 ((ad (103 + 10 * i))) = eS 2 [.ref ((ad (104 + 10 * i))), .int (nI (A.1 14 i))] := by rw [ef_36]; exact (va_up_ne _ _ (ad_ne hinj (live_s hi (by omega)) (live_c (by omega)) (by omega))).trans hF_34
  have hF_42 : f_36 ((ad (104 + 10 * i))) = eD K 1000 (gk A i) := by rw [ef_36]; exact (va_up_ne _ _ (ad_ne hinj (live_s hi (by omega)) (live_c (by omega)) (by omega))).trans hF_35
  refine lv_aload_n hx hb dX6_oddEven_42 rfl (lv_at hl 3 rfl) ?_
  refine z_get hC hM hLo hF_37 zcl_X6 (by decide) zl_X6_33 rfl dX6_oddEven_43 ?_
  refine lv_iload hx hb dX6_oddEven_46 (lv_at hl 1 rfl) ?_
  refine z_fcalli (z_runV hC hM (c_hasHours (hmem _ (live_c (by omega))) hF_38 (hmem _ (live_c (by omega))) hF_39 (hmem _ (live_c (by omega))) hF_40 (fun j => by have := fC_le (gk A i) (2 * b) 1000 j; omega) (d) (by omega)) zy_X0_hasHours zm_X6_158 (hmem 2 (live_c (by omega))) hF_38 zcl_X0 rfl rfl rfl hl.1 (Nat.le_of_ble_eq_true rfl) ⟨by decide, by decide⟩ ⟨by decide, by decide⟩ dX6_oddEven_48) hM (fun H locs hM => ?_)
  refine z_if_eqB (tgt := 66) hx hb dX6_oddEven_51 (by decide) (fun c_51 => ?_) (fun c_51 => ?_)
  · refine lv_dconst0 hx hb dX6_oddEven_66 ?_
    refine z_fcalll (z_runS hC hM (c_bitsOf (Or.inl (by decide +kernel))) zy_X6_bitsOf zm_X6_98 rfl rfl hl.1 (Nat.le_of_ble_eq_true rfl) ⟨by decide, by decide⟩ ⟨by decide, by decide⟩ dX6_oddEven_67) hM (fun H locs hM => ?_)
    rw [← hQ]
    refine vx_ret ?_
    exact z_lret hC hM hr hlk (by decide) (by decide) ⟨hk0, by rw [v_oddEven, hiv, hivb, hoe, if_neg (fun z => c_51 ⟨by omega, z.1⟩)]; decide +kernel, CR.scr hI (CFx.of (p := 2 * b) (g := gk A i) (by omega) (by omega) hF_38 hF_39 hF_40) (fun q h2 h3 h4 => by rw [ef_36, ef_29, ef_22, ef_15, ef_8, ef_1]; simp only [va_up, h2, h3, h4, if_false])⟩ dX6_oddEven_70
  · refine lv_aload_n hx hb dX6_oddEven_54 rfl (lv_at hl 3 rfl) ?_
    refine z_get hC hM hLo hF_37 zcl_X6 (by decide) zl_X6_33 rfl dX6_oddEven_55 ?_
    refine lv_iload hx hb dX6_oddEven_58 (lv_at hl 0 rfl) ?_
    refine z_fcalli (z_runV hC hM (c_hasHours (hmem _ (live_c (by omega))) hF_38 (hmem _ (live_c (by omega))) hF_39 (hmem _ (live_c (by omega))) hF_40 (fun j => by have := fC_le (gk A i) (2 * b) 1000 j; omega) (d + b) (by omega)) zy_X0_hasHours zm_X6_158 (hmem 2 (live_c (by omega))) hF_38 zcl_X0 rfl rfl rfl hl.1 (Nat.le_of_ble_eq_true rfl) ⟨by decide, by decide⟩ ⟨by decide, by decide⟩ dX6_oddEven_60) hM (fun H locs hM => ?_)
    refine z_if_neB (tgt := 71) hx hb dX6_oddEven_63 (by decide) (fun c_63 => ?_) (fun c_63 => ?_)
    · refine lv_aload_n hx hb dX6_oddEven_71 rfl (lv_at hl 3 rfl) ?_
      refine z_get hC hM hLo hF_37 zcl_X6 (by decide) zl_X6_33 rfl dX6_oddEven_72 ?_
      refine lv_iload hx hb dX6_oddEven_75 (lv_at hl 1 rfl) ?_
      refine z_fcalld (z_runV hC hM (c_meanOf (hmem _ (live_c (by omega))) hF_38 (hmem _ (live_c (by omega))) hF_39 (hmem _ (live_c (by omega))) hF_40 (fun j => by have := fC_le (gk A i) (2 * b) 1000 j; omega) (d) (by omega) (fun h9 => (FP_fold hFP (by omega) _ h9).1)) zy_X0_meanOf zm_X6_161 (hmem 2 (live_c (by omega))) hF_38 zcl_X0 rfl rfl rfl hl.1 (Nat.le_of_ble_eq_true rfl) ⟨by decide, by decide⟩ ⟨by decide, by decide⟩ dX6_oddEven_77) hM (fun H locs hM => ?_)
      refine lv_aload_n hx hb dX6_oddEven_80 rfl (lv_at hl 3 rfl) ?_
      refine z_get hC hM hLo hF_37 zcl_X6 (by decide) zl_X6_33 rfl dX6_oddEven_81 ?_
      refine lv_iload hx hb dX6_oddEven_84 (lv_at hl 0 rfl) ?_
      refine z_fcalld (z_runV hC hM (c_meanOf (hmem _ (live_c (by omega))) hF_38 (hmem _ (live_c (by omega))) hF_39 (hmem _ (live_c (by omega))) hF_40 (fun j => by have := fC_le (gk A i) (2 * b) 1000 j; omega) (d + b) (by omega) (fun h9 => (FP_fold hFP (by omega) _ h9).1)) zy_X0_meanOf zm_X6_161 (hmem 2 (live_c (by omega))) hF_38 zcl_X0 rfl rfl rfl hl.1 (Nat.le_of_ble_eq_true rfl) ⟨by decide, by decide⟩ ⟨by decide, by decide⟩ dX6_oddEven_86) hM (fun H locs hM => ?_)
      refine lv_dsub hx hb dX6_oddEven_89 (hFP.2.2.2.2.2.2 (2 * b) d (d + b) (by omega) c_51.2 c_63.2) ?_
      refine z_fcalll (z_runS hC hM (c_bitsOf (by have h9 := oe_bits hGo (p := b) (by omega) (by omega); rw [hoe, if_pos ⟨c_51.2, c_63.2⟩] at h9; exact h9)) zy_X6_bitsOf zm_X6_98 rfl rfl hl.1 (Nat.le_of_ble_eq_true rfl) ⟨by decide, by decide⟩ ⟨by decide, by decide⟩ dX6_oddEven_90) hM (fun H locs hM => ?_)
      rw [← hQ]
      refine vx_ret ?_
      exact z_lret hC hM hr hlk (by decide) (by decide) ⟨hk0, by rw [v_oddEven, hiv, hivb, hoe, if_pos ⟨c_51.2, c_63.2⟩]; rfl, CR.scr hI (CFx.of (p := 2 * b) (g := gk A i) (by omega) (by omega) hF_38 hF_39 hF_40) (fun q h2 h3 h4 => by rw [ef_36, ef_29, ef_22, ef_15, ef_8, ef_1]; simp only [va_up, h2, h3, h4, if_false])⟩ dX6_oddEven_93
    · refine lv_dconst0 hx hb dX6_oddEven_66 ?_
      refine z_fcalll (z_runS hC hM (c_bitsOf (Or.inl (by decide +kernel))) zy_X6_bitsOf zm_X6_98 rfl rfl hl.1 (Nat.le_of_ble_eq_true rfl) ⟨by decide, by decide⟩ ⟨by decide, by decide⟩ dX6_oddEven_67) hM (fun H locs hM => ?_)
      rw [← hQ]
      refine vx_ret ?_
      exact z_lret hC hM hr hlk (by decide) (by decide) ⟨hk0, by rw [v_oddEven, hiv, hivb, hoe, if_neg (fun z => c_63 ⟨by omega, z.2⟩)]; decide +kernel, CR.scr hI (CFx.of (p := 2 * b) (g := gk A i) (by omega) (by omega) hF_38 hF_39 hF_40) (fun q h2 h3 h4 => by rw [ef_36, ef_29, ef_22, ef_15, ef_8, ef_1]; simp only [va_up, h2, h3, h4, if_false])⟩ dX6_oddEven_70
set_option maxHeartbeats 400000 in
set_option maxRecDepth 100000 in
theorem p_about {l : Launch} {base : Nat} {K : zK} {L : List Nat} {f : Nat → va_E} (hst : l.stackTraces = false) {A : zA} {ad : Nat → Nat} (hI : CI K L f A ad) (x y1 : Int32) : zXMet l yX6_about cX6_about 4 (some .int) (zr 7 2 12 104) base K L f [.ref ((ad 1)), .int x, .int y1] (zQi base K (fun r L1 f1 => k_about A x y1 = 0 ∧ r = v_about A x y1 ∧ CR K A ad L f A L1 f1)) (fun E L1 f1 => xE [xIO, xIA] (k_about A x y1) E ∧ CR K A ad L f A L1 f1) := by
  have hI9 := hI
  obtain ⟨hV, hmem, hinj, hCX, hCF, hh5, hl6, hl8, hl10, hSt, hWo, hPa⟩ := hI9
  have hV9 := hV
  obtain ⟨hv1, hv2, hv3, hvS, -, -, -, -, hv11, hvW, hv23, -, hvP⟩ := hV9
  have hLo := hmem 1 (live_c (by omega))
  have hfo : f (ad 1) = eS 7 [.ref ((ad 6)), .ref ((ad 8)), .ref ((ad 10)), .ref ((ad 5)), .int (nI (hN A 1000)), .ref ((ad 2))] := hCX
  have hth : ∀ n E, k_about A x y1 = n + 1 → [xIO, xIA][n]? = some E → (xE [xIO, xIA] (k_about A x y1) E ∧ CR K A ad L f A L f) := fun n E h1 h2 => ⟨⟨by omega, by rw [h1]; exact h2⟩, CR.id hI⟩
  refine z_xmet (by decide) (Nat.le_of_ble_eq_true rfl) (fun p e s m below meth c ls hC hM hr hlk hxt hl => ?_)
  have hx := hC.1
  have hb := hC.2.1
  have hml := hC.2.2.1
  have hown := hC.2.2.2.1
  have hts := hC.2.2.2.2.1
  generalize hA : ([.ref ((ad 1)), .int x, .int y1] : List Value).toArray = args at hC ⊢
  generalize hQ : vx_MQ _ _ _ _ _ _ _ _ = Q
  obtain ⟨locs, hlocs⟩ : ∃ z : List Loc, z = [] := ⟨_, rfl⟩
  obtain ⟨H, hH⟩ : ∃ z : Heap, z = s.heap := ⟨_, rfl⟩
  rw [← hlocs, ← hH] at hM ⊢
  have hl : lv_has ls 4 [(0, .ref ((ad 1))), (1, .int x), (2, .int y1)] := hl
  refine lv_aload_n hx hb dX6_about_0 rfl (lv_at hl 0 rfl) ?_
  refine lv_iload_n hx hb dX6_about_1 rfl (lv_at hl 1 rfl) ?_
  refine z_xpcallq hQ (z_xrunV hC hM (c_worldAt hst hLo hfo hl8 (by omega) (fs := fun w => fsOf (f (ad (300 + 10 * w)))) (fun w hw => ⟨hmem _ (live_w hw (by omega)), by obtain ⟨t9, g9, h9, -⟩ := hWo w hw; show f (ad (300 + 10 * w)) = eS 6 (fsOf (f (ad (300 + 10 * w)))); rw [h9]; rfl⟩) x) zy_X6_worldAt zm_X6_174 hLo hfo zcl_X6 rfl rfl rfl hl.1 (Nat.le_of_ble_eq_true rfl) ⟨by decide, by decide⟩ ⟨by decide, by decide⟩ dX6_about_2) hM hxt hlk (by decide) (by decide) (fun E hE => by obtain ⟨rfl, h9⟩ := hE; exact hth 0 _ (if_pos h9) rfl) (fun r_2 hp_2 H locs hM => ?_)
  obtain ⟨w, hw, hx9, rfl⟩ := hp_2
  subst hx9
  have hs9 : isW A (nI w) := iR_nI (by omega) (by omega) (by omega)
  have hiv := iv_nI (i := w) (by omega)
  obtain ⟨th, gw, hW1, hW2, hW3, hW4, hW5, hW6⟩ := hWo w hw
  obtain ⟨u1, u2, u3, u4⟩ := hvW w hw
  have u5 := hv23 w
  refine lv_astore_n (lv' := [(3, .ref ((ad (300 + 10 * w)))), (0, .ref ((ad 1))), (1, .int (nI w)), (2, .int y1)]) hx hb dX6_about_5 rfl hl (by decide) rfl (fun ls hl => ?_)
  refine lv_iload_n hx hb dX6_about_6 rfl (lv_at hl 3 rfl) ?_
  refine lv_iconst (v := nI 0) hx hb dX6_about_7 (by decide) ?_
  refine lv_iconst (v := nI 3) hx hb dX6_about_8 (by decide) ?_
  refine z_xpcallv hQ (z_xrunS hC hM (c_reqRange hst y1 0 3 (by decide) (by decide)) zy_X6_requireRange zm_X6_38 rfl rfl hl.1 (Nat.le_of_ble_eq_true rfl) ⟨by decide, by decide⟩ ⟨by decide, by decide⟩ dX6_about_9) hM hxt hlk (by decide) (by decide) (fun E hE => by obtain ⟨rfl, h9⟩ := hE; exact hth 1 _ (by unfold k_about; exact (if_neg (fun z => z hs9)).trans (if_pos h9)) rfl) (fun hp_9 H locs hM => ?_)
  obtain ⟨a, ha1, ha2, rfl⟩ := inR_nI (by decide) hp_9
  have hiva := iv_nI (i := a) (by omega)
  refine lv_iload_n hx hb dX6_about_12 rfl (lv_at hl 3 rfl) ?_
  have hk0 : k_about A (nI w) (nI a) = 0 := by unfold k_about; exact (if_neg (fun z => z hs9)).trans (if_neg (fun z => z (iR_nI (by omega) (by omega) (by omega))))
  have ha9 : a = 0 ∨ a = 1 ∨ a = 2 ∨ a = 3 := by omega
  rcases ha9 with ha9 | ha9 | ha9 | ha9 <;> subst ha9
  · refine lv_tableIn (tgt := 40) hx hb dX6_about_13 (by decide) (by decide) rfl (by decide) ?_
    refine lv_aload_n hx hb dX6_about_40 rfl (lv_at hl 0 rfl) ?_
    refine z_getN hC hM (hmem _ (live_w hw (by omega))) hW1 zcl_X5 (by decide) zl_X6_178 rfl dX6_about_41 ?_
    rw [← hQ]
    refine vx_ret ?_
    exact z_iret hC hM hr hlk rfl (by decide) (by decide) ⟨hk0, by rw [v_about, hiv, hiva, if_pos (show 0 = 0 from rfl)], CR.id hI⟩ dX6_about_44
  · refine lv_tableIn (tgt := 45) hx hb dX6_about_13 (by decide) (by decide) rfl (by decide) ?_
    refine lv_aload_n hx hb dX6_about_45 rfl (lv_at hl 0 rfl) ?_
    refine z_getN hC hM (hmem _ (live_w hw (by omega))) hW1 zcl_X5 (by decide) zl_X6_181 rfl dX6_about_46 ?_
    rw [← hQ]
    refine vx_ret ?_
    exact z_iret hC hM hr hlk rfl (by decide) (by decide) ⟨hk0, by rw [v_about, hiv, hiva, if_neg (show ¬ 1 = 0 by decide), if_pos (show 1 = 1 from rfl)], CR.id hI⟩ dX6_about_49
  · refine lv_tableIn (tgt := 50) hx hb dX6_about_13 (by decide) (by decide) rfl (by decide) ?_
    refine lv_aload_n hx hb dX6_about_50 rfl (lv_at hl 0 rfl) ?_
    refine z_getN hC hM (hmem _ (live_w hw (by omega))) hW1 zcl_X5 (by decide) zl_X6_184 rfl dX6_about_51 ?_
    rw [← hQ]
    refine vx_ret ?_
    exact z_iret hC hM hr hlk rfl (by decide) (by decide) ⟨hk0, by rw [v_about, hiv, hiva, if_neg (show ¬ 2 = 0 by decide), if_neg (show ¬ 2 = 1 by decide), if_pos (show 2 = 2 from rfl)], CR.id hI⟩ dX6_about_54
  · refine lv_tableOut (tgt := 55) hx hb dX6_about_13 (by decide) (by decide) ?_
    refine lv_aload_n hx hb dX6_about_55 rfl (lv_at hl 0 rfl) ?_
    refine z_getN hC hM (hmem _ (live_w hw (by omega))) hW1 zcl_X5 (by decide) zl_X6_187 rfl dX6_about_56 ?_
    refine z_if_eq (tgt := 66) hx hb (nI_toInt (by omega)) dX6_about_59 (by decide) (fun c_59 => ?_) (fun c_59 => ?_)
    · refine lv_iconst (v := nI 0) hx hb dX6_about_66 (by decide) ?_
      rw [← hQ]
      refine vx_ret ?_
      exact z_iret hC hM hr hlk rfl (by decide) (by decide) ⟨hk0, by rw [v_about, hiv, hiva, if_neg (show ¬ 3 = 0 by decide), if_neg (show ¬ 3 = 1 by decide), if_neg (show ¬ 3 = 2 by decide)]; exact congrArg nI (by omega), CR.id hI⟩ dX6_about_67
    · refine lv_iconst (v := nI 1) hx hb dX6_about_62 (by decide) ?_
      refine lv_goto (tgt := 67) hx hb dX6_about_63 (by decide) ?_
      rw [← hQ]
      refine vx_ret ?_
      exact z_iret hC hM hr hlk rfl (by decide) (by decide) ⟨hk0, by rw [v_about, hiv, hiva, if_neg (show ¬ 3 = 0 by decide), if_neg (show ¬ 3 = 1 by decide), if_neg (show ¬ 3 = 2 by decide)]; exact congrArg nI (by omega), CR.id hI⟩ dX6_about_67
