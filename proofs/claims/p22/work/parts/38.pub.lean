/-! CONTRACTS of Transitry's own methods, third part: cloud, observe (rows laid by wip/whole/pub3.py) -/
theorem ob_same {A : zA} {i a : Nat} : ∀ n k, k ≠ 12 → k ≠ 14 → (obA A i a n).1 k = A.1 k
  | 0, _, _, _ => rfl
  | n + 1, k, h1, h2 => by
    rw [obA]
    split
    · exact ob_same n k h1 h2
    · show (if k = 14 then _ else if k = 12 then _ else (obA A i a n).1 k) = A.1 k
      rw [if_neg h2, if_neg h1]
      exact ob_same n k h1 h2
theorem ob_14 {A : zA} {i a : Nat} : ∀ n, A.1 14 i ≤ (obA A i a n).1 14 i
  | 0 => Nat.le_refl _
  | n + 1 => by
    have ih := ob_14 (A := A) (i := i) (a := a) n
    rw [obA]
    split
    · exact ih
    · rw [kpA_14, va_up_self]; omega
theorem ltV_same {A A' : zA} {i h : Nat} (hk : ∀ k, k ≠ 12 → k ≠ 14 → A'.1 k = A.1 k) : ltV A' i h = ltV A i h := by
  unfold ltV
  rw [hk 2 (by decide) (by decide), hk 3 (by decide) (by decide), hk 4 (by decide) (by decide), hk 5 (by decide) (by decide), hk 6 (by decide) (by decide), hk 7 (by decide) (by decide), hk 8 (by decide) (by decide), hk 9 (by decide) (by decide), hk 10 (by decide) (by decide)]
set_option maxHeartbeats 400000 in
set_option maxRecDepth 100000 in
theorem p_cloud {l : Launch} {base : Nat} {K : zK} {L : List Nat} {f : Nat → va_E} (hst : l.stackTraces = false) {A : zA} {ad : Nat → Nat} (hI : CI K L f A ad) (x y1 : Int32) : zXMet l yX6_cloud cX6_cloud 4 (some .int) (zr 8 3 18 130) base K L f [.ref ((ad 1)), .int x, .int y1] (zQi base K (fun r L1 f1 => k_cloud x y1 = 0 ∧ r = v_cloud A x y1 ∧ CR K A ad L f (a_cloud A x y1) L1 f1)) (fun E L1 f1 => xE [xIO, xIA] (k_cloud x y1) E ∧ CR K A ad L f (a_cloud A x y1) L1 f1) := by
  have hI9 := hI
  obtain ⟨hV, hmem, hinj, hCX, hCF, hh5, hl6, hl8, hl10, hSt, hWo, hPa⟩ := hI9
  have hV9 := hV
  obtain ⟨hv1, hv2, hv3, hvS, -, -, -, -, hv11, hvW, hv23, -, hvP⟩ := hV9
  have hLo := hmem 1 (live_c (by omega))
  have hfo : f (ad 1) = eS 7 [.ref ((ad 6)), .ref ((ad 8)), .ref ((ad 10)), .ref ((ad 5)), .int (nI (hN A 1000)), .ref ((ad 2))] := hCX
  have hth : ∀ n E, k_cloud x y1 = n + 1 → [xIO, xIA][n]? = some E → (xE [xIO, xIA] (k_cloud x y1) E ∧ CR K A ad L f (a_cloud A x y1) L f) := fun n E h1 h2 => ⟨⟨by omega, by rw [h1]; exact h2⟩, by rw [a_cloud, if_neg (by omega)]; exact CR.id hI⟩
  refine z_xmet (by decide) (Nat.le_of_ble_eq_true rfl) (fun p e s m below meth c ls hC hM hr hlk hxt hl => ?_)
  have hx := hC.1
  have hb := hC.2.1
  have hml := hC.2.2.1
  have hown := hC.2.2.2.1
  have hts := hC.2.2.2.2.1
  generalize hA : ([.ref ((ad 1)), .int x, .int y1] : List Value).toArray = args at hC ⊢
  generalize hQ : vx_MQ _ _ _ _ _ _ _ _ = Q
  obtain ⟨locs, hlocs⟩ : ∃ z : List Loc, z = [] := ⟨_, rfl⟩
  obtain ⟨H, hH⟩ : ∃ z : Heap, z = s.heap := ⟨_, rfl⟩
  rw [← hlocs, ← hH] at hM ⊢
  have hl : lv_has ls 4 [(0, .ref ((ad 1))), (1, .int x), (2, .int y1)] := hl
  refine lv_iload_n hx hb dX6_cloud_0 rfl (lv_at hl 1 rfl) ?_
  refine lv_iload_n hx hb dX6_cloud_1 rfl (lv_at hl 2 rfl) ?_
  refine z_xpcallv hQ (z_xrunS hC hM (c_reqHours hst x y1) zy_X6_requireHours zm_X6_102 rfl rfl hl.1 (Nat.le_of_ble_eq_true rfl) ⟨by decide, by decide⟩ ⟨by decide, by decide⟩ dX6_cloud_2) hM hxt hlk (by decide) (by decide) (fun E hE => hE.elim (fun h => by obtain ⟨rfl, h9⟩ := h; exact hth 0 _ (if_pos h9) rfl) (fun h => by obtain ⟨rfl, h9, h8⟩ := h; exact hth 1 _ (by unfold k_cloud; exact (if_neg (fun z => z h9)).trans (if_pos h8)) rfl)) (fun hp_2 H locs hM => ?_)
  obtain ⟨hx1, hy1, hxy⟩ := hp_2
  obtain ⟨a, ha1, ha2, rfl⟩ := inR_nI (by decide) hx1
  obtain ⟨b, hb1, hb2, rfl⟩ := inR_nI (by decide) hy1
  rw [nI_toInt (by omega), nI_toInt (by omega)] at hxy
  have hiva := iv_nI (i := a) (by omega)
  have hivb := iv_nI (i := b) (by omega)
  obtain ⟨n, hn⟩ : ∃ n, n = b + 1 - a := ⟨_, rfl⟩
  have hk0 : k_cloud (nI a) (nI b) = 0 := by unfold k_cloud; exact (if_neg (fun z => z ⟨iR_nI (by omega) (by omega) (by omega), iR_nI (by omega) (by omega) (by omega)⟩)).trans (if_neg (by rw [nI_toInt (by omega), nI_toInt (by omega)]; omega))
  refine lv_iload_n hx hb dX6_cloud_5 rfl (lv_at hl 1 rfl) ?_
  refine lv_istore_n (lv' := [(3, .int (nI a)), (0, .ref ((ad 1))), (1, .int (nI a)), (2, .int (nI b))]) hx hb dX6_cloud_6 rfl hl (by decide) rfl (fun ls hl => ?_)
  have LOOP7 : ∀ i, i ≤ n → ∀ (ls : Array Slot) (H : Heap) (locs : List Loc) (f1 : Nat → va_E), lv_has ls 4 [(3, .int (nI (a + i))), (2, .int (nI b)), (1, .int (nI a)), (0, .ref ((ad 1)))] → zM base K L f1 s H locs → (CI K L f1 (clA A a i) ad) → (∀ q, (∀ t, live A t → ad t ≠ q) → f1 q = f q) → ((clA A a i).1 0 = A.1 0 ∧ (clA A a i).1 3 = A.1 3) → W p l e (zr 8 3 18 130) s m args below meth c H locs (0 + (zr 7 3 18 103).cells) (0 + (zr 7 3 18 103).slots) Q (F0 m 7 ls []) := by
    refine z_down n ?_ ?_
    · intro ls H locs f1 hl hM hIi hfr h03
      have hIi9 := hIi
      obtain ⟨hVi, hmi, hji, hCXi, -, h5i, -⟩ := hIi9
      have hfoi : f1 (ad 1) = eS 7 [.ref ((ad 6)), .ref ((ad 8)), .ref ((ad 10)), .ref ((ad 5)), .int (nI (hN (clA A a n) 1000)), .ref ((ad 2))] := hCXi
      refine lv_iload_n hx hb dX6_cloud_7 rfl (lv_at hl 0 rfl) ?_
      refine lv_iload_n hx hb dX6_cloud_8 rfl (lv_at hl 1 rfl) ?_
      refine z_icmp_gt (tgt := 31) hx hb (nI_toInt (by omega)) (nI_toInt (by omega)) dX6_cloud_9 (by decide) (fun c_9 => ?_) (fun c_9 => ?_)
      · refine lv_aload_n hx hb dX6_cloud_31 rfl (lv_at hl 3 rfl) ?_
        refine z_get hC hM hLo hfoi zcl_X6 (by decide) zl_X6_26 rfl dX6_cloud_32 ?_
        rw [← hQ]
        refine vx_ret ?_
        exact z_iret hC hM hr hlk rfl (by decide) (by decide) ⟨hk0, by rw [v_cloud, a_cloud, if_pos hk0, hiva, hivb, ← hn], by rw [a_cloud, if_pos hk0, hiva, hivb, ← hn]; exact CR.same hIi h03.1 h03.2 hfr⟩ dX6_cloud_35
      · exact absurd c_9 (by omega)
    · intro i hi ih ls H locs f1 hl hM hIi hfr h03
      have hIi9 := hIi
      obtain ⟨hVi, hmi, hji, hCXi, -, h5i, -⟩ := hIi9
      have hfoi : f1 (ad 1) = eS 7 [.ref ((ad 6)), .ref ((ad 8)), .ref ((ad 10)), .ref ((ad 5)), .int (nI (hN (clA A a i) 1000)), .ref ((ad 2))] := hCXi
      refine lv_iload_n hx hb dX6_cloud_7 rfl (lv_at hl 0 rfl) ?_
      refine lv_iload_n hx hb dX6_cloud_8 rfl (lv_at hl 1 rfl) ?_
      refine z_icmp_gt (tgt := 31) hx hb (nI_toInt (by omega)) (nI_toInt (by omega)) dX6_cloud_9 (by decide) (fun c_9 => ?_) (fun c_9 => ?_)
      · exact absurd c_9 (by omega)
      · refine lv_aload_n hx hb dX6_cloud_12 rfl (lv_at hl 3 rfl) ?_
        refine lv_iload_n hx hb dX6_cloud_13 rfl (lv_at hl 0 rfl) ?_
        refine z_fcalli (z_runV hC hM (c_isHidden (hg := (clA A a i).1 11) hLo hfoi (hmem 5 (live_c (by omega))) h5i hVi.2.2.2.2.2.2.2.2.1 (by omega)) zy_X6_isHidden zm_X6_106 hLo hfoi zcl_X6 rfl rfl rfl hl.1 (Nat.le_of_ble_eq_true rfl) ⟨by decide, by decide⟩ ⟨by decide, by decide⟩ dX6_cloud_14) hM (fun H locs hM => ?_)
        refine z_if_neB (tgt := 25) hx hb dX6_cloud_17 (by decide) (fun c_17 => ?_) (fun c_17 => ?_)
        · refine lv_iinc (v := nI ((a + i) + 1)) (lv' := [(3, .int (nI ((a + i) + 1))), (2, .int (nI b)), (1, .int (nI a)), (0, .ref ((ad 1)))]) hx hb dX6_cloud_25 hl (k := 0) rfl (nI_add (a + i) 1) (by decide) rfl (fun ls hl => ?_)
          refine lv_goto (tgt := 7) hx hb dX6_cloud_28 (by decide) ?_
          exact ih ls H locs f1 (lv_sub hl [0, 1, 2, 3] rfl) hM (by rw [clA, if_pos c_17]; exact hIi) hfr (by rw [clA, if_pos c_17]; exact h03)
        · refine lv_aload_n hx hb dX6_cloud_20 rfl (lv_at hl 3 rfl) ?_
          refine lv_iload_n hx hb dX6_cloud_21 rfl (lv_at hl 0 rfl) ?_
          refine z_fcallv (z_runV hC hM (c_hide (hg := (clA A a i).1 11) hLo hfoi (hmem 5 (live_c (by omega))) h5i (ad_ne hinj (live_c (by omega)) (live_c (by omega)) (by omega)) (by omega)) zy_X6_hide zm_X6_110 hLo hfoi zcl_X6 rfl rfl rfl hl.1 (Nat.le_of_ble_eq_true rfl) ⟨by decide, by decide⟩ ⟨by decide, by decide⟩ dX6_cloud_22) hM (fun H locs hM => ?_)
          obtain ⟨f_1, ef_1⟩ : ∃ z9, z9 = va_up f1 ((ad 5)) (eZ K 1000 (va_up (fun h => nI ((clA A a i).1 11 h)) (a + i) (nI 1))) := ⟨_, rfl⟩
          rw [← ef_1] at hM
          have hF_2 : f_1 ((ad 1)) = eS 7 [.ref ((ad 6)), .ref ((ad 8)), .ref ((ad 10)), .ref ((ad 5)), .int (nI (hN (clA A a i) 1000)), .ref ((ad 2))] := by rw [ef_1]; exact (va_up_ne _ _ (ad_ne hinj (live_c (by omega)) (live_c (by omega)) (by omega))).trans hfoi
          have hF_3 : f_1 ((ad 5)) = eZ K 1000 (va_up (fun h => nI ((clA A a i).1 11 h)) (a + i) (nI 1)) := by rw [ef_1]; exact va_up_self _ _ _
          obtain ⟨f_4, ef_4⟩ : ∃ z9, z9 = va_up f_1 ((ad 1)) (eS 7 [.ref ((ad 6)), .ref ((ad 8)), .ref ((ad 10)), .ref ((ad 5)), .int (nI (hN (clA A a i) 1000 + 1)), .ref ((ad 2))]) := ⟨_, rfl⟩
          rw [← ef_4] at hM
          have hF_5 : f_4 ((ad 1)) = eS 7 [.ref ((ad 6)), .ref ((ad 8)), .ref ((ad 10)), .ref ((ad 5)), .int (nI (hN (clA A a i) 1000 + 1)), .ref ((ad 2))] := by rw [ef_4]; exact va_up_self _ _ _
          have hF_6 : f_4 ((ad 5)) = eZ K 1000 (va_up (fun h => nI ((clA A a i).1 11 h)) (a + i) (nI 1)) := by rw [ef_4]; exact (va_up_ne _ _ (ad_ne hinj (live_c (by omega)) (live_c (by omega)) (by omega))).trans hF_3
          refine lv_iinc (v := nI ((a + i) + 1)) (lv' := [(3, .int (nI ((a + i) + 1))), (2, .int (nI b)), (1, .int (nI a)), (0, .ref ((ad 1)))]) hx hb dX6_cloud_25 hl (k := 0) rfl (nI_add (a + i) 1) (by decide) rfl (fun ls hl => ?_)
          refine lv_goto (tgt := 7) hx hb dX6_cloud_28 (by decide) ?_
          have hf9 := ef_4
          rw [ef_1] at hf9
          exact ih ls H locs f_4 (lv_sub hl [0, 1, 2, 3] rfl) hM (by rw [clA, if_neg c_17]; exact hIi.hid (by omega) c_17 hf9) (fun q hq => by rw [hf9, va_up_ne _ _ (Ne.symm (hq 1 (live_c (by omega)))), va_up_ne _ _ (Ne.symm (hq 5 (live_c (by omega))))]; exact hfr q hq) (by rw [clA, if_neg c_17]; exact h03)
  exact LOOP7 0 (Nat.zero_le _) ls H locs f (lv_sub hl [0, 3, 2, 1] rfl) hM hI (fun q _ => rfl) ⟨rfl, rfl⟩
set_option maxHeartbeats 400000 in
set_option maxRecDepth 100000 in
theorem p_observe {l : Launch} {base : Nat} {K : zK} {L : List Nat} {f : Nat → va_E} (hst : l.stackTraces = false) {A : zA} {ad : Nat → Nat} (hI : CI K L f A ad) (x y1 y2 : Int32) : zXMet l yX6_observe cX6_observe 7 (some .int) (zr 8 4 24 132) base K L f [.ref ((ad 1)), .int x, .int y1, .int y2] (zQi base K (fun r L1 f1 => k_observe A x y1 y2 = 0 ∧ r = v_observe A x y1 y2 ∧ CR K A ad L f (a_observe A x y1 y2) L1 f1)) (fun E L1 f1 => xE [xIO, xIA] (k_observe A x y1 y2) E ∧ CR K A ad L f (a_observe A x y1 y2) L1 f1) := by
  have hI9 := hI
  obtain ⟨hV, hmem, hinj, hCX, hCF, hh5, hl6, hl8, hl10, hSt, hWo, hPa⟩ := hI9
  have hV9 := hV
  obtain ⟨hv1, hv2, hv3, hvS, -, -, -, -, hv11, hvW, hv23, -, hvP⟩ := hV9
  have hLo := hmem 1 (live_c (by omega))
  have hfo : f (ad 1) = eS 7 [.ref ((ad 6)), .ref ((ad 8)), .ref ((ad 10)), .ref ((ad 5)), .int (nI (hN A 1000)), .ref ((ad 2))] := hCX
  have hth : ∀ n E, k_observe A x y1 y2 = n + 1 → [xIO, xIA][n]? = some E → (xE [xIO, xIA] (k_observe A x y1 y2) E ∧ CR K A ad L f (a_observe A x y1 y2) L f) := fun n E h1 h2 => ⟨⟨by omega, by rw [h1]; exact h2⟩, by rw [a_observe, if_neg (by omega)]; exact CR.id hI⟩
  refine z_xmet (by decide) (Nat.le_of_ble_eq_true rfl) (fun p e s m below meth c ls hC hM hr hlk hxt hl => ?_)
  have hx := hC.1
  have hb := hC.2.1
  have hml := hC.2.2.1
  have hown := hC.2.2.2.1
  have hts := hC.2.2.2.2.1
  generalize hA : ([.ref ((ad 1)), .int x, .int y1, .int y2] : List Value).toArray = args at hC ⊢
  generalize hQ : vx_MQ _ _ _ _ _ _ _ _ = Q
  obtain ⟨locs, hlocs⟩ : ∃ z : List Loc, z = [] := ⟨_, rfl⟩
  obtain ⟨H, hH⟩ : ∃ z : Heap, z = s.heap := ⟨_, rfl⟩
  rw [← hlocs, ← hH] at hM ⊢
  have hl : lv_has ls 7 [(0, .ref ((ad 1))), (1, .int x), (2, .int y1), (3, .int y2)] := hl
  refine lv_aload_n hx hb dX6_observe_0 rfl (lv_at hl 0 rfl) ?_
  refine lv_iload_n hx hb dX6_observe_1 rfl (lv_at hl 1 rfl) ?_
  refine z_xpcallq hQ (z_xrunV hC hM (c_starAt hst hLo hfo hl6 (by omega) (fs := fun i => [.int (nI (A.1 2 i)), .ref (ad (101 + 10 * i)), .int (nI (A.1 8 i)), .int (nI (A.1 9 i)), .int (nI (A.1 10 i)), .ref (ad (103 + 10 * i))]) (fun i hi => ⟨hmem _ (live_s hi (by omega)), (hSt i hi).1⟩) x) zy_X6_starAt zm_X6_62 hLo hfo zcl_X6 rfl rfl rfl hl.1 (Nat.le_of_ble_eq_true rfl) ⟨by decide, by decide⟩ ⟨by decide, by decide⟩ dX6_observe_2) hM hxt hlk (by decide) (by decide) (fun E hE => by obtain ⟨rfl, h9⟩ := hE; exact hth 0 _ (if_pos (fun z => h9 z.1)) rfl) (fun r_2 hp_2 H locs hM => ?_)
  obtain ⟨i, hi, hx9, rfl⟩ := hp_2
  subst hx9
  have hi60 : i < 60 := by omega
  have hs9 : isS A (nI i) := iR_nI (by omega) (by omega) (by omega)
  have hiv := iv_nI (i := i) (by omega)
  obtain ⟨hS1, hS2, hS3, hS4, hS5⟩ := hSt i hi
  obtain ⟨w1, w2, w3, w4, w5, w6, w7, w8⟩ := hvS i hi
  refine lv_astore (lv' := [(4, .ref ((ad (100 + 10 * i)))), (0, .ref ((ad 1))), (1, .int (nI i)), (2, .int y1), (3, .int y2)]) hx hb dX6_observe_5 hl (by decide) rfl (fun ls hl => ?_)
  refine lv_iload_n hx hb dX6_observe_7 rfl (lv_at hl 3 rfl) ?_
  refine lv_iload_n hx hb dX6_observe_8 rfl (lv_at hl 4 rfl) ?_
  refine z_xpcallv hQ (z_xrunS hC hM (c_reqHours hst y1 y2) zy_X6_requireHours zm_X6_102 rfl rfl hl.1 (Nat.le_of_ble_eq_true rfl) ⟨by decide, by decide⟩ ⟨by decide, by decide⟩ dX6_observe_9) hM hxt hlk (by decide) (by decide) (fun E hE => hE.elim (fun h => by obtain ⟨rfl, h9⟩ := h; exact hth 0 _ (if_pos (fun z => h9 ⟨z.2.1, z.2.2⟩)) rfl) (fun h => by obtain ⟨rfl, h9, h8⟩ := h; exact hth 1 _ (by unfold k_observe; exact (if_neg (fun z => z ⟨hs9, h9.1, h9.2⟩)).trans (if_pos h8)) rfl)) (fun hp_9 H locs hM => ?_)
  obtain ⟨hx1, hy1, hxy⟩ := hp_9
  obtain ⟨a, ha1, ha2, rfl⟩ := inR_nI (by decide) hx1
  obtain ⟨b, hb1, hb2, rfl⟩ := inR_nI (by decide) hy1
  rw [nI_toInt (by omega), nI_toInt (by omega)] at hxy
  have hiva := iv_nI (i := a) (by omega)
  have hivb := iv_nI (i := b) (by omega)
  obtain ⟨n, hn⟩ : ∃ n, n = b + 1 - a := ⟨_, rfl⟩
  have hk0 : k_observe A (nI i) (nI a) (nI b) = 0 := by unfold k_observe; exact (if_neg (fun z => z ⟨hs9, iR_nI (by omega) (by omega) (by omega), iR_nI (by omega) (by omega) (by omega)⟩)).trans (if_neg (by rw [nI_toInt (by omega), nI_toInt (by omega)]; omega))
  refine lv_aload hx hb dX6_observe_12 (lv_at hl 0 rfl) ?_
  refine z_getN hC hM (hmem _ (live_s hi (by omega))) hS1 zcl_X4 (by decide) zl_X6_113 rfl dX6_observe_14 ?_
  refine z_getN hC hM (hmem _ (live_s hi (by omega))) hS3 zcl_X1 (by decide) zl_X6_117 rfl dX6_observe_17 ?_
  refine lv_istore (lv' := [(5, .int (nI (A.1 14 i))), (4, .ref ((ad (100 + 10 * i)))), (0, .ref ((ad 1))), (1, .int (nI i)), (2, .int (nI a)), (3, .int (nI b))]) hx hb dX6_observe_20 hl (by decide) rfl (fun ls hl => ?_)
  refine lv_iload_n hx hb dX6_observe_22 rfl (lv_at hl 4 rfl) ?_
  refine lv_istore (lv' := [(6, .int (nI a)), (5, .int (nI (A.1 14 i))), (4, .ref ((ad (100 + 10 * i)))), (0, .ref ((ad 1))), (1, .int (nI i)), (2, .int (nI a)), (3, .int (nI b))]) hx hb dX6_observe_23 hl (by decide) rfl (fun ls hl => ?_)
  have LOOP25 : ∀ v9, v9 ≤ n → ∀ (ls : Array Slot) (H : Heap) (locs : List Loc) (f1 : Nat → va_E), lv_has ls 7 [(6, .int (nI (a + v9))), (5, .int (nI (A.1 14 i))), (4, .ref ((ad (100 + 10 * i)))), (3, .int (nI b)), (2, .int (nI a)), (1, .int (nI i)), (0, .ref ((ad 1)))] → zM base K L f1 s H locs → (CI K L f1 (obA A i a v9) ad) → (∀ q, (∀ t, live A t → ad t ≠ q) → f1 q = f q) → W p l e (zr 8 4 24 132) s m args below meth c H locs (0 + (zr 6 1 6 82).cells + (zr 7 3 18 103).cells) (0 + (zr 6 1 6 82).slots + (zr 7 3 18 103).slots) Q (F0 m 25 ls []) := by
    refine z_down n ?_ ?_
    · intro ls H locs f1 hl hM hIi hfr
      have hIi9 := hIi
      obtain ⟨hVi, hmi, hji, hCXi, -, h5i, -, -, -, hSi, -, -⟩ := hIi9
      have hii : i < ns (obA A i a n) := by unfold ns; rw [ob_same _ 0 (by decide) (by decide)]; exact hi
      obtain ⟨t1, t2, t3, t4, t5⟩ := hSi i hii
      obtain ⟨ww1, ww2, ww3, ww4, ww5, ww6, ww7, ww8⟩ := hVi.2.2.2.1 i hii
      have hle9 := ob_14 (A := A) (i := i) (a := a) n
      have hkl9 := fN_le (gk (obA A i a n) i) 1000
      have hfoi : f1 (ad 1) = eS 7 [.ref ((ad 6)), .ref ((ad 8)), .ref ((ad 10)), .ref ((ad 5)), .int (nI (hN (obA A i a n) 1000)), .ref ((ad 2))] := hCXi
      refine lv_iload hx hb dX6_observe_25 (lv_at hl 0 rfl) ?_
      refine lv_iload_n hx hb dX6_observe_27 rfl (lv_at hl 3 rfl) ?_
      refine z_icmp_gt (tgt := 76) hx hb (nI_toInt (by omega)) (nI_toInt (by omega)) dX6_observe_28 (by decide) (fun c_28 => ?_) (fun c_28 => ?_)
      · refine lv_aload hx hb dX6_observe_76 (lv_at hl 2 rfl) ?_
        refine z_getN hC hM (hmem _ (live_s hi (by omega))) t1 zcl_X4 (by decide) zl_X6_113 rfl dX6_observe_78 ?_
        refine z_getN hC hM (hmem _ (live_s hi (by omega))) t3 zcl_X1 (by decide) zl_X6_117 rfl dX6_observe_81 ?_
        refine lv_iload hx hb dX6_observe_84 (lv_at hl 1 rfl) ?_
        refine z_isub hx hb (by omega) dX6_observe_86 ?_
        rw [← hQ]
        refine vx_ret ?_
        exact z_iret hC hM hr hlk rfl (by decide) (by decide) ⟨hk0, by rw [v_observe, a_observe, if_pos hk0, hiv, hiva, hivb, ← hn], by rw [a_observe, if_pos hk0, hiv, hiva, hivb, ← hn]; exact CR.same hIi (ob_same _ 0 (by decide) (by decide)) (ob_same _ 3 (by decide) (by decide)) hfr⟩ dX6_observe_87
      · exact absurd c_28 (by omega)
    · intro v9 hv9 ih ls H locs f1 hl hM hIi hfr
      have hIi9 := hIi
      obtain ⟨hVi, hmi, hji, hCXi, -, h5i, -, -, -, hSi, -, -⟩ := hIi9
      have hii : i < ns (obA A i a v9) := by unfold ns; rw [ob_same _ 0 (by decide) (by decide)]; exact hi
      obtain ⟨t1, t2, t3, t4, t5⟩ := hSi i hii
      obtain ⟨ww1, ww2, ww3, ww4, ww5, ww6, ww7, ww8⟩ := hVi.2.2.2.1 i hii
      have hle9 := ob_14 (A := A) (i := i) (a := a) v9
      have hkl9 := fN_le (gk (obA A i a v9) i) 1000
      have hfoi : f1 (ad 1) = eS 7 [.ref ((ad 6)), .ref ((ad 8)), .ref ((ad 10)), .ref ((ad 5)), .int (nI (hN (obA A i a v9) 1000)), .ref ((ad 2))] := hCXi
      refine lv_iload hx hb dX6_observe_25 (lv_at hl 0 rfl) ?_
      refine lv_iload_n hx hb dX6_observe_27 rfl (lv_at hl 3 rfl) ?_
      refine z_icmp_gt (tgt := 76) hx hb (nI_toInt (by omega)) (nI_toInt (by omega)) dX6_observe_28 (by decide) (fun c_28 => ?_) (fun c_28 => ?_)
      · exact absurd c_28 (by omega)
      · refine lv_aload_n hx hb dX6_observe_31 rfl (lv_at hl 6 rfl) ?_
        refine lv_iload hx hb dX6_observe_32 (lv_at hl 0 rfl) ?_
        refine z_fcalli (z_runV hC hM (c_isHidden (hg := (obA A i a v9).1 11) hLo hfoi (hmem 5 (live_c (by omega))) h5i hVi.2.2.2.2.2.2.2.2.1 (by omega)) zy_X6_isHidden zm_X6_106 hLo hfoi zcl_X6 rfl rfl rfl hl.1 (Nat.le_of_ble_eq_true rfl) ⟨by decide, by decide⟩ ⟨by decide, by decide⟩ dX6_observe_34) hM (fun H locs hM => ?_)
        refine z_if_neB (tgt := 70) hx hb dX6_observe_37 (by decide) (fun c_37 => ?_) (fun c_37 => ?_)
        · refine lv_iinc (v := nI ((a + v9) + 1)) (lv' := [(6, .int (nI ((a + v9) + 1))), (5, .int (nI (A.1 14 i))), (4, .ref ((ad (100 + 10 * i)))), (3, .int (nI b)), (2, .int (nI a)), (1, .int (nI i)), (0, .ref ((ad 1)))]) hx hb dX6_observe_70 hl (k := 0) rfl (nI_add (a + v9) 1) (by decide) rfl (fun ls hl => ?_)
          refine lv_goto (tgt := 25) hx hb dX6_observe_73 (by decide) ?_
          exact ih ls H locs f1 (lv_sub hl [0, 1, 2, 3, 4, 5, 6] rfl) hM (by rw [obA, if_pos (Or.inl c_37)]; exact hIi) hfr
        · refine lv_aload hx hb dX6_observe_40 (lv_at hl 2 rfl) ?_
          refine z_getN hC hM (hmem _ (live_s hi (by omega))) t1 zcl_X4 (by decide) zl_X6_113 rfl dX6_observe_42 ?_
          refine lv_iload hx hb dX6_observe_45 (lv_at hl 0 rfl) ?_
          refine z_fcalli (z_runV hC hM (c_hasLight (hmem _ (live_s hi (by omega))) t3 (hmem _ (live_s hi (by omega))) t4 (by omega) ((fp_ok (gk_ok hVi i)).1 (a + v9) (by omega))) zy_X1_hasLight zm_X6_122 (hmem _ (live_s hi (by omega))) t3 zcl_X1 rfl rfl rfl hl.1 (Nat.le_of_ble_eq_true rfl) ⟨by decide, by decide⟩ ⟨by decide, by decide⟩ dX6_observe_47) hM (fun H locs hM => ?_)
          refine z_if_neB (tgt := 70) hx hb dX6_observe_50 (by decide) (fun c_50 => ?_) (fun c_50 => ?_)
          · refine lv_iinc (v := nI ((a + v9) + 1)) (lv' := [(6, .int (nI ((a + v9) + 1))), (5, .int (nI (A.1 14 i))), (4, .ref ((ad (100 + 10 * i)))), (3, .int (nI b)), (2, .int (nI a)), (1, .int (nI i)), (0, .ref ((ad 1)))]) hx hb dX6_observe_70 hl (k := 0) rfl (nI_add (a + v9) 1) (by decide) rfl (fun ls hl => ?_)
            refine lv_goto (tgt := 25) hx hb dX6_observe_73 (by decide) ?_
            exact ih ls H locs f1 (lv_sub hl [0, 1, 2, 3, 4, 5, 6] rfl) hM (by rw [obA, if_pos (Or.inr ((gk_0 hVi (by omega)).mp c_50))]; exact hIi) hfr
          · refine lv_aload hx hb dX6_observe_53 (lv_at hl 2 rfl) ?_
            refine z_getN hC hM (hmem _ (live_s hi (by omega))) t1 zcl_X4 (by decide) zl_X6_113 rfl dX6_observe_55 ?_
            refine lv_iload hx hb dX6_observe_58 (lv_at hl 0 rfl) ?_
            refine lv_aload hx hb dX6_observe_60 (lv_at hl 2 rfl) ?_
            refine lv_iload hx hb dX6_observe_62 (lv_at hl 0 rfl) ?_
            refine z_fcalld (z_runV hC hM (c_lightIn (hmem _ (live_s hi (by omega))) t1 t2 ww3 (by omega) ww4 (by omega) (fun k hk9 => ⟨hmi _ (live_p hii hk9), t5 k hk9, (ww8 k hk9).2.2.1, (ww8 k hk9).2.1, by have := (ww8 k hk9).2.2.2.2.1; omega⟩) (lt_ok hVi hii (a + v9)).1) zy_X4_lightIn zm_X6_94 (hmem _ (live_s hi (by omega))) t1 zcl_X4 rfl rfl rfl hl.1 (Nat.le_of_ble_eq_true rfl) ⟨by decide, by decide⟩ ⟨by decide, by decide⟩ dX6_observe_64) hM (fun H locs hM => ?_)
            refine z_fcallv (z_runV hC hM (c_keep (x := ltV (obA A i a v9) i (a + v9)) (hmem _ (live_s hi (by omega))) t3 (hmem _ (live_s hi (by omega))) t4 (ad_ne hinj (live_s hi (by omega)) (live_s hi (by omega)) (by omega)) (by omega)) zy_X1_keep zm_X6_125 (hmem _ (live_s hi (by omega))) t3 zcl_X1 rfl rfl rfl hl.1 (Nat.le_of_ble_eq_true rfl) ⟨by decide, by decide⟩ ⟨by decide, by decide⟩ dX6_observe_67) hM (fun H locs hM => ?_)
            obtain ⟨f_1, ef_1⟩ : ∃ z9, z9 = va_up f1 ((ad (104 + 10 * i))) (eD K 1000 (va_up (gk (obA A i a v9) i) (a + v9) (ltV (obA A i a v9) i (a + v9)))) := ⟨_, rfl⟩
            rw [← ef_1] at hM
            have hF_2 : f_1 ((ad 1)) = eS 7 [.ref ((ad 6)), .ref ((ad 8)), .ref ((ad 10)), .ref ((ad 5)), .int (nI (hN (obA A i a v9) 1000)), .ref ((ad 2))] := by rw [ef_1]; exact (va_up_ne _ _ (ad_ne hinj (live_c (by omega)) (live_s hi (by omega)) (by omega))).trans hfoi
            have hF_3 : f_1 ((ad 5)) = eZ K 1000 (fun h => nI ((obA A i a v9).1 11 h)) := by rw [ef_1]; exact (va_up_ne _ _ (ad_ne hinj (live_c (by omega)) (live_s hi (by omega)) (by omega))).trans h5i
            have hF_4 : f_1 ((ad (100 + 10 * i))) = eS 5 [.int (nI ((obA A i a v9).1 2 i)), .ref ((ad (101 + 10 * i))), .int (nI ((obA A i a v9).1 8 i)), .int (nI ((obA A i a v9).1 9 i)), .int (nI ((obA A i a v9).1 10 i)), .ref ((ad (103 + 10 * i)))] := by rw [ef_1]; exact (va_up_ne _ _ (Ne.symm (ad_ne hinj (live_s hi (by omega)) (live_s hi (by omega)) (by omega)))).trans t1
            have hF_5 : f_1 ((ad (103 + 10 * i))) = eS 2 [.ref ((ad (104 + 10 * i))), .int (nI ((obA A i a v9).1 14 i))] := by rw [ef_1]; exact (va_up_ne _ _ (ad_ne hinj (live_s hi (by omega)) (live_s hi (by omega)) (by omega))).trans t3
            have hF_6 : f_1 ((ad (104 + 10 * i))) = eD K 1000 (va_up (gk (obA A i a v9) i) (a + v9) (ltV (obA A i a v9) i (a + v9))) := by rw [ef_1]; exact va_up_self _ _ _
            obtain ⟨f_7, ef_7⟩ : ∃ z9, z9 = va_up f_1 ((ad (103 + 10 * i))) (eS 2 [.ref ((ad (104 + 10 * i))), .int (nI ((obA A i a v9).1 14 i + 1))]) := ⟨_, rfl⟩
            rw [← ef_7] at hM
            have hF_8 : f_7 ((ad 1)) = eS 7 [.ref ((ad 6)), .ref ((ad 8)), .ref ((ad 10)), .ref ((ad 5)), .int (nI (hN (obA A i a v9) 1000)), .ref ((ad 2))] := by rw [ef_7]; exact (va_up_ne _ _ (ad_ne hinj (live_c (by omega)) (live_s hi (by omega)) (by omega))).trans hF_2
            have hF_9 : f_7 ((ad 5)) = eZ K 1000 (fun h => nI ((obA A i a v9).1 11 h)) := by rw [ef_7]; exact (va_up_ne _ _ (ad_ne hinj (live_c (by omega)) (live_s hi (by omega)) (by omega))).trans hF_3
            have hF_10 : f_7 ((ad (100 + 10 * i))) = eS 5 [.int (nI ((obA A i a v9).1 2 i)), .ref ((ad (101 + 10 * i))), .int (nI ((obA A i a v9).1 8 i)), .int (nI ((obA A i a v9).1 9 i)), .int (nI ((obA A i a v9).1 10 i)), .ref ((ad (103 + 10 * i)))] := by rw [ef_7]; exact (va_up_ne _ _ (Ne.symm (ad_ne hinj (live_s hi (by omega)) (live_s hi (by omega)) (by omega)))).trans hF_4
            have hF_11 : f_7 ((ad (103 + 10 * i))) = eS 2 [.ref ((ad (104 + 10 * i))), .int (nI ((obA A i a v9).1 14 i + 1))] := by rw [ef_7]; exact va_up_self _ _ _
            have hF_12 : f_7 ((ad (104 + 10 * i))) = eD K 1000 (va_up (gk (obA A i a v9) i) (a + v9) (ltV (obA A i a v9) i (a + v9))) := by rw [ef_7]; exact (va_up_ne _ _ (ad_ne hinj (live_s hi (by omega)) (live_s hi (by omega)) (by omega))).trans hF_6
            refine lv_iinc (v := nI ((a + v9) + 1)) (lv' := [(6, .int (nI ((a + v9) + 1))), (5, .int (nI (A.1 14 i))), (4, .ref ((ad (100 + 10 * i)))), (3, .int (nI b)), (2, .int (nI a)), (1, .int (nI i)), (0, .ref ((ad 1)))]) hx hb dX6_observe_70 hl (k := 0) rfl (nI_add (a + v9) 1) (by decide) rfl (fun ls hl => ?_)
            refine lv_goto (tgt := 25) hx hb dX6_observe_73 (by decide) ?_
            have hf9 := ef_7
            rw [ef_1] at hf9
            have ltv9 : ltV (obA A i a v9) i (a + v9) = ltV A i (a + v9) := ltV_same (fun k h1 h2 => ob_same _ k h1 h2)
            have hno9 : ¬ (obA A i a v9).1 12 (1000 * i + (a + v9)) = 1 := fun y => c_50 ((gk_0 hVi (by omega)).mpr y)
            exact ih ls H locs f_7 (lv_sub hl [0, 1, 2, 3, 4, 5, 6] rfl) hM (by rw [obA, if_neg (fun y => y.elim c_37 hno9), ← ltv9]; exact hIi.keep hii (by omega) hno9 (lt_ok hVi hii _).2 hf9) (fun q hq => by rw [hf9, va_up_ne _ _ (Ne.symm (hq _ (live_s hi (by omega)))), va_up_ne _ _ (Ne.symm (hq _ (live_s hi (by omega))))]; exact hfr q hq)
  exact LOOP25 0 (Nat.zero_le _) ls H locs f (lv_sub hl [0, 1, 2, 6, 5, 4, 3] rfl) hM hI (fun q _ => rfl)
