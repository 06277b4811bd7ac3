/-! CONTRACTS of Transitry's own methods, third part: cloud, observe (rows laid by wip/whole/pub3.py) -/
set_option maxHeartbeats 400000 in
set_option maxRecDepth 100000 in
theorem p_cloud {l : Launch} {base : Nat} {K : zK} {L : List Nat} {f : Nat → va_E} (hst : l.stackTraces = false) {A : zA} {ad : Nat → Nat} (hI : CI K L f A ad) (x y1 : Int32) : zXMet l yX6_cloud cX6_cloud 4 (some .int) (zr 8 3 18 130) base K L f [.ref ((ad 1)), .int x, .int y1] (zQi base K (fun r L1 f1 => k_cloud x y1 = 0 ∧ r = v_cloud A x y1 ∧ CR K A ad L f (a_cloud A x y1) L1 f1)) (fun E L1 f1 => xE [xIO, xIA] (k_cloud x y1) E ∧ CR K A ad L f (a_cloud A x y1) L1 f1) := by
  have hI9 := hI
  obtain ⟨hV, hmem, hinj, hCX, hCF, hh5, hl6, hl8, hl10, hSt, hWo, hPa⟩ := hI9
  have hV9 := hV
  obtain ⟨hv1, hv2, hv3, hvS, -, -, -, -, hv11, hvW, hv23, -, hvP⟩ := hV9
  have hLo := hmem 1 (live_c (by omega))
  have hfo : f (ad 1) = eS 7 [.ref ((ad 6)), .ref ((ad 8)), .ref ((ad 10)), .ref ((ad 5)), .int (nI (hN A 1000)), .ref ((ad 2))] := hCX
  have hth : ∀ n E, k_cloud x y1 = n + 1 → [xIO, xIA][n]? = some E → (xE [xIO, xIA] (k_cloud x y1) E ∧ CR K A ad L f (a_cloud A x y1) L f) := fun n E h1 h2 => ⟨⟨by omega, by rw [h1]; exact h2⟩, by rw [a_cloud, if_neg (by omega)]; exact CR.id hI⟩
  refine z_xmet (by decide) (Nat.le_of_ble_eq_true rfl) (fun p e s m below meth c ls hC hM hr hlk hxt hl => ?_)
  have hx := hC.1
  have hb := hC.2.1
  have hml := hC.2.2.1
  have hown := hC.2.2.2.1
  have hts := hC.2.2.2.2.1
  generalize hA : ([.ref ((ad 1)), .int x, .int y1] : List Value).toArray = args at hC ⊢
  generalize hQ : vx_MQ _ _ _ _ _ _ _ _ = Q
  obtain ⟨locs, hlocs⟩ : ∃ z : List Loc, z = [] := ⟨_, rfl⟩
  obtain ⟨H, hH⟩ : ∃ z : Heap, z = s.heap := ⟨_, rfl⟩
  rw [← hlocs, ← hH] at hM ⊢
  have hl : lv_has ls 4 [(0, .ref ((ad 1))), (1, .int x), (2, .int y1)] := hl
  refine lv_iload_n hx hb dX6_cloud_0 rfl (lv_at hl 1 rfl) ?_
  refine lv_iload_n hx hb dX6_cloud_1 rfl (lv_at hl 2 rfl) ?_
  refine z_xpcallv hQ (z_xrunS hC hM (c_reqHours hst x y1) zy_X6_requireHours zm_X6_102 rfl rfl hl.1 (Nat.le_of_ble_eq_true rfl) ⟨by decide, by decide⟩ ⟨by decide, by decide⟩ dX6_cloud_2) hM hxt hlk (by decide) (by decide) (fun E hE => hE.elim (fun h => by obtain ⟨rfl, h9⟩ := h; exact hth 0 _ (if_pos h9) rfl) (fun h => by obtain ⟨rfl, h9, h8⟩ := h; exact hth 1 _ (by unfold k_cloud; exact (if_neg (fun z => z h9)).trans (if_pos h8)) rfl)) (fun hp_2 H locs hM => ?_)
  obtain ⟨hx1, hy1, hxy⟩ := hp_2
  obtain ⟨a, ha1, ha2, rfl⟩ := inR_nI (by decide) hx1
  obtain ⟨b, hb1, hb2, rfl⟩ := inR_nI (by decide) hy1
  rw [nI_toInt (by omega), nI_toInt (by omega)] at hxy
  have hiva := iv_nI (i := a) (by omega)
  have hivb := iv_nI (i := b) (by omega)
  obtain ⟨n, hn⟩ : ∃ n, n = b + 1 - a := ⟨_, rfl⟩
  have hk0 : k_cloud (nI a) (nI b) = 0 := by unfold k_cloud; exact (if_neg (fun z => z ⟨iR_nI (by omega) (by omega) (by omega), iR_nI (by omega) (by omega) (by omega)⟩)).trans (if_neg (by rw [nI_toInt (by omega), nI_toInt (by omega)]; omega))
  refine lv_iload_n hx hb dX6_cloud_5 rfl (lv_at hl 1 rfl) ?_
  refine lv_istore_n (lv' := [(3, .int (nI a)), (0, .ref ((ad 1))), (1, .int (nI a)), (2, .int (nI b))]) hx hb dX6_cloud_6 rfl hl (by decide) rfl (fun ls hl => ?_)
  have LOOP7 : ∀ i, i ≤ n → ∀ (ls : Array Slot) (H : Heap) (locs : List Loc) (f1 : Nat → va_E), lv_has ls 4 [(3, .int (nI (a + i))), (2, .int (nI b)), (1, .int (nI a)), (0, .ref ((ad 1)))] → zM base K L f1 s H locs → (CI K L f1 (clA A a i) ad) → (∀ q, (∀ t, live A t → ad t ≠ q) → f1 q = f q) → ((clA A a i).1 0 = A.1 0 ∧ (clA A a i).1 3 = A.1 3) → W p l e (zr 8 3 18 130) s m args below meth c H locs (0 + (zr 7 3 18 103).cells) (0 + (zr 7 3 18 103).slots) Q (F0 m 7 ls []) := by
    refine z_down n ?_ ?_
    · intro ls H locs f1 hl hM hIi hfr h03
      have hIi9 := hIi
      obtain ⟨hVi, hmi, hji, hCXi, -, h5i, -⟩ := hIi9
      have hfoi : f1 (ad 1) = eS 7 [.ref ((ad 6)), .ref ((ad 8)), .ref ((ad 10)), .ref ((ad 5)), .int (nI (hN (clA A a n) 1000)), .ref ((ad 2))] := hCXi
      refine lv_iload_n hx hb dX6_cloud_7 rfl (lv_at hl 0 rfl) ?_
      refine lv_iload_n hx hb dX6_cloud_8 rfl (lv_at hl 1 rfl) ?_
      refine z_icmp_gt (tgt := 31) hx hb (nI_toInt (by omega)) (nI_toInt (by omega)) dX6_cloud_9 (by decide) (fun c_9 => ?_) (fun c_9 => ?_)
      · refine lv_aload_n hx hb dX6_cloud_31 rfl (lv_at hl 3 rfl) ?_
        refine z_get hC hM hLo hfoi zcl_X6 (by decide) zl_X6_26 rfl dX6_cloud_32 ?_
        rw [← hQ]
        refine vx_ret ?_
        exact z_iret hC hM hr hlk rfl (by decide) (by decide) ⟨hk0, by rw [v_cloud, a_cloud, if_pos hk0, hiva, hivb, ← hn], by rw [a_cloud, if_pos hk0, hiva, hivb, ← hn]; exact CR.same hIi h03.1 h03.2 hfr⟩ dX6_cloud_35
      · exact absurd c_9 (by omega)
    · intro i hi ih ls H locs f1 hl hM hIi hfr h03
      have hIi9 := hIi
      obtain ⟨hVi, hmi, hji, hCXi, -, h5i, -⟩ := hIi9
      have hfoi : f1 (ad 1) = eS 7 [.ref ((ad 6)), .ref ((ad 8)), .ref ((ad 10)), .ref ((ad 5)), .int (nI (hN (clA A a i) 1000)), .ref ((ad 2))] := hCXi
      refine lv_iload_n hx hb dX6_cloud_7 rfl (lv_at hl 0 rfl) ?_
      refine lv_iload_n hx hb dX6_cloud_8 rfl (lv_at hl 1 rfl) ?_
      refine z_icmp_gt (tgt := 31) hx hb (nI_toInt (by omega)) (nI_toInt (by omega)) dX6_cloud_9 (by decide) (fun c_9 => ?_) (fun c_9 => ?_)
      · exact absurd c_9 (by omega)
      · refine lv_aload_n hx hb dX6_cloud_12 rfl (lv_at hl 3 rfl) ?_
        refine lv_iload_n hx hb dX6_cloud_13 rfl (lv_at hl 0 rfl) ?_
        refine z_fcalli (z_runV hC hM (c_isHidden (hg := (clA A a i).1 11) hLo hfoi (hmem 5 (live_c (by omega))) h5i hVi.2.2.2.2.2.2.2.2.1 (by omega)) zy_X6_isHidden zm_X6_106 hLo hfoi zcl_X6 rfl rfl rfl hl.1 (Nat.le_of_ble_eq_true rfl) ⟨by decide, by decide⟩ ⟨by decide, by decide⟩ dX6_cloud_14) hM (fun H locs hM => ?_)
        refine z_if_neB (tgt := 25) hx hb dX6_cloud_17 (by decide) (fun c_17 => ?_) (fun c_17 => ?_)
        · refine lv_iinc (v := nI ((a + i) + 1)) (lv' := [(3, .int (nI ((a + i) + 1))), (2, .int (nI b)), (1, .int (nI a)), (0, .ref ((ad 1)))]) hx hb dX6_cloud_25 hl (k := 0) rfl (nI_add (a + i) 1) (by decide) rfl (fun ls hl => ?_)
          refine lv_goto (tgt := 7) hx hb dX6_cloud_28 (by decide) ?_
          exact ih ls H locs f1 (lv_sub hl [0, 1, 2, 3] rfl) hM (by rw [clA, if_pos c_17]; exact hIi) hfr (by rw [clA, if_pos c_17]; exact h03)
        · refine lv_aload_n hx hb dX6_cloud_20 rfl (lv_at hl 3 rfl) ?_
          refine lv_iload_n hx hb dX6_cloud_21 rfl (lv_at hl 0 rfl) ?_
          refine z_fcallv (z_runV hC hM (c_hide (hg := (clA A a i).1 11) hLo hfoi (hmem 5 (live_c (by omega))) h5i (ad_ne hinj (live_c (by omega)) (live_c (by omega)) (by omega)) (by omega)) zy_X6_hide zm_X6_110 hLo hfoi zcl_X6 rfl rfl rfl hl.1 (Nat.le_of_ble_eq_true rfl) ⟨by decide, by decide⟩ ⟨by decide, by decide⟩ dX6_cloud_22) hM (fun H locs hM => ?_)
          obtain ⟨f_1, ef_1⟩ : ∃ z9, z9 = va_up f1 ((ad 5)) (eZ K 1000 (va_up (fun h => nI ((clA A a i).1 11 h)) (a + i) (nI 1))) := ⟨_, rfl⟩
          rw [← ef_1] at hM
          have hF_2 : f_1 ((ad 1)) = eS 7 [.ref ((ad 6)), .ref ((ad 8)), .ref ((ad 10)), .ref ((ad 5)), .int (nI (hN (clA A a i) 1000)), .ref ((ad 2))] := by rw [ef_1]; exact (va_up_ne _ _ (ad_ne hinj (live_c (by omega)) (live_c (by omega)) (by omega))).trans hfoi
          have hF_3 : f_1 ((ad 5)) = eZ K 1000 (va_up (fun h => nI ((clA A a i).1 11 h)) (a + i) (nI 1)) := by rw [ef_1]; exact va_up_self _ _ _
          obtain ⟨f_4, ef_4⟩ : ∃ z9, z9 = va_up f_1 ((ad 1)) (eS 7 [.ref ((ad 6)), .ref ((ad 8)), .ref ((ad 10)), .ref ((ad 5)), .int (nI (hN (clA A a i) 1000 + 1)), .ref ((ad 2))]) := ⟨_, rfl⟩
          rw [← ef_4] at hM
          have hF_5 : f_4 ((ad 1)) = eS 7 [.ref ((ad 6)), .ref ((ad 8)), .ref ((ad 10)), .ref ((ad 5)), .int (nI (hN (clA A a i) 1000 + 1)), .ref ((ad 2))] := by rw [ef_4]; exact va_up_self _ _ _
          have hF_6 : f_4 ((ad 5)) = eZ K 1000 (va_up (fun h => nI ((clA A a i).1 11 h)) (a + i) (nI 1)) := by rw [ef_4]; exact (va_up_ne _ _ (ad_ne hinj (live_c (by omega)) (live_c (by omega)) (by omega))).trans hF_3
          refine lv_iinc (v := nI ((a + i) + 1)) (lv' := [(3, .int (nI ((a + i) + 1))), (2, .int (nI b)), (1, .int (nI a)), (0, .ref ((ad 1)))]) hx hb dX6_cloud_25 hl (k := 0) rfl (nI_add (a + i) 1) (by decide) rfl (fun ls hl => ?_)
          refine lv_goto (tgt := 7) hx hb dX6_cloud_28 (by decide) ?_
          have hf9 := ef_4
          rw [ef_1] at hf9
          exact ih ls H locs f_4 (lv_sub hl [0, 1, 2, 3] rfl) hM (by rw [clA, if_neg c_17]; exact hIi.hid (by omega) c_17 hf9) (fun q hq => by rw [hf9, va_up_ne _ _ (Ne.symm (hq 1 (live_c (by omega)))), va_up_ne _ _ (Ne.symm (hq 5 (live_c (by omega))))]; exact hfr q hq) (by rw [clA, if_neg c_17]; exact h03)
  exact LOOP7 0 (Nat.zero_le _) ls H locs f (lv_sub hl [0, 3, 2, 1] rfl) hM hI (fun q _ => rfl) ⟨rfl, rfl⟩
