/-! CONTRACTS of TransitryModel: what asks and tells (rows laid by wip/whole/ref.py) -/
set_option maxHeartbeats 400000 in
set_option maxRecDepth 100000 in
theorem c_isNaN {l : Launch} {base : Nat} {K : zK} {L : List Nat} {f : Nat → va_E} {v : UInt64} (hv : vf_n64 v) : zMet l yJxe99ae_isNaN_b9ae7 cJxe99ae_isNaN_b9ae7 2 (some .boolean) (zr 0 0 0 0) base K L f [.double v] (zFi base K (nI 0) L f) := by
  refine z_met (by decide) (Nat.le_of_ble_eq_true rfl) (fun p e s m below meth c ls hC hM hr hlk hnm hl => ?_)
  have hx := hC.1
  have hb := hC.2.1
  have hml := hC.2.2.1
  have hown := hC.2.2.2.1
  have hts := hC.2.2.2.2.1
  generalize hA : ([.double v] : List Value).toArray = args at hC ⊢
  generalize hQ : MQ _ _ _ _ _ _ _ = Q
  obtain ⟨locs, hlocs⟩ : ∃ z : List Loc, z = [] := ⟨_, rfl⟩
  obtain ⟨H, hH⟩ : ∃ z : Heap, z = s.heap := ⟨_, rfl⟩
  rw [← hlocs, ← hH] at hM ⊢
  have hl : lv_has ls 2 [(0, .double v)] := hl
  refine lv_dload_n hx hb dJxe99ae_isNaN_b9ae7_0 rfl (lv_at hl 0 rfl) ?_
  refine lv_dload_n hx hb dJxe99ae_isNaN_b9ae7_1 rfl (lv_at hl 0 rfl) ?_
  refine lv_dcmp hx hb dJxe99ae_isNaN_b9ae7_2 ?_
  refine z_if_eq (tgt := 10) hx hb (dc_l _ _) dJxe99ae_isNaN_b9ae7_3 (by decide) (fun c_3 => ?_) (fun c_3 => ?_)
  · refine lv_iconst (v := nI 0) hx hb dJxe99ae_isNaN_b9ae7_10 (by decide) ?_
    rw [← hQ]
    exact z_iret hC hM hr hlk rfl (by decide) (by decide) ⟨rfl, rfl, rfl⟩ dJxe99ae_isNaN_b9ae7_11
  · exact absurd (dc_self hv) c_3
set_option maxHeartbeats 400000 in
set_option maxRecDepth 100000 in
theorem c_d2l {l : Launch} {base : Nat} {K : zK} {L : List Nat} {f : Nat → va_E} {v : UInt64} (hv : vf_n64 v) : zMet l yJxe99ae_doubleToLongBits_ccdee cJxe99ae_doubleToLongBits_ccdee 2 (some .long) (zr 1 0 0 21) base K L f [.double v] (zFl base K v.toInt64 L f) := by
  refine z_met (by decide) (Nat.le_of_ble_eq_true rfl) (fun p e s m below meth c ls hC hM hr hlk hnm hl => ?_)
  have hx := hC.1
  have hb := hC.2.1
  have hml := hC.2.2.1
  have hown := hC.2.2.2.1
  have hts := hC.2.2.2.2.1
  generalize hA : ([.double v] : List Value).toArray = args at hC ⊢
  generalize hQ : MQ _ _ _ _ _ _ _ = Q
  obtain ⟨locs, hlocs⟩ : ∃ z : List Loc, z = [] := ⟨_, rfl⟩
  obtain ⟨H, hH⟩ : ∃ z : Heap, z = s.heap := ⟨_, rfl⟩
  rw [← hlocs, ← hH] at hM ⊢
  have hl : lv_has ls 2 [(0, .double v)] := hl
  refine lv_dload_n hx hb dJxe99ae_doubleToLongBits_ccdee_0 rfl (lv_at hl 0 rfl) ?_
  refine z_fcalli (z_runS hC hM (c_isNaN hv) zy_Jxe99ae_isNaN_b9ae7 zm_Jxe99ae_122 rfl rfl hl.1 (Nat.le_of_ble_eq_true rfl) ⟨by decide, by decide⟩ ⟨by decide, by decide⟩ dJxe99ae_doubleToLongBits_ccdee_1) hM (fun H locs hM => ?_)
  refine z_if_ne (tgt := 12) hx hb (nI_toInt (by decide)) dJxe99ae_doubleToLongBits_ccdee_4 (by decide) (fun c_4 => ?_) (fun c_4 => ?_)
  · exact absurd c_4 (by omega)
  · refine lv_dload_n hx hb dJxe99ae_doubleToLongBits_ccdee_7 rfl (lv_at hl 0 rfl) ?_
    refine z_d2l hC hl.1 zm_Jxe99ae_134 (by decide) (by decide) dJxe99ae_doubleToLongBits_ccdee_8 ?_
    rw [← hQ]
    exact z_lret hC hM hr hlk (by decide) (by decide) ⟨rfl, rfl, rfl⟩ dJxe99ae_doubleToLongBits_ccdee_11
set_option maxHeartbeats 400000 in
set_option maxRecDepth 100000 in
theorem c_isIn {l : Launch} {base : Nat} {K : zK} {L : List Nat} {f : Nat → va_E} {x a b : Int32} {ea eb : Int} (ha : a.toInt = ea) (hb9 : b.toInt = eb) : zMet l yX7_isIn cX7_isIn 3 (some .boolean) (zr 0 0 0 0) base K L f [.int x, .int a, .int b] (zFi base K (zb (iR x ea eb)) L f) := by
  refine z_met (by decide) (Nat.le_of_ble_eq_true rfl) (fun p e s m below meth c ls hC hM hr hlk hnm hl => ?_)
  have hx := hC.1
  have hb := hC.2.1
  have hml := hC.2.2.1
  have hown := hC.2.2.2.1
  have hts := hC.2.2.2.2.1
  generalize hA : ([.int x, .int a, .int b] : List Value).toArray = args at hC ⊢
  generalize hQ : MQ _ _ _ _ _ _ _ = Q
  obtain ⟨locs, hlocs⟩ : ∃ z : List Loc, z = [] := ⟨_, rfl⟩
  obtain ⟨H, hH⟩ : ∃ z : Heap, z = s.heap := ⟨_, rfl⟩
  rw [← hlocs, ← hH] at hM ⊢
  have hl : lv_has ls 3 [(0, .int x), (1, .int a), (2, .int b)] := hl
  refine lv_iload_n hx hb dX7_isIn_0 rfl (lv_at hl 0 rfl) ?_
  refine lv_iload_n hx hb dX7_isIn_1 rfl (lv_at hl 1 rfl) ?_
  refine z_icmp_lt (tgt := 14) hx hb rfl rfl dX7_isIn_2 (by decide) (fun c_2 => ?_) (fun c_2 => ?_)
  · refine lv_iconst (v := nI 0) hx hb dX7_isIn_14 (by decide) ?_
    rw [← hQ]
    exact z_iret hC hM hr hlk rfl (by decide) (by decide) ⟨(zb_f (fun z => by have z1 := z.1; have z2 := z.2; omega)), rfl, rfl⟩ dX7_isIn_15
  · refine lv_iload_n hx hb dX7_isIn_5 rfl (lv_at hl 0 rfl) ?_
    refine lv_iload_n hx hb dX7_isIn_6 rfl (lv_at hl 2 rfl) ?_
    refine z_icmp_gt (tgt := 14) hx hb rfl rfl dX7_isIn_7 (by decide) (fun c_7 => ?_) (fun c_7 => ?_)
    · refine lv_iconst (v := nI 0) hx hb dX7_isIn_14 (by decide) ?_
      rw [← hQ]
      exact z_iret hC hM hr hlk rfl (by decide) (by decide) ⟨(zb_f (fun z => by have z1 := z.1; have z2 := z.2; omega)), rfl, rfl⟩ dX7_isIn_15
    · refine lv_iconst (v := nI 1) hx hb dX7_isIn_10 (by decide) ?_
      refine lv_goto (tgt := 15) hx hb dX7_isIn_11 (by decide) ?_
      rw [← hQ]
      exact z_iret hC hM hr hlk rfl (by decide) (by decide) ⟨(zb_t ⟨by omega, by omega⟩), rfl, rfl⟩ dX7_isIn_15
set_option maxHeartbeats 400000 in
set_option maxRecDepth 100000 in
theorem c_isStar {l : Launch} {base : Nat} {K : zK} {L : List Nat} {f : Nat → va_E} {A : zA} {ma : Nat → Nat} {t : Int32} (hV : VA A) (hMI : MI K L f A ma t) (x : Int32) : zMet l yX7_isStar cX7_isStar 2 (some .boolean) (zr 1 0 0 22) base K L f [.ref ((ma 0)), .int x] (zFi base K (zb (isS A x)) L f) := by
  have hMI9 := hMI
  obtain ⟨hmm, hmi, ⟨sg, cg, bb, bf⟩, op, hop, hmc⟩ := hMI9
  have hV9 := hV
  obtain ⟨hv1, hv2, hv3, hvS, hvO, hvK, hvK1, hvL, hv11, hvW, hv23, hvW0, hvP⟩ := hV9
  have hg0 : f (ma 0) = eS 8 [.int t, .int (nI (ns A)), .ref ((ma 2)), .ref ((ma 3)), .ref ((ma 4)), .ref ((ma 5)), .ref ((ma 6)), .ref ((ma 7)), .ref ((ma 8)), .ref ((ma 9)), .ref ((ma 10)), .ref ((ma 11)), .ref ((ma 12)), .ref ((ma 13)), .ref ((ma 14)), .ref ((ma 15)), .ref ((ma 16)), .double bb, .int bf, .int (nI (nw A)), .ref ((ma 20)), .ref ((ma 21)), .ref ((ma 22)), .ref ((ma 23)), .int (nI (np A)), .ref ((ma 25)), .ref ((ma 26))] := hmc 0 (by decide)
  refine z_met (by decide) (Nat.le_of_ble_eq_true rfl) (fun p e s m below meth c ls hC hM hr hlk hnm hl => ?_)
  have hx := hC.1
  have hb := hC.2.1
  have hml := hC.2.2.1
  have hown := hC.2.2.2.1
  have hts := hC.2.2.2.2.1
  generalize hA : ([.ref ((ma 0)), .int x] : List Value).toArray = args at hC ⊢
  generalize hQ : MQ _ _ _ _ _ _ _ = Q
  obtain ⟨locs, hlocs⟩ : ∃ z : List Loc, z = [] := ⟨_, rfl⟩
  obtain ⟨H, hH⟩ : ∃ z : Heap, z = s.heap := ⟨_, rfl⟩
  rw [← hlocs, ← hH] at hM ⊢
  have hl : lv_has ls 2 [(0, .ref ((ma 0))), (1, .int x)] := hl
  refine lv_iload_n hx hb dX7_isStar_0 rfl (lv_at hl 1 rfl) ?_
  refine lv_iconst (v := nI 0) hx hb dX7_isStar_1 (by decide) ?_
  refine lv_aload_n hx hb dX7_isStar_2 rfl (lv_at hl 0 rfl) ?_
  refine z_get hC hM (hmm 0 (by decide)) hg0 zcl_X7 (by decide) zl_X7_79 rfl dX7_isStar_3 ?_
  refine lv_iconst (v := nI 1) hx hb dX7_isStar_6 (by decide) ?_
  refine lv_isub hx hb dX7_isStar_7 ?_
  refine z_fcalli (z_runS hC hM (c_isIn (x := x) (a := nI 0) (b := nI (ns A) - nI 1) (ea := 0) (eb := (ns A : Int) - 1) (by decide) (by rw [pk_sub_toInt (by omega) (by omega)]; rfl)) zy_X7_isIn zm_X7_82 rfl rfl hl.1 (Nat.le_of_ble_eq_true rfl) ⟨by decide, by decide⟩ ⟨by decide, by decide⟩ dX7_isStar_8) hM (fun H locs hM => ?_)
  rw [← hQ]
  exact z_iret hC hM hr hlk zb_nar (by decide) (by decide) ⟨rfl, rfl, rfl⟩ dX7_isStar_11
set_option maxHeartbeats 400000 in
set_option maxRecDepth 100000 in
theorem c_isHour {l : Launch} {base : Nat} {K : zK} {L : List Nat} {f : Nat → va_E} (x : Int32) : zMet l yX7_isHour cX7_isHour 1 (some .boolean) (zr 1 0 0 22) base K L f [.int x] (zFi base K (zb (isH x)) L f) := by
  refine z_met (by decide) (Nat.le_of_ble_eq_true rfl) (fun p e s m below meth c ls hC hM hr hlk hnm hl => ?_)
  have hx := hC.1
  have hb := hC.2.1
  have hml := hC.2.2.1
  have hown := hC.2.2.2.1
  have hts := hC.2.2.2.2.1
  generalize hA : ([.int x] : List Value).toArray = args at hC ⊢
  generalize hQ : MQ _ _ _ _ _ _ _ = Q
  obtain ⟨locs, hlocs⟩ : ∃ z : List Loc, z = [] := ⟨_, rfl⟩
  obtain ⟨H, hH⟩ : ∃ z : Heap, z = s.heap := ⟨_, rfl⟩
  rw [← hlocs, ← hH] at hM ⊢
  have hl : lv_has ls 1 [(0, .int x)] := hl
  refine lv_iload_n hx hb dX7_isHour_0 rfl (lv_at hl 0 rfl) ?_
  refine lv_iconst (v := nI 0) hx hb dX7_isHour_1 (by decide) ?_
  refine lv_sipush (v := nI 999) hx hb dX7_isHour_2 (by decide) ?_
  refine z_fcalli (z_runS hC hM (c_isIn (x := x) (ea := 0) (eb := 999) (by decide) (by decide)) zy_X7_isIn zm_X7_82 rfl rfl hl.1 (Nat.le_of_ble_eq_true rfl) ⟨by decide, by decide⟩ ⟨by decide, by decide⟩ dX7_isHour_5) hM (fun H locs hM => ?_)
  rw [← hQ]
  exact z_iret hC hM hr hlk zb_nar (by decide) (by decide) ⟨rfl, rfl, rfl⟩ dX7_isHour_8
set_option maxHeartbeats 400000 in
set_option maxRecDepth 100000 in
theorem c_isThr {l : Launch} {base : Nat} {K : zK} {L : List Nat} {f : Nat → va_E} (x : Int32) : zMet l yX7_isThreshold cX7_isThreshold 1 (some .boolean) (zr 1 0 0 22) base K L f [.int x] (zFi base K (zb (iR x 0 1000000)) L f) := by
  refine z_met (by decide) (Nat.le_of_ble_eq_true rfl) (fun p e s m below meth c ls hC hM hr hlk hnm hl => ?_)
  have hx := hC.1
  have hb := hC.2.1
  have hml := hC.2.2.1
  have hown := hC.2.2.2.1
  have hts := hC.2.2.2.2.1
  generalize hA : ([.int x] : List Value).toArray = args at hC ⊢
  generalize hQ : MQ _ _ _ _ _ _ _ = Q
  obtain ⟨locs, hlocs⟩ : ∃ z : List Loc, z = [] := ⟨_, rfl⟩
  obtain ⟨H, hH⟩ : ∃ z : Heap, z = s.heap := ⟨_, rfl⟩
  rw [← hlocs, ← hH] at hM ⊢
  have hl : lv_has ls 1 [(0, .int x)] := hl
  refine lv_iload_n hx hb dX7_isThreshold_0 rfl (lv_at hl 0 rfl) ?_
  refine lv_iconst (v := nI 0) hx hb dX7_isThreshold_1 (by decide) ?_
  refine lv_ldc (v := nI 1000000) hx hb hown (hts _ zk_X7_86) dX7_isThreshold_2 ?_
  refine z_fcalli (z_runS hC hM (c_isIn (x := x) (ea := 0) (eb := 1000000) (by decide) (by decide)) zy_X7_isIn zm_X7_82 rfl rfl hl.1 (Nat.le_of_ble_eq_true rfl) ⟨by decide, by decide⟩ ⟨by decide, by decide⟩ dX7_isThreshold_4) hM (fun H locs hM => ?_)
  rw [← hQ]
  exact z_iret hC hM hr hlk zb_nar (by decide) (by decide) ⟨rfl, rfl, rfl⟩ dX7_isThreshold_7
set_option maxHeartbeats 400000 in
set_option maxRecDepth 100000 in
theorem c_isWorld {l : Launch} {base : Nat} {K : zK} {L : List Nat} {f : Nat → va_E} {A : zA} {ma : Nat → Nat} {t : Int32} (hV : VA A) (hMI : MI K L f A ma t) (x : Int32) : zMet l yX7_isWorld cX7_isWorld 2 (some .boolean) (zr 1 0 0 22) base K L f [.ref ((ma 0)), .int x] (zFi base K (zb (isW A x)) L f) := by
  have hMI9 := hMI
  obtain ⟨hmm, hmi, ⟨sg, cg, bb, bf⟩, op, hop, hmc⟩ := hMI9
  have hV9 := hV
  obtain ⟨hv1, hv2, hv3, hvS, hvO, hvK, hvK1, hvL, hv11, hvW, hv23, hvW0, hvP⟩ := hV9
  have hg0 : f (ma 0) = eS 8 [.int t, .int (nI (ns A)), .ref ((ma 2)), .ref ((ma 3)), .ref ((ma 4)), .ref ((ma 5)), .ref ((ma 6)), .ref ((ma 7)), .ref ((ma 8)), .ref ((ma 9)), .ref ((ma 10)), .ref ((ma 11)), .ref ((ma 12)), .ref ((ma 13)), .ref ((ma 14)), .ref ((ma 15)), .ref ((ma 16)), .double bb, .int bf, .int (nI (nw A)), .ref ((ma 20)), .ref ((ma 21)), .ref ((ma 22)), .ref ((ma 23)), .int (nI (np A)), .ref ((ma 25)), .ref ((ma 26))] := hmc 0 (by decide)
  refine z_met (by decide) (Nat.le_of_ble_eq_true rfl) (fun p e s m below meth c ls hC hM hr hlk hnm hl => ?_)
  have hx := hC.1
  have hb := hC.2.1
  have hml := hC.2.2.1
  have hown := hC.2.2.2.1
  have hts := hC.2.2.2.2.1
  generalize hA : ([.ref ((ma 0)), .int x] : List Value).toArray = args at hC ⊢
  generalize hQ : MQ _ _ _ _ _ _ _ = Q
  obtain ⟨locs, hlocs⟩ : ∃ z : List Loc, z = [] := ⟨_, rfl⟩
  obtain ⟨H, hH⟩ : ∃ z : Heap, z = s.heap := ⟨_, rfl⟩
  rw [← hlocs, ← hH] at hM ⊢
  have hl : lv_has ls 2 [(0, .ref ((ma 0))), (1, .int x)] := hl
  refine lv_iload_n hx hb dX7_isWorld_0 rfl (lv_at hl 1 rfl) ?_
  refine lv_iconst (v := nI 0) hx hb dX7_isWorld_1 (by decide) ?_
  refine lv_aload_n hx hb dX7_isWorld_2 rfl (lv_at hl 0 rfl) ?_
  refine z_get hC hM (hmm 0 (by decide)) hg0 zcl_X7 (by decide) zl_X7_142 rfl dX7_isWorld_3 ?_
  refine lv_iconst (v := nI 1) hx hb dX7_isWorld_6 (by decide) ?_
  refine lv_isub hx hb dX7_isWorld_7 ?_
  refine z_fcalli (z_runS hC hM (c_isIn (x := x) (a := nI 0) (b := nI (nw A) - nI 1) (ea := 0) (eb := (nw A : Int) - 1) (by decide) (by rw [pk_sub_toInt (by omega) (by omega)]; rfl)) zy_X7_isIn zm_X7_82 rfl rfl hl.1 (Nat.le_of_ble_eq_true rfl) ⟨by decide, by decide⟩ ⟨by decide, by decide⟩ dX7_isWorld_8) hM (fun H locs hM => ?_)
  rw [← hQ]
  exact z_iret hC hM hr hlk zb_nar (by decide) (by decide) ⟨rfl, rfl, rfl⟩ dX7_isWorld_11
set_option maxHeartbeats 400000 in
set_option maxRecDepth 100000 in
theorem c_isPaper {l : Launch} {base : Nat} {K : zK} {L : List Nat} {f : Nat → va_E} {A : zA} {ma : Nat → Nat} {t : Int32} (hV : VA A) (hMI : MI K L f A ma t) (x : Int32) : zMet l yX7_isPaper cX7_isPaper 2 (some .boolean) (zr 1 0 0 22) base K L f [.ref ((ma 0)), .int x] (zFi base K (zb (isP A x)) L f) := by
  have hMI9 := hMI
  obtain ⟨hmm, hmi, ⟨sg, cg, bb, bf⟩, op, hop, hmc⟩ := hMI9
  have hV9 := hV
  obtain ⟨hv1, hv2, hv3, hvS, hvO, hvK, hvK1, hvL, hv11, hvW, hv23, hvW0, hvP⟩ := hV9
  have hg0 : f (ma 0) = eS 8 [.int t, .int (nI (ns A)), .ref ((ma 2)), .ref ((ma 3)), .ref ((ma 4)), .ref ((ma 5)), .ref ((ma 6)), .ref ((ma 7)), .ref ((ma 8)), .ref ((ma 9)), .ref ((ma 10)), .ref ((ma 11)), .ref ((ma 12)), .ref ((ma 13)), .ref ((ma 14)), .ref ((ma 15)), .ref ((ma 16)), .double bb, .int bf, .int (nI (nw A)), .ref ((ma 20)), .ref ((ma 21)), .ref ((ma 22)), .ref ((ma 23)), .int (nI (np A)), .ref ((ma 25)), .ref ((ma 26))] := hmc 0 (by decide)
  refine z_met (by decide) (Nat.le_of_ble_eq_true rfl) (fun p e s m below meth c ls hC hM hr hlk hnm hl => ?_)
  have hx := hC.1
  have hb := hC.2.1
  have hml := hC.2.2.1
  have hown := hC.2.2.2.1
  have hts := hC.2.2.2.2.1
  generalize hA : ([.ref ((ma 0)), .int x] : List Value).toArray = args at hC ⊢
  generalize hQ : MQ _ _ _ _ _ _ _ = Q
  obtain ⟨locs, hlocs⟩ : ∃ z : List Loc, z = [] := ⟨_, rfl⟩
  obtain ⟨H, hH⟩ : ∃ z : Heap, z = s.heap := ⟨_, rfl⟩
  rw [← hlocs, ← hH] at hM ⊢
  have hl : lv_has ls 2 [(0, .ref ((ma 0))), (1, .int x)] := hl
  refine lv_iload_n hx hb dX7_isPaper_0 rfl (lv_at hl 1 rfl) ?_
  refine lv_iconst (v := nI 0) hx hb dX7_isPaper_1 (by decide) ?_
  refine lv_aload_n hx hb dX7_isPaper_2 rfl (lv_at hl 0 rfl) ?_
  refine z_get hC hM (hmm 0 (by decide)) hg0 zcl_X7 (by decide) zl_X7_148 rfl dX7_isPaper_3 ?_
  refine lv_iconst (v := nI 1) hx hb dX7_isPaper_6 (by decide) ?_
  refine lv_isub hx hb dX7_isPaper_7 ?_
  refine z_fcalli (z_runS hC hM (c_isIn (x := x) (a := nI 0) (b := nI (np A) - nI 1) (ea := 0) (eb := (np A : Int) - 1) (by decide) (by rw [pk_sub_toInt (by omega) (by omega)]; rfl)) zy_X7_isIn zm_X7_82 rfl rfl hl.1 (Nat.le_of_ble_eq_true rfl) ⟨by decide, by decide⟩ ⟨by decide, by decide⟩ dX7_isPaper_8) hM (fun H locs hM => ?_)
  rw [← hQ]
  exact z_iret hC hM hr hlk zb_nar (by decide) (by decide) ⟨rfl, rfl, rfl⟩ dX7_isPaper_11
set_option maxHeartbeats 400000 in
set_option maxRecDepth 100000 in
theorem c_thrown {l : Launch} {base : Nat} {K : zK} {L : List Nat} {f : Nat → va_E} {A : zA} {ma : Nat → Nat} {t : Int32} (hV : VA A) (hMI : MI K L f A ma t)  : zMet l yX7_thrown cX7_thrown 1 (some .int) (zr 0 0 0 0) base K L f [.ref ((ma 0))] (zFi base K t L f) := by
  have hMI9 := hMI
  obtain ⟨hmm, hmi, ⟨sg, cg, bb, bf⟩, op, hop, hmc⟩ := hMI9
  have hV9 := hV
  obtain ⟨hv1, hv2, hv3, hvS, hvO, hvK, hvK1, hvL, hv11, hvW, hv23, hvW0, hvP⟩ := hV9
  have hg0 : f (ma 0) = eS 8 [.int t, .int (nI (ns A)), .ref ((ma 2)), .ref ((ma 3)), .ref ((ma 4)), .ref ((ma 5)), .ref ((ma 6)), .ref ((ma 7)), .ref ((ma 8)), .ref ((ma 9)), .ref ((ma 10)), .ref ((ma 11)), .ref ((ma 12)), .ref ((ma 13)), .ref ((ma 14)), .ref ((ma 15)), .ref ((ma 16)), .double bb, .int bf, .int (nI (nw A)), .ref ((ma 20)), .ref ((ma 21)), .ref ((ma 22)), .ref ((ma 23)), .int (nI (np A)), .ref ((ma 25)), .ref ((ma 26))] := hmc 0 (by decide)
  refine z_met (by decide) (Nat.le_of_ble_eq_true rfl) (fun p e s m below meth c ls hC hM hr hlk hnm hl => ?_)
  have hx := hC.1
  have hb := hC.2.1
  have hml := hC.2.2.1
  have hown := hC.2.2.2.1
  have hts := hC.2.2.2.2.1
  generalize hA : ([.ref ((ma 0))] : List Value).toArray = args at hC ⊢
  generalize hQ : MQ _ _ _ _ _ _ _ = Q
  obtain ⟨locs, hlocs⟩ : ∃ z : List Loc, z = [] := ⟨_, rfl⟩
  obtain ⟨H, hH⟩ : ∃ z : Heap, z = s.heap := ⟨_, rfl⟩
  rw [← hlocs, ← hH] at hM ⊢
  have hl : lv_has ls 1 [(0, .ref ((ma 0)))] := hl
  refine lv_aload_n hx hb dX7_thrown_0 rfl (lv_at hl 0 rfl) ?_
  refine z_get hC hM (hmm 0 (by decide)) hg0 zcl_X7 (by decide) zl_X7_75 rfl dX7_thrown_1 ?_
  rw [← hQ]
  exact z_iret hC hM hr hlk rfl (by decide) (by decide) ⟨rfl, rfl, rfl⟩ dX7_thrown_4
set_option maxHeartbeats 400000 in
set_option maxRecDepth 100000 in
theorem c_hasFew {l : Launch} {base : Nat} {K : zK} {L : List Nat} {f : Nat → va_E} {A : zA} {ma : Nat → Nat} {t : Int32} (hV : VA A) (hMI : MI K L f A ma t) {i : Nat} (hi : i < ns A) : zMet l yX7_hasFew cX7_hasFew 2 (some .boolean) (zr 0 0 0 0) base K L f [.ref ((ma 0)), .int (nI i)] (zFi base K (zb (A.1 14 i < 20)) L f) := by
  have hMI9 := hMI
  obtain ⟨hmm, hmi, ⟨sg, cg, bb, bf⟩, op, hop, hmc⟩ := hMI9
  have hV9 := hV
  obtain ⟨hv1, hv2, hv3, hvS, hvO, hvK, hvK1, hvL, hv11, hvW, hv23, hvW0, hvP⟩ := hV9
  have hg0 : f (ma 0) = eS 8 [.int t, .int (nI (ns A)), .ref ((ma 2)), .ref ((ma 3)), .ref ((ma 4)), .ref ((ma 5)), .ref ((ma 6)), .ref ((ma 7)), .ref ((ma 8)), .ref ((ma 9)), .ref ((ma 10)), .ref ((ma 11)), .ref ((ma 12)), .ref ((ma 13)), .ref ((ma 14)), .ref ((ma 15)), .ref ((ma 16)), .double bb, .int bf, .int (nI (nw A)), .ref ((ma 20)), .ref ((ma 21)), .ref ((ma 22)), .ref ((ma 23)), .int (nI (np A)), .ref ((ma 25)), .ref ((ma 26))] := hmc 0 (by decide)
  have hg14 : f (ma 14) = eI K 6 (fun j => nI ((A.1 14) j)) := hmc 14 (by decide)
  obtain ⟨w1, w2, w3, w4, w5, w6, w7, w8⟩ := hvS i hi
  have hkl := fN_le (gk A i) 1000
  refine z_met (by decide) (Nat.le_of_ble_eq_true rfl) (fun p e s m below meth c ls hC hM hr hlk hnm hl => ?_)
  have hx := hC.1
  have hb := hC.2.1
  have hml := hC.2.2.1
  have hown := hC.2.2.2.1
  have hts := hC.2.2.2.2.1
  generalize hA : ([.ref ((ma 0)), .int (nI i)] : List Value).toArray = args at hC ⊢
  generalize hQ : MQ _ _ _ _ _ _ _ = Q
  obtain ⟨locs, hlocs⟩ : ∃ z : List Loc, z = [] := ⟨_, rfl⟩
  obtain ⟨H, hH⟩ : ∃ z : Heap, z = s.heap := ⟨_, rfl⟩
  rw [← hlocs, ← hH] at hM ⊢
  have hl : lv_has ls 2 [(0, .ref ((ma 0))), (1, .int (nI i))] := hl
  refine lv_aload_n hx hb dX7_hasFew_0 rfl (lv_at hl 0 rfl) ?_
  refine z_get hC hM (hmm 0 (by decide)) hg0 zcl_X7 (by decide) zl_X7_48 rfl dX7_hasFew_1 ?_
  refine lv_iload_n hx hb dX7_hasFew_4 rfl (lv_at hl 1 rfl) ?_
  refine z_iald hC hM (hmm 14 (by decide)) hg14 (by omega) (by omega) dX7_hasFew_5 ?_
  refine lv_bipush (v := nI 20) hx hb dX7_hasFew_6 (by decide) ?_
  refine z_icmp_ge (tgt := 15) hx hb (nI_toInt (by omega)) (nI_toInt (by decide)) dX7_hasFew_8 (by decide) (fun c_8 => ?_) (fun c_8 => ?_)
  · refine lv_iconst (v := nI 0) hx hb dX7_hasFew_15 (by decide) ?_
    rw [← hQ]
    exact z_iret hC hM hr hlk rfl (by decide) (by decide) ⟨(zb_f (by omega)), rfl, rfl⟩ dX7_hasFew_16
  · refine lv_iconst (v := nI 1) hx hb dX7_hasFew_11 (by decide) ?_
    refine lv_goto (tgt := 16) hx hb dX7_hasFew_12 (by decide) ?_
    rw [← hQ]
    exact z_iret hC hM hr hlk rfl (by decide) (by decide) ⟨(zb_t (by omega)), rfl, rfl⟩ dX7_hasFew_16
set_option maxHeartbeats 400000 in
set_option maxRecDepth 100000 in
theorem c_thrF {l : Launch} {base : Nat} {K : zK} {L : List Nat} {f : Nat → va_E} {A : zA} {ma : Nat → Nat} {t : Int32} (hV : VA A) (hMI : MI K L f A ma t) (x y : Int32) : zMet l yX7_thrownFor cX7_thrownFor 3 (some .int) (zr 2 0 0 43) base K L f [.ref ((ma 0)), .int x, .int y] (zFi base K (nI (k_fold A x y)) L f) := by
  have hMI9 := hMI
  obtain ⟨hmm, hmi, ⟨sg, cg, bb, bf⟩, op, hop, hmc⟩ := hMI9
  have hV9 := hV
  obtain ⟨hv1, hv2, hv3, hvS, hvO, hvK, hvK1, hvL, hv11, hvW, hv23, hvW0, hvP⟩ := hV9
  have hg0 : f (ma 0) = eS 8 [.int t, .int (nI (ns A)), .ref ((ma 2)), .ref ((ma 3)), .ref ((ma 4)), .ref ((ma 5)), .ref ((ma 6)), .ref ((ma 7)), .ref ((ma 8)), .ref ((ma 9)), .ref ((ma 10)), .ref ((ma 11)), .ref ((ma 12)), .ref ((ma 13)), .ref ((ma 14)), .ref ((ma 15)), .ref ((ma 16)), .double bb, .int bf, .int (nI (nw A)), .ref ((ma 20)), .ref ((ma 21)), .ref ((ma 22)), .ref ((ma 23)), .int (nI (np A)), .ref ((ma 25)), .ref ((ma 26))] := hmc 0 (by decide)
  refine z_met (by decide) (Nat.le_of_ble_eq_true rfl) (fun p e s m below meth c ls hC hM hr hlk hnm hl => ?_)
  have hx := hC.1
  have hb := hC.2.1
  have hml := hC.2.2.1
  have hown := hC.2.2.2.1
  have hts := hC.2.2.2.2.1
  generalize hA : ([.ref ((ma 0)), .int x, .int y] : List Value).toArray = args at hC ⊢
  generalize hQ : MQ _ _ _ _ _ _ _ = Q
  obtain ⟨locs, hlocs⟩ : ∃ z : List Loc, z = [] := ⟨_, rfl⟩
  obtain ⟨H, hH⟩ : ∃ z : Heap, z = s.heap := ⟨_, rfl⟩
  rw [← hlocs, ← hH] at hM ⊢
  have hl : lv_has ls 3 [(0, .ref ((ma 0))), (1, .int x), (2, .int y)] := hl
  refine lv_aload_n hx hb dX7_thrownFor_0 rfl (lv_at hl 0 rfl) ?_
  refine lv_iload_n hx hb dX7_thrownFor_1 rfl (lv_at hl 1 rfl) ?_
  refine z_fcalli (z_runV hC hM (c_isStar hV hMI x) zy_X7_isStar zm_X7_87 (hmm 0 (by decide)) hg0 zcl_X7 rfl rfl rfl hl.1 (Nat.le_of_ble_eq_true rfl) ⟨by decide, by decide⟩ ⟨by decide, by decide⟩ dX7_thrownFor_2) hM (fun H locs hM => ?_)
  refine z_if_neB (tgt := 12) hx hb dX7_thrownFor_5 (by decide) (fun c_5 => ?_) (fun c_5 => ?_)
  · skip
    obtain ⟨i, hi0, hi9, hxi⟩ := nI_of_range (Int.le_refl 0) c_5.1 c_5.2
    subst hxi
    have hi : i < ns A := by omega
    have hiv := iv_nI (i := i) (by omega)
    obtain ⟨w1, w2, w3, w4, w5, w6, w7, w8⟩ := hvS i hi
    have hkl := fN_le (gk A i) 1000
    refine lv_iload_n hx hb dX7_thrownFor_12 rfl (lv_at hl 2 rfl) ?_
    refine lv_iconst (v := nI 2) hx hb dX7_thrownFor_13 (by decide) ?_
    refine lv_bipush (v := nI 60) hx hb dX7_thrownFor_14 (by decide) ?_
    refine z_fcalli (z_runS hC hM (c_isIn (x := y) (ea := 2) (eb := 60) (by decide) (by decide)) zy_X7_isIn zm_X7_82 rfl rfl hl.1 (Nat.le_of_ble_eq_true rfl) ⟨by decide, by decide⟩ ⟨by decide, by decide⟩ dX7_thrownFor_16) hM (fun H locs hM => ?_)
    refine z_if_neB (tgt := 26) hx hb dX7_thrownFor_19 (by decide) (fun c_19 => ?_) (fun c_19 => ?_)
    · refine lv_aload_n hx hb dX7_thrownFor_26 rfl (lv_at hl 0 rfl) ?_
      refine lv_iload_n hx hb dX7_thrownFor_27 rfl (lv_at hl 1 rfl) ?_
      refine z_fcalli (z_runV hC hM (c_hasFew hV hMI hi) zy_X7_hasFew zm_X7_127 (hmm 0 (by decide)) hg0 zcl_X7 rfl rfl rfl hl.1 (Nat.le_of_ble_eq_true rfl) ⟨by decide, by decide⟩ ⟨by decide, by decide⟩ dX7_thrownFor_28) hM (fun H locs hM => ?_)
      refine z_if_eqB (tgt := 38) hx hb dX7_thrownFor_31 (by decide) (fun c_31 => ?_) (fun c_31 => ?_)
      · refine lv_iconst (v := nI 0) hx hb dX7_thrownFor_38 (by decide) ?_
        rw [← hQ]
        exact z_iret hC hM hr hlk rfl (by decide) (by decide) ⟨congrArg nI (kf0 c_5 c_19 (by rw [hiv]; omega)).symm, rfl, rfl⟩ dX7_thrownFor_39
      · refine lv_iconst (v := nI 3) hx hb dX7_thrownFor_34 (by decide) ?_
        refine lv_goto (tgt := 39) hx hb dX7_thrownFor_35 (by decide) ?_
        rw [← hQ]
        exact z_iret hC hM hr hlk rfl (by decide) (by decide) ⟨congrArg nI (kf3 c_5 c_19 (by rw [hiv]; exact c_31)).symm, rfl, rfl⟩ dX7_thrownFor_39
    · refine lv_iconst (v := nI 2) hx hb dX7_thrownFor_22 (by decide) ?_
      refine lv_goto (tgt := 39) hx hb dX7_thrownFor_23 (by decide) ?_
      rw [← hQ]
      exact z_iret hC hM hr hlk rfl (by decide) (by decide) ⟨congrArg nI (kf2 c_5 c_19).symm, rfl, rfl⟩ dX7_thrownFor_39
  · refine lv_iconst (v := nI 1) hx hb dX7_thrownFor_8 (by decide) ?_
    refine lv_goto (tgt := 39) hx hb dX7_thrownFor_9 (by decide) ?_
    rw [← hQ]
    exact z_iret hC hM hr hlk rfl (by decide) (by decide) ⟨congrArg nI (kf1 c_5).symm, rfl, rfl⟩ dX7_thrownFor_39
set_option maxHeartbeats 400000 in
set_option maxRecDepth 100000 in
theorem c_rem {l : Launch} {base : Nat} {K : zK} {L : List Nat} {f : Nat → va_E} {h ph per : Nat} (hh : h < 1000) (hp : ph < per) (hp2 : per ≤ 60) : zMet l yX7_remainder cX7_remainder 3 (some .int) (zr 0 0 0 0) base K L f [.int ((nI h - nI ph)), .int (nI per)] (zFi base K (nI ((h + per - ph) % per)) L f) := by
  refine z_met (by decide) (Nat.le_of_ble_eq_true rfl) (fun p e s m below meth c ls hC hM hr hlk hnm hl => ?_)
  have hx := hC.1
  have hb := hC.2.1
  have hml := hC.2.2.1
  have hown := hC.2.2.2.1
  have hts := hC.2.2.2.2.1
  generalize hA : ([.int ((nI h - nI ph)), .int (nI per)] : List Value).toArray = args at hC ⊢
  generalize hQ : MQ _ _ _ _ _ _ _ = Q
  obtain ⟨locs, hlocs⟩ : ∃ z : List Loc, z = [] := ⟨_, rfl⟩
  obtain ⟨H, hH⟩ : ∃ z : Heap, z = s.heap := ⟨_, rfl⟩
  rw [← hlocs, ← hH] at hM ⊢
  have hl : lv_has ls 3 [(0, .int ((nI h - nI ph))), (1, .int (nI per))] := hl
  refine lv_iload_n hx hb dX7_remainder_0 rfl (lv_at hl 0 rfl) ?_
  refine lv_iload_n hx hb dX7_remainder_1 rfl (lv_at hl 1 rfl) ?_
  refine lv_irem hx hb dX7_remainder_2 (nI_ne0 (by omega) (by omega)) ?_
  refine lv_istore_n (lv' := [(2, .int (((nI h - nI ph)) - ((nI h - nI ph)) / (nI per) * (nI per))), (0, .int ((nI h - nI ph))), (1, .int (nI per))]) hx hb dX7_remainder_3 rfl hl (by decide) rfl (fun ls hl => ?_)
  refine lv_iload_n hx hb dX7_remainder_4 rfl (lv_at hl 0 rfl) ?_
  refine z_if_ge (tgt := 14) hx hb rfl dX7_remainder_5 (by decide) (fun c_5 => ?_) (fun c_5 => ?_)
  · refine lv_iload_n hx hb dX7_remainder_14 rfl (lv_at hl 0 rfl) ?_
    rw [← hQ]
    exact z_iret hC hM hr hlk rfl (by decide) (by decide) ⟨(rem_p hh hp hp2 c_5), rfl, rfl⟩ dX7_remainder_15
  · refine lv_iload_n hx hb dX7_remainder_8 rfl (lv_at hl 0 rfl) ?_
    refine lv_iload_n hx hb dX7_remainder_9 rfl (lv_at hl 2 rfl) ?_
    refine lv_iadd hx hb dX7_remainder_10 ?_
    refine lv_goto (tgt := 15) hx hb dX7_remainder_11 (by decide) ?_
    rw [← hQ]
    exact z_iret hC hM hr hlk rfl (by decide) (by decide) ⟨(rem_n hh hp hp2 c_5), rfl, rfl⟩ dX7_remainder_15
