/-! CONTRACTS of Nights, Planet, Star, World, Paper (rows laid by wip/whole/nights.py) -/
set_option maxHeartbeats 400000 in
set_option maxRecDepth 100000 in
theorem c_fmod {l : Launch} {base : Nat} {K : zK} {L : List Nat} {f : Nat → va_E} {h ph per : Nat} (hh : h < 1000) (hp : ph < per) (hp2 : per ≤ 60) : zMet l yJ9_floorMod_7cf53 cJ9_floorMod_7cf53 3 (some .int) (zr 0 0 0 0) base K L f [.int ((nI h - nI ph)), .int (nI per)] (zFi base K (nI ((h + per - ph) % per)) L f) := by
  refine z_metF (by decide +kernel) (Nat.le_of_ble_eq_true rfl) (fun p e s m below meth c ls hC hM hr hlk hnm hl => ?_)
  have hx := hC.1
  have hb := hC.2.1
  have hml := hC.2.2.1
  have hown := hC.2.2.2.1
  have hts := hC.2.2.2.2.1
  generalize hA : ([.int ((nI h - nI ph)), .int (nI per)] : List Value).toArray = args at hC ⊢
  generalize hQ : MQ _ _ _ _ _ _ _ = Q
  obtain ⟨locs, hlocs⟩ : ∃ z : List Loc, z = [] := ⟨_, rfl⟩
  obtain ⟨H, hH⟩ : ∃ z : Heap, z = s.heap := ⟨_, rfl⟩
  rw [← hlocs, ← hH] at hM ⊢
  have hl : lv_has ls 3 [(0, .int ((nI h - nI ph))), (1, .int (nI per))] := hl
  refine lv_iload_n hx hb dJ9_floorMod_7cf53_0 rfl (lv_at hl 0 rfl) ?_
  refine lv_iload_n hx hb dJ9_floorMod_7cf53_1 rfl (lv_at hl 1 rfl) ?_
  refine lv_irem hx hb dJ9_floorMod_7cf53_2 (nI_ne0 (by omega) (by omega)) ?_
  refine lv_istore_n (lv' := [(2, .int (((nI h - nI ph)) - ((nI h - nI ph)) / (nI per) * (nI per))), (0, .int ((nI h - nI ph))), (1, .int (nI per))]) hx hb dJ9_floorMod_7cf53_3 rfl hl (by decide) rfl (fun ls hl => ?_)
  refine lv_iload_n hx hb dJ9_floorMod_7cf53_4 rfl (lv_at hl 1 rfl) ?_
  refine lv_iload_n hx hb dJ9_floorMod_7cf53_5 rfl (lv_at hl 2 rfl) ?_
  refine lv_ixor hx hb dJ9_floorMod_7cf53_6 ?_
  refine z_if_ge (tgt := 18) hx hb rfl dJ9_floorMod_7cf53_7 (by decide) (fun c_7 => ?_) (fun c_7 => ?_)
  · refine lv_iload_n hx hb dJ9_floorMod_7cf53_18 rfl (lv_at hl 0 rfl) ?_
    rw [← hQ]
    exact z_iret hC hM hr hlk rfl (by decide) (by decide) ⟨rm_pos hh hp hp2 (Nat.not_lt.mp (mt (sub_xor hh hp hp2).mpr (Int.not_lt.mpr c_7))), rfl, rfl⟩ dJ9_floorMod_7cf53_19
  · refine lv_iload_n hx hb dJ9_floorMod_7cf53_10 rfl (lv_at hl 0 rfl) ?_
    refine z_if_eq (tgt := 18) hx hb rfl dJ9_floorMod_7cf53_11 (by decide) (fun c_11 => ?_) (fun c_11 => ?_)
    · exact absurd c_11 (by rw [(rm_neg hh hp hp2 ((sub_xor hh hp hp2).mp c_7)).1]; have := (sub_xor hh hp hp2).mp c_7; omega)
    · refine lv_iload_n hx hb dJ9_floorMod_7cf53_14 rfl (lv_at hl 0 rfl) ?_
      refine lv_iload_n hx hb dJ9_floorMod_7cf53_15 rfl (lv_at hl 2 rfl) ?_
      refine lv_iadd hx hb dJ9_floorMod_7cf53_16 ?_
      rw [← hQ]
      exact z_iret hC hM hr hlk rfl (by decide) (by decide) ⟨(rm_neg hh hp hp2 ((sub_xor hh hp hp2).mp c_7)).2, rfl, rfl⟩ dJ9_floorMod_7cf53_17
set_option maxHeartbeats 400000 in
set_option maxRecDepth 100000 in
theorem c_lightOf {l : Launch} {base : Nat} {K : zK} {L : List Nat} {f : Nat → va_E} {o lo kc : Nat} {g : Nat → UInt64} (ho : o ∈ L) (hfo : f o = eS 2 [.ref lo, .int (nI kc)]) (hlo : lo ∈ L) (hfl : f lo = eD K 1000 g) {h : Nat} (hh : h < 1000) : zMet l yX1_lightOf cX1_lightOf 2 (some .double) (zr 0 0 0 0) base K L f [.ref o, .int (nI h)] (zFd base K (g h) L f) := by
  refine z_met (by decide) (Nat.le_of_ble_eq_true rfl) (fun p e s m below meth c ls hC hM hr hlk hnm hl => ?_)
  have hx := hC.1
  have hb := hC.2.1
  have hml := hC.2.2.1
  have hown := hC.2.2.2.1
  have hts := hC.2.2.2.2.1
  generalize hA : ([.ref o, .int (nI h)] : List Value).toArray = args at hC ⊢
  generalize hQ : MQ _ _ _ _ _ _ _ = Q
  obtain ⟨locs, hlocs⟩ : ∃ z : List Loc, z = [] := ⟨_, rfl⟩
  obtain ⟨H, hH⟩ : ∃ z : Heap, z = s.heap := ⟨_, rfl⟩
  rw [← hlocs, ← hH] at hM ⊢
  have hl : lv_has ls 2 [(0, .ref o), (1, .int (nI h))] := hl
  refine lv_iload_n hx hb dX1_lightOf_0 rfl (lv_at hl 1 rfl) ?_
  refine z_if_lt (tgt := 22) hx hb (nI_toInt (by omega)) dX1_lightOf_1 (by decide) (fun c_1 => ?_) (fun c_1 => ?_)
  · exact absurd c_1 (by omega)
  · refine lv_iload_n hx hb dX1_lightOf_4 rfl (lv_at hl 1 rfl) ?_
    refine lv_aload_n hx hb dX1_lightOf_5 rfl (lv_at hl 0 rfl) ?_
    refine z_get hC hM ho hfo zcl_X1 (by decide) zl_X1_9 rfl dX1_lightOf_6 ?_
    refine z_alen (n := 1000) 0 hC hM hlo hfl rfl rfl dX1_lightOf_9 ?_
    refine z_icmp_ge (tgt := 22) hx hb (nI_toInt (by omega)) (nI_toInt (by decide)) dX1_lightOf_10 (by decide) (fun c_10 => ?_) (fun c_10 => ?_)
    · exact absurd c_10 (by omega)
    · refine lv_aload_n hx hb dX1_lightOf_13 rfl (lv_at hl 0 rfl) ?_
      refine z_get hC hM ho hfo zcl_X1 (by decide) zl_X1_9 rfl dX1_lightOf_14 ?_
      refine lv_iload_n hx hb dX1_lightOf_17 rfl (lv_at hl 1 rfl) ?_
      refine z_dald hC hM hlo hfl (by omega) (by omega) dX1_lightOf_18 ?_
      refine lv_goto (tgt := 23) hx hb dX1_lightOf_19 (by decide) ?_
      rw [← hQ]
      exact z_dret hC hM hr hlk (by decide) (by decide) ⟨rfl, rfl, rfl⟩ dX1_lightOf_23
set_option maxHeartbeats 400000 in
set_option maxRecDepth 100000 in
theorem c_hasLight {l : Launch} {base : Nat} {K : zK} {L : List Nat} {f : Nat → va_E} {o lo kc : Nat} {g : Nat → UInt64} (ho : o ∈ L) (hfo : f o = eS 2 [.ref lo, .int (nI kc)]) (hlo : lo ∈ L) (hfl : f lo = eD K 1000 g) {h : Nat} (hh : h < 1000) (hk : 0 < dc (g h) FP.dconst0 ↔ g h ≠ 0) : zMet l yX1_hasLight cX1_hasLight 2 (some .boolean) (zr 1 0 0 21) base K L f [.ref o, .int (nI h)] (zFi base K (zb (g h ≠ 0)) L f) := by
  refine z_met (by decide) (Nat.le_of_ble_eq_true rfl) (fun p e s m below meth c ls hC hM hr hlk hnm hl => ?_)
  have hx := hC.1
  have hb := hC.2.1
  have hml := hC.2.2.1
  have hown := hC.2.2.2.1
  have hts := hC.2.2.2.2.1
  generalize hA : ([.ref o, .int (nI h)] : List Value).toArray = args at hC ⊢
  generalize hQ : MQ _ _ _ _ _ _ _ = Q
  obtain ⟨locs, hlocs⟩ : ∃ z : List Loc, z = [] := ⟨_, rfl⟩
  obtain ⟨H, hH⟩ : ∃ z : Heap, z = s.heap := ⟨_, rfl⟩
  rw [← hlocs, ← hH] at hM ⊢
  have hl : lv_has ls 2 [(0, .ref o), (1, .int (nI h))] := hl
  refine lv_aload_n hx hb dX1_hasLight_0 rfl (lv_at hl 0 rfl) ?_
  refine lv_iload_n hx hb dX1_hasLight_1 rfl (lv_at hl 1 rfl) ?_
  refine z_fcalld (z_runV hC hM (c_lightOf ho hfo hlo hfl hh) zy_X1_lightOf zm_X1_24 ho hfo zcl_X1 rfl rfl rfl hl.1 (Nat.le_of_ble_eq_true rfl) ⟨by decide, by decide⟩ ⟨by decide, by decide⟩ dX1_hasLight_2) hM (fun H locs hM => ?_)
  refine lv_dconst0 hx hb dX1_hasLight_5 ?_
  refine lv_dcmp hx hb dX1_hasLight_6 ?_
  refine z_if_le (tgt := 14) hx hb (dc_l _ _) dX1_hasLight_7 (by decide) (fun c_7 => ?_) (fun c_7 => ?_)
  · refine lv_iconst (v := nI 0) hx hb dX1_hasLight_14 (by decide) ?_
    rw [← hQ]
    exact z_iret hC hM hr hlk rfl (by decide) (by decide) ⟨(zb_f (fun z => absurd (hk.mpr z) (by omega))), rfl, rfl⟩ dX1_hasLight_15
  · refine lv_iconst (v := nI 1) hx hb dX1_hasLight_10 (by decide) ?_
    refine lv_goto (tgt := 15) hx hb dX1_hasLight_11 (by decide) ?_
    rw [← hQ]
    exact z_iret hC hM hr hlk rfl (by decide) (by decide) ⟨(zb_t (hk.mp c_7)), rfl, rfl⟩ dX1_hasLight_15
set_option maxHeartbeats 400000 in
set_option maxRecDepth 100000 in
theorem c_keep {l : Launch} {base : Nat} {K : zK} {L : List Nat} {f : Nat → va_E} {o lo kc : Nat} {g : Nat → UInt64} (ho : o ∈ L) (hfo : f o = eS 2 [.ref lo, .int (nI kc)]) (hlo : lo ∈ L) (hfl : f lo = eD K 1000 g) (hn : o ≠ lo) {h : Nat} {x : UInt64} (hh : h < 1000) : zMet l yX1_keep cX1_keep 4 (none) (zr 0 0 0 0) base K L f [.ref o, .int (nI h), .double x] (zFv base K L (va_up (va_up f lo (eD K 1000 (va_up g h x))) o (eS 2 [.ref lo, .int (nI (kc + 1))]))) := by
  refine z_met (by decide) (Nat.le_of_ble_eq_true rfl) (fun p e s m below meth c ls hC hM hr hlk hnm hl => ?_)
  have hx := hC.1
  have hb := hC.2.1
  have hml := hC.2.2.1
  have hown := hC.2.2.2.1
  have hts := hC.2.2.2.2.1
  generalize hA : ([.ref o, .int (nI h), .double x] : List Value).toArray = args at hC ⊢
  generalize hQ : MQ _ _ _ _ _ _ _ = Q
  obtain ⟨locs, hlocs⟩ : ∃ z : List Loc, z = [] := ⟨_, rfl⟩
  obtain ⟨H, hH⟩ : ∃ z : Heap, z = s.heap := ⟨_, rfl⟩
  rw [← hlocs, ← hH] at hM ⊢
  have hl : lv_has ls 4 [(0, .ref o), (1, .int (nI h)), (2, .double x)] := hl
  refine lv_iload_n hx hb dX1_keep_0 rfl (lv_at hl 1 rfl) ?_
  refine z_if_lt (tgt := 30) hx hb (nI_toInt (by omega)) dX1_keep_1 (by decide) (fun c_1 => ?_) (fun c_1 => ?_)
  · exact absurd c_1 (by omega)
  · refine lv_iload_n hx hb dX1_keep_4 rfl (lv_at hl 1 rfl) ?_
    refine lv_aload_n hx hb dX1_keep_5 rfl (lv_at hl 0 rfl) ?_
    refine z_get hC hM ho hfo zcl_X1 (by decide) zl_X1_9 rfl dX1_keep_6 ?_
    refine z_alen (n := 1000) 0 hC hM hlo hfl rfl rfl dX1_keep_9 ?_
    refine z_icmp_ge (tgt := 30) hx hb (nI_toInt (by omega)) (nI_toInt (by decide)) dX1_keep_10 (by decide) (fun c_10 => ?_) (fun c_10 => ?_)
    · exact absurd c_10 (by omega)
    · refine lv_aload_n hx hb dX1_keep_13 rfl (lv_at hl 0 rfl) ?_
      refine z_get hC hM ho hfo zcl_X1 (by decide) zl_X1_9 rfl dX1_keep_14 ?_
      refine lv_iload_n hx hb dX1_keep_17 rfl (lv_at hl 1 rfl) ?_
      refine lv_dload_n hx hb dX1_keep_18 rfl (lv_at hl 2 rfl) ?_
      refine z_dast hC hM hlo hfl (by omega) (by omega) dX1_keep_19 (fun H locs hM => ?_)
      obtain ⟨f_1, ef_1⟩ : ∃ z9, z9 = va_up f lo (eD K 1000 (va_up g h x)) := ⟨_, rfl⟩
      rw [← ef_1] at hM
      have hF_2 : f_1 o = eS 2 [.ref lo, .int (nI kc)] := by rw [ef_1]; exact (va_up_ne _ _ hn).trans hfo
      have hF_3 : f_1 lo = eD K 1000 (va_up g h x) := by rw [ef_1]; exact va_up_self _ _ _
      refine lv_aload_n hx hb dX1_keep_20 rfl (lv_at hl 0 rfl) ?_
      refine lv_dup hx hb dX1_keep_21 rfl ?_
      refine z_get hC hM ho hF_2 zcl_X1 (by decide) zl_X1_15 rfl dX1_keep_22 ?_
      refine lv_iconst (v := nI 1) hx hb dX1_keep_25 (by decide) ?_
      refine z_iadd hx hb dX1_keep_26 ?_
      refine z_put (fs' := [.ref lo, .int (nI (kc + 1))]) hC hM ho hF_2 zcl_X1 (by decide) zl_X1_15 rfl rfl (by rfl) (Nat.le_of_ble_eq_true rfl) rfl dX1_keep_27 (fun H locs hM => ?_)
      obtain ⟨f_4, ef_4⟩ : ∃ z9, z9 = va_up f_1 o (eS 2 [.ref lo, .int (nI (kc + 1))]) := ⟨_, rfl⟩
      rw [← ef_4] at hM
      have hF_5 : f_4 o = eS 2 [.ref lo, .int (nI (kc + 1))] := by rw [ef_4]; exact va_up_self _ _ _
      have hF_6 : f_4 lo = eD K 1000 (va_up g h x) := by rw [ef_4]; exact (va_up_ne _ _ (Ne.symm hn)).trans hF_3
      rw [← hQ]
      exact z_vret hC hM hr hlk (by decide) (by decide) ⟨rfl, (by rw [ef_4, ef_1])⟩ dX1_keep_30
set_option maxHeartbeats 400000 in
set_option maxRecDepth 100000 in
theorem c_ninit {l : Launch} {base : Nat} {K : zK} {L : List Nat} {f : Nat → va_E} {o : Nat} (ho : o ∈ L) (hfo : f o = eS 2 [.null, .int (nI 0)]) : zMet l yX1_init cX1_init 1 (none) (zr 1 1 1000 12) base K L f [.ref o] (zQv base K (fun L1 f1 => ∃ q, q ∉ L ∧ L1 = L ++ [q] ∧ f1 = va_up (va_up f q (eD K 1000 (fun _ => 0))) o (eS 2 [.ref q, .int (nI 0)]))) := by
  refine z_met (by decide) (Nat.le_of_ble_eq_true rfl) (fun p e s m below meth c ls hC hM hr hlk hnm hl => ?_)
  have hx := hC.1
  have hb := hC.2.1
  have hml := hC.2.2.1
  have hown := hC.2.2.2.1
  have hts := hC.2.2.2.2.1
  generalize hA : ([.ref o] : List Value).toArray = args at hC ⊢
  generalize hQ : MQ _ _ _ _ _ _ _ = Q
  obtain ⟨locs, hlocs⟩ : ∃ z : List Loc, z = [] := ⟨_, rfl⟩
  obtain ⟨H, hH⟩ : ∃ z : Heap, z = s.heap := ⟨_, rfl⟩
  rw [← hlocs, ← hH] at hM ⊢
  have hl : lv_has ls 1 [(0, .ref o)] := hl
  refine lv_aload_n hx hb dX1_init_0 rfl (lv_at hl 0 rfl) ?_
  refine z_objInit hC zm_X1_3 hl.1 (by decide) (Nat.le_of_ble_eq_true rfl) dX1_init_1 ?_
  refine lv_aload_n hx hb dX1_init_4 rfl (lv_at hl 0 rfl) ?_
  refine lv_sipush (v := nI 1000) hx hb dX1_init_5 (by decide) ?_
  refine z_newD hC hM zarr_double (by decide) (by decide) (by decide) dX1_init_8 (fun q_8 H hq_8 hM => ?_)
  obtain ⟨f_1, ef_1⟩ : ∃ z9, z9 = va_up f q_8 (eD K 1000 (fun _ => 0)) := ⟨_, rfl⟩
  rw [← ef_1] at hM
  have hN_4 : o ≠ q_8 := fun h => hq_8 (h ▸ ho)
  have hL_2 : o ∈ L ++ [q_8] := List.mem_append_left _ ho
  have hF_3 : f_1 o = eS 2 [.null, .int (nI 0)] := by rw [ef_1]; exact (va_up_ne _ _ hN_4).trans hfo
  have hL_5 : q_8 ∈ L ++ [q_8] := List.mem_append_right _ List.mem_cons_self
  have hF_6 : f_1 q_8 = eD K 1000 (fun _ => 0) := by rw [ef_1]; exact va_up_self _ _ _
  refine z_putF (fs' := [.ref q_8, .int (nI 0)]) hC hM hnm hL_2 hF_3 zcl_X1 (by decide) zl_X1_9 rfl rfl rfl (by rfl) (Nat.le_of_ble_eq_true rfl) rfl dX1_init_10 (fun H locs hM => ?_)
  obtain ⟨f_7, ef_7⟩ : ∃ z9, z9 = va_up f_1 o (eS 2 [.ref q_8, .int (nI 0)]) := ⟨_, rfl⟩
  rw [← ef_7] at hM
  have hF_8 : f_7 o = eS 2 [.ref q_8, .int (nI 0)] := by rw [ef_7]; exact va_up_self _ _ _
  have hF_9 : f_7 q_8 = eD K 1000 (fun _ => 0) := by rw [ef_7]; exact (va_up_ne _ _ (Ne.symm hN_4)).trans hF_6
  refine lv_aload_n hx hb dX1_init_13 rfl (lv_at hl 0 rfl) ?_
  refine lv_iconst (v := nI 0) hx hb dX1_init_14 (by decide) ?_
  refine z_put (fs' := [.ref q_8, .int (nI 0)]) hC hM hL_2 hF_8 zcl_X1 (by decide) zl_X1_15 rfl rfl (by rfl) (Nat.le_of_ble_eq_true rfl) rfl dX1_init_15 (fun H locs hM => ?_)
  obtain ⟨f_10, ef_10⟩ : ∃ z9, z9 = va_up f_7 o (eS 2 [.ref q_8, .int (nI 0)]) := ⟨_, rfl⟩
  rw [← ef_10] at hM
  have hF_11 : f_10 o = eS 2 [.ref q_8, .int (nI 0)] := by rw [ef_10]; exact va_up_self _ _ _
  have hF_12 : f_10 q_8 = eD K 1000 (fun _ => 0) := by rw [ef_10]; exact (va_up_ne _ _ (Ne.symm hN_4)).trans hF_9
  rw [← hQ]
  exact z_vret hC hM hr hlk (by decide) (by decide) ⟨q_8, hq_8, rfl, (by rw [ef_10, ef_7, ef_1, up_up])⟩ dX1_init_18
set_option maxHeartbeats 400000 in
set_option maxRecDepth 100000 in
theorem c_pinit {l : Launch} {base : Nat} {K : zK} {L : List Nat} {f : Nat → va_E} {o per ph len dep : Nat} (ho : o ∈ L) (hfo : f o = eS 4 [.int (nI 0), .int (nI 0), .int (nI 0), .double 0]) (hd : dep ≤ 1000) (hq : vf_n64 (quo dep)) : zMet l yX3_init cX3_init 5 (none) (zr 1 0 0 12) base K L f [.ref o, .int (nI per), .int (nI ph), .int (nI len), .int (nI dep)] (zFv base K L (va_up f o (eS 4 [.int (nI per), .int (nI ph), .int (nI len), .double (quo dep)]))) := by
  refine z_met (by decide) (Nat.le_of_ble_eq_true rfl) (fun p e s m below meth c ls hC hM hr hlk hnm hl => ?_)
  have hx := hC.1
  have hb := hC.2.1
  have hml := hC.2.2.1
  have hown := hC.2.2.2.1
  have hts := hC.2.2.2.2.1
  generalize hA : ([.ref o, .int (nI per), .int (nI ph), .int (nI len), .int (nI dep)] : List Value).toArray = args at hC ⊢
  generalize hQ : MQ _ _ _ _ _ _ _ = Q
  obtain ⟨locs, hlocs⟩ : ∃ z : List Loc, z = [] := ⟨_, rfl⟩
  obtain ⟨H, hH⟩ : ∃ z : Heap, z = s.heap := ⟨_, rfl⟩
  rw [← hlocs, ← hH] at hM ⊢
  have hl : lv_has ls 5 [(0, .ref o), (1, .int (nI per)), (2, .int (nI ph)), (3, .int (nI len)), (4, .int (nI dep))] := hl
  refine lv_aload_n hx hb dX3_init_0 rfl (lv_at hl 0 rfl) ?_
  refine z_objInit hC zm_X3_1 hl.1 (by decide) (Nat.le_of_ble_eq_true rfl) dX3_init_1 ?_
  refine lv_aload_n hx hb dX3_init_4 rfl (lv_at hl 0 rfl) ?_
  refine lv_iload_n hx hb dX3_init_5 rfl (lv_at hl 1 rfl) ?_
  refine z_putF (fs' := [.int (nI per), .int (nI 0), .int (nI 0), .double 0]) hC hM hnm ho hfo zcl_X3 (by decide) zl_X3_7 rfl rfl rfl (by rfl) (Nat.le_of_ble_eq_true rfl) rfl dX3_init_6 (fun H locs hM => ?_)
  obtain ⟨f_1, ef_1⟩ : ∃ z9, z9 = va_up f o (eS 4 [.int (nI per), .int (nI 0), .int (nI 0), .double 0]) := ⟨_, rfl⟩
  rw [← ef_1] at hM
  have hF_2 : f_1 o = eS 4 [.int (nI per), .int (nI 0), .int (nI 0), .double 0] := by rw [ef_1]; exact va_up_self _ _ _
  refine lv_aload_n hx hb dX3_init_9 rfl (lv_at hl 0 rfl) ?_
  refine lv_iload_n hx hb dX3_init_10 rfl (lv_at hl 2 rfl) ?_
  refine z_putF (fs' := [.int (nI per), .int (nI ph), .int (nI 0), .double 0]) hC hM hnm ho hF_2 zcl_X3 (by decide) zl_X3_13 rfl rfl rfl (by rfl) (Nat.le_of_ble_eq_true rfl) rfl dX3_init_11 (fun H locs hM => ?_)
  obtain ⟨f_3, ef_3⟩ : ∃ z9, z9 = va_up f_1 o (eS 4 [.int (nI per), .int (nI ph), .int (nI 0), .double 0]) := ⟨_, rfl⟩
  rw [← ef_3] at hM
  have hF_4 : f_3 o = eS 4 [.int (nI per), .int (nI ph), .int (nI 0), .double 0] := by rw [ef_3]; exact va_up_self _ _ _
  refine lv_aload_n hx hb dX3_init_14 rfl (lv_at hl 0 rfl) ?_
  refine lv_iload_n hx hb dX3_init_15 rfl (lv_at hl 3 rfl) ?_
  refine z_putF (fs' := [.int (nI per), .int (nI ph), .int (nI len), .double 0]) hC hM hnm ho hF_4 zcl_X3 (by decide) zl_X3_16 rfl rfl rfl (by rfl) (Nat.le_of_ble_eq_true rfl) rfl dX3_init_16 (fun H locs hM => ?_)
  obtain ⟨f_5, ef_5⟩ : ∃ z9, z9 = va_up f_3 o (eS 4 [.int (nI per), .int (nI ph), .int (nI len), .double 0]) := ⟨_, rfl⟩
  rw [← ef_5] at hM
  have hF_6 : f_5 o = eS 4 [.int (nI per), .int (nI ph), .int (nI len), .double 0] := by rw [ef_5]; exact va_up_self _ _ _
  refine lv_aload_n hx hb dX3_init_19 rfl (lv_at hl 0 rfl) ?_
  refine lv_sipush (v := nI 1000) hx hb dX3_init_20 (by decide) ?_
  refine lv_iload hx hb dX3_init_23 (lv_at hl 4 rfl) ?_
  refine z_isub hx hb (by omega) dX3_init_25 ?_
  refine lv_i2d hx hb dX3_init_26 ?_
  refine lv_ldc2d (v := 4652007308841189376) hx hb hown (hts _ zk_X3_19) dX3_init_27 ?_
  refine lv_ddiv hx hb dX3_init_30 hq ?_
  refine z_putF (fs' := [.int (nI per), .int (nI ph), .int (nI len), .double (FP.ddiv (FP.i2d (nI (1000 - dep))) 4652007308841189376)]) hC hM hnm ho hF_6 zcl_X3 (by decide) zl_X3_21 rfl rfl rfl (by rfl) (Nat.le_of_ble_eq_true rfl) rfl dX3_init_31 (fun H locs hM => ?_)
  obtain ⟨f_7, ef_7⟩ : ∃ z9, z9 = va_up f_5 o (eS 4 [.int (nI per), .int (nI ph), .int (nI len), .double (FP.ddiv (FP.i2d (nI (1000 - dep))) 4652007308841189376)]) := ⟨_, rfl⟩
  rw [← ef_7] at hM
  have hF_8 : f_7 o = eS 4 [.int (nI per), .int (nI ph), .int (nI len), .double (FP.ddiv (FP.i2d (nI (1000 - dep))) 4652007308841189376)] := by rw [ef_7]; exact va_up_self _ _ _
  rw [← hQ]
  exact z_vret hC hM hr hlk (by decide) (by decide) ⟨rfl, (by rw [ef_7, ef_5, ef_3, ef_1, up_up, up_up, up_up]; rfl)⟩ dX3_init_34
set_option maxHeartbeats 400000 in
set_option maxRecDepth 100000 in
theorem c_dips {l : Launch} {base : Nat} {K : zK} {L : List Nat} {f : Nat → va_E} {o per ph len h : Nat} {qq : UInt64} (ho : o ∈ L) (hfo : f o = eS 4 [.int (nI per), .int (nI ph), .int (nI len), .double qq]) (hh : h < 1000) (hp : ph < per) (hp2 : per ≤ 60) (hln : len < 100) : zMet l yX3_dipsIn cX3_dipsIn 2 (some .boolean) (zr 1 0 0 22) base K L f [.ref o, .int (nI h)] (zFi base K (zb ((h + per - ph) % per < len)) L f) := by
  refine z_met (by decide) (Nat.le_of_ble_eq_true rfl) (fun p e s m below meth c ls hC hM hr hlk hnm hl => ?_)
  have hx := hC.1
  have hb := hC.2.1
  have hml := hC.2.2.1
  have hown := hC.2.2.2.1
  have hts := hC.2.2.2.2.1
  generalize hA : ([.ref o, .int (nI h)] : List Value).toArray = args at hC ⊢
  generalize hQ : MQ _ _ _ _ _ _ _ = Q
  obtain ⟨locs, hlocs⟩ : ∃ z : List Loc, z = [] := ⟨_, rfl⟩
  obtain ⟨H, hH⟩ : ∃ z : Heap, z = s.heap := ⟨_, rfl⟩
  rw [← hlocs, ← hH] at hM ⊢
  have hl : lv_has ls 2 [(0, .ref o), (1, .int (nI h))] := hl
  refine lv_aload_n hx hb dX3_dipsIn_0 rfl (lv_at hl 0 rfl) ?_
  refine z_get hC hM ho hfo zcl_X3 (by decide) zl_X3_7 rfl dX3_dipsIn_1 ?_
  refine z_if_le (tgt := 31) hx hb (nI_toInt (by omega)) dX3_dipsIn_4 (by decide) (fun c_4 => ?_) (fun c_4 => ?_)
  · exact absurd c_4 (by omega)
  · refine lv_iload_n hx hb dX3_dipsIn_7 rfl (lv_at hl 1 rfl) ?_
    refine lv_aload_n hx hb dX3_dipsIn_8 rfl (lv_at hl 0 rfl) ?_
    refine z_get hC hM ho hfo zcl_X3 (by decide) zl_X3_13 rfl dX3_dipsIn_9 ?_
    refine lv_isub hx hb dX3_dipsIn_12 ?_
    refine lv_aload_n hx hb dX3_dipsIn_13 rfl (lv_at hl 0 rfl) ?_
    refine z_get hC hM ho hfo zcl_X3 (by decide) zl_X3_7 rfl dX3_dipsIn_14 ?_
    refine z_fcalli (z_runS hC hM (c_fmod hh hp hp2) zy_J9_floorMod_7cf53 zm_X3_25 rfl rfl hl.1 (Nat.le_of_ble_eq_true rfl) ⟨by decide, by decide⟩ ⟨by decide, by decide⟩ dX3_dipsIn_17) hM (fun H locs hM => ?_)
    have hm9 := Nat.mod_lt (h + per - ph) (show 0 < per by omega)
    refine lv_aload_n hx hb dX3_dipsIn_20 rfl (lv_at hl 0 rfl) ?_
    refine z_get hC hM ho hfo zcl_X3 (by decide) zl_X3_16 rfl dX3_dipsIn_21 ?_
    refine z_icmp_ge (tgt := 31) hx hb (nI_toInt (by omega)) (nI_toInt (by omega)) dX3_dipsIn_24 (by decide) (fun c_24 => ?_) (fun c_24 => ?_)
    · refine lv_iconst (v := nI 0) hx hb dX3_dipsIn_31 (by decide) ?_
      rw [← hQ]
      exact z_iret hC hM hr hlk rfl (by decide) (by decide) ⟨(zb_f (by omega)), rfl, rfl⟩ dX3_dipsIn_32
    · refine lv_iconst (v := nI 1) hx hb dX3_dipsIn_27 (by decide) ?_
      refine lv_goto (tgt := 32) hx hb dX3_dipsIn_28 (by decide) ?_
      rw [← hQ]
      exact z_iret hC hM hr hlk rfl (by decide) (by decide) ⟨(zb_t (by omega)), rfl, rfl⟩ dX3_dipsIn_32
set_option maxHeartbeats 400000 in
set_option maxRecDepth 100000 in
theorem c_spots {l : Launch} {base : Nat} {K : zK} {L : List Nat} {f : Nat → va_E} {o own pl spin sd bl nn : Nat} (ho : o ∈ L) (hfo : f o = eS 5 [.int (nI own), .ref pl, .int (nI spin), .int (nI sd), .int (nI bl), .ref nn]) {h : Nat} (hh : h < 1000) (hsp : spin ≤ 60) : zMet l yX4_showsSpots cX4_showsSpots 2 (some .boolean) (zr 0 0 0 0) base K L f [.ref o, .int (nI h)] (zFi base K (zb (0 < spin ∧ h % spin < spin / 4)) L f) := by
  refine z_met (by decide) (Nat.le_of_ble_eq_true rfl) (fun p e s m below meth c ls hC hM hr hlk hnm hl => ?_)
  have hx := hC.1
  have hb := hC.2.1
  have hml := hC.2.2.1
  have hown := hC.2.2.2.1
  have hts := hC.2.2.2.2.1
  generalize hA : ([.ref o, .int (nI h)] : List Value).toArray = args at hC ⊢
  generalize hQ : MQ _ _ _ _ _ _ _ = Q
  obtain ⟨locs, hlocs⟩ : ∃ z : List Loc, z = [] := ⟨_, rfl⟩
  obtain ⟨H, hH⟩ : ∃ z : Heap, z = s.heap := ⟨_, rfl⟩
  rw [← hlocs, ← hH] at hM ⊢
  have hl : lv_has ls 2 [(0, .ref o), (1, .int (nI h))] := hl
  refine lv_aload_n hx hb dX4_showsSpots_0 rfl (lv_at hl 0 rfl) ?_
  refine z_get hC hM ho hfo zcl_X4 (by decide) zl_X4_16 rfl dX4_showsSpots_1 ?_
  refine z_if_le (tgt := 26) hx hb (nI_toInt (by omega)) dX4_showsSpots_4 (by decide) (fun c_4 => ?_) (fun c_4 => ?_)
  · refine lv_iconst (v := nI 0) hx hb dX4_showsSpots_26 (by decide) ?_
    rw [← hQ]
    exact z_iret hC hM hr hlk rfl (by decide) (by decide) ⟨(zb_f (fun z => by omega)), rfl, rfl⟩ dX4_showsSpots_27
  · refine lv_iload_n hx hb dX4_showsSpots_7 rfl (lv_at hl 1 rfl) ?_
    refine lv_aload_n hx hb dX4_showsSpots_8 rfl (lv_at hl 0 rfl) ?_
    refine z_get hC hM ho hfo zcl_X4 (by decide) zl_X4_16 rfl dX4_showsSpots_9 ?_
    refine z_irem hx hb (by omega) (by omega) (by omega) dX4_showsSpots_12 ?_
    have hm9 := Nat.mod_lt h (show 0 < spin by omega)
    refine lv_aload_n hx hb dX4_showsSpots_13 rfl (lv_at hl 0 rfl) ?_
    refine z_get hC hM ho hfo zcl_X4 (by decide) zl_X4_16 rfl dX4_showsSpots_14 ?_
    refine lv_iconst (v := nI 4) hx hb dX4_showsSpots_17 (by decide) ?_
    refine z_idiv hx hb (by omega) (by omega) (by omega) dX4_showsSpots_18 ?_
    refine z_icmp_ge (tgt := 26) hx hb (nI_toInt (by omega)) (nI_toInt (by omega)) dX4_showsSpots_19 (by decide) (fun c_19 => ?_) (fun c_19 => ?_)
    · refine lv_iconst (v := nI 0) hx hb dX4_showsSpots_26 (by decide) ?_
      rw [← hQ]
      exact z_iret hC hM hr hlk rfl (by decide) (by decide) ⟨(zb_f (fun z => by omega)), rfl, rfl⟩ dX4_showsSpots_27
    · refine lv_iconst (v := nI 1) hx hb dX4_showsSpots_22 (by decide) ?_
      refine lv_goto (tgt := 27) hx hb dX4_showsSpots_23 (by decide) ?_
      rw [← hQ]
      exact z_iret hC hM hr hlk rfl (by decide) (by decide) ⟨(zb_t ⟨by omega, by omega⟩), rfl, rfl⟩ dX4_showsSpots_27
theorem lF_1 {own h : Nat} {per ph len dep : Nat → Nat} {k : Nat} (c : (h + per k - ph k) % per k < len k) : FP.dmul (lF own h per ph len dep k) (quo (dep k)) = lF own h per ph len dep (k + 1) := by rw [lF, if_pos c]
theorem lF_0 {own h : Nat} {per ph len dep : Nat → Nat} {k : Nat} (c : ¬ (h + per k - ph k) % per k < len k) : lF own h per ph len dep k = lF own h per ph len dep (k + 1) := by rw [lF, if_neg c]
set_option maxHeartbeats 400000 in
set_option maxRecDepth 100000 in
theorem c_lightIn {l : Launch} {base : Nat} {K : zK} {L : List Nat} {f : Nat → va_E} {o own pl spin sd bl nn : Nat} (ho : o ∈ L) (hfo : f o = eS 5 [.int (nI own), .ref pl, .int (nI spin), .int (nI sd), .int (nI bl), .ref nn]) {ee np h : Nat} {pa per ph len dep : Nat → Nat} (hLI : LI K L f pl ee np pa) (hnp : np ≤ 4) (hh : h < 1000) (hsp : spin ≤ 60) (hsd : sd ≤ 1000) (hpa : ∀ k, k < np → pa k ∈ L ∧ f (pa k) = eS 4 [.int (nI (per k)), .int (nI (ph k)), .int (nI (len k)), .double (quo (dep k))] ∧ ph k < per k ∧ per k ≤ 60 ∧ len k < 100) (hok : LTok own h np spin sd bl per ph len dep) : zMet l yX4_lightIn cX4_lightIn 6 (some .double) (zr 3 0 0 70) base K L f [.ref o, .int (nI h)] (zFd base K (lV own h np spin sd bl per ph len dep) L f) := by
  obtain ⟨hpl, ⟨mc, hfp⟩, hor⟩ := hLI
  refine z_met (by decide) (Nat.le_of_ble_eq_true rfl) (fun p e s m below meth c ls hC hM hr hlk hnm hl => ?_)
  have hx := hC.1
  have hb := hC.2.1
  have hml := hC.2.2.1
  have hown := hC.2.2.2.1
  have hts := hC.2.2.2.2.1
  generalize hA : ([.ref o, .int (nI h)] : List Value).toArray = args at hC ⊢
  generalize hQ : MQ _ _ _ _ _ _ _ = Q
  obtain ⟨locs, hlocs⟩ : ∃ z : List Loc, z = [] := ⟨_, rfl⟩
  obtain ⟨H, hH⟩ : ∃ z : Heap, z = s.heap := ⟨_, rfl⟩
  rw [← hlocs, ← hH] at hM ⊢
  have hl : lv_has ls 6 [(0, .ref o), (1, .int (nI h))] := hl
  refine lv_aload_n hx hb dX4_lightIn_0 rfl (lv_at hl 0 rfl) ?_
  refine z_get hC hM ho hfo zcl_X4 (by decide) zl_X4_33 rfl dX4_lightIn_1 ?_
  refine lv_i2d hx hb dX4_lightIn_4 ?_
  refine lv_dstore_n (lv' := [(2, .double (FP.i2d (nI own))), (0, .ref o), (1, .int (nI h))]) hx hb dX4_lightIn_5 rfl hl (by decide) rfl (fun ls hl => ?_)
  refine lv_iconst (v := nI 0) hx hb dX4_lightIn_6 (by decide) ?_
  refine lv_istore (lv' := [(4, .int (nI 0)), (2, .double (FP.i2d (nI own))), (0, .ref o), (1, .int (nI h))]) hx hb dX4_lightIn_7 hl (by decide) rfl (fun ls hl => ?_)
  have LOOP9 : ∀ i, i ≤ np → ∀ (ls : Array Slot) (H : Heap) (locs : List Loc), lv_has ls 6 [(4, .int (nI i)), (2, .double (lF own h per ph len dep i)), (0, .ref o), (1, .int (nI h))] → zM base K L f s H locs → W p l e (zr 3 0 0 70) s m args below meth c H locs 0 0 Q (F0 m 9 ls []) := by
    refine z_down np ?_ ?_
    · intro ls H locs hl hM
      refine lv_iload hx hb dX4_lightIn_9 (lv_at hl 0 rfl) ?_
      refine lv_aload_n hx hb dX4_lightIn_11 rfl (lv_at hl 2 rfl) ?_
      refine z_get hC hM ho hfo zcl_X4 (by decide) zl_X4_10 rfl dX4_lightIn_12 ?_
      refine z_fcalli (z_runV hC hM (c_size hpl hfp) zy_Jx4a65c_size_8abf5 zm_X4_36 hpl hfp zcl_Jx4a65c rfl rfl rfl hl.1 (Nat.le_of_ble_eq_true rfl) ⟨by decide, by decide⟩ ⟨by decide, by decide⟩ dX4_lightIn_15) hM (fun H locs hM => ?_)
      refine z_icmp_ge (tgt := 58) hx hb (nI_toInt (by omega)) (nI_toInt (by omega)) dX4_lightIn_18 (by decide) (fun c_18 => ?_) (fun c_18 => ?_)
      · refine lv_aload_n hx hb dX4_lightIn_58 rfl (lv_at hl 2 rfl) ?_
        refine lv_iload_n hx hb dX4_lightIn_59 rfl (lv_at hl 3 rfl) ?_
        refine z_fcalli (z_runV hC hM (c_spots ho hfo hh hsp) zy_X4_showsSpots zm_X4_54 ho hfo zcl_X4 rfl rfl rfl hl.1 (Nat.le_of_ble_eq_true rfl) ⟨by decide, by decide⟩ ⟨by decide, by decide⟩ dX4_lightIn_60) hM (fun H locs hM => ?_)
        refine z_if_eqB (tgt := 82) hx hb dX4_lightIn_63 (by decide) (fun c_63 => ?_) (fun c_63 => ?_)
        · refine lv_dload_n hx hb dX4_lightIn_82 rfl (lv_at hl 1 rfl) ?_
          refine lv_aload_n hx hb dX4_lightIn_83 rfl (lv_at hl 2 rfl) ?_
          refine z_get hC hM ho hfo zcl_X4 (by decide) zl_X4_23 rfl dX4_lightIn_84 ?_
          refine lv_i2d hx hb dX4_lightIn_87 ?_
          refine lv_dadd hx hb dX4_lightIn_88 (by have q9 := hok.2.2.2; rw [lS, if_neg c_63] at q9; exact q9) ?_
          rw [← hQ]
          exact z_dret hC hM hr hlk (by decide) (by decide) ⟨(by rw [lV, lS, if_neg c_63]; rfl), rfl, rfl⟩ dX4_lightIn_89
        · refine lv_dload_n hx hb dX4_lightIn_66 rfl (lv_at hl 1 rfl) ?_
          refine lv_sipush (v := nI 1000) hx hb dX4_lightIn_67 (by decide) ?_
          refine lv_aload_n hx hb dX4_lightIn_70 rfl (lv_at hl 2 rfl) ?_
          refine z_get hC hM ho hfo zcl_X4 (by decide) zl_X4_20 rfl dX4_lightIn_71 ?_
          refine z_isub hx hb (by omega) dX4_lightIn_74 ?_
          refine lv_i2d hx hb dX4_lightIn_75 ?_
          refine lv_ldc2d (v := 4652007308841189376) hx hb hown (hts _ zk_X4_57) dX4_lightIn_76 ?_
          refine lv_ddiv hx hb dX4_lightIn_79 hok.2.1 ?_
          refine lv_dmul hx hb dX4_lightIn_80 hok.2.2.1 ?_
          refine lv_dstore_n (lv' := [(2, .double (FP.dmul (lF own h per ph len dep np) (FP.ddiv (FP.i2d (nI (1000 - sd))) 4652007308841189376))), (4, .int (nI np)), (0, .ref o), (1, .int (nI h))]) hx hb dX4_lightIn_81 rfl hl (by decide) rfl (fun ls hl => ?_)
          refine lv_dload_n hx hb dX4_lightIn_82 rfl (lv_at hl 0 rfl) ?_
          refine lv_aload_n hx hb dX4_lightIn_83 rfl (lv_at hl 2 rfl) ?_
          refine z_get hC hM ho hfo zcl_X4 (by decide) zl_X4_23 rfl dX4_lightIn_84 ?_
          refine lv_i2d hx hb dX4_lightIn_87 ?_
          refine lv_dadd hx hb dX4_lightIn_88 (by have q9 := hok.2.2.2; rw [lS, if_pos c_63] at q9; exact q9) ?_
          rw [← hQ]
          exact z_dret hC hM hr hlk (by decide) (by decide) ⟨(by rw [lV, lS, if_pos c_63]; rfl), rfl, rfl⟩ dX4_lightIn_89
      · exact absurd c_18 (by omega)
    · intro i hi ih ls H locs hl hM
      refine lv_iload hx hb dX4_lightIn_9 (lv_at hl 0 rfl) ?_
      refine lv_aload_n hx hb dX4_lightIn_11 rfl (lv_at hl 2 rfl) ?_
      refine z_get hC hM ho hfo zcl_X4 (by decide) zl_X4_10 rfl dX4_lightIn_12 ?_
      refine z_fcalli (z_runV hC hM (c_size hpl hfp) zy_Jx4a65c_size_8abf5 zm_X4_36 hpl hfp zcl_Jx4a65c rfl rfl rfl hl.1 (Nat.le_of_ble_eq_true rfl) ⟨by decide, by decide⟩ ⟨by decide, by decide⟩ dX4_lightIn_15) hM (fun H locs hM => ?_)
      refine z_icmp_ge (tgt := 58) hx hb (nI_toInt (by omega)) (nI_toInt (by omega)) dX4_lightIn_18 (by decide) (fun c_18 => ?_) (fun c_18 => ?_)
      · exact absurd c_18 (by omega)
      · obtain ⟨hle, cap, arr, hfe, hc1, hc2, hnc, harr, -⟩ := hor.resolve_left (fun z => by omega)
        refine lv_aload_n hx hb dX4_lightIn_21 rfl (lv_at hl 2 rfl) ?_
        refine z_get hC hM ho hfo zcl_X4 (by decide) zl_X4_10 rfl dX4_lightIn_22 ?_
        refine lv_iload hx hb dX4_lightIn_25 (lv_at hl 0 rfl) ?_
        refine z_fcallq (z_runV hC hM (c_get hpl hfp hle hfe hi hnc (by omega) (harr i hi)) zy_Jx4a65c_get_915e3 zm_X4_40 hpl hfp zcl_Jx4a65c rfl rfl rfl hl.1 (Nat.le_of_ble_eq_true rfl) ⟨by decide, by decide⟩ ⟨by decide, by decide⟩ dX4_lightIn_27) hM (fun H locs hM => ?_)
        refine z_cast hC hM (hpa i hi).1 (hpa i hi).2.1 zcl_X3 zc_X4_44 dX4_lightIn_30 ?_
        refine lv_astore (lv' := [(5, .ref ((pa i))), (4, .int (nI i)), (2, .double (lF own h per ph len dep i)), (0, .ref o), (1, .int (nI h))]) hx hb dX4_lightIn_33 hl (by decide) rfl (fun ls hl => ?_)
        refine lv_aload hx hb dX4_lightIn_35 (lv_at hl 0 rfl) ?_
        refine lv_iload_n hx hb dX4_lightIn_37 rfl (lv_at hl 4 rfl) ?_
        refine z_fcalli (z_runV hC hM (c_dips (hpa i hi).1 (hpa i hi).2.1 hh (hpa i hi).2.2.1 (hpa i hi).2.2.2.1 (hpa i hi).2.2.2.2) zy_X3_dipsIn zm_X4_46 (hpa i hi).1 (hpa i hi).2.1 zcl_X3 rfl rfl rfl hl.1 (Nat.le_of_ble_eq_true rfl) ⟨by decide, by decide⟩ ⟨by decide, by decide⟩ dX4_lightIn_38) hM (fun H locs hM => ?_)
        refine z_if_eqB (tgt := 52) hx hb dX4_lightIn_41 (by decide) (fun c_41 => ?_) (fun c_41 => ?_)
        · refine lv_iinc (v := nI (i + 1)) (lv' := [(4, .int (nI (i + 1))), (5, .ref ((pa i))), (2, .double (lF own h per ph len dep i)), (0, .ref o), (1, .int (nI h))]) hx hb dX4_lightIn_52 hl (k := 1) rfl (nI_add i 1) (by decide) rfl (fun ls hl => ?_)
          refine lv_goto (tgt := 9) hx hb dX4_lightIn_55 (by decide) ?_
          rw [lF_0 c_41] at hl
          exact ih ls H locs (lv_sub hl [0, 2, 3, 4] rfl) hM
        · refine lv_dload_n hx hb dX4_lightIn_44 rfl (lv_at hl 2 rfl) ?_
          refine lv_aload hx hb dX4_lightIn_45 (lv_at hl 0 rfl) ?_
          refine z_getN hC hM (hpa i hi).1 (hpa i hi).2.1 zcl_X3 (by decide) zl_X4_50 rfl dX4_lightIn_47 ?_
          refine lv_dmul hx hb dX4_lightIn_50 (hok.1 i hi).2 ?_
          refine lv_dstore_n (lv' := [(2, .double (FP.dmul (lF own h per ph len dep i) (quo (dep i)))), (5, .ref ((pa i))), (4, .int (nI i)), (0, .ref o), (1, .int (nI h))]) hx hb dX4_lightIn_51 rfl hl (by decide) rfl (fun ls hl => ?_)
          refine lv_iinc (v := nI (i + 1)) (lv' := [(4, .int (nI (i + 1))), (2, .double (FP.dmul (lF own h per ph len dep i) (quo (dep i)))), (5, .ref ((pa i))), (0, .ref o), (1, .int (nI h))]) hx hb dX4_lightIn_52 hl (k := 2) rfl (nI_add i 1) (by decide) rfl (fun ls hl => ?_)
          refine lv_goto (tgt := 9) hx hb dX4_lightIn_55 (by decide) ?_
          rw [lF_1 c_41] at hl
          exact ih ls H locs (lv_sub hl [0, 1, 3, 4] rfl) hM
  exact LOOP9 0 (Nat.zero_le _) ls H locs (lv_sub hl [0, 1, 2, 3] rfl) hM
set_option maxHeartbeats 400000 in
set_option maxRecDepth 100000 in
theorem c_winit {l : Launch} {base : Nat} {K : zK} {L : List Nat} {f : Nat → va_E} {o a b d k n : Nat} (ho : o ∈ L) (hfo : f o = eS 6 [.int (nI 0), .int (nI 0), .int (nI 0), .int (nI 0), .null, .int (nI 0)]) : zMet l yX5_init cX5_init 6 (none) (zr 1 0 0 12) base K L f [.ref o, .int (nI a), .int (nI b), .int (nI d), .int (nI k), .ref n] (zFv base K L (va_up f o (eS 6 [.int (nI a), .int (nI b), .int (nI d), .int (nI k), .ref n, .int (nI 0)]))) := by
  refine z_met (by decide) (Nat.le_of_ble_eq_true rfl) (fun p e s m below meth c ls hC hM hr hlk hnm hl => ?_)
  have hx := hC.1
  have hb := hC.2.1
  have hml := hC.2.2.1
  have hown := hC.2.2.2.1
  have hts := hC.2.2.2.2.1
  generalize hA : ([.ref o, .int (nI a), .int (nI b), .int (nI d), .int (nI k), .ref n] : List Value).toArray = args at hC ⊢
  generalize hQ : MQ _ _ _ _ _ _ _ = Q
  obtain ⟨locs, hlocs⟩ : ∃ z : List Loc, z = [] := ⟨_, rfl⟩
  obtain ⟨H, hH⟩ : ∃ z : Heap, z = s.heap := ⟨_, rfl⟩
  rw [← hlocs, ← hH] at hM ⊢
  have hl : lv_has ls 6 [(0, .ref o), (1, .int (nI a)), (2, .int (nI b)), (3, .int (nI d)), (4, .int (nI k)), (5, .ref n)] := hl
  refine lv_aload_n hx hb dX5_init_0 rfl (lv_at hl 0 rfl) ?_
  refine z_objInit hC zm_X5_1 hl.1 (by decide) (Nat.le_of_ble_eq_true rfl) dX5_init_1 ?_
  refine lv_aload_n hx hb dX5_init_4 rfl (lv_at hl 0 rfl) ?_
  refine lv_iconst (v := nI 0) hx hb dX5_init_5 (by decide) ?_
  refine z_put (fs' := [.int (nI 0), .int (nI 0), .int (nI 0), .int (nI 0), .null, .int (nI 0)]) hC hM ho hfo zcl_X5 (by decide) zl_X5_7 rfl rfl (by rfl) (Nat.le_of_ble_eq_true rfl) rfl dX5_init_6 (fun H locs hM => ?_)
  obtain ⟨f_1, ef_1⟩ : ∃ z9, z9 = va_up f o (eS 6 [.int (nI 0), .int (nI 0), .int (nI 0), .int (nI 0), .null, .int (nI 0)]) := ⟨_, rfl⟩
  rw [← ef_1] at hM
  have hF_2 : f_1 o = eS 6 [.int (nI 0), .int (nI 0), .int (nI 0), .int (nI 0), .null, .int (nI 0)] := by rw [ef_1]; exact va_up_self _ _ _
  refine lv_aload_n hx hb dX5_init_9 rfl (lv_at hl 0 rfl) ?_
  refine lv_iload_n hx hb dX5_init_10 rfl (lv_at hl 1 rfl) ?_
  refine z_putF (fs' := [.int (nI a), .int (nI 0), .int (nI 0), .int (nI 0), .null, .int (nI 0)]) hC hM hnm ho hF_2 zcl_X5 (by decide) zl_X5_13 rfl rfl rfl (by rfl) (Nat.le_of_ble_eq_true rfl) rfl dX5_init_11 (fun H locs hM => ?_)
  obtain ⟨f_3, ef_3⟩ : ∃ z9, z9 = va_up f_1 o (eS 6 [.int (nI a), .int (nI 0), .int (nI 0), .int (nI 0), .null, .int (nI 0)]) := ⟨_, rfl⟩
  rw [← ef_3] at hM
  have hF_4 : f_3 o = eS 6 [.int (nI a), .int (nI 0), .int (nI 0), .int (nI 0), .null, .int (nI 0)] := by rw [ef_3]; exact va_up_self _ _ _
  refine lv_aload_n hx hb dX5_init_14 rfl (lv_at hl 0 rfl) ?_
  refine lv_iload_n hx hb dX5_init_15 rfl (lv_at hl 2 rfl) ?_
  refine z_putF (fs' := [.int (nI a), .int (nI b), .int (nI 0), .int (nI 0), .null, .int (nI 0)]) hC hM hnm ho hF_4 zcl_X5 (by decide) zl_X5_17 rfl rfl rfl (by rfl) (Nat.le_of_ble_eq_true rfl) rfl dX5_init_16 (fun H locs hM => ?_)
  obtain ⟨f_5, ef_5⟩ : ∃ z9, z9 = va_up f_3 o (eS 6 [.int (nI a), .int (nI b), .int (nI 0), .int (nI 0), .null, .int (nI 0)]) := ⟨_, rfl⟩
  rw [← ef_5] at hM
  have hF_6 : f_5 o = eS 6 [.int (nI a), .int (nI b), .int (nI 0), .int (nI 0), .null, .int (nI 0)] := by rw [ef_5]; exact va_up_self _ _ _
  refine lv_aload_n hx hb dX5_init_19 rfl (lv_at hl 0 rfl) ?_
  refine lv_iload_n hx hb dX5_init_20 rfl (lv_at hl 3 rfl) ?_
  refine z_putF (fs' := [.int (nI a), .int (nI b), .int (nI d), .int (nI 0), .null, .int (nI 0)]) hC hM hnm ho hF_6 zcl_X5 (by decide) zl_X5_20 rfl rfl rfl (by rfl) (Nat.le_of_ble_eq_true rfl) rfl dX5_init_21 (fun H locs hM => ?_)
  obtain ⟨f_7, ef_7⟩ : ∃ z9, z9 = va_up f_5 o (eS 6 [.int (nI a), .int (nI b), .int (nI d), .int (nI 0), .null, .int (nI 0)]) := ⟨_, rfl⟩
  rw [← ef_7] at hM
  have hF_8 : f_7 o = eS 6 [.int (nI a), .int (nI b), .int (nI d), .int (nI 0), .null, .int (nI 0)] := by rw [ef_7]; exact va_up_self _ _ _
  refine lv_aload_n hx hb dX5_init_24 rfl (lv_at hl 0 rfl) ?_
  refine lv_iload hx hb dX5_init_25 (lv_at hl 4 rfl) ?_
  refine z_putF (fs' := [.int (nI a), .int (nI b), .int (nI d), .int (nI k), .null, .int (nI 0)]) hC hM hnm ho hF_8 zcl_X5 (by decide) zl_X5_23 rfl rfl rfl (by rfl) (Nat.le_of_ble_eq_true rfl) rfl dX5_init_27 (fun H locs hM => ?_)
  obtain ⟨f_9, ef_9⟩ : ∃ z9, z9 = va_up f_7 o (eS 6 [.int (nI a), .int (nI b), .int (nI d), .int (nI k), .null, .int (nI 0)]) := ⟨_, rfl⟩
  rw [← ef_9] at hM
  have hF_10 : f_9 o = eS 6 [.int (nI a), .int (nI b), .int (nI d), .int (nI k), .null, .int (nI 0)] := by rw [ef_9]; exact va_up_self _ _ _
  refine lv_aload_n hx hb dX5_init_30 rfl (lv_at hl 0 rfl) ?_
  refine lv_aload hx hb dX5_init_31 (lv_at hl 5 rfl) ?_
  refine z_putF (fs' := [.int (nI a), .int (nI b), .int (nI d), .int (nI k), .ref n, .int (nI 0)]) hC hM hnm ho hF_10 zcl_X5 (by decide) zl_X5_26 rfl rfl rfl (by rfl) (Nat.le_of_ble_eq_true rfl) rfl dX5_init_33 (fun H locs hM => ?_)
  obtain ⟨f_11, ef_11⟩ : ∃ z9, z9 = va_up f_9 o (eS 6 [.int (nI a), .int (nI b), .int (nI d), .int (nI k), .ref n, .int (nI 0)]) := ⟨_, rfl⟩
  rw [← ef_11] at hM
  have hF_12 : f_11 o = eS 6 [.int (nI a), .int (nI b), .int (nI d), .int (nI k), .ref n, .int (nI 0)] := by rw [ef_11]; exact va_up_self _ _ _
  rw [← hQ]
  exact z_vret hC hM hr hlk (by decide) (by decide) ⟨rfl, (by rw [ef_11, ef_9, ef_7, ef_5, ef_3, ef_1, up_up, up_up, up_up, up_up, up_up])⟩ dX5_init_36
set_option maxHeartbeats 400000 in
set_option maxRecDepth 100000 in
theorem c_ppinit0 {l : Launch} {base : Nat} {K : zK} {L : List Nat} {f : Nat → va_E} {o w : Nat} (ho : o ∈ L) (hfo : f o = eS 3 [.null, .null, .int (nI 0)]) : zMet l yX2_init cX2_init 3 (none) (zr 1 0 0 12) base K L f [.ref o, .ref w, .null] (zFv base K L (va_up f o (eS 3 [.ref w, .null, .int (nI 0)]))) := by
  refine z_met (by decide) (Nat.le_of_ble_eq_true rfl) (fun p e s m below meth c ls hC hM hr hlk hnm hl => ?_)
  have hx := hC.1
  have hb := hC.2.1
  have hml := hC.2.2.1
  have hown := hC.2.2.2.1
  have hts := hC.2.2.2.2.1
  generalize hA : ([.ref o, .ref w, .null] : List Value).toArray = args at hC ⊢
  generalize hQ : MQ _ _ _ _ _ _ _ = Q
  obtain ⟨locs, hlocs⟩ : ∃ z : List Loc, z = [] := ⟨_, rfl⟩
  obtain ⟨H, hH⟩ : ∃ z : Heap, z = s.heap := ⟨_, rfl⟩
  rw [← hlocs, ← hH] at hM ⊢
  have hl : lv_has ls 3 [(0, .ref o), (1, .ref w), (2, .null)] := hl
  refine lv_aload_n hx hb dX2_init_0 rfl (lv_at hl 0 rfl) ?_
  refine z_objInit hC zm_X2_1 hl.1 (by decide) (Nat.le_of_ble_eq_true rfl) dX2_init_1 ?_
  refine lv_aload_n hx hb dX2_init_4 rfl (lv_at hl 0 rfl) ?_
  refine lv_iconst (v := nI 0) hx hb dX2_init_5 (by decide) ?_
  refine z_put (fs' := [.null, .null, .int (nI 0)]) hC hM ho hfo zcl_X2 (by decide) zl_X2_7 rfl rfl (by rfl) (Nat.le_of_ble_eq_true rfl) rfl dX2_init_6 (fun H locs hM => ?_)
  obtain ⟨f_1, ef_1⟩ : ∃ z9, z9 = va_up f o (eS 3 [.null, .null, .int (nI 0)]) := ⟨_, rfl⟩
  rw [← ef_1] at hM
  have hF_2 : f_1 o = eS 3 [.null, .null, .int (nI 0)] := by rw [ef_1]; exact va_up_self _ _ _
  refine lv_aload_n hx hb dX2_init_9 rfl (lv_at hl 0 rfl) ?_
  refine lv_aload_n hx hb dX2_init_10 rfl (lv_at hl 1 rfl) ?_
  refine z_putF (fs' := [.ref w, .null, .int (nI 0)]) hC hM hnm ho hF_2 zcl_X2 (by decide) zl_X2_13 rfl rfl rfl (by rfl) (Nat.le_of_ble_eq_true rfl) rfl dX2_init_11 (fun H locs hM => ?_)
  obtain ⟨f_3, ef_3⟩ : ∃ z9, z9 = va_up f_1 o (eS 3 [.ref w, .null, .int (nI 0)]) := ⟨_, rfl⟩
  rw [← ef_3] at hM
  have hF_4 : f_3 o = eS 3 [.ref w, .null, .int (nI 0)] := by rw [ef_3]; exact va_up_self _ _ _
  refine lv_aload_n hx hb dX2_init_14 rfl (lv_at hl 0 rfl) ?_
  refine lv_aload_nN hx hb dX2_init_15 rfl (lv_at hl 2 rfl) ?_
  refine z_putF (fs' := [.ref w, .null, .int (nI 0)]) hC hM hnm ho hF_4 zcl_X2 (by decide) zl_X2_17 rfl rfl rfl (by rfl) (Nat.le_of_ble_eq_true rfl) rfl dX2_init_16 (fun H locs hM => ?_)
  obtain ⟨f_5, ef_5⟩ : ∃ z9, z9 = va_up f_3 o (eS 3 [.ref w, .null, .int (nI 0)]) := ⟨_, rfl⟩
  rw [← ef_5] at hM
  have hF_6 : f_5 o = eS 3 [.ref w, .null, .int (nI 0)] := by rw [ef_5]; exact va_up_self _ _ _
  rw [← hQ]
  exact z_vret hC hM hr hlk (by decide) (by decide) ⟨rfl, (by rw [ef_5, ef_3, ef_1, up_up, up_up])⟩ dX2_init_19
set_option maxHeartbeats 400000 in
set_option maxRecDepth 100000 in
theorem c_ppinit1 {l : Launch} {base : Nat} {K : zK} {L : List Nat} {f : Nat → va_E} {o w k : Nat} (ho : o ∈ L) (hfo : f o = eS 3 [.null, .null, .int (nI 0)]) : zMet l yX2_init cX2_init 3 (none) (zr 1 0 0 12) base K L f [.ref o, .ref w, .ref k] (zFv base K L (va_up f o (eS 3 [.ref w, .ref k, .int (nI 0)]))) := by
  refine z_met (by decide) (Nat.le_of_ble_eq_true rfl) (fun p e s m below meth c ls hC hM hr hlk hnm hl => ?_)
  have hx := hC.1
  have hb := hC.2.1
  have hml := hC.2.2.1
  have hown := hC.2.2.2.1
  have hts := hC.2.2.2.2.1
  generalize hA : ([.ref o, .ref w, .ref k] : List Value).toArray = args at hC ⊢
  generalize hQ : MQ _ _ _ _ _ _ _ = Q
  obtain ⟨locs, hlocs⟩ : ∃ z : List Loc, z = [] := ⟨_, rfl⟩
  obtain ⟨H, hH⟩ : ∃ z : Heap, z = s.heap := ⟨_, rfl⟩
  rw [← hlocs, ← hH] at hM ⊢
  have hl : lv_has ls 3 [(0, .ref o), (1, .ref w), (2, .ref k)] := hl
  refine lv_aload_n hx hb dX2_init_0 rfl (lv_at hl 0 rfl) ?_
  refine z_objInit hC zm_X2_1 hl.1 (by decide) (Nat.le_of_ble_eq_true rfl) dX2_init_1 ?_
  refine lv_aload_n hx hb dX2_init_4 rfl (lv_at hl 0 rfl) ?_
  refine lv_iconst (v := nI 0) hx hb dX2_init_5 (by decide) ?_
  refine z_put (fs' := [.null, .null, .int (nI 0)]) hC hM ho hfo zcl_X2 (by decide) zl_X2_7 rfl rfl (by rfl) (Nat.le_of_ble_eq_true rfl) rfl dX2_init_6 (fun H locs hM => ?_)
  obtain ⟨f_1, ef_1⟩ : ∃ z9, z9 = va_up f o (eS 3 [.null, .null, .int (nI 0)]) := ⟨_, rfl⟩
  rw [← ef_1] at hM
  have hF_2 : f_1 o = eS 3 [.null, .null, .int (nI 0)] := by rw [ef_1]; exact va_up_self _ _ _
  refine lv_aload_n hx hb dX2_init_9 rfl (lv_at hl 0 rfl) ?_
  refine lv_aload_n hx hb dX2_init_10 rfl (lv_at hl 1 rfl) ?_
  refine z_putF (fs' := [.ref w, .null, .int (nI 0)]) hC hM hnm ho hF_2 zcl_X2 (by decide) zl_X2_13 rfl rfl rfl (by rfl) (Nat.le_of_ble_eq_true rfl) rfl dX2_init_11 (fun H locs hM => ?_)
  obtain ⟨f_3, ef_3⟩ : ∃ z9, z9 = va_up f_1 o (eS 3 [.ref w, .null, .int (nI 0)]) := ⟨_, rfl⟩
  rw [← ef_3] at hM
  have hF_4 : f_3 o = eS 3 [.ref w, .null, .int (nI 0)] := by rw [ef_3]; exact va_up_self _ _ _
  refine lv_aload_n hx hb dX2_init_14 rfl (lv_at hl 0 rfl) ?_
  refine lv_aload_n hx hb dX2_init_15 rfl (lv_at hl 2 rfl) ?_
  refine z_putF (fs' := [.ref w, .ref k, .int (nI 0)]) hC hM hnm ho hF_4 zcl_X2 (by decide) zl_X2_17 rfl rfl rfl (by rfl) (Nat.le_of_ble_eq_true rfl) rfl dX2_init_16 (fun H locs hM => ?_)
  obtain ⟨f_5, ef_5⟩ : ∃ z9, z9 = va_up f_3 o (eS 3 [.ref w, .ref k, .int (nI 0)]) := ⟨_, rfl⟩
  rw [← ef_5] at hM
  have hF_6 : f_5 o = eS 3 [.ref w, .ref k, .int (nI 0)] := by rw [ef_5]; exact va_up_self _ _ _
  rw [← hQ]
  exact z_vret hC hM hr hlk (by decide) (by decide) ⟨rfl, (by rw [ef_5, ef_3, ef_1, up_up, up_up])⟩ dX2_init_19
set_option maxHeartbeats 400000 in
set_option maxRecDepth 100000 in
theorem c_must0 {l : Launch} {base : Nat} {K : zK} {L : List Nat} {f : Nat → va_E} {o w fl wd : Nat} {wv0 wv1 wv2 wv3 wv4 : Value} (ho : o ∈ L) (hfo : f o = eS 3 [.ref w, .null, .int (nI fl)]) (hwd : wd < 2) (hw : w ∈ L) (hfw : f w = eS 6 [wv0, wv1, wv2, wv3, wv4, .int (nI wd)]) : zMet l yX2_mustFall cX2_mustFall 1 (some .boolean) (zr 0 0 0 0) base K L f [.ref o] (zFi base K (zb (wd ≠ 0)) L f) := by
  refine z_met (by decide) (Nat.le_of_ble_eq_true rfl) (fun p e s m below meth c ls hC hM hr hlk hnm hl => ?_)
  have hx := hC.1
  have hb := hC.2.1
  have hml := hC.2.2.1
  have hown := hC.2.2.2.1
  have hts := hC.2.2.2.2.1
  generalize hA : ([.ref o] : List Value).toArray = args at hC ⊢
  generalize hQ : MQ _ _ _ _ _ _ _ = Q
  obtain ⟨locs, hlocs⟩ : ∃ z : List Loc, z = [] := ⟨_, rfl⟩
  obtain ⟨H, hH⟩ : ∃ z : Heap, z = s.heap := ⟨_, rfl⟩
  rw [← hlocs, ← hH] at hM ⊢
  have hl : lv_has ls 1 [(0, .ref o)] := hl
  refine lv_aload_n hx hb dX2_mustFall_0 rfl (lv_at hl 0 rfl) ?_
  refine z_get hC hM ho hfo zcl_X2 (by decide) zl_X2_13 rfl dX2_mustFall_1 ?_
  refine z_getN hC hM hw hfw zcl_X5 (by decide) zl_X2_21 rfl dX2_mustFall_4 ?_
  refine z_if_ne (tgt := 27) hx hb (nI_toInt (by omega)) dX2_mustFall_7 (by decide) (fun c_7 => ?_) (fun c_7 => ?_)
  · refine lv_iconst (v := nI 1) hx hb dX2_mustFall_27 (by decide) ?_
    refine lv_goto (tgt := 32) hx hb dX2_mustFall_28 (by decide) ?_
    rw [← hQ]
    exact z_iret hC hM hr hlk rfl (by decide) (by decide) ⟨(zb_t (by omega)), rfl, rfl⟩ dX2_mustFall_32
  · refine lv_aload_n hx hb dX2_mustFall_10 rfl (lv_at hl 0 rfl) ?_
    refine z_get hC hM ho hfo zcl_X2 (by decide) zl_X2_17 rfl dX2_mustFall_11 ?_
    refine lv_ifnullN (tgt := 31) hx hb dX2_mustFall_14 (by decide) ?_
    refine lv_iconst (v := nI 0) hx hb dX2_mustFall_31 (by decide) ?_
    rw [← hQ]
    exact z_iret hC hM hr hlk rfl (by decide) (by decide) ⟨(zb_f (by omega)), rfl, rfl⟩ dX2_mustFall_32
set_option maxHeartbeats 400000 in
set_option maxRecDepth 100000 in
theorem c_must1 {l : Launch} {base : Nat} {K : zK} {L : List Nat} {f : Nat → va_E} {o w k fl wd kf : Nat} {wv0 wv1 wv2 wv3 wv4 kv0 kv1 : Value} (ho : o ∈ L) (hfo : f o = eS 3 [.ref w, .ref k, .int (nI fl)]) (hwd : wd < 2) (hkd : kf < 2) (hk : k ∈ L) (hfk : f k = eS 3 [kv0, kv1, .int (nI kf)]) (hw : w ∈ L) (hfw : f w = eS 6 [wv0, wv1, wv2, wv3, wv4, .int (nI wd)]) : zMet l yX2_mustFall cX2_mustFall 1 (some .boolean) (zr 0 0 0 0) base K L f [.ref o] (zFi base K (zb (wd ≠ 0 ∨ kf ≠ 0)) L f) := by
  refine z_met (by decide) (Nat.le_of_ble_eq_true rfl) (fun p e s m below meth c ls hC hM hr hlk hnm hl => ?_)
  have hx := hC.1
  have hb := hC.2.1
  have hml := hC.2.2.1
  have hown := hC.2.2.2.1
  have hts := hC.2.2.2.2.1
  generalize hA : ([.ref o] : List Value).toArray = args at hC ⊢
  generalize hQ : MQ _ _ _ _ _ _ _ = Q
  obtain ⟨locs, hlocs⟩ : ∃ z : List Loc, z = [] := ⟨_, rfl⟩
  obtain ⟨H, hH⟩ : ∃ z : Heap, z = s.heap := ⟨_, rfl⟩
  rw [← hlocs, ← hH] at hM ⊢
  have hl : lv_has ls 1 [(0, .ref o)] := hl
  refine lv_aload_n hx hb dX2_mustFall_0 rfl (lv_at hl 0 rfl) ?_
  refine z_get hC hM ho hfo zcl_X2 (by decide) zl_X2_13 rfl dX2_mustFall_1 ?_
  refine z_getN hC hM hw hfw zcl_X5 (by decide) zl_X2_21 rfl dX2_mustFall_4 ?_
  refine z_if_ne (tgt := 27) hx hb (nI_toInt (by omega)) dX2_mustFall_7 (by decide) (fun c_7 => ?_) (fun c_7 => ?_)
  · refine lv_iconst (v := nI 1) hx hb dX2_mustFall_27 (by decide) ?_
    refine lv_goto (tgt := 32) hx hb dX2_mustFall_28 (by decide) ?_
    rw [← hQ]
    exact z_iret hC hM hr hlk rfl (by decide) (by decide) ⟨(zb_t (by omega)), rfl, rfl⟩ dX2_mustFall_32
  · refine lv_aload_n hx hb dX2_mustFall_10 rfl (lv_at hl 0 rfl) ?_
    refine z_get hC hM ho hfo zcl_X2 (by decide) zl_X2_17 rfl dX2_mustFall_11 ?_
    refine lv_ifnull hx hb dX2_mustFall_14 ?_
    refine lv_aload_n hx hb dX2_mustFall_17 rfl (lv_at hl 0 rfl) ?_
    refine z_get hC hM ho hfo zcl_X2 (by decide) zl_X2_17 rfl dX2_mustFall_18 ?_
    refine z_get hC hM hk hfk zcl_X2 (by decide) zl_X2_7 rfl dX2_mustFall_21 ?_
    refine z_if_eq (tgt := 31) hx hb (nI_toInt (by omega)) dX2_mustFall_24 (by decide) (fun c_24 => ?_) (fun c_24 => ?_)
    · refine lv_iconst (v := nI 0) hx hb dX2_mustFall_31 (by decide) ?_
      rw [← hQ]
      exact z_iret hC hM hr hlk rfl (by decide) (by decide) ⟨(zb_f (by omega)), rfl, rfl⟩ dX2_mustFall_32
    · refine lv_iconst (v := nI 1) hx hb dX2_mustFall_27 (by decide) ?_
      refine lv_goto (tgt := 32) hx hb dX2_mustFall_28 (by decide) ?_
      rw [← hQ]
      exact z_iret hC hM hr hlk rfl (by decide) (by decide) ⟨(zb_t (by omega)), rfl, rfl⟩ dX2_mustFall_32
set_option maxHeartbeats 400000 in
set_option maxRecDepth 100000 in
theorem c_ncopy {l : Launch} {base : Nat} {K : zK} {L : List Nat} {f : Nat → va_E} {o n lo kc : Nat} {g : Nat → UInt64} (ho : o ∈ L) (hfo : f o = eS 2 [.null, .int (nI 0)]) (hn : n ∈ L) (hfn : f n = eS 2 [.ref lo, .int (nI kc)]) (hlo : lo ∈ L) (hfl : f lo = eD K 1000 g) (hon : o ≠ n) (hnl : n ≠ lo) (hol : o ≠ lo) : zMet l yX1_init_ cX1_init_ 2 (none) (zr 1 1 1000 20) base K L f [.ref o, .ref n] (zQv base K (fun L1 f1 => ∃ q, q ∉ L ∧ L1 = L ++ [q] ∧ f1 = va_up (va_up f q (eD K 1000 g)) o (eS 2 [.ref q, .int (nI kc)]))) := by
  refine z_met (by decide) (Nat.le_of_ble_eq_true rfl) (fun p e s m below meth c ls hC hM hr hlk hnm hl => ?_)
  have hx := hC.1
  have hb := hC.2.1
  have hml := hC.2.2.1
  have hown := hC.2.2.2.1
  have hts := hC.2.2.2.2.1
  generalize hA : ([.ref o, .ref n] : List Value).toArray = args at hC ⊢
  generalize hQ : MQ _ _ _ _ _ _ _ = Q
  obtain ⟨locs, hlocs⟩ : ∃ z : List Loc, z = [] := ⟨_, rfl⟩
  obtain ⟨H, hH⟩ : ∃ z : Heap, z = s.heap := ⟨_, rfl⟩
  rw [← hlocs, ← hH] at hM ⊢
  have hl : lv_has ls 2 [(0, .ref o), (1, .ref n)] := hl
  refine lv_aload_n hx hb dX1_init__0 rfl (lv_at hl 0 rfl) ?_
  refine z_objInit hC zm_X1_3 hl.1 (by decide) (Nat.le_of_ble_eq_true rfl) dX1_init__1 ?_
  refine lv_aload_n hx hb dX1_init__4 rfl (lv_at hl 0 rfl) ?_
  refine lv_aload_n hx hb dX1_init__5 rfl (lv_at hl 1 rfl) ?_
  refine z_get hC hM hn hfn zcl_X1 (by decide) zl_X1_9 rfl dX1_init__6 ?_
  refine z_cloneD hC hM hl.1 hlo hfl zm_X1_19 (by decide) (Nat.le_of_ble_eq_true rfl) (by decide) (by decide) dX1_init__9 (fun q_9 H hq_9 hM => ?_)
  obtain ⟨f_1, ef_1⟩ : ∃ z9, z9 = va_up f q_9 (eD K 1000 g) := ⟨_, rfl⟩
  rw [← ef_1] at hM
  have hN_4 : o ≠ q_9 := fun h => hq_9 (h ▸ ho)
  have hL_2 : o ∈ L ++ [q_9] := List.mem_append_left _ ho
  have hF_3 : f_1 o = eS 2 [.null, .int (nI 0)] := by rw [ef_1]; exact (va_up_ne _ _ hN_4).trans hfo
  have hN_7 : n ≠ q_9 := fun h => hq_9 (h ▸ hn)
  have hL_5 : n ∈ L ++ [q_9] := List.mem_append_left _ hn
  have hF_6 : f_1 n = eS 2 [.ref lo, .int (nI kc)] := by rw [ef_1]; exact (va_up_ne _ _ hN_7).trans hfn
  have hN_10 : lo ≠ q_9 := fun h => hq_9 (h ▸ hlo)
  have hL_8 : lo ∈ L ++ [q_9] := List.mem_append_left _ hlo
  have hF_9 : f_1 lo = eD K 1000 g := by rw [ef_1]; exact (va_up_ne _ _ hN_10).trans hfl
  have hL_11 : q_9 ∈ L ++ [q_9] := List.mem_append_right _ List.mem_cons_self
  have hF_12 : f_1 q_9 = eD K 1000 g := by rw [ef_1]; exact va_up_self _ _ _
  refine z_castD hC hM hL_11 hF_12 zc_X1_20 dX1_init__12 ?_
  refine z_putF (fs' := [.ref q_9, .int (nI 0)]) hC hM hnm hL_2 hF_3 zcl_X1 (by decide) zl_X1_9 rfl rfl rfl (by rfl) (Nat.le_of_ble_eq_true rfl) rfl dX1_init__15 (fun H locs hM => ?_)
  obtain ⟨f_13, ef_13⟩ : ∃ z9, z9 = va_up f_1 o (eS 2 [.ref q_9, .int (nI 0)]) := ⟨_, rfl⟩
  rw [← ef_13] at hM
  have hF_14 : f_13 o = eS 2 [.ref q_9, .int (nI 0)] := by rw [ef_13]; exact va_up_self _ _ _
  have hF_15 : f_13 n = eS 2 [.ref lo, .int (nI kc)] := by rw [ef_13]; exact (va_up_ne _ _ (Ne.symm hon)).trans hF_6
  have hF_16 : f_13 lo = eD K 1000 g := by rw [ef_13]; exact (va_up_ne _ _ (Ne.symm hol)).trans hF_9
  have hF_17 : f_13 q_9 = eD K 1000 g := by rw [ef_13]; exact (va_up_ne _ _ (Ne.symm hN_4)).trans hF_12
  refine lv_aload_n hx hb dX1_init__18 rfl (lv_at hl 0 rfl) ?_
  refine lv_aload_n hx hb dX1_init__19 rfl (lv_at hl 1 rfl) ?_
  refine z_get hC hM hL_5 hF_15 zcl_X1 (by decide) zl_X1_15 rfl dX1_init__20 ?_
  refine z_put (fs' := [.ref q_9, .int (nI kc)]) hC hM hL_2 hF_14 zcl_X1 (by decide) zl_X1_15 rfl rfl (by rfl) (Nat.le_of_ble_eq_true rfl) rfl dX1_init__23 (fun H locs hM => ?_)
  obtain ⟨f_18, ef_18⟩ : ∃ z9, z9 = va_up f_13 o (eS 2 [.ref q_9, .int (nI kc)]) := ⟨_, rfl⟩
  rw [← ef_18] at hM
  have hF_19 : f_18 o = eS 2 [.ref q_9, .int (nI kc)] := by rw [ef_18]; exact va_up_self _ _ _
  have hF_20 : f_18 n = eS 2 [.ref lo, .int (nI kc)] := by rw [ef_18]; exact (va_up_ne _ _ (Ne.symm hon)).trans hF_15
  have hF_21 : f_18 lo = eD K 1000 g := by rw [ef_18]; exact (va_up_ne _ _ (Ne.symm hol)).trans hF_16
  have hF_22 : f_18 q_9 = eD K 1000 g := by rw [ef_18]; exact (va_up_ne _ _ (Ne.symm hN_4)).trans hF_17
  rw [← hQ]
  exact z_vret hC hM hr hlk (by decide) (by decide) ⟨q_9, hq_9, rfl, (by rw [ef_18, ef_13, ef_1, up_up])⟩ dX1_init__26
set_option maxHeartbeats 400000 in
set_option maxRecDepth 100000 in
theorem c_finit {l : Launch} {base : Nat} {K : zK} {L : List Nat} {f : Nat → va_E} {o : Nat} (ho : o ∈ L) (hfo : f o = eS 1 [.null, .null, .int (nI 0), .double 0]) : zMet l yX0_init cX0_init 1 (none) (zr 1 2 240 12) base K L f [.ref o] (zQv base K (fun L1 f1 => ∃ q r, q ∉ L ∧ r ∉ L ++ [q] ∧ L1 = (L ++ [q]) ++ [r] ∧ f1 = va_up (va_up (va_up f q (eD K 120 (fun _ => 0))) r (eI K 120 (fun _ => 0))) o (eS 1 [.ref q, .ref r, .int (nI 0), .double 0]))) := by
  refine z_met (by decide) (Nat.le_of_ble_eq_true rfl) (fun p e s m below meth c ls hC hM hr hlk hnm hl => ?_)
  have hx := hC.1
  have hb := hC.2.1
  have hml := hC.2.2.1
  have hown := hC.2.2.2.1
  have hts := hC.2.2.2.2.1
  generalize hA : ([.ref o] : List Value).toArray = args at hC ⊢
  generalize hQ : MQ _ _ _ _ _ _ _ = Q
  obtain ⟨locs, hlocs⟩ : ∃ z : List Loc, z = [] := ⟨_, rfl⟩
  obtain ⟨H, hH⟩ : ∃ z : Heap, z = s.heap := ⟨_, rfl⟩
  rw [← hlocs, ← hH] at hM ⊢
  have hl : lv_has ls 1 [(0, .ref o)] := hl
  refine lv_aload_n hx hb dX0_init_0 rfl (lv_at hl 0 rfl) ?_
  refine z_objInit hC zm_X0_3 hl.1 (by decide) (Nat.le_of_ble_eq_true rfl) dX0_init_1 ?_
  refine lv_aload_n hx hb dX0_init_4 rfl (lv_at hl 0 rfl) ?_
  refine lv_bipush (v := nI 120) hx hb dX0_init_5 (by decide) ?_
  refine z_newD hC hM zarr_double (by decide) (by decide) (by decide) dX0_init_7 (fun q_7 H hq_7 hM => ?_)
  obtain ⟨f_1, ef_1⟩ : ∃ z9, z9 = va_up f q_7 (eD K 120 (fun _ => 0)) := ⟨_, rfl⟩
  rw [← ef_1] at hM
  have hN_4 : o ≠ q_7 := fun h => hq_7 (h ▸ ho)
  have hL_2 : o ∈ L ++ [q_7] := List.mem_append_left _ ho
  have hF_3 : f_1 o = eS 1 [.null, .null, .int (nI 0), .double 0] := by rw [ef_1]; exact (va_up_ne _ _ hN_4).trans hfo
  have hL_5 : q_7 ∈ L ++ [q_7] := List.mem_append_right _ List.mem_cons_self
  have hF_6 : f_1 q_7 = eD K 120 (fun _ => 0) := by rw [ef_1]; exact va_up_self _ _ _
  refine z_putF (fs' := [.ref q_7, .null, .int (nI 0), .double 0]) hC hM hnm hL_2 hF_3 zcl_X0 (by decide) zl_X0_9 rfl rfl rfl (by rfl) (Nat.le_of_ble_eq_true rfl) rfl dX0_init_9 (fun H locs hM => ?_)
  obtain ⟨f_7, ef_7⟩ : ∃ z9, z9 = va_up f_1 o (eS 1 [.ref q_7, .null, .int (nI 0), .double 0]) := ⟨_, rfl⟩
  rw [← ef_7] at hM
  have hF_8 : f_7 o = eS 1 [.ref q_7, .null, .int (nI 0), .double 0] := by rw [ef_7]; exact va_up_self _ _ _
  have hF_9 : f_7 q_7 = eD K 120 (fun _ => 0) := by rw [ef_7]; exact (va_up_ne _ _ (Ne.symm hN_4)).trans hF_6
  refine lv_aload_n hx hb dX0_init_12 rfl (lv_at hl 0 rfl) ?_
  refine lv_bipush (v := nI 120) hx hb dX0_init_13 (by decide) ?_
  refine z_newI hC hM zarr_int (by decide) (by decide) (by decide) dX0_init_15 (fun q_15 H hq_15 hM => ?_)
  obtain ⟨f_10, ef_10⟩ : ∃ z9, z9 = va_up f_7 q_15 (eI K 120 (fun _ => 0)) := ⟨_, rfl⟩
  rw [← ef_10] at hM
  have hN_13 : o ≠ q_15 := fun h => hq_15 (h ▸ hL_2)
  have hL_11 : o ∈ L ++ [q_7] ++ [q_15] := List.mem_append_left _ hL_2
  have hF_12 : f_10 o = eS 1 [.ref q_7, .null, .int (nI 0), .double 0] := by rw [ef_10]; exact (va_up_ne _ _ hN_13).trans hF_8
  have hN_16 : q_7 ≠ q_15 := fun h => hq_15 (h ▸ hL_5)
  have hL_14 : q_7 ∈ L ++ [q_7] ++ [q_15] := List.mem_append_left _ hL_5
  have hF_15 : f_10 q_7 = eD K 120 (fun _ => 0) := by rw [ef_10]; exact (va_up_ne _ _ hN_16).trans hF_9
  have hL_17 : q_15 ∈ L ++ [q_7] ++ [q_15] := List.mem_append_right _ List.mem_cons_self
  have hF_18 : f_10 q_15 = eI K 120 (fun _ => 0) := by rw [ef_10]; exact va_up_self _ _ _
  refine z_putF (fs' := [.ref q_7, .ref q_15, .int (nI 0), .double 0]) hC hM hnm hL_11 hF_12 zcl_X0 (by decide) zl_X0_15 rfl rfl rfl (by rfl) (Nat.le_of_ble_eq_true rfl) rfl dX0_init_17 (fun H locs hM => ?_)
  obtain ⟨f_19, ef_19⟩ : ∃ z9, z9 = va_up f_10 o (eS 1 [.ref q_7, .ref q_15, .int (nI 0), .double 0]) := ⟨_, rfl⟩
  rw [← ef_19] at hM
  have hF_20 : f_19 o = eS 1 [.ref q_7, .ref q_15, .int (nI 0), .double 0] := by rw [ef_19]; exact va_up_self _ _ _
  have hF_21 : f_19 q_7 = eD K 120 (fun _ => 0) := by rw [ef_19]; exact (va_up_ne _ _ (Ne.symm hN_4)).trans hF_15
  have hF_22 : f_19 q_15 = eI K 120 (fun _ => 0) := by rw [ef_19]; exact (va_up_ne _ _ (Ne.symm hN_13)).trans hF_18
  refine lv_aload_n hx hb dX0_init_20 rfl (lv_at hl 0 rfl) ?_
  refine lv_iconst (v := nI 0) hx hb dX0_init_21 (by decide) ?_
  refine z_put (fs' := [.ref q_7, .ref q_15, .int (nI 0), .double 0]) hC hM hL_11 hF_20 zcl_X0 (by decide) zl_X0_19 rfl rfl (by rfl) (Nat.le_of_ble_eq_true rfl) rfl dX0_init_22 (fun H locs hM => ?_)
  obtain ⟨f_23, ef_23⟩ : ∃ z9, z9 = va_up f_19 o (eS 1 [.ref q_7, .ref q_15, .int (nI 0), .double 0]) := ⟨_, rfl⟩
  rw [← ef_23] at hM
  have hF_24 : f_23 o = eS 1 [.ref q_7, .ref q_15, .int (nI 0), .double 0] := by rw [ef_23]; exact va_up_self _ _ _
  have hF_25 : f_23 q_7 = eD K 120 (fun _ => 0) := by rw [ef_23]; exact (va_up_ne _ _ (Ne.symm hN_4)).trans hF_21
  have hF_26 : f_23 q_15 = eI K 120 (fun _ => 0) := by rw [ef_23]; exact (va_up_ne _ _ (Ne.symm hN_13)).trans hF_22
  refine lv_aload_n hx hb dX0_init_25 rfl (lv_at hl 0 rfl) ?_
  refine lv_dconst0 hx hb dX0_init_26 ?_
  refine z_put (fs' := [.ref q_7, .ref q_15, .int (nI 0), .double FP.dconst0]) hC hM hL_11 hF_24 zcl_X0 (by decide) zl_X0_23 rfl rfl (by rfl) (Nat.le_of_ble_eq_true rfl) rfl dX0_init_27 (fun H locs hM => ?_)
  obtain ⟨f_27, ef_27⟩ : ∃ z9, z9 = va_up f_23 o (eS 1 [.ref q_7, .ref q_15, .int (nI 0), .double FP.dconst0]) := ⟨_, rfl⟩
  rw [← ef_27] at hM
  have hF_28 : f_27 o = eS 1 [.ref q_7, .ref q_15, .int (nI 0), .double FP.dconst0] := by rw [ef_27]; exact va_up_self _ _ _
  have hF_29 : f_27 q_7 = eD K 120 (fun _ => 0) := by rw [ef_27]; exact (va_up_ne _ _ (Ne.symm hN_4)).trans hF_25
  have hF_30 : f_27 q_15 = eI K 120 (fun _ => 0) := by rw [ef_27]; exact (va_up_ne _ _ (Ne.symm hN_13)).trans hF_26
  rw [← hQ]
  exact z_vret hC hM hr hlk (by decide) (by decide) ⟨q_7, q_15, hq_7, hq_15, rfl, (by rw [ef_27, ef_23, ef_19, ef_10, ef_7, ef_1, up_up, up_up, up_3 _ hN_13]; rfl)⟩ dX0_init_30
