/-! CONTRACTS of the JDK: lists, checks, numbers (rows laid by wip/whole/lists.py) -/
theorem up_4 {α : Type} (f : Nat → α) {a x : Nat} (h : a ≠ x) (u v w z : α) : va_up (va_up (va_up (va_up f x u) a v) x w) a z = va_up (va_up f x w) a z := by
  funext j; unfold va_up
  by_cases h1 : j = a
  · subst h1; simp
  · by_cases h2 : j = x
    · subst h2; simp [h1]
    · simp [h1, h2]
theorem up_3 {α : Type} (f : Nat → α) {a x : Nat} (h : a ≠ x) (u v w : α) : va_up (va_up (va_up f a u) x v) a w = va_up (va_up f x v) a w := by
  funext j; unfold va_up
  by_cases h1 : j = a
  · subst h1; simp
  · simp [h1]
set_option maxHeartbeats 400000 in
set_option maxRecDepth 100000 in
theorem c_pcheck {l : Launch} {base : Nat} {K : zK} {L : List Nat} {f : Nat → va_E} {i n : Nat} (hi : i < n) (hn : n < 2 ^ 31) : zMet l yJ3_checkIndex_8e157 cJ3_checkIndex_8e157 3 (some .int) (zr 0 0 0 0) base K L f [.int (nI i), .int (nI n), .null] (zFi base K (nI i) L f) := by
  refine z_met (by decide) (Nat.le_of_ble_eq_true rfl) (fun p e s m below meth c ls hC hM hr hlk hnm hl => ?_)
  have hx := hC.1
  have hb := hC.2.1
  have hml := hC.2.2.1
  have hown := hC.2.2.2.1
  have hts := hC.2.2.2.2.1
  generalize hA : ([.int (nI i), .int (nI n), .null] : List Value).toArray = args at hC ⊢
  generalize hQ : MQ _ _ _ _ _ _ _ = Q
  obtain ⟨locs, hlocs⟩ : ∃ z : List Loc, z = [] := ⟨_, rfl⟩
  obtain ⟨H, hH⟩ : ∃ z : Heap, z = s.heap := ⟨_, rfl⟩
  rw [← hlocs, ← hH] at hM ⊢
  have hl : lv_has ls 3 [(0, .int (nI i)), (1, .int (nI n)), (2, .null)] := hl
  refine lv_iload_n hx hb dJ3_checkIndex_8e157_0 rfl (lv_at hl 0 rfl) ?_
  refine z_if_lt (tgt := 9) hx hb (nI_toInt (by omega)) dJ3_checkIndex_8e157_1 (by decide) (fun c_1 => ?_) (fun c_1 => ?_)
  · exact absurd c_1 (by omega)
  · refine lv_iload_n hx hb dJ3_checkIndex_8e157_4 rfl (lv_at hl 0 rfl) ?_
    refine lv_iload_n hx hb dJ3_checkIndex_8e157_5 rfl (lv_at hl 1 rfl) ?_
    refine z_icmp_lt (tgt := 16) hx hb (nI_toInt (by omega)) (nI_toInt (by omega)) dJ3_checkIndex_8e157_6 (by decide) (fun c_6 => ?_) (fun c_6 => ?_)
    · refine lv_iload_n hx hb dJ3_checkIndex_8e157_16 rfl (lv_at hl 0 rfl) ?_
      rw [← hQ]
      exact z_iret hC hM hr hlk rfl (by decide) (by decide) ⟨rfl, rfl, rfl⟩ dJ3_checkIndex_8e157_17
    · exact absurd c_6 (by omega)
set_option maxHeartbeats 400000 in
set_option maxRecDepth 100000 in
theorem c_check {l : Launch} {base : Nat} {K : zK} {L : List Nat} {f : Nat → va_E} {i n : Nat} (hi : i < n) (hn : n < 2 ^ 31) : zMet l yJ15_checkIndex_7cf53 cJ15_checkIndex_7cf53 2 (some .int) (zr 1 0 0 22) base K L f [.int (nI i), .int (nI n)] (zFi base K (nI i) L f) := by
  refine z_met (by decide) (Nat.le_of_ble_eq_true rfl) (fun p e s m below meth c ls hC hM hr hlk hnm hl => ?_)
  have hx := hC.1
  have hb := hC.2.1
  have hml := hC.2.2.1
  have hown := hC.2.2.2.1
  have hts := hC.2.2.2.2.1
  generalize hA : ([.int (nI i), .int (nI n)] : List Value).toArray = args at hC ⊢
  generalize hQ : MQ _ _ _ _ _ _ _ = Q
  obtain ⟨locs, hlocs⟩ : ∃ z : List Loc, z = [] := ⟨_, rfl⟩
  obtain ⟨H, hH⟩ : ∃ z : Heap, z = s.heap := ⟨_, rfl⟩
  rw [← hlocs, ← hH] at hM ⊢
  have hl : lv_has ls 2 [(0, .int (nI i)), (1, .int (nI n))] := hl
  refine lv_iload_n hx hb dJ15_checkIndex_7cf53_0 rfl (lv_at hl 0 rfl) ?_
  refine lv_iload_n hx hb dJ15_checkIndex_7cf53_1 rfl (lv_at hl 1 rfl) ?_
  refine lv_null hx hb dJ15_checkIndex_7cf53_2 ?_
  refine z_fcalli (z_runS hC hM (c_pcheck hi hn) zy_J3_checkIndex_8e157 zm_J15_105 rfl rfl hl.1 (Nat.le_of_ble_eq_true rfl) ⟨by decide, by decide⟩ ⟨by decide, by decide⟩ dJ15_checkIndex_7cf53_3) hM (fun H locs hM => ?_)
  rw [← hQ]
  exact z_iret hC hM hr hlk rfl (by decide) (by decide) ⟨rfl, rfl, rfl⟩ dJ15_checkIndex_7cf53_6
set_option maxHeartbeats 400000 in
set_option maxRecDepth 100000 in
theorem c_size {l : Launch} {base : Nat} {K : zK} {L : List Nat} {f : Nat → va_E} {a ee n : Nat} {mc : Int32} (ha : a ∈ L) (hfa : f a = eS 0 [.int mc, .ref ee, .int (nI n)]) : zMet l yJx4a65c_size_8abf5 cJx4a65c_size_8abf5 1 (some .int) (zr 0 0 0 0) base K L f [.ref a] (zFi base K (nI n) L f) := by
  refine z_met (by decide) (Nat.le_of_ble_eq_true rfl) (fun p e s m below meth c ls hC hM hr hlk hnm hl => ?_)
  have hx := hC.1
  have hb := hC.2.1
  have hml := hC.2.2.1
  have hown := hC.2.2.2.1
  have hts := hC.2.2.2.2.1
  generalize hA : ([.ref a] : List Value).toArray = args at hC ⊢
  generalize hQ : MQ _ _ _ _ _ _ _ = Q
  obtain ⟨locs, hlocs⟩ : ∃ z : List Loc, z = [] := ⟨_, rfl⟩
  obtain ⟨H, hH⟩ : ∃ z : Heap, z = s.heap := ⟨_, rfl⟩
  rw [← hlocs, ← hH] at hM ⊢
  have hl : lv_has ls 1 [(0, .ref a)] := hl
  refine lv_aload_n hx hb dJx4a65c_size_8abf5_0 rfl (lv_at hl 0 rfl) ?_
  refine z_get hC hM ha hfa zcl_Jx4a65c (by decide) zl_Jx4a65c_48 rfl dJx4a65c_size_8abf5_1 ?_
  rw [← hQ]
  exact z_iret hC hM hr hlk rfl (by decide) (by decide) ⟨rfl, rfl, rfl⟩ dJx4a65c_size_8abf5_4
set_option maxHeartbeats 400000 in
set_option maxRecDepth 100000 in
theorem c_elem {l : Launch} {base : Nat} {K : zK} {L : List Nat} {f : Nat → va_E} {a ee n cap : Nat} {mc : Int32} {arr : Nat → Option Nat} (ha : a ∈ L) (hfa : f a = eS 0 [.int mc, .ref ee, .int (nI n)]) (he : ee ∈ L) (hfe : f ee = eO K cap arr) {i y : Nat} (hi : i < cap) (hcap : cap < 2 ^ 31) (hy : arr i = some y) : zMet l yJx4a65c_elementData_915e3 cJx4a65c_elementData_915e3 2 (some (.object "java/lang/Object")) (zr 0 0 0 0) base K L f [.ref a, .int (nI i)] (zFq base K (some y) L f) := by
  refine z_met (by decide) (Nat.le_of_ble_eq_true rfl) (fun p e s m below meth c ls hC hM hr hlk hnm hl => ?_)
  have hx := hC.1
  have hb := hC.2.1
  have hml := hC.2.2.1
  have hown := hC.2.2.2.1
  have hts := hC.2.2.2.2.1
  generalize hA : ([.ref a, .int (nI i)] : List Value).toArray = args at hC ⊢
  generalize hQ : MQ _ _ _ _ _ _ _ = Q
  obtain ⟨locs, hlocs⟩ : ∃ z : List Loc, z = [] := ⟨_, rfl⟩
  obtain ⟨H, hH⟩ : ∃ z : Heap, z = s.heap := ⟨_, rfl⟩
  rw [← hlocs, ← hH] at hM ⊢
  have hl : lv_has ls 2 [(0, .ref a), (1, .int (nI i))] := hl
  refine lv_aload_n hx hb dJx4a65c_elementData_915e3_0 rfl (lv_at hl 0 rfl) ?_
  refine z_get hC hM ha hfa zcl_Jx4a65c (by decide) zl_Jx4a65c_9 rfl dJx4a65c_elementData_915e3_1 ?_
  refine lv_iload_n hx hb dJx4a65c_elementData_915e3_4 rfl (lv_at hl 1 rfl) ?_
  refine z_aald hC hM he hfe (by omega) (by omega) dJx4a65c_elementData_915e3_5 ?_
  rw [← hQ]
  exact z_qret hC hM hr (Or.inl ⟨_, rfl⟩) hlk (by decide) (by decide) ⟨hy, rfl, rfl⟩ dJx4a65c_elementData_915e3_6
set_option maxHeartbeats 400000 in
set_option maxRecDepth 100000 in
theorem c_get {l : Launch} {base : Nat} {K : zK} {L : List Nat} {f : Nat → va_E} {a ee n cap : Nat} {mc : Int32} {arr : Nat → Option Nat} (ha : a ∈ L) (hfa : f a = eS 0 [.int mc, .ref ee, .int (nI n)]) (he : ee ∈ L) (hfe : f ee = eO K cap arr) {i y : Nat} (hi : i < n) (hn : n ≤ cap) (hcap : cap < 2 ^ 31) (hy : arr i = some y) : zMet l yJx4a65c_get_915e3 cJx4a65c_get_915e3 2 (some (.object "java/lang/Object")) (zr 2 0 0 43) base K L f [.ref a, .int (nI i)] (zFq base K (some y) L f) := by
  refine z_met (by decide) (Nat.le_of_ble_eq_true rfl) (fun p e s m below meth c ls hC hM hr hlk hnm hl => ?_)
  have hx := hC.1
  have hb := hC.2.1
  have hml := hC.2.2.1
  have hown := hC.2.2.2.1
  have hts := hC.2.2.2.2.1
  generalize hA : ([.ref a, .int (nI i)] : List Value).toArray = args at hC ⊢
  generalize hQ : MQ _ _ _ _ _ _ _ = Q
  obtain ⟨locs, hlocs⟩ : ∃ z : List Loc, z = [] := ⟨_, rfl⟩
  obtain ⟨H, hH⟩ : ∃ z : Heap, z = s.heap := ⟨_, rfl⟩
  rw [← hlocs, ← hH] at hM ⊢
  have hl : lv_has ls 2 [(0, .ref a), (1, .int (nI i))] := hl
  refine lv_iload_n hx hb dJx4a65c_get_915e3_0 rfl (lv_at hl 1 rfl) ?_
  refine lv_aload_n hx hb dJx4a65c_get_915e3_1 rfl (lv_at hl 0 rfl) ?_
  refine z_get hC hM ha hfa zcl_Jx4a65c (by decide) zl_Jx4a65c_48 rfl dJx4a65c_get_915e3_2 ?_
  refine z_fcalli (z_runS hC hM (c_check hi (by omega)) zy_J15_checkIndex_7cf53 zm_Jx4a65c_118 rfl rfl hl.1 (Nat.le_of_ble_eq_true rfl) ⟨by decide, by decide⟩ ⟨by decide, by decide⟩ dJx4a65c_get_915e3_5) hM (fun H locs hM => ?_)
  refine lv_pop hx hb dJx4a65c_get_915e3_8 rfl ?_
  refine lv_aload_n hx hb dJx4a65c_get_915e3_9 rfl (lv_at hl 0 rfl) ?_
  refine lv_iload_n hx hb dJx4a65c_get_915e3_10 rfl (lv_at hl 1 rfl) ?_
  refine z_fcallq (z_runV hC hM (c_elem ha hfa he hfe (by omega) hcap hy) zy_Jx4a65c_elementData_915e3 zm_Jx4a65c_123 ha hfa zcl_Jx4a65c rfl rfl rfl hl.1 (Nat.le_of_ble_eq_true rfl) ⟨by decide, by decide⟩ ⟨by decide, by decide⟩ dJx4a65c_get_915e3_11) hM (fun H locs hM => ?_)
  rw [← hQ]
  exact z_qret (v := (some y)) hC hM hr (Or.inl ⟨_, rfl⟩) hlk (by decide) (by decide) ⟨rfl, rfl, rfl⟩ dJx4a65c_get_915e3_14
set_option maxHeartbeats 400000 in
set_option maxRecDepth 100000 in
theorem c_newLen {l : Launch} {base : Nat} {K : zK} {L : List Nat} {f : Nat → va_E} {a b d : Nat} (ha : a ≤ 1000) (hb : b ≤ 1000) (hd : d ≤ 1000) (h1 : 0 < a + max b d) : zMet l yJ8_newLength_cabcc cJ8_newLength_cabcc 4 (some .int) (zr 1 0 0 21) base K L f [.int (nI a), .int (nI b), .int (nI d)] (zFi base K (nI (a + max b d)) L f) := by
  refine z_met (by decide) (Nat.le_of_ble_eq_true rfl) (fun p e s m below meth c ls hC hM hr hlk hnm hl => ?_)
  have hx := hC.1
  have hb := hC.2.1
  have hml := hC.2.2.1
  have hown := hC.2.2.2.1
  have hts := hC.2.2.2.2.1
  generalize hA : ([.int (nI a), .int (nI b), .int (nI d)] : List Value).toArray = args at hC ⊢
  generalize hQ : MQ _ _ _ _ _ _ _ = Q
  obtain ⟨locs, hlocs⟩ : ∃ z : List Loc, z = [] := ⟨_, rfl⟩
  obtain ⟨H, hH⟩ : ∃ z : Heap, z = s.heap := ⟨_, rfl⟩
  rw [← hlocs, ← hH] at hM ⊢
  have hl : lv_has ls 4 [(0, .int (nI a)), (1, .int (nI b)), (2, .int (nI d))] := hl
  refine lv_iload_n hx hb dJ8_newLength_cabcc_0 rfl (lv_at hl 0 rfl) ?_
  refine lv_iload_n hx hb dJ8_newLength_cabcc_1 rfl (lv_at hl 1 rfl) ?_
  refine lv_iload_n hx hb dJ8_newLength_cabcc_2 rfl (lv_at hl 2 rfl) ?_
  refine z_max hC hl.1 zm_J8_194.1 (by omega) (by omega) (by decide) (Nat.le_of_ble_eq_true rfl) ⟨by decide, by decide⟩ dJ8_newLength_cabcc_3 ?_
  refine z_iadd hx hb dJ8_newLength_cabcc_6 ?_
  refine lv_istore_n (lv' := [(3, .int (nI (a + (max b d)))), (0, .int (nI a)), (1, .int (nI b)), (2, .int (nI d))]) hx hb dJ8_newLength_cabcc_7 rfl hl (by decide) rfl (fun ls hl => ?_)
  refine lv_iconst (v := nI 0) hx hb dJ8_newLength_cabcc_8 (by decide) ?_
  refine lv_iload_n hx hb dJ8_newLength_cabcc_9 rfl (lv_at hl 0 rfl) ?_
  refine z_icmp_ge (tgt := 21) hx hb (nI_toInt (by decide)) (nI_toInt (by omega)) dJ8_newLength_cabcc_10 (by decide) (fun c_10 => ?_) (fun c_10 => ?_)
  · exact absurd c_10 (by omega)
  · refine lv_iload_n hx hb dJ8_newLength_cabcc_13 rfl (lv_at hl 0 rfl) ?_
    refine lv_ldc (v := nI 2147483639) hx hb hown (hts _ zk_J8_200) dJ8_newLength_cabcc_14 ?_
    refine z_icmp_gt (tgt := 21) hx hb (nI_toInt (by omega)) (nI_toInt (by decide)) dJ8_newLength_cabcc_16 (by decide) (fun c_16 => ?_) (fun c_16 => ?_)
    · exact absurd c_16 (by omega)
    · refine lv_iload_n hx hb dJ8_newLength_cabcc_19 rfl (lv_at hl 0 rfl) ?_
      rw [← hQ]
      exact z_iret hC hM hr hlk rfl (by decide) (by decide) ⟨rfl, rfl, rfl⟩ dJ8_newLength_cabcc_20
set_option maxHeartbeats 400000 in
set_option maxRecDepth 100000 in
theorem c_copy3 {l : Launch} {base : Nat} {K : zK} {L : List Nat} {f : Nat → va_E} {ee cap k : Nat} {arr : Nat → Option Nat} (he : ee ∈ L) (hfe : f ee = eO K cap arr) (hk : cap ≤ k) (hk2 : k ≤ 60) (hel : ∀ i, i < cap → ∀ y, arr i = some y → zAny L f y) : zMet l yJ7_copyOf_6403c cJ7_copyOf_6403c 4 (some (.array (.object "java/lang/Object"))) (zr 2 1 60 40) base K L f [.ref ee, .int (nI k), .ref K.2.2.2] (zQq base K (fun r L1 f1 => ∃ q, r = some q ∧ q ∉ L ∧ L1 = L ++ [q] ∧ f1 = va_up f q (eO K k (va_cpy arr (fun _ => none) 0 0 cap)))) := by
  refine z_met (by decide) (Nat.le_of_ble_eq_true rfl) (fun p e s m below meth c ls hC hM hr hlk hnm hl => ?_)
  have hx := hC.1
  have hb := hC.2.1
  have hml := hC.2.2.1
  have hown := hC.2.2.2.1
  have hts := hC.2.2.2.2.1
  generalize hA : ([.ref ee, .int (nI k), .ref K.2.2.2] : List Value).toArray = args at hC ⊢
  generalize hQ : MQ _ _ _ _ _ _ _ = Q
  obtain ⟨locs, hlocs⟩ : ∃ z : List Loc, z = [] := ⟨_, rfl⟩
  obtain ⟨H, hH⟩ : ∃ z : Heap, z = s.heap := ⟨_, rfl⟩
  rw [← hlocs, ← hH] at hM ⊢
  have hl : lv_has ls 4 [(0, .ref ee), (1, .int (nI k)), (2, .ref K.2.2.2)] := hl
  refine lv_aload_n hx hb dJ7_copyOf_6403c_0 rfl (lv_at hl 2 rfl) ?_
  refine z_ldcM hC zc_J7_110 dJ7_copyOf_6403c_1 ?_
  refine z_acmp_ne (x := (some K.2.2.2)) (y := (some K.2.2.2)) (tgt := 13) rfl rfl hx hb dJ7_copyOf_6403c_3 (by decide) (fun c_3 => ?_) (fun c_3 => ?_)
  · exact absurd rfl c_3
  · refine lv_iload_n hx hb dJ7_copyOf_6403c_6 rfl (lv_at hl 1 rfl) ?_
    refine z_newO hC hM zc_J7_2 (by omega) (by decide) (by show 0 + k ≤ 60; omega) dJ7_copyOf_6403c_7 (fun q_7 H hq_7 hM => ?_)
    obtain ⟨f_1, ef_1⟩ : ∃ z9, z9 = va_up f q_7 (eO K k (fun _ => none)) := ⟨_, rfl⟩
    rw [← ef_1] at hM
    have hN_4 : ee ≠ q_7 := fun h => hq_7 (h ▸ he)
    have hL_2 : ee ∈ L ++ [q_7] := List.mem_append_left _ he
    have hF_3 : f_1 ee = eO K cap arr := by rw [ef_1]; exact (va_up_ne _ _ hN_4).trans hfe
    have hL_5 : q_7 ∈ L ++ [q_7] := List.mem_append_right _ List.mem_cons_self
    have hF_6 : f_1 q_7 = eO K k (fun _ => none) := by rw [ef_1]; exact va_up_self _ _ _
    refine W.widen (k := 1) (n := 60) (by decide) (by show 0 + k ≤ 60; omega) ?_
    refine lv_goto (tgt := 24) hx hb dJ7_copyOf_6403c_10 (by decide) ?_
    refine lv_astore_n (lv' := [(3, .ref q_7), (0, .ref ee), (1, .int (nI k)), (2, .ref K.2.2.2)]) hx hb dJ7_copyOf_6403c_24 rfl hl (by decide) rfl (fun ls hl => ?_)
    refine lv_aload_n hx hb dJ7_copyOf_6403c_25 rfl (lv_at hl 1 rfl) ?_
    refine lv_iconst (v := nI 0) hx hb dJ7_copyOf_6403c_26 (by decide) ?_
    refine lv_aload_n hx hb dJ7_copyOf_6403c_27 rfl (lv_at hl 0 rfl) ?_
    refine lv_iconst (v := nI 0) hx hb dJ7_copyOf_6403c_28 (by decide) ?_
    refine lv_aload_n hx hb dJ7_copyOf_6403c_29 rfl (lv_at hl 1 rfl) ?_
    refine z_alen (n := cap) 3 hC hM hL_2 hF_3 rfl rfl dJ7_copyOf_6403c_30 ?_
    refine lv_iload_n hx hb dJ7_copyOf_6403c_31 rfl (lv_at hl 2 rfl) ?_
    refine z_min hC hl.1 zm_J7_304.1 (by omega) (by omega) (by decide) (Nat.le_of_ble_eq_true rfl) ⟨by decide, by decide⟩ dJ7_copyOf_6403c_32 ?_
    refine z_acopy hC hM hl.1 zm_J7_150 hL_2 hF_3 hL_5 hF_6 (by omega) (by omega) (by omega) (fun i hi y hy => z_anyUp hq_7 (hel i (by omega) y hy) ef_1) znat_arraycopy zj_acs zj_ini (by decide) (by decide) dJ7_copyOf_6403c_35 (fun H locs hM => ?_)
    obtain ⟨f_7, ef_7⟩ : ∃ z9, z9 = va_up f_1 q_7 (eO K k (va_cpy arr (fun _ => none) 0 0 (min cap k))) := ⟨_, rfl⟩
    rw [← ef_7] at hM
    have hF_8 : f_7 ee = eO K cap arr := by rw [ef_7]; exact (va_up_ne _ _ hN_4).trans hF_3
    have hF_9 : f_7 q_7 = eO K k (va_cpy arr (fun _ => none) 0 0 (min cap k)) := by rw [ef_7]; exact va_up_self _ _ _
    refine lv_aload_n hx hb dJ7_copyOf_6403c_38 rfl (lv_at hl 0 rfl) ?_
    rw [← hQ]
    exact z_qret (v := (some q_7)) hC hM hr (Or.inr ⟨_, rfl⟩) hlk (by decide) (by decide) ⟨q_7, rfl, hq_7, rfl, (by rw [ef_7, ef_1, up_up, Nat.min_eq_left hk])⟩ dJ7_copyOf_6403c_39
set_option maxHeartbeats 400000 in
set_option maxRecDepth 100000 in
theorem c_copy2 {l : Launch} {base : Nat} {K : zK} {L : List Nat} {f : Nat → va_E} {ee cap k : Nat} {arr : Nat → Option Nat} (he : ee ∈ L) (hfe : f ee = eO K cap arr) (hk : cap ≤ k) (hk2 : k ≤ 60) (hel : ∀ i, i < cap → ∀ y, arr i = some y → zAny L f y) : zMet l yJ7_copyOf_1904c cJ7_copyOf_1904c 2 (some (.array (.object "java/lang/Object"))) (zr 3 1 60 70) base K L f [.ref ee, .int (nI k)] (zQq base K (fun r L1 f1 => ∃ q, r = some q ∧ q ∉ L ∧ L1 = L ++ [q] ∧ f1 = va_up f q (eO K k (va_cpy arr (fun _ => none) 0 0 cap)))) := by
  refine z_met (by decide) (Nat.le_of_ble_eq_true rfl) (fun p e s m below meth c ls hC hM hr hlk hnm hl => ?_)
  have hx := hC.1
  have hb := hC.2.1
  have hml := hC.2.2.1
  have hown := hC.2.2.2.1
  have hts := hC.2.2.2.2.1
  generalize hA : ([.ref ee, .int (nI k)] : List Value).toArray = args at hC ⊢
  generalize hQ : MQ _ _ _ _ _ _ _ = Q
  obtain ⟨locs, hlocs⟩ : ∃ z : List Loc, z = [] := ⟨_, rfl⟩
  obtain ⟨H, hH⟩ : ∃ z : Heap, z = s.heap := ⟨_, rfl⟩
  rw [← hlocs, ← hH] at hM ⊢
  have hl : lv_has ls 2 [(0, .ref ee), (1, .int (nI k))] := hl
  refine lv_aload_n hx hb dJ7_copyOf_1904c_0 rfl (lv_at hl 0 rfl) ?_
  refine lv_iload_n hx hb dJ7_copyOf_1904c_1 rfl (lv_at hl 1 rfl) ?_
  refine lv_aload_n hx hb dJ7_copyOf_1904c_2 rfl (lv_at hl 0 rfl) ?_
  refine z_getC hC hM hl.1 zm_J7_86 zj_decl zj_sel zj_inst znat_getClass he hfe (by decide) (Nat.le_of_ble_eq_true rfl) dJ7_copyOf_1904c_3 ?_
  refine z_callq (z_runS hC hM (c_copy3 he hfe hk hk2 hel) zy_J7_copyOf_6403c zm_J7_300 rfl rfl hl.1 (Nat.le_of_ble_eq_true rfl) ⟨by decide, by decide⟩ ⟨by decide, by decide⟩ dJ7_copyOf_1904c_6) hM (fun r L1 f1 H locs hp hM => ?_)
  obtain ⟨q_6, rfl, hq_6, rfl, rfl⟩ := hp
  obtain ⟨f_1, ef_1⟩ : ∃ z9, z9 = va_up f q_6 (eO K k (va_cpy arr (fun _ => none) 0 0 cap)) := ⟨_, rfl⟩
  rw [← ef_1] at hM
  have hN_4 : ee ≠ q_6 := fun h => hq_6 (h ▸ he)
  have hL_2 : ee ∈ L ++ [q_6] := List.mem_append_left _ he
  have hF_3 : f_1 ee = eO K cap arr := by rw [ef_1]; exact (va_up_ne _ _ hN_4).trans hfe
  have hL_5 : q_6 ∈ L ++ [q_6] := List.mem_append_right _ List.mem_cons_self
  have hF_6 : f_1 q_6 = eO K k (va_cpy arr (fun _ => none) 0 0 cap) := by rw [ef_1]; exact va_up_self _ _ _
  rw [← hQ]
  exact z_qret (v := (some q_6)) hC hM hr (Or.inr ⟨_, rfl⟩) hlk (by decide) (by decide) ⟨q_6, rfl, hq_6, rfl, ef_1⟩ dJ7_copyOf_1904c_9
set_option maxHeartbeats 400000 in
set_option maxRecDepth 100000 in
theorem c_growI_1 {l : Launch} {base : Nat} {K : zK} {L : List Nat} {f : Nat → va_E} {a ee n cap : Nat} {mc : Int32} {arr : Nat → Option Nat} (ha : a ∈ L) (hfa : f a = eS 0 [.int mc, .ref ee, .int (nI n)]) (he : ee ∈ L) (hfe : f ee = eO K cap arr) (hae : a ≠ ee) (hc1 : 10 ≤ cap) (hc2 : cap ≤ 40) (hel : ∀ i, i < cap → ∀ y, arr i = some y → zAny L f y) : zMet l yJx4a65c_grow_92f84 cJx4a65c_grow_92f84 4 (some (.array (.object "java/lang/Object"))) (zr 4 1 60 95) base K L f [.ref a, .int (nI ((cap + 1)))] (zQq base K (fun r L1 f1 => ∃ q, r = some q ∧ q ∉ L ∧ L1 = L ++ [q] ∧ f1 = va_up (va_up f q (eO K (cap + cap / 2) (va_cpy arr (fun _ => none) 0 0 cap))) a (eS 0 [.int mc, .ref q, .int (nI n)]))) := by
  refine z_met (by decide) (Nat.le_of_ble_eq_true rfl) (fun p e s m below meth c ls hC hM hr hlk hnm hl => ?_)
  have hx := hC.1
  have hb := hC.2.1
  have hml := hC.2.2.1
  have hown := hC.2.2.2.1
  have hts := hC.2.2.2.2.1
  generalize hA : ([.ref a, .int (nI ((cap + 1)))] : List Value).toArray = args at hC ⊢
  generalize hQ : MQ _ _ _ _ _ _ _ = Q
  obtain ⟨locs, hlocs⟩ : ∃ z : List Loc, z = [] := ⟨_, rfl⟩
  obtain ⟨H, hH⟩ : ∃ z : Heap, z = s.heap := ⟨_, rfl⟩
  rw [← hlocs, ← hH] at hM ⊢
  have hl : lv_has ls 4 [(0, .ref a), (1, .int (nI ((cap + 1))))] := hl
  refine lv_aload_n hx hb dJx4a65c_grow_92f84_0 rfl (lv_at hl 0 rfl) ?_
  refine z_get hC hM ha hfa zcl_Jx4a65c (by decide) zl_Jx4a65c_9 rfl dJx4a65c_grow_92f84_1 ?_
  refine z_alen (n := cap) 3 hC hM he hfe rfl rfl dJx4a65c_grow_92f84_4 ?_
  refine lv_istore_n (lv' := [(2, .int (nI cap)), (0, .ref a), (1, .int (nI ((cap + 1))))]) hx hb dJx4a65c_grow_92f84_5 rfl hl (by decide) rfl (fun ls hl => ?_)
  refine lv_iload_n hx hb dJx4a65c_grow_92f84_6 rfl (lv_at hl 0 rfl) ?_
  refine z_if_gt (tgt := 20) hx hb (nI_toInt (by omega)) dJx4a65c_grow_92f84_7 (by decide) (fun c_7 => ?_) (fun c_7 => ?_)
  · refine lv_iload_n hx hb dJx4a65c_grow_92f84_20 rfl (lv_at hl 0 rfl) ?_
    refine lv_iload_n hx hb dJx4a65c_grow_92f84_21 rfl (lv_at hl 2 rfl) ?_
    refine lv_iload_n hx hb dJx4a65c_grow_92f84_22 rfl (lv_at hl 0 rfl) ?_
    refine z_isub hx hb (by omega) dJx4a65c_grow_92f84_23 ?_
    refine lv_iload_n hx hb dJx4a65c_grow_92f84_24 rfl (lv_at hl 0 rfl) ?_
    refine lv_iconst (v := nI 1) hx hb dJx4a65c_grow_92f84_25 (by decide) ?_
    refine z_ishr1 hx hb (by omega) dJx4a65c_grow_92f84_26 ?_
    refine z_fcalli (z_runS hC hM (c_newLen (by omega) (by omega) (by omega) (by omega)) zy_J8_newLength_cabcc zm_Jx4a65c_73 rfl rfl hl.1 (Nat.le_of_ble_eq_true rfl) ⟨by decide, by decide⟩ ⟨by decide, by decide⟩ dJx4a65c_grow_92f84_27) hM (fun H locs hM => ?_)
    rw [show cap + max (cap + 1 - cap) (cap / 2) = cap + cap / 2 by omega]
    refine lv_istore_n (lv' := [(3, .int (nI (cap + cap / 2))), (2, .int (nI cap)), (0, .ref a), (1, .int (nI ((cap + 1))))]) hx hb dJx4a65c_grow_92f84_30 rfl hl (by decide) rfl (fun ls hl => ?_)
    refine lv_aload_n hx hb dJx4a65c_grow_92f84_31 rfl (lv_at hl 2 rfl) ?_
    refine lv_aload_n hx hb dJx4a65c_grow_92f84_32 rfl (lv_at hl 2 rfl) ?_
    refine z_get hC hM ha hfa zcl_Jx4a65c (by decide) zl_Jx4a65c_9 rfl dJx4a65c_grow_92f84_33 ?_
    refine lv_iload_n hx hb dJx4a65c_grow_92f84_36 rfl (lv_at hl 0 rfl) ?_
    refine z_callq (z_runS hC hM (c_copy2 he hfe (by omega) (by omega) hel) zy_J7_copyOf_1904c zm_Jx4a65c_66 rfl rfl hl.1 (Nat.le_of_ble_eq_true rfl) ⟨by decide, by decide⟩ ⟨by decide, by decide⟩ dJx4a65c_grow_92f84_37) hM (fun r L1 f1 H locs hp hM => ?_)
    obtain ⟨q_37, rfl, hq_37, rfl, rfl⟩ := hp
    obtain ⟨f_1, ef_1⟩ : ∃ z9, z9 = va_up f q_37 (eO K (cap + cap / 2) (va_cpy arr (fun _ => none) 0 0 cap)) := ⟨_, rfl⟩
    rw [← ef_1] at hM
    have hN_4 : a ≠ q_37 := fun h => hq_37 (h ▸ ha)
    have hL_2 : a ∈ L ++ [q_37] := List.mem_append_left _ ha
    have hF_3 : f_1 a = eS 0 [.int mc, .ref ee, .int (nI n)] := by rw [ef_1]; exact (va_up_ne _ _ hN_4).trans hfa
    have hN_7 : ee ≠ q_37 := fun h => hq_37 (h ▸ he)
    have hL_5 : ee ∈ L ++ [q_37] := List.mem_append_left _ he
    have hF_6 : f_1 ee = eO K cap arr := by rw [ef_1]; exact (va_up_ne _ _ hN_7).trans hfe
    have hL_8 : q_37 ∈ L ++ [q_37] := List.mem_append_right _ List.mem_cons_self
    have hF_9 : f_1 q_37 = eO K (cap + cap / 2) (va_cpy arr (fun _ => none) 0 0 cap) := by rw [ef_1]; exact va_up_self _ _ _
    refine lv_dup_x1 hx hb dJx4a65c_grow_92f84_40 rfl rfl ?_
    refine z_put (fs' := [.int mc, .ref q_37, .int (nI n)]) hC hM hL_2 hF_3 zcl_Jx4a65c (by decide) zl_Jx4a65c_9 rfl rfl (by rfl) (Nat.le_of_ble_eq_true rfl) rfl dJx4a65c_grow_92f84_41 (fun H locs hM => ?_)
    obtain ⟨f_10, ef_10⟩ : ∃ z9, z9 = va_up f_1 a (eS 0 [.int mc, .ref q_37, .int (nI n)]) := ⟨_, rfl⟩
    rw [← ef_10] at hM
    have hF_11 : f_10 a = eS 0 [.int mc, .ref q_37, .int (nI n)] := by rw [ef_10]; exact va_up_self _ _ _
    have hF_12 : f_10 ee = eO K cap arr := by rw [ef_10]; exact (va_up_ne _ _ (Ne.symm hae)).trans hF_6
    have hF_13 : f_10 q_37 = eO K (cap + cap / 2) (va_cpy arr (fun _ => none) 0 0 cap) := by rw [ef_10]; exact (va_up_ne _ _ (Ne.symm hN_4)).trans hF_9
    rw [← hQ]
    exact z_qret (v := (some q_37)) hC hM hr (Or.inr ⟨_, rfl⟩) hlk (by decide) (by decide) ⟨q_37, rfl, hq_37, rfl, (by rw [ef_10, ef_1])⟩ dJx4a65c_grow_92f84_44
  · exact absurd c_7 (by omega)
set_option maxHeartbeats 400000 in
set_option maxRecDepth 100000 in
theorem c_growI_0 {l : Launch} {base : Nat} {K : zK} {L : List Nat} {f : Nat → va_E} {a : Nat} {mc : Int32} (ha : a ∈ L) (hfa : f a = eS 0 [.int mc, .ref K.2.2.1, .int (nI 0)]) (hz : K.2.2.1 ∉ L) : zMet l yJx4a65c_grow_92f84 cJx4a65c_grow_92f84 4 (some (.array (.object "java/lang/Object"))) (zr 1 1 60 21) base K L f [.ref a, .int (nI 1)] (zQq base K (fun r L1 f1 => ∃ q, r = some q ∧ q ∉ L ∧ L1 = L ++ [q] ∧ f1 = va_up (va_up f q (eO K 10 (fun _ => none))) a (eS 0 [.int mc, .ref q, .int (nI 0)]))) := by
  refine z_met (by decide) (Nat.le_of_ble_eq_true rfl) (fun p e s m below meth c ls hC hM hr hlk hnm hl => ?_)
  have hx := hC.1
  have hb := hC.2.1
  have hml := hC.2.2.1
  have hown := hC.2.2.2.1
  have hts := hC.2.2.2.2.1
  generalize hA : ([.ref a, .int (nI 1)] : List Value).toArray = args at hC ⊢
  generalize hQ : MQ _ _ _ _ _ _ _ = Q
  obtain ⟨locs, hlocs⟩ : ∃ z : List Loc, z = [] := ⟨_, rfl⟩
  obtain ⟨H, hH⟩ : ∃ z : Heap, z = s.heap := ⟨_, rfl⟩
  rw [← hlocs, ← hH] at hM ⊢
  have hl : lv_has ls 4 [(0, .ref a), (1, .int (nI 1))] := hl
  refine lv_aload_n hx hb dJx4a65c_grow_92f84_0 rfl (lv_at hl 0 rfl) ?_
  refine z_get hC hM ha hfa zcl_Jx4a65c (by decide) zl_Jx4a65c_9 rfl dJx4a65c_grow_92f84_1 ?_
  refine z_alen0 hC hM dJx4a65c_grow_92f84_4 ?_
  refine lv_istore_n (lv' := [(2, .int (nI 0)), (0, .ref a), (1, .int (nI 1))]) hx hb dJx4a65c_grow_92f84_5 rfl hl (by decide) rfl (fun ls hl => ?_)
  refine lv_iload_n hx hb dJx4a65c_grow_92f84_6 rfl (lv_at hl 0 rfl) ?_
  refine z_if_gt (tgt := 20) hx hb (nI_toInt (by decide)) dJx4a65c_grow_92f84_7 (by decide) (fun c_7 => ?_) (fun c_7 => ?_)
  · exact absurd c_7 (by omega)
  · refine lv_aload_n hx hb dJx4a65c_grow_92f84_10 rfl (lv_at hl 1 rfl) ?_
    refine z_get hC hM ha hfa zcl_Jx4a65c (by decide) zl_Jx4a65c_9 rfl dJx4a65c_grow_92f84_11 ?_
    refine z_gets hC hM zl_Jx4a65c_39 dJx4a65c_grow_92f84_14 ?_
    refine z_acmp_eq (x := (some K.2.2.1)) (y := (some K.2.2.1)) (tgt := 45) rfl rfl hx hb dJx4a65c_grow_92f84_17 (by decide) (fun c_17 => ?_) (fun c_17 => ?_)
    · refine lv_aload_n hx hb dJx4a65c_grow_92f84_45 rfl (lv_at hl 1 rfl) ?_
      refine lv_bipush (v := nI 10) hx hb dJx4a65c_grow_92f84_46 (by decide) ?_
      refine lv_iload_n hx hb dJx4a65c_grow_92f84_48 rfl (lv_at hl 2 rfl) ?_
      refine z_max hC hl.1 zm_Jx4a65c_79.1 (by omega) (by omega) (by decide) (Nat.le_of_ble_eq_true rfl) ⟨by decide, by decide⟩ dJx4a65c_grow_92f84_49 ?_
      rw [show max 10 1 = 10 from rfl]
      refine z_newO hC hM zc_Jx4a65c_7 (by decide) (by decide) (by decide) dJx4a65c_grow_92f84_52 (fun q_52 H hq_52 hM => ?_)
      obtain ⟨f_1, ef_1⟩ : ∃ z9, z9 = va_up f q_52 (eO K 10 (fun _ => none)) := ⟨_, rfl⟩
      rw [← ef_1] at hM
      have hN_4 : a ≠ q_52 := fun h => hq_52 (h ▸ ha)
      have hL_2 : a ∈ L ++ [q_52] := List.mem_append_left _ ha
      have hF_3 : f_1 a = eS 0 [.int mc, .ref K.2.2.1, .int (nI 0)] := by rw [ef_1]; exact (va_up_ne _ _ hN_4).trans hfa
      have hL_5 : q_52 ∈ L ++ [q_52] := List.mem_append_right _ List.mem_cons_self
      have hF_6 : f_1 q_52 = eO K 10 (fun _ => none) := by rw [ef_1]; exact va_up_self _ _ _
      refine lv_dup_x1 hx hb dJx4a65c_grow_92f84_55 rfl rfl ?_
      refine z_put (fs' := [.int mc, .ref q_52, .int (nI 0)]) hC hM hL_2 hF_3 zcl_Jx4a65c (by decide) zl_Jx4a65c_9 rfl rfl (by rfl) (Nat.le_of_ble_eq_true rfl) rfl dJx4a65c_grow_92f84_56 (fun H locs hM => ?_)
      obtain ⟨f_7, ef_7⟩ : ∃ z9, z9 = va_up f_1 a (eS 0 [.int mc, .ref q_52, .int (nI 0)]) := ⟨_, rfl⟩
      rw [← ef_7] at hM
      have hF_8 : f_7 a = eS 0 [.int mc, .ref q_52, .int (nI 0)] := by rw [ef_7]; exact va_up_self _ _ _
      have hF_9 : f_7 q_52 = eO K 10 (fun _ => none) := by rw [ef_7]; exact (va_up_ne _ _ (Ne.symm hN_4)).trans hF_6
      rw [← hQ]
      exact z_qret (v := (some q_52)) hC hM hr (Or.inr ⟨_, rfl⟩) hlk (by decide) (by decide) ⟨q_52, rfl, hq_52, rfl, (by rw [ef_7, ef_1])⟩ dJx4a65c_grow_92f84_59
    · exact absurd rfl c_17
set_option maxHeartbeats 400000 in
set_option maxRecDepth 100000 in
theorem c_grow_1 {l : Launch} {base : Nat} {K : zK} {L : List Nat} {f : Nat → va_E} {a ee n cap : Nat} {mc : Int32} {arr : Nat → Option Nat} (ha : a ∈ L) (hfa : f a = eS 0 [.int mc, .ref ee, .int (nI n)]) (he : ee ∈ L) (hfe : f ee = eO K cap arr) (hae : a ≠ ee) (hn : n = cap) (hc1 : 10 ≤ cap) (hc2 : cap ≤ 40) (hel : ∀ i, i < cap → ∀ y, arr i = some y → zAny L f y) : zMet l yJx4a65c_grow_d5877 cJx4a65c_grow_d5877 1 (some (.array (.object "java/lang/Object"))) (zr 5 1 60 125) base K L f [.ref a] (zQq base K (fun r L1 f1 => ∃ q, r = some q ∧ q ∉ L ∧ L1 = L ++ [q] ∧ f1 = va_up (va_up f q (eO K (cap + cap / 2) (va_cpy arr (fun _ => none) 0 0 cap))) a (eS 0 [.int mc, .ref q, .int (nI n)]))) := by
  refine z_met (by decide) (Nat.le_of_ble_eq_true rfl) (fun p e s m below meth c ls hC hM hr hlk hnm hl => ?_)
  have hx := hC.1
  have hb := hC.2.1
  have hml := hC.2.2.1
  have hown := hC.2.2.2.1
  have hts := hC.2.2.2.2.1
  generalize hA : ([.ref a] : List Value).toArray = args at hC ⊢
  generalize hQ : MQ _ _ _ _ _ _ _ = Q
  obtain ⟨locs, hlocs⟩ : ∃ z : List Loc, z = [] := ⟨_, rfl⟩
  obtain ⟨H, hH⟩ : ∃ z : Heap, z = s.heap := ⟨_, rfl⟩
  rw [← hlocs, ← hH] at hM ⊢
  have hl : lv_has ls 1 [(0, .ref a)] := hl
  refine lv_aload_n hx hb dJx4a65c_grow_d5877_0 rfl (lv_at hl 0 rfl) ?_
  refine lv_aload_n hx hb dJx4a65c_grow_d5877_1 rfl (lv_at hl 0 rfl) ?_
  refine z_get hC hM ha hfa zcl_Jx4a65c (by decide) zl_Jx4a65c_48 rfl dJx4a65c_grow_d5877_2 ?_
  refine lv_iconst (v := nI 1) hx hb dJx4a65c_grow_d5877_5 (by decide) ?_
  refine z_iadd hx hb dJx4a65c_grow_d5877_6 ?_
  rw [show n + 1 = cap + 1 by omega]
  refine z_callq (z_runV hC hM (c_growI_1 ha hfa he hfe hae hc1 hc2 hel) zy_Jx4a65c_grow_92f84 zm_Jx4a65c_69 ha hfa zcl_Jx4a65c rfl rfl rfl hl.1 (Nat.le_of_ble_eq_true rfl) ⟨by decide, by decide⟩ ⟨by decide, by decide⟩ dJx4a65c_grow_d5877_7) hM (fun r L1 f1 H locs hp hM => ?_)
  obtain ⟨q_7, rfl, hq_7, rfl, rfl⟩ := hp
  obtain ⟨f_1, ef_1⟩ : ∃ z9, z9 = va_up f q_7 (eO K (cap + cap / 2) (va_cpy arr (fun _ => none) 0 0 cap)) := ⟨_, rfl⟩
  rw [← ef_1] at hM
  have hN_4 : a ≠ q_7 := fun h => hq_7 (h ▸ ha)
  have hL_2 : a ∈ L ++ [q_7] := List.mem_append_left _ ha
  have hF_3 : f_1 a = eS 0 [.int mc, .ref ee, .int (nI n)] := by rw [ef_1]; exact (va_up_ne _ _ hN_4).trans hfa
  have hN_7 : ee ≠ q_7 := fun h => hq_7 (h ▸ he)
  have hL_5 : ee ∈ L ++ [q_7] := List.mem_append_left _ he
  have hF_6 : f_1 ee = eO K cap arr := by rw [ef_1]; exact (va_up_ne _ _ hN_7).trans hfe
  have hL_8 : q_7 ∈ L ++ [q_7] := List.mem_append_right _ List.mem_cons_self
  have hF_9 : f_1 q_7 = eO K (cap + cap / 2) (va_cpy arr (fun _ => none) 0 0 cap) := by rw [ef_1]; exact va_up_self _ _ _
  obtain ⟨f_10, ef_10⟩ : ∃ z9, z9 = va_up f_1 a (eS 0 [.int mc, .ref q_7, .int (nI n)]) := ⟨_, rfl⟩
  rw [← ef_10] at hM
  have hF_11 : f_10 a = eS 0 [.int mc, .ref q_7, .int (nI n)] := by rw [ef_10]; exact va_up_self _ _ _
  have hF_12 : f_10 ee = eO K cap arr := by rw [ef_10]; exact (va_up_ne _ _ (Ne.symm hae)).trans hF_6
  have hF_13 : f_10 q_7 = eO K (cap + cap / 2) (va_cpy arr (fun _ => none) 0 0 cap) := by rw [ef_10]; exact (va_up_ne _ _ (Ne.symm hN_4)).trans hF_9
  rw [← hQ]
  exact z_qret (v := (some q_7)) hC hM hr (Or.inr ⟨_, rfl⟩) hlk (by decide) (by decide) ⟨q_7, rfl, hq_7, rfl, (by rw [ef_10, ef_1])⟩ dJx4a65c_grow_d5877_10
set_option maxHeartbeats 400000 in
set_option maxRecDepth 100000 in
theorem c_grow_0 {l : Launch} {base : Nat} {K : zK} {L : List Nat} {f : Nat → va_E} {a : Nat} {mc : Int32} (ha : a ∈ L) (hfa : f a = eS 0 [.int mc, .ref K.2.2.1, .int (nI 0)]) (hz : K.2.2.1 ∉ L) : zMet l yJx4a65c_grow_d5877 cJx4a65c_grow_d5877 1 (some (.array (.object "java/lang/Object"))) (zr 2 1 60 45) base K L f [.ref a] (zQq base K (fun r L1 f1 => ∃ q, r = some q ∧ q ∉ L ∧ L1 = L ++ [q] ∧ f1 = va_up (va_up f q (eO K 10 (fun _ => none))) a (eS 0 [.int mc, .ref q, .int (nI 0)]))) := by
  refine z_met (by decide) (Nat.le_of_ble_eq_true rfl) (fun p e s m below meth c ls hC hM hr hlk hnm hl => ?_)
  have hx := hC.1
  have hb := hC.2.1
  have hml := hC.2.2.1
  have hown := hC.2.2.2.1
  have hts := hC.2.2.2.2.1
  generalize hA : ([.ref a] : List Value).toArray = args at hC ⊢
  generalize hQ : MQ _ _ _ _ _ _ _ = Q
  obtain ⟨locs, hlocs⟩ : ∃ z : List Loc, z = [] := ⟨_, rfl⟩
  obtain ⟨H, hH⟩ : ∃ z : Heap, z = s.heap := ⟨_, rfl⟩
  rw [← hlocs, ← hH] at hM ⊢
  have hl : lv_has ls 1 [(0, .ref a)] := hl
  refine lv_aload_n hx hb dJx4a65c_grow_d5877_0 rfl (lv_at hl 0 rfl) ?_
  refine lv_aload_n hx hb dJx4a65c_grow_d5877_1 rfl (lv_at hl 0 rfl) ?_
  refine z_get hC hM ha hfa zcl_Jx4a65c (by decide) zl_Jx4a65c_48 rfl dJx4a65c_grow_d5877_2 ?_
  refine lv_iconst (v := nI 1) hx hb dJx4a65c_grow_d5877_5 (by decide) ?_
  refine z_iadd hx hb dJx4a65c_grow_d5877_6 ?_
  refine z_callq (z_runV hC hM (c_growI_0 ha hfa hz) zy_Jx4a65c_grow_92f84 zm_Jx4a65c_69 ha hfa zcl_Jx4a65c rfl rfl rfl hl.1 (Nat.le_of_ble_eq_true rfl) ⟨by decide, by decide⟩ ⟨by decide, by decide⟩ dJx4a65c_grow_d5877_7) hM (fun r L1 f1 H locs hp hM => ?_)
  obtain ⟨q_7, rfl, hq_7, rfl, rfl⟩ := hp
  obtain ⟨f_1, ef_1⟩ : ∃ z9, z9 = va_up f q_7 (eO K 10 (fun _ => none)) := ⟨_, rfl⟩
  rw [← ef_1] at hM
  have hN_4 : a ≠ q_7 := fun h => hq_7 (h ▸ ha)
  have hL_2 : a ∈ L ++ [q_7] := List.mem_append_left _ ha
  have hF_3 : f_1 a = eS 0 [.int mc, .ref K.2.2.1, .int (nI 0)] := by rw [ef_1]; exact (va_up_ne _ _ hN_4).trans hfa
  have hL_5 : q_7 ∈ L ++ [q_7] := List.mem_append_right _ List.mem_cons_self
  have hF_6 : f_1 q_7 = eO K 10 (fun _ => none) := by rw [ef_1]; exact va_up_self _ _ _
  obtain ⟨f_7, ef_7⟩ : ∃ z9, z9 = va_up f_1 a (eS 0 [.int mc, .ref q_7, .int (nI 0)]) := ⟨_, rfl⟩
  rw [← ef_7] at hM
  have hF_8 : f_7 a = eS 0 [.int mc, .ref q_7, .int (nI 0)] := by rw [ef_7]; exact va_up_self _ _ _
  have hF_9 : f_7 q_7 = eO K 10 (fun _ => none) := by rw [ef_7]; exact (va_up_ne _ _ (Ne.symm hN_4)).trans hF_6
  rw [← hQ]
  exact z_qret (v := (some q_7)) hC hM hr (Or.inr ⟨_, rfl⟩) hlk (by decide) (by decide) ⟨q_7, rfl, hq_7, rfl, (by rw [ef_7, ef_1])⟩ dJx4a65c_grow_d5877_10
set_option maxHeartbeats 400000 in
set_option maxRecDepth 100000 in
theorem c_add3_r {l : Launch} {base : Nat} {K : zK} {L : List Nat} {f : Nat → va_E} {a ee n cap q : Nat} {mc : Int32} {arr : Nat → Option Nat} (ha : a ∈ L) (hfa : f a = eS 0 [.int mc, .ref ee, .int (nI n)]) (he : ee ∈ L) (hfe : f ee = eO K cap arr) (hae : a ≠ ee) (hq : zAny L f q) (hn : n < cap) (hc2 : cap ≤ 60) : zMet l yJx4a65c_add_72be8 cJx4a65c_add_72be8 4 (none) (zr 0 0 0 0) base K L f [.ref a, .ref q, .ref ee, .int (nI n)] (zFv base K L (va_up (va_up f ee (eO K cap (va_up arr n (some q)))) a (eS 0 [.int mc, .ref ee, .int (nI (n + 1))]))) := by
  refine z_met (by decide) (Nat.le_of_ble_eq_true rfl) (fun p e s m below meth c ls hC hM hr hlk hnm hl => ?_)
  have hx := hC.1
  have hb := hC.2.1
  have hml := hC.2.2.1
  have hown := hC.2.2.2.1
  have hts := hC.2.2.2.2.1
  generalize hA : ([.ref a, .ref q, .ref ee, .int (nI n)] : List Value).toArray = args at hC ⊢
  generalize hQ : MQ _ _ _ _ _ _ _ = Q
  obtain ⟨locs, hlocs⟩ : ∃ z : List Loc, z = [] := ⟨_, rfl⟩
  obtain ⟨H, hH⟩ : ∃ z : Heap, z = s.heap := ⟨_, rfl⟩
  rw [← hlocs, ← hH] at hM ⊢
  have hl : lv_has ls 4 [(0, .ref a), (1, .ref q), (2, .ref ee), (3, .int (nI n))] := hl
  refine lv_iload_n hx hb dJx4a65c_add_72be8_0 rfl (lv_at hl 3 rfl) ?_
  refine lv_aload_n hx hb dJx4a65c_add_72be8_1 rfl (lv_at hl 2 rfl) ?_
  refine z_alen (n := cap) 3 hC hM he hfe rfl rfl dJx4a65c_add_72be8_2 ?_
  refine z_icmp_ne (tgt := 11) hx hb (nI_toInt (by omega)) (nI_toInt (by omega)) dJx4a65c_add_72be8_3 (by decide) (fun c_3 => ?_) (fun c_3 => ?_)
  · refine lv_aload_n hx hb dJx4a65c_add_72be8_11 rfl (lv_at hl 2 rfl) ?_
    refine lv_iload_n hx hb dJx4a65c_add_72be8_12 rfl (lv_at hl 3 rfl) ?_
    refine lv_aload_n hx hb dJx4a65c_add_72be8_13 rfl (lv_at hl 1 rfl) ?_
    refine z_aast hC hM he hfe hq (by omega) (by omega) dJx4a65c_add_72be8_14 (fun H locs hM => ?_)
    obtain ⟨f_1, ef_1⟩ : ∃ z9, z9 = va_up f ee (eO K cap (va_up arr n (some q))) := ⟨_, rfl⟩
    rw [← ef_1] at hM
    have hF_2 : f_1 a = eS 0 [.int mc, .ref ee, .int (nI n)] := by rw [ef_1]; exact (va_up_ne _ _ hae).trans hfa
    have hF_3 : f_1 ee = eO K cap (va_up arr n (some q)) := by rw [ef_1]; exact va_up_self _ _ _
    refine lv_aload_n hx hb dJx4a65c_add_72be8_15 rfl (lv_at hl 0 rfl) ?_
    refine lv_iload_n hx hb dJx4a65c_add_72be8_16 rfl (lv_at hl 3 rfl) ?_
    refine lv_iconst (v := nI 1) hx hb dJx4a65c_add_72be8_17 (by decide) ?_
    refine z_iadd hx hb dJx4a65c_add_72be8_18 ?_
    refine z_put (fs' := [.int mc, .ref ee, .int (nI (n + 1))]) hC hM ha hF_2 zcl_Jx4a65c (by decide) zl_Jx4a65c_48 rfl rfl (by rfl) (Nat.le_of_ble_eq_true rfl) rfl dJx4a65c_add_72be8_19 (fun H locs hM => ?_)
    obtain ⟨f_4, ef_4⟩ : ∃ z9, z9 = va_up f_1 a (eS 0 [.int mc, .ref ee, .int (nI (n + 1))]) := ⟨_, rfl⟩
    rw [← ef_4] at hM
    have hF_5 : f_4 a = eS 0 [.int mc, .ref ee, .int (nI (n + 1))] := by rw [ef_4]; exact va_up_self _ _ _
    have hF_6 : f_4 ee = eO K cap (va_up arr n (some q)) := by rw [ef_4]; exact (va_up_ne _ _ (Ne.symm hae)).trans hF_3
    rw [← hQ]
    exact z_vret hC hM hr hlk (by decide) (by decide) ⟨rfl, (by rw [ef_4, ef_1])⟩ dJx4a65c_add_72be8_22
  · exact absurd c_3 (by omega)
set_option maxHeartbeats 400000 in
set_option maxRecDepth 100000 in
theorem c_add3_0 {l : Launch} {base : Nat} {K : zK} {L : List Nat} {f : Nat → va_E} {a q : Nat} {mc : Int32} (ha : a ∈ L) (hfa : f a = eS 0 [.int mc, .ref K.2.2.1, .int (nI 0)]) (hz : K.2.2.1 ∉ L) (hq : zAny L f q) : zMet l yJx4a65c_add_72be8 cJx4a65c_add_72be8 4 (none) (zr 3 1 60 70) base K L f [.ref a, .ref q, .ref K.2.2.1, .int (nI 0)] (zQv base K (fun L1 f1 => ∃ x, x ∉ L ∧ L1 = L ++ [x] ∧ f1 = va_up (va_up f x (eO K 10 (va_up (fun _ => none) 0 (some q)))) a (eS 0 [.int mc, .ref x, .int (nI 1)]))) := by
  refine z_met (by decide) (Nat.le_of_ble_eq_true rfl) (fun p e s m below meth c ls hC hM hr hlk hnm hl => ?_)
  have hx := hC.1
  have hb := hC.2.1
  have hml := hC.2.2.1
  have hown := hC.2.2.2.1
  have hts := hC.2.2.2.2.1
  generalize hA : ([.ref a, .ref q, .ref K.2.2.1, .int (nI 0)] : List Value).toArray = args at hC ⊢
  generalize hQ : MQ _ _ _ _ _ _ _ = Q
  obtain ⟨locs, hlocs⟩ : ∃ z : List Loc, z = [] := ⟨_, rfl⟩
  obtain ⟨H, hH⟩ : ∃ z : Heap, z = s.heap := ⟨_, rfl⟩
  rw [← hlocs, ← hH] at hM ⊢
  have hl : lv_has ls 4 [(0, .ref a), (1, .ref q), (2, .ref K.2.2.1), (3, .int (nI 0))] := hl
  refine lv_iload_n hx hb dJx4a65c_add_72be8_0 rfl (lv_at hl 3 rfl) ?_
  refine lv_aload_n hx hb dJx4a65c_add_72be8_1 rfl (lv_at hl 2 rfl) ?_
  refine z_alen0 hC hM dJx4a65c_add_72be8_2 ?_
  refine z_icmp_ne (tgt := 11) hx hb (nI_toInt (by decide)) (nI_toInt (by decide)) dJx4a65c_add_72be8_3 (by decide) (fun c_3 => ?_) (fun c_3 => ?_)
  · exact absurd rfl c_3
  · refine lv_aload_n hx hb dJx4a65c_add_72be8_6 rfl (lv_at hl 0 rfl) ?_
    refine z_callq (z_runV hC hM (c_grow_0 ha hfa hz) zy_Jx4a65c_grow_d5877 zm_Jx4a65c_129 ha hfa zcl_Jx4a65c rfl rfl rfl hl.1 (Nat.le_of_ble_eq_true rfl) ⟨by decide, by decide⟩ ⟨by decide, by decide⟩ dJx4a65c_add_72be8_7) hM (fun r L1 f1 H locs hp hM => ?_)
    obtain ⟨q_7, rfl, hq_7, rfl, rfl⟩ := hp
    obtain ⟨f_1, ef_1⟩ : ∃ z9, z9 = va_up f q_7 (eO K 10 (fun _ => none)) := ⟨_, rfl⟩
    rw [← ef_1] at hM
    have hN_4 : a ≠ q_7 := fun h => hq_7 (h ▸ ha)
    have hL_2 : a ∈ L ++ [q_7] := List.mem_append_left _ ha
    have hF_3 : f_1 a = eS 0 [.int mc, .ref K.2.2.1, .int (nI 0)] := by rw [ef_1]; exact (va_up_ne _ _ hN_4).trans hfa
    have hL_5 : q_7 ∈ L ++ [q_7] := List.mem_append_right _ List.mem_cons_self
    have hF_6 : f_1 q_7 = eO K 10 (fun _ => none) := by rw [ef_1]; exact va_up_self _ _ _
    obtain ⟨f_7, ef_7⟩ : ∃ z9, z9 = va_up f_1 a (eS 0 [.int mc, .ref q_7, .int (nI 0)]) := ⟨_, rfl⟩
    rw [← ef_7] at hM
    have hF_8 : f_7 a = eS 0 [.int mc, .ref q_7, .int (nI 0)] := by rw [ef_7]; exact va_up_self _ _ _
    have hF_9 : f_7 q_7 = eO K 10 (fun _ => none) := by rw [ef_7]; exact (va_up_ne _ _ (Ne.symm hN_4)).trans hF_6
    refine lv_astore_n (lv' := [(2, .ref q_7), (0, .ref a), (1, .ref q), (3, .int (nI 0))]) hx hb dJx4a65c_add_72be8_10 rfl hl (by decide) rfl (fun ls hl => ?_)
    refine lv_aload_n hx hb dJx4a65c_add_72be8_11 rfl (lv_at hl 0 rfl) ?_
    refine lv_iload_n hx hb dJx4a65c_add_72be8_12 rfl (lv_at hl 3 rfl) ?_
    refine lv_aload_n hx hb dJx4a65c_add_72be8_13 rfl (lv_at hl 2 rfl) ?_
    refine z_aast hC hM hL_5 hF_9 (z_anyObj (z_anyUp hq_7 hq ef_1) hF_3 ef_7) (by omega) (by omega) dJx4a65c_add_72be8_14 (fun H locs hM => ?_)
    obtain ⟨f_10, ef_10⟩ : ∃ z9, z9 = va_up f_7 q_7 (eO K 10 (va_up (fun _ => none) 0 (some q))) := ⟨_, rfl⟩
    rw [← ef_10] at hM
    have hF_11 : f_10 a = eS 0 [.int mc, .ref q_7, .int (nI 0)] := by rw [ef_10]; exact (va_up_ne _ _ hN_4).trans hF_8
    have hF_12 : f_10 q_7 = eO K 10 (va_up (fun _ => none) 0 (some q)) := by rw [ef_10]; exact va_up_self _ _ _
    refine lv_aload_n hx hb dJx4a65c_add_72be8_15 rfl (lv_at hl 1 rfl) ?_
    refine lv_iload_n hx hb dJx4a65c_add_72be8_16 rfl (lv_at hl 3 rfl) ?_
    refine lv_iconst (v := nI 1) hx hb dJx4a65c_add_72be8_17 (by decide) ?_
    refine z_iadd hx hb dJx4a65c_add_72be8_18 ?_
    refine z_put (fs' := [.int mc, .ref q_7, .int (nI (0 + 1))]) hC hM hL_2 hF_11 zcl_Jx4a65c (by decide) zl_Jx4a65c_48 rfl rfl (by rfl) (Nat.le_of_ble_eq_true rfl) rfl dJx4a65c_add_72be8_19 (fun H locs hM => ?_)
    obtain ⟨f_13, ef_13⟩ : ∃ z9, z9 = va_up f_10 a (eS 0 [.int mc, .ref q_7, .int (nI (0 + 1))]) := ⟨_, rfl⟩
    rw [← ef_13] at hM
    have hF_14 : f_13 a = eS 0 [.int mc, .ref q_7, .int (nI (0 + 1))] := by rw [ef_13]; exact va_up_self _ _ _
    have hF_15 : f_13 q_7 = eO K 10 (va_up (fun _ => none) 0 (some q)) := by rw [ef_13]; exact (va_up_ne _ _ (Ne.symm hN_4)).trans hF_12
    rw [← hQ]
    exact z_vret hC hM hr hlk (by decide) (by decide) ⟨q_7, hq_7, rfl, (by rw [ef_13, ef_10, ef_7, ef_1, up_4 _ hN_4])⟩ dJx4a65c_add_72be8_22
set_option maxHeartbeats 400000 in
set_option maxRecDepth 100000 in
theorem c_add3_1 {l : Launch} {base : Nat} {K : zK} {L : List Nat} {f : Nat → va_E} {a ee n cap q : Nat} {mc : Int32} {arr : Nat → Option Nat} (ha : a ∈ L) (hfa : f a = eS 0 [.int mc, .ref ee, .int (nI n)]) (he : ee ∈ L) (hfe : f ee = eO K cap arr) (hae : a ≠ ee) (hq : zAny L f q) (hn : n = cap) (hc1 : 10 ≤ cap) (hc2 : cap ≤ 40) (hel : ∀ i, i < cap → ∀ y, arr i = some y → zAny L f y) : zMet l yJx4a65c_add_72be8 cJx4a65c_add_72be8 4 (none) (zr 6 1 60 150) base K L f [.ref a, .ref q, .ref ee, .int (nI n)] (zQv base K (fun L1 f1 => ∃ x, x ∉ L ∧ L1 = L ++ [x] ∧ f1 = va_up (va_up f x (eO K (cap + cap / 2) (va_up (va_cpy arr (fun _ => none) 0 0 cap) n (some q)))) a (eS 0 [.int mc, .ref x, .int (nI (n + 1))]))) := by
  refine z_met (by decide) (Nat.le_of_ble_eq_true rfl) (fun p e s m below meth c ls hC hM hr hlk hnm hl => ?_)
  have hx := hC.1
  have hb := hC.2.1
  have hml := hC.2.2.1
  have hown := hC.2.2.2.1
  have hts := hC.2.2.2.2.1
  generalize hA : ([.ref a, .ref q, .ref ee, .int (nI n)] : List Value).toArray = args at hC ⊢
  generalize hQ : MQ _ _ _ _ _ _ _ = Q
  obtain ⟨locs, hlocs⟩ : ∃ z : List Loc, z = [] := ⟨_, rfl⟩
  obtain ⟨H, hH⟩ : ∃ z : Heap, z = s.heap := ⟨_, rfl⟩
  rw [← hlocs, ← hH] at hM ⊢
  have hl : lv_has ls 4 [(0, .ref a), (1, .ref q), (2, .ref ee), (3, .int (nI n))] := hl
  refine lv_iload_n hx hb dJx4a65c_add_72be8_0 rfl (lv_at hl 3 rfl) ?_
  refine lv_aload_n hx hb dJx4a65c_add_72be8_1 rfl (lv_at hl 2 rfl) ?_
  refine z_alen (n := cap) 3 hC hM he hfe rfl rfl dJx4a65c_add_72be8_2 ?_
  refine z_icmp_ne (tgt := 11) hx hb (nI_toInt (by omega)) (nI_toInt (by omega)) dJx4a65c_add_72be8_3 (by decide) (fun c_3 => ?_) (fun c_3 => ?_)
  · exact absurd (by omega) c_3
  · refine lv_aload_n hx hb dJx4a65c_add_72be8_6 rfl (lv_at hl 0 rfl) ?_
    refine z_callq (z_runV hC hM (c_grow_1 ha hfa he hfe hae hn hc1 hc2 hel) zy_Jx4a65c_grow_d5877 zm_Jx4a65c_129 ha hfa zcl_Jx4a65c rfl rfl rfl hl.1 (Nat.le_of_ble_eq_true rfl) ⟨by decide, by decide⟩ ⟨by decide, by decide⟩ dJx4a65c_add_72be8_7) hM (fun r L1 f1 H locs hp hM => ?_)
    obtain ⟨q_7, rfl, hq_7, rfl, rfl⟩ := hp
    obtain ⟨f_1, ef_1⟩ : ∃ z9, z9 = va_up f q_7 (eO K (cap + cap / 2) (va_cpy arr (fun _ => none) 0 0 cap)) := ⟨_, rfl⟩
    rw [← ef_1] at hM
    have hN_4 : a ≠ q_7 := fun h => hq_7 (h ▸ ha)
    have hL_2 : a ∈ L ++ [q_7] := List.mem_append_left _ ha
    have hF_3 : f_1 a = eS 0 [.int mc, .ref ee, .int (nI n)] := by rw [ef_1]; exact (va_up_ne _ _ hN_4).trans hfa
    have hN_7 : ee ≠ q_7 := fun h => hq_7 (h ▸ he)
    have hL_5 : ee ∈ L ++ [q_7] := List.mem_append_left _ he
    have hF_6 : f_1 ee = eO K cap arr := by rw [ef_1]; exact (va_up_ne _ _ hN_7).trans hfe
    have hL_8 : q_7 ∈ L ++ [q_7] := List.mem_append_right _ List.mem_cons_self
    have hF_9 : f_1 q_7 = eO K (cap + cap / 2) (va_cpy arr (fun _ => none) 0 0 cap) := by rw [ef_1]; exact va_up_self _ _ _
    obtain ⟨f_10, ef_10⟩ : ∃ z9, z9 = va_up f_1 a (eS 0 [.int mc, .ref q_7, .int (nI n)]) := ⟨_, rfl⟩
    rw [← ef_10] at hM
    have hF_11 : f_10 a = eS 0 [.int mc, .ref q_7, .int (nI n)] := by rw [ef_10]; exact va_up_self _ _ _
    have hF_12 : f_10 ee = eO K cap arr := by rw [ef_10]; exact (va_up_ne _ _ (Ne.symm hae)).trans hF_6
    have hF_13 : f_10 q_7 = eO K (cap + cap / 2) (va_cpy arr (fun _ => none) 0 0 cap) := by rw [ef_10]; exact (va_up_ne _ _ (Ne.symm hN_4)).trans hF_9
    refine lv_astore_n (lv' := [(2, .ref q_7), (0, .ref a), (1, .ref q), (3, .int (nI n))]) hx hb dJx4a65c_add_72be8_10 rfl hl (by decide) rfl (fun ls hl => ?_)
    refine lv_aload_n hx hb dJx4a65c_add_72be8_11 rfl (lv_at hl 0 rfl) ?_
    refine lv_iload_n hx hb dJx4a65c_add_72be8_12 rfl (lv_at hl 3 rfl) ?_
    refine lv_aload_n hx hb dJx4a65c_add_72be8_13 rfl (lv_at hl 2 rfl) ?_
    refine z_aast hC hM hL_8 hF_13 (z_anyObj (z_anyUp hq_7 hq ef_1) hF_3 ef_10) (by omega) (by omega) dJx4a65c_add_72be8_14 (fun H locs hM => ?_)
    obtain ⟨f_14, ef_14⟩ : ∃ z9, z9 = va_up f_10 q_7 (eO K (cap + cap / 2) (va_up (va_cpy arr (fun _ => none) 0 0 cap) n (some q))) := ⟨_, rfl⟩
    rw [← ef_14] at hM
    have hF_15 : f_14 a = eS 0 [.int mc, .ref q_7, .int (nI n)] := by rw [ef_14]; exact (va_up_ne _ _ hN_4).trans hF_11
    have hF_16 : f_14 ee = eO K cap arr := by rw [ef_14]; exact (va_up_ne _ _ hN_7).trans hF_12
    have hF_17 : f_14 q_7 = eO K (cap + cap / 2) (va_up (va_cpy arr (fun _ => none) 0 0 cap) n (some q)) := by rw [ef_14]; exact va_up_self _ _ _
    refine lv_aload_n hx hb dJx4a65c_add_72be8_15 rfl (lv_at hl 1 rfl) ?_
    refine lv_iload_n hx hb dJx4a65c_add_72be8_16 rfl (lv_at hl 3 rfl) ?_
    refine lv_iconst (v := nI 1) hx hb dJx4a65c_add_72be8_17 (by decide) ?_
    refine z_iadd hx hb dJx4a65c_add_72be8_18 ?_
    refine z_put (fs' := [.int mc, .ref q_7, .int (nI (n + 1))]) hC hM hL_2 hF_15 zcl_Jx4a65c (by decide) zl_Jx4a65c_48 rfl rfl (by rfl) (Nat.le_of_ble_eq_true rfl) rfl dJx4a65c_add_72be8_19 (fun H locs hM => ?_)
    obtain ⟨f_18, ef_18⟩ : ∃ z9, z9 = va_up f_14 a (eS 0 [.int mc, .ref q_7, .int (nI (n + 1))]) := ⟨_, rfl⟩
    rw [← ef_18] at hM
    have hF_19 : f_18 a = eS 0 [.int mc, .ref q_7, .int (nI (n + 1))] := by rw [ef_18]; exact va_up_self _ _ _
    have hF_20 : f_18 ee = eO K cap arr := by rw [ef_18]; exact (va_up_ne _ _ (Ne.symm hae)).trans hF_16
    have hF_21 : f_18 q_7 = eO K (cap + cap / 2) (va_up (va_cpy arr (fun _ => none) 0 0 cap) n (some q)) := by rw [ef_18]; exact (va_up_ne _ _ (Ne.symm hN_4)).trans hF_17
    rw [← hQ]
    exact z_vret hC hM hr hlk (by decide) (by decide) ⟨q_7, hq_7, rfl, (by rw [ef_18, ef_14, ef_10, ef_1, up_4 _ hN_4])⟩ dJx4a65c_add_72be8_22
set_option maxHeartbeats 400000 in
set_option maxRecDepth 100000 in
theorem c_add_r {l : Launch} {base : Nat} {K : zK} {L : List Nat} {f : Nat → va_E} {a ee n cap q : Nat} {mc : Int32} {arr : Nat → Option Nat} (ha : a ∈ L) (hfa : f a = eS 0 [.int mc, .ref ee, .int (nI n)]) (he : ee ∈ L) (hfe : f ee = eO K cap arr) (hae : a ≠ ee) (hq : zAny L f q) (hn : n < cap) (hc2 : cap ≤ 60) : zMet l yJx4a65c_add_9ea2d cJx4a65c_add_9ea2d 2 (some .boolean) (zr 1 0 0 23) base K L f [.ref a, .ref q] (zFi base K (nI 1) L (va_up (va_up f ee (eO K cap (va_up arr n (some q)))) a (eS 0 [.int (mc + 1), .ref ee, .int (nI (n + 1))]))) := by
  refine z_met (by decide) (Nat.le_of_ble_eq_true rfl) (fun p e s m below meth c ls hC hM hr hlk hnm hl => ?_)
  have hx := hC.1
  have hb := hC.2.1
  have hml := hC.2.2.1
  have hown := hC.2.2.2.1
  have hts := hC.2.2.2.2.1
  generalize hA : ([.ref a, .ref q] : List Value).toArray = args at hC ⊢
  generalize hQ : MQ _ _ _ _ _ _ _ = Q
  obtain ⟨locs, hlocs⟩ : ∃ z : List Loc, z = [] := ⟨_, rfl⟩
  obtain ⟨H, hH⟩ : ∃ z : Heap, z = s.heap := ⟨_, rfl⟩
  rw [← hlocs, ← hH] at hM ⊢
  have hl : lv_has ls 2 [(0, .ref a), (1, .ref q)] := hl
  refine lv_aload_n hx hb dJx4a65c_add_9ea2d_0 rfl (lv_at hl 0 rfl) ?_
  refine lv_dup hx hb dJx4a65c_add_9ea2d_1 rfl ?_
  refine z_get hC hM ha hfa zcl_Jx4a65c (by decide) zl_Jx4a65c_63 rfl dJx4a65c_add_9ea2d_2 ?_
  refine lv_iconst (v := nI 1) hx hb dJx4a65c_add_9ea2d_5 (by decide) ?_
  refine lv_iadd hx hb dJx4a65c_add_9ea2d_6 ?_
  refine z_put (fs' := [.int (mc + (nI 1)), .ref ee, .int (nI n)]) hC hM ha hfa zcl_Jx4a65c (by decide) zl_Jx4a65c_63 rfl rfl (by rfl) (Nat.le_of_ble_eq_true rfl) rfl dJx4a65c_add_9ea2d_7 (fun H locs hM => ?_)
  obtain ⟨f_1, ef_1⟩ : ∃ z9, z9 = va_up f a (eS 0 [.int (mc + (nI 1)), .ref ee, .int (nI n)]) := ⟨_, rfl⟩
  rw [← ef_1] at hM
  have hF_2 : f_1 a = eS 0 [.int (mc + (nI 1)), .ref ee, .int (nI n)] := by rw [ef_1]; exact va_up_self _ _ _
  have hF_3 : f_1 ee = eO K cap arr := by rw [ef_1]; exact (va_up_ne _ _ (Ne.symm hae)).trans hfe
  refine lv_aload_n hx hb dJx4a65c_add_9ea2d_10 rfl (lv_at hl 0 rfl) ?_
  refine lv_aload_n hx hb dJx4a65c_add_9ea2d_11 rfl (lv_at hl 1 rfl) ?_
  refine lv_aload_n hx hb dJx4a65c_add_9ea2d_12 rfl (lv_at hl 0 rfl) ?_
  refine z_get hC hM ha hF_2 zcl_Jx4a65c (by decide) zl_Jx4a65c_9 rfl dJx4a65c_add_9ea2d_13 ?_
  refine lv_aload_n hx hb dJx4a65c_add_9ea2d_16 rfl (lv_at hl 0 rfl) ?_
  refine z_get hC hM ha hF_2 zcl_Jx4a65c (by decide) zl_Jx4a65c_48 rfl dJx4a65c_add_9ea2d_17 ?_
  refine z_fcallv (z_runV hC hM (c_add3_r ha hF_2 he hF_3 hae (z_anyObj hq hfa ef_1) hn hc2) zy_Jx4a65c_add_72be8 zm_Jx4a65c_131 ha hF_2 zcl_Jx4a65c rfl rfl rfl hl.1 (Nat.le_of_ble_eq_true rfl) ⟨by decide, by decide⟩ ⟨by decide, by decide⟩ dJx4a65c_add_9ea2d_20) hM (fun H locs hM => ?_)
  obtain ⟨f_4, ef_4⟩ : ∃ z9, z9 = va_up f_1 ee (eO K cap (va_up arr n (some q))) := ⟨_, rfl⟩
  rw [← ef_4] at hM
  have hF_5 : f_4 a = eS 0 [.int (mc + (nI 1)), .ref ee, .int (nI n)] := by rw [ef_4]; exact (va_up_ne _ _ hae).trans hF_2
  have hF_6 : f_4 ee = eO K cap (va_up arr n (some q)) := by rw [ef_4]; exact va_up_self _ _ _
  obtain ⟨f_7, ef_7⟩ : ∃ z9, z9 = va_up f_4 a (eS 0 [.int (mc + nI 1), .ref ee, .int (nI (n + 1))]) := ⟨_, rfl⟩
  rw [← ef_7] at hM
  have hF_8 : f_7 a = eS 0 [.int (mc + nI 1), .ref ee, .int (nI (n + 1))] := by rw [ef_7]; exact va_up_self _ _ _
  have hF_9 : f_7 ee = eO K cap (va_up arr n (some q)) := by rw [ef_7]; exact (va_up_ne _ _ (Ne.symm hae)).trans hF_6
  refine lv_iconst (v := nI 1) hx hb dJx4a65c_add_9ea2d_23 (by decide) ?_
  rw [← hQ]
  exact z_iret hC hM hr hlk rfl (by decide) (by decide) ⟨rfl, rfl, (by rw [ef_7, ef_4, ef_1, up_3 _ hae]; rfl)⟩ dJx4a65c_add_9ea2d_24
set_option maxHeartbeats 400000 in
set_option maxRecDepth 100000 in
theorem c_add_0 {l : Launch} {base : Nat} {K : zK} {L : List Nat} {f : Nat → va_E} {a q : Nat} {mc : Int32} (ha : a ∈ L) (hfa : f a = eS 0 [.int mc, .ref K.2.2.1, .int (nI 0)]) (hz : K.2.2.1 ∉ L) (hq : zAny L f q) : zMet l yJx4a65c_add_9ea2d cJx4a65c_add_9ea2d 2 (some .boolean) (zr 4 1 60 95) base K L f [.ref a, .ref q] (zQi base K (fun r L1 f1 => r = nI 1 ∧ ∃ x, x ∉ L ∧ L1 = L ++ [x] ∧ f1 = va_up (va_up f x (eO K 10 (va_up (fun _ => none) 0 (some q)))) a (eS 0 [.int (mc + 1), .ref x, .int (nI 1)]))) := by
  refine z_met (by decide) (Nat.le_of_ble_eq_true rfl) (fun p e s m below meth c ls hC hM hr hlk hnm hl => ?_)
  have hx := hC.1
  have hb := hC.2.1
  have hml := hC.2.2.1
  have hown := hC.2.2.2.1
  have hts := hC.2.2.2.2.1
  generalize hA : ([.ref a, .ref q] : List Value).toArray = args at hC ⊢
  generalize hQ : MQ _ _ _ _ _ _ _ = Q
  obtain ⟨locs, hlocs⟩ : ∃ z : List Loc, z = [] := ⟨_, rfl⟩
  obtain ⟨H, hH⟩ : ∃ z : Heap, z = s.heap := ⟨_, rfl⟩
  rw [← hlocs, ← hH] at hM ⊢
  have hl : lv_has ls 2 [(0, .ref a), (1, .ref q)] := hl
  refine lv_aload_n hx hb dJx4a65c_add_9ea2d_0 rfl (lv_at hl 0 rfl) ?_
  refine lv_dup hx hb dJx4a65c_add_9ea2d_1 rfl ?_
  refine z_get hC hM ha hfa zcl_Jx4a65c (by decide) zl_Jx4a65c_63 rfl dJx4a65c_add_9ea2d_2 ?_
  refine lv_iconst (v := nI 1) hx hb dJx4a65c_add_9ea2d_5 (by decide) ?_
  refine lv_iadd hx hb dJx4a65c_add_9ea2d_6 ?_
  refine z_put (fs' := [.int (mc + (nI 1)), .ref K.2.2.1, .int (nI 0)]) hC hM ha hfa zcl_Jx4a65c (by decide) zl_Jx4a65c_63 rfl rfl (by rfl) (Nat.le_of_ble_eq_true rfl) rfl dJx4a65c_add_9ea2d_7 (fun H locs hM => ?_)
  obtain ⟨f_1, ef_1⟩ : ∃ z9, z9 = va_up f a (eS 0 [.int (mc + (nI 1)), .ref K.2.2.1, .int (nI 0)]) := ⟨_, rfl⟩
  rw [← ef_1] at hM
  have hF_2 : f_1 a = eS 0 [.int (mc + (nI 1)), .ref K.2.2.1, .int (nI 0)] := by rw [ef_1]; exact va_up_self _ _ _
  refine lv_aload_n hx hb dJx4a65c_add_9ea2d_10 rfl (lv_at hl 0 rfl) ?_
  refine lv_aload_n hx hb dJx4a65c_add_9ea2d_11 rfl (lv_at hl 1 rfl) ?_
  refine lv_aload_n hx hb dJx4a65c_add_9ea2d_12 rfl (lv_at hl 0 rfl) ?_
  refine z_get hC hM ha hF_2 zcl_Jx4a65c (by decide) zl_Jx4a65c_9 rfl dJx4a65c_add_9ea2d_13 ?_
  refine lv_aload_n hx hb dJx4a65c_add_9ea2d_16 rfl (lv_at hl 0 rfl) ?_
  refine z_get hC hM ha hF_2 zcl_Jx4a65c (by decide) zl_Jx4a65c_48 rfl dJx4a65c_add_9ea2d_17 ?_
  refine z_callv (z_runV hC hM (c_add3_0 ha hF_2 hz (z_anyObj hq hfa ef_1)) zy_Jx4a65c_add_72be8 zm_Jx4a65c_131 ha hF_2 zcl_Jx4a65c rfl rfl rfl hl.1 (Nat.le_of_ble_eq_true rfl) ⟨by decide, by decide⟩ ⟨by decide, by decide⟩ dJx4a65c_add_9ea2d_20) hM (fun L1 f1 H locs hp hM => ?_)
  obtain ⟨q_20, hq_20, rfl, rfl⟩ := hp
  obtain ⟨f_3, ef_3⟩ : ∃ z9, z9 = va_up f_1 q_20 (eO K 10 (va_up (fun _ => none) 0 (some q))) := ⟨_, rfl⟩
  rw [← ef_3] at hM
  have hN_6 : a ≠ q_20 := fun h => hq_20 (h ▸ ha)
  have hL_4 : a ∈ L ++ [q_20] := List.mem_append_left _ ha
  have hF_5 : f_3 a = eS 0 [.int (mc + (nI 1)), .ref K.2.2.1, .int (nI 0)] := by rw [ef_3]; exact (va_up_ne _ _ hN_6).trans hF_2
  have hL_7 : q_20 ∈ L ++ [q_20] := List.mem_append_right _ List.mem_cons_self
  have hF_8 : f_3 q_20 = eO K 10 (va_up (fun _ => none) 0 (some q)) := by rw [ef_3]; exact va_up_self _ _ _
  obtain ⟨f_9, ef_9⟩ : ∃ z9, z9 = va_up f_3 a (eS 0 [.int (mc + nI 1), .ref q_20, .int (nI 1)]) := ⟨_, rfl⟩
  rw [← ef_9] at hM
  have hF_10 : f_9 a = eS 0 [.int (mc + nI 1), .ref q_20, .int (nI 1)] := by rw [ef_9]; exact va_up_self _ _ _
  have hF_11 : f_9 q_20 = eO K 10 (va_up (fun _ => none) 0 (some q)) := by rw [ef_9]; exact (va_up_ne _ _ (Ne.symm hN_6)).trans hF_8
  refine lv_iconst (v := nI 1) hx hb dJx4a65c_add_9ea2d_23 (by decide) ?_
  rw [← hQ]
  exact z_iret hC hM hr hlk rfl (by decide) (by decide) ⟨rfl, q_20, hq_20, rfl, (by rw [ef_9, ef_3, ef_1, up_3 _ hN_6]; rfl)⟩ dJx4a65c_add_9ea2d_24
set_option maxHeartbeats 400000 in
set_option maxRecDepth 100000 in
theorem c_add_1 {l : Launch} {base : Nat} {K : zK} {L : List Nat} {f : Nat → va_E} {a ee n cap q : Nat} {mc : Int32} {arr : Nat → Option Nat} (ha : a ∈ L) (hfa : f a = eS 0 [.int mc, .ref ee, .int (nI n)]) (he : ee ∈ L) (hfe : f ee = eO K cap arr) (hae : a ≠ ee) (hq : zAny L f q) (hn : n = cap) (hc1 : 10 ≤ cap) (hc2 : cap ≤ 40) (hel : ∀ i, i < cap → ∀ y, arr i = some y → zAny L f y) : zMet l yJx4a65c_add_9ea2d cJx4a65c_add_9ea2d 2 (some .boolean) (zr 7 1 60 175) base K L f [.ref a, .ref q] (zQi base K (fun r L1 f1 => r = nI 1 ∧ ∃ x, x ∉ L ∧ L1 = L ++ [x] ∧ f1 = va_up (va_up f x (eO K (cap + cap / 2) (va_up (va_cpy arr (fun _ => none) 0 0 cap) n (some q)))) a (eS 0 [.int (mc + 1), .ref x, .int (nI (n + 1))]))) := by
  refine z_met (by decide) (Nat.le_of_ble_eq_true rfl) (fun p e s m below meth c ls hC hM hr hlk hnm hl => ?_)
  have hx := hC.1
  have hb := hC.2.1
  have hml := hC.2.2.1
  have hown := hC.2.2.2.1
  have hts := hC.2.2.2.2.1
  generalize hA : ([.ref a, .ref q] : List Value).toArray = args at hC ⊢
  generalize hQ : MQ _ _ _ _ _ _ _ = Q
  obtain ⟨locs, hlocs⟩ : ∃ z : List Loc, z = [] := ⟨_, rfl⟩
  obtain ⟨H, hH⟩ : ∃ z : Heap, z = s.heap := ⟨_, rfl⟩
  rw [← hlocs, ← hH] at hM ⊢
  have hl : lv_has ls 2 [(0, .ref a), (1, .ref q)] := hl
  refine lv_aload_n hx hb dJx4a65c_add_9ea2d_0 rfl (lv_at hl 0 rfl) ?_
  refine lv_dup hx hb dJx4a65c_add_9ea2d_1 rfl ?_
  refine z_get hC hM ha hfa zcl_Jx4a65c (by decide) zl_Jx4a65c_63 rfl dJx4a65c_add_9ea2d_2 ?_
  refine lv_iconst (v := nI 1) hx hb dJx4a65c_add_9ea2d_5 (by decide) ?_
  refine lv_iadd hx hb dJx4a65c_add_9ea2d_6 ?_
  refine z_put (fs' := [.int (mc + (nI 1)), .ref ee, .int (nI n)]) hC hM ha hfa zcl_Jx4a65c (by decide) zl_Jx4a65c_63 rfl rfl (by rfl) (Nat.le_of_ble_eq_true rfl) rfl dJx4a65c_add_9ea2d_7 (fun H locs hM => ?_)
  obtain ⟨f_1, ef_1⟩ : ∃ z9, z9 = va_up f a (eS 0 [.int (mc + (nI 1)), .ref ee, .int (nI n)]) := ⟨_, rfl⟩
  rw [← ef_1] at hM
  have hF_2 : f_1 a = eS 0 [.int (mc + (nI 1)), .ref ee, .int (nI n)] := by rw [ef_1]; exact va_up_self _ _ _
  have hF_3 : f_1 ee = eO K cap arr := by rw [ef_1]; exact (va_up_ne _ _ (Ne.symm hae)).trans hfe
  refine lv_aload_n hx hb dJx4a65c_add_9ea2d_10 rfl (lv_at hl 0 rfl) ?_
  refine lv_aload_n hx hb dJx4a65c_add_9ea2d_11 rfl (lv_at hl 1 rfl) ?_
  refine lv_aload_n hx hb dJx4a65c_add_9ea2d_12 rfl (lv_at hl 0 rfl) ?_
  refine z_get hC hM ha hF_2 zcl_Jx4a65c (by decide) zl_Jx4a65c_9 rfl dJx4a65c_add_9ea2d_13 ?_
  refine lv_aload_n hx hb dJx4a65c_add_9ea2d_16 rfl (lv_at hl 0 rfl) ?_
  refine z_get hC hM ha hF_2 zcl_Jx4a65c (by decide) zl_Jx4a65c_48 rfl dJx4a65c_add_9ea2d_17 ?_
  refine z_callv (z_runV hC hM (c_add3_1 ha hF_2 he hF_3 hae (z_anyObj hq hfa ef_1) hn hc1 hc2 (fun i hi y hy => z_anyObj (hel i hi y hy) hfa ef_1)) zy_Jx4a65c_add_72be8 zm_Jx4a65c_131 ha hF_2 zcl_Jx4a65c rfl rfl rfl hl.1 (Nat.le_of_ble_eq_true rfl) ⟨by decide, by decide⟩ ⟨by decide, by decide⟩ dJx4a65c_add_9ea2d_20) hM (fun L1 f1 H locs hp hM => ?_)
  obtain ⟨q_20, hq_20, rfl, rfl⟩ := hp
  obtain ⟨f_4, ef_4⟩ : ∃ z9, z9 = va_up f_1 q_20 (eO K (cap + cap / 2) (va_up (va_cpy arr (fun _ => none) 0 0 cap) n (some q))) := ⟨_, rfl⟩
  rw [← ef_4] at hM
  have hN_7 : a ≠ q_20 := fun h => hq_20 (h ▸ ha)
  have hL_5 : a ∈ L ++ [q_20] := List.mem_append_left _ ha
  have hF_6 : f_4 a = eS 0 [.int (mc + (nI 1)), .ref ee, .int (nI n)] := by rw [ef_4]; exact (va_up_ne _ _ hN_7).trans hF_2
  have hN_10 : ee ≠ q_20 := fun h => hq_20 (h ▸ he)
  have hL_8 : ee ∈ L ++ [q_20] := List.mem_append_left _ he
  have hF_9 : f_4 ee = eO K cap arr := by rw [ef_4]; exact (va_up_ne _ _ hN_10).trans hF_3
  have hL_11 : q_20 ∈ L ++ [q_20] := List.mem_append_right _ List.mem_cons_self
  have hF_12 : f_4 q_20 = eO K (cap + cap / 2) (va_up (va_cpy arr (fun _ => none) 0 0 cap) n (some q)) := by rw [ef_4]; exact va_up_self _ _ _
  obtain ⟨f_13, ef_13⟩ : ∃ z9, z9 = va_up f_4 a (eS 0 [.int (mc + nI 1), .ref q_20, .int (nI (n + 1))]) := ⟨_, rfl⟩
  rw [← ef_13] at hM
  have hF_14 : f_13 a = eS 0 [.int (mc + nI 1), .ref q_20, .int (nI (n + 1))] := by rw [ef_13]; exact va_up_self _ _ _
  have hF_15 : f_13 ee = eO K cap arr := by rw [ef_13]; exact (va_up_ne _ _ (Ne.symm hae)).trans hF_9
  have hF_16 : f_13 q_20 = eO K (cap + cap / 2) (va_up (va_cpy arr (fun _ => none) 0 0 cap) n (some q)) := by rw [ef_13]; exact (va_up_ne _ _ (Ne.symm hN_7)).trans hF_12
  refine lv_iconst (v := nI 1) hx hb dJx4a65c_add_9ea2d_23 (by decide) ?_
  rw [← hQ]
  exact z_iret hC hM hr hlk rfl (by decide) (by decide) ⟨rfl, q_20, hq_20, rfl, (by rw [ef_13, ef_4, ef_1, up_3 _ hN_7]; rfl)⟩ dJx4a65c_add_9ea2d_24
set_option maxHeartbeats 400000 in
set_option maxRecDepth 100000 in
theorem c_acinit {l : Launch} {base : Nat} {K : zK} {L : List Nat} {f : Nat → va_E} {a : Nat} (ha : a ∈ L) : zMet l yJxa1e45_init_da8c8 cJxa1e45_init_da8c8 1 (none) (zr 1 0 0 12) base K L f [.ref a] (zFv base K L f) := by
  refine z_met (by decide) (Nat.le_of_ble_eq_true rfl) (fun p e s m below meth c ls hC hM hr hlk hnm hl => ?_)
  have hx := hC.1
  have hb := hC.2.1
  have hml := hC.2.2.1
  have hown := hC.2.2.2.1
  have hts := hC.2.2.2.2.1
  generalize hA : ([.ref a] : List Value).toArray = args at hC ⊢
  generalize hQ : MQ _ _ _ _ _ _ _ = Q
  obtain ⟨locs, hlocs⟩ : ∃ z : List Loc, z = [] := ⟨_, rfl⟩
  obtain ⟨H, hH⟩ : ∃ z : Heap, z = s.heap := ⟨_, rfl⟩
  rw [← hlocs, ← hH] at hM ⊢
  have hl : lv_has ls 1 [(0, .ref a)] := hl
  refine lv_aload_n hx hb dJxa1e45_init_da8c8_0 rfl (lv_at hl 0 rfl) ?_
  refine z_objInit hC zm_Jxa1e45_1 hl.1 (by decide) (Nat.le_of_ble_eq_true rfl) dJxa1e45_init_da8c8_1 ?_
  rw [← hQ]
  exact z_vret hC hM hr hlk (by decide) (by decide) ⟨rfl, rfl⟩ dJxa1e45_init_da8c8_4
set_option maxHeartbeats 400000 in
set_option maxRecDepth 100000 in
theorem c_alinit {l : Launch} {base : Nat} {K : zK} {L : List Nat} {f : Nat → va_E} {a n : Nat} {mc : Int32} (ha : a ∈ L) (hfa : f a = eS 0 [.int mc, .null, .int (nI n)]) : zMet l yJxc12de_init_da8c8 cJxc12de_init_da8c8 1 (none) (zr 2 0 0 32) base K L f [.ref a] (zFv base K L (va_up f a (eS 0 [.int (nI 0), .null, .int (nI n)]))) := by
  refine z_met (by decide) (Nat.le_of_ble_eq_true rfl) (fun p e s m below meth c ls hC hM hr hlk hnm hl => ?_)
  have hx := hC.1
  have hb := hC.2.1
  have hml := hC.2.2.1
  have hown := hC.2.2.2.1
  have hts := hC.2.2.2.2.1
  generalize hA : ([.ref a] : List Value).toArray = args at hC ⊢
  generalize hQ : MQ _ _ _ _ _ _ _ = Q
  obtain ⟨locs, hlocs⟩ : ∃ z : List Loc, z = [] := ⟨_, rfl⟩
  obtain ⟨H, hH⟩ : ∃ z : Heap, z = s.heap := ⟨_, rfl⟩
  rw [← hlocs, ← hH] at hM ⊢
  have hl : lv_has ls 1 [(0, .ref a)] := hl
  refine lv_aload_n hx hb dJxc12de_init_da8c8_0 rfl (lv_at hl 0 rfl) ?_
  refine z_fcallv (z_runI hC hM (c_acinit ha) zy_Jxa1e45_init_da8c8 zm_Jxc12de_1 rfl rfl hl.1 (Nat.le_of_ble_eq_true rfl) ⟨by decide, by decide⟩ ⟨by decide, by decide⟩ dJxc12de_init_da8c8_1) hM (fun H locs hM => ?_)
  refine lv_aload_n hx hb dJxc12de_init_da8c8_4 rfl (lv_at hl 0 rfl) ?_
  refine lv_iconst (v := nI 0) hx hb dJxc12de_init_da8c8_5 (by decide) ?_
  refine z_put (fs' := [.int (nI 0), .null, .int (nI n)]) hC hM ha hfa zcl_Jx4a65c (by decide) zl_Jxc12de_7 rfl rfl (by rfl) (Nat.le_of_ble_eq_true rfl) rfl dJxc12de_init_da8c8_6 (fun H locs hM => ?_)
  obtain ⟨f_1, ef_1⟩ : ∃ z9, z9 = va_up f a (eS 0 [.int (nI 0), .null, .int (nI n)]) := ⟨_, rfl⟩
  rw [← ef_1] at hM
  have hF_2 : f_1 a = eS 0 [.int (nI 0), .null, .int (nI n)] := by rw [ef_1]; exact va_up_self _ _ _
  rw [← hQ]
  exact z_vret hC hM hr hlk (by decide) (by decide) ⟨rfl, (by rw [ef_1])⟩ dJxc12de_init_da8c8_9
set_option maxHeartbeats 400000 in
set_option maxRecDepth 100000 in
theorem c_linit {l : Launch} {base : Nat} {K : zK} {L : List Nat} {f : Nat → va_E} {a n : Nat} {mc : Int32} (ha : a ∈ L) (hfa : f a = eS 0 [.int mc, .null, .int (nI n)]) : zMet l yJx4a65c_init_da8c8 cJx4a65c_init_da8c8 1 (none) (zr 3 0 0 52) base K L f [.ref a] (zFv base K L (va_up f a (eS 0 [.int (nI 0), .ref K.2.2.1, .int (nI n)]))) := by
  refine z_met (by decide) (Nat.le_of_ble_eq_true rfl) (fun p e s m below meth c ls hC hM hr hlk hnm hl => ?_)
  have hx := hC.1
  have hb := hC.2.1
  have hml := hC.2.2.1
  have hown := hC.2.2.2.1
  have hts := hC.2.2.2.2.1
  generalize hA : ([.ref a] : List Value).toArray = args at hC ⊢
  generalize hQ : MQ _ _ _ _ _ _ _ = Q
  obtain ⟨locs, hlocs⟩ : ∃ z : List Loc, z = [] := ⟨_, rfl⟩
  obtain ⟨H, hH⟩ : ∃ z : Heap, z = s.heap := ⟨_, rfl⟩
  rw [← hlocs, ← hH] at hM ⊢
  have hl : lv_has ls 1 [(0, .ref a)] := hl
  refine lv_aload_n hx hb dJx4a65c_init_da8c8_0 rfl (lv_at hl 0 rfl) ?_
  refine z_fcallv (z_runI hC hM (c_alinit ha hfa) zy_Jxc12de_init_da8c8 zm_Jx4a65c_1 rfl rfl hl.1 (Nat.le_of_ble_eq_true rfl) ⟨by decide, by decide⟩ ⟨by decide, by decide⟩ dJx4a65c_init_da8c8_1) hM (fun H locs hM => ?_)
  obtain ⟨f_1, ef_1⟩ : ∃ z9, z9 = va_up f a (eS 0 [.int (nI 0), .null, .int (nI n)]) := ⟨_, rfl⟩
  rw [← ef_1] at hM
  have hF_2 : f_1 a = eS 0 [.int (nI 0), .null, .int (nI n)] := by rw [ef_1]; exact va_up_self _ _ _
  refine lv_aload_n hx hb dJx4a65c_init_da8c8_4 rfl (lv_at hl 0 rfl) ?_
  refine z_gets hC hM zl_Jx4a65c_39 dJx4a65c_init_da8c8_5 ?_
  refine z_put (fs' := [.int (nI 0), .ref K.2.2.1, .int (nI n)]) hC hM ha hF_2 zcl_Jx4a65c (by decide) zl_Jx4a65c_9 rfl rfl (by rfl) (Nat.le_of_ble_eq_true rfl) rfl dJx4a65c_init_da8c8_8 (fun H locs hM => ?_)
  obtain ⟨f_3, ef_3⟩ : ∃ z9, z9 = va_up f_1 a (eS 0 [.int (nI 0), .ref K.2.2.1, .int (nI n)]) := ⟨_, rfl⟩
  rw [← ef_3] at hM
  have hF_4 : f_3 a = eS 0 [.int (nI 0), .ref K.2.2.1, .int (nI n)] := by rw [ef_3]; exact va_up_self _ _ _
  rw [← hQ]
  exact z_vret hC hM hr hlk (by decide) (by decide) ⟨rfl, (by rw [ef_3, ef_1, up_up])⟩ dJx4a65c_init_da8c8_11
