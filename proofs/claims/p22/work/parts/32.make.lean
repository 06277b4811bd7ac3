/-! CONTRACTS: making a Star, making a Transitry (rows laid by wip/whole/make.py) -/
set_option maxHeartbeats 400000 in
set_option maxRecDepth 100000 in
theorem c_sinit {l : Launch} {base : Nat} {K : zK} {L : List Nat} {f : Nat → va_E} {o own : Nat} (ho : o ∈ L) (hfo : f o = eS 5 [.int (nI 0), .null, .int (nI 0), .int (nI 0), .int (nI 0), .null]) : zMet l yX4_init cX4_init 2 (none) (zr 4 3 1009 75) base K L f [.ref o, .int (nI own)] (zQv base K (fun L1 f1 => ∃ q r w, (q ∉ L ∧ r ∉ L ++ [q] ∧ w ∉ L ++ [q] ++ [r]) ∧ L1 = L ++ [q] ++ [r] ++ [w] ∧ f1 o = eS 5 [.int (nI own), .ref q, .int (nI 0), .int (nI 0), .int (nI 0), .ref r] ∧ f1 q = eS 0 [.int (nI 0), .ref K.2.2.1, .int (nI 0)] ∧ f1 r = eS 2 [.ref w, .int (nI 0)] ∧ f1 w = eD K 1000 (fun _ => 0) ∧ ∀ x, x ≠ o → x ≠ q → x ≠ r → x ≠ w → f1 x = f x)) := by
  refine z_met (by decide) (Nat.le_of_ble_eq_true rfl) (fun p e s m below meth c ls hC hM hr hlk hnm hl => ?_)
  have hx := hC.1
  have hb := hC.2.1
  have hml := hC.2.2.1
  have hown := hC.2.2.2.1
  have hts := hC.2.2.2.2.1
  generalize hA : ([.ref o, .int (nI own)] : List Value).toArray = args at hC ⊢
  generalize hQ : MQ _ _ _ _ _ _ _ = Q
  obtain ⟨locs, hlocs⟩ : ∃ z : List Loc, z = [] := ⟨_, rfl⟩
  obtain ⟨H, hH⟩ : ∃ z : Heap, z = s.heap := ⟨_, rfl⟩
  rw [← hlocs, ← hH] at hM ⊢
  have hl : lv_has ls 2 [(0, .ref o), (1, .int (nI own))] := hl
  refine lv_aload_n hx hb dX4_init_0 rfl (lv_at hl 0 rfl) ?_
  refine z_objInit hC zm_X4_1 hl.1 (by decide) (Nat.le_of_ble_eq_true rfl) dX4_init_1 ?_
  refine lv_aload_n hx hb dX4_init_4 rfl (lv_at hl 0 rfl) ?_
  refine z_new (fs := [.int (nI 0), .null, .int (nI 0)]) hC hM zcl_Jx4a65c zn_X4_7 (by decide) (by decide) (by decide) dX4_init_5 (fun q_5 H hq_5 hM => ?_)
  obtain ⟨f_1, ef_1⟩ : ∃ z9, z9 = va_up f q_5 (eS 0 [.int (nI 0), .null, .int (nI 0)]) := ⟨_, rfl⟩
  rw [← ef_1] at hM
  have hN_4 : o ≠ q_5 := fun h => hq_5 (h ▸ ho)
  have hL_2 : o ∈ L ++ [q_5] := List.mem_append_left _ ho
  have hF_3 : f_1 o = eS 5 [.int (nI 0), .null, .int (nI 0), .int (nI 0), .int (nI 0), .null] := by rw [ef_1]; exact (va_up_ne _ _ hN_4).trans hfo
  have hL_5 : q_5 ∈ L ++ [q_5] := List.mem_append_right _ List.mem_cons_self
  have hF_6 : f_1 q_5 = eS 0 [.int (nI 0), .null, .int (nI 0)] := by rw [ef_1]; exact va_up_self _ _ _
  refine lv_dup hx hb dX4_init_8 rfl ?_
  refine z_fcallv (z_runI hC hM (c_linit (mc := nI 0) (n := 0) hL_5 hF_6) zy_Jx4a65c_init_da8c8 zm_X4_9 rfl rfl hl.1 (Nat.le_of_ble_eq_true rfl) ⟨by decide, by decide⟩ ⟨by decide, by decide⟩ dX4_init_9) hM (fun H locs hM => ?_)
  obtain ⟨f_7, ef_7⟩ : ∃ z9, z9 = va_up f_1 q_5 (eS 0 [.int (nI 0), .ref K.2.2.1, .int (nI 0)]) := ⟨_, rfl⟩
  rw [← ef_7] at hM
  have hF_8 : f_7 o = eS 5 [.int (nI 0), .null, .int (nI 0), .int (nI 0), .int (nI 0), .null] := by rw [ef_7]; exact (va_up_ne _ _ hN_4).trans hF_3
  have hF_9 : f_7 q_5 = eS 0 [.int (nI 0), .ref K.2.2.1, .int (nI 0)] := by rw [ef_7]; exact va_up_self _ _ _
  refine z_putF (fs' := [.int (nI 0), .ref q_5, .int (nI 0), .int (nI 0), .int (nI 0), .null]) hC hM hnm hL_2 hF_8 zcl_X4 (by decide) zl_X4_10 rfl rfl rfl (by rfl) (Nat.le_of_ble_eq_true rfl) rfl dX4_init_12 (fun H locs hM => ?_)
  obtain ⟨f_10, ef_10⟩ : ∃ z9, z9 = va_up f_7 o (eS 5 [.int (nI 0), .ref q_5, .int (nI 0), .int (nI 0), .int (nI 0), .null]) := ⟨_, rfl⟩
  rw [← ef_10] at hM
  have hF_11 : f_10 o = eS 5 [.int (nI 0), .ref q_5, .int (nI 0), .int (nI 0), .int (nI 0), .null] := by rw [ef_10]; exact va_up_self _ _ _
  have hF_12 : f_10 q_5 = eS 0 [.int (nI 0), .ref K.2.2.1, .int (nI 0)] := by rw [ef_10]; exact (va_up_ne _ _ (Ne.symm hN_4)).trans hF_9
  refine lv_aload_n hx hb dX4_init_15 rfl (lv_at hl 0 rfl) ?_
  refine lv_iconst (v := nI 0) hx hb dX4_init_16 (by decide) ?_
  refine z_put (fs' := [.int (nI 0), .ref q_5, .int (nI 0), .int (nI 0), .int (nI 0), .null]) hC hM hL_2 hF_11 zcl_X4 (by decide) zl_X4_16 rfl rfl (by rfl) (Nat.le_of_ble_eq_true rfl) rfl dX4_init_17 (fun H locs hM => ?_)
  obtain ⟨f_13, ef_13⟩ : ∃ z9, z9 = va_up f_10 o (eS 5 [.int (nI 0), .ref q_5, .int (nI 0), .int (nI 0), .int (nI 0), .null]) := ⟨_, rfl⟩
  rw [← ef_13] at hM
  have hF_14 : f_13 o = eS 5 [.int (nI 0), .ref q_5, .int (nI 0), .int (nI 0), .int (nI 0), .null] := by rw [ef_13]; exact va_up_self _ _ _
  have hF_15 : f_13 q_5 = eS 0 [.int (nI 0), .ref K.2.2.1, .int (nI 0)] := by rw [ef_13]; exact (va_up_ne _ _ (Ne.symm hN_4)).trans hF_12
  refine lv_aload_n hx hb dX4_init_20 rfl (lv_at hl 0 rfl) ?_
  refine lv_iconst (v := nI 0) hx hb dX4_init_21 (by decide) ?_
  refine z_put (fs' := [.int (nI 0), .ref q_5, .int (nI 0), .int (nI 0), .int (nI 0), .null]) hC hM hL_2 hF_14 zcl_X4 (by decide) zl_X4_20 rfl rfl (by rfl) (Nat.le_of_ble_eq_true rfl) rfl dX4_init_22 (fun H locs hM => ?_)
  obtain ⟨f_16, ef_16⟩ : ∃ z9, z9 = va_up f_13 o (eS 5 [.int (nI 0), .ref q_5, .int (nI 0), .int (nI 0), .int (nI 0), .null]) := ⟨_, rfl⟩
  rw [← ef_16] at hM
  have hF_17 : f_16 o = eS 5 [.int (nI 0), .ref q_5, .int (nI 0), .int (nI 0), .int (nI 0), .null] := by rw [ef_16]; exact va_up_self _ _ _
  have hF_18 : f_16 q_5 = eS 0 [.int (nI 0), .ref K.2.2.1, .int (nI 0)] := by rw [ef_16]; exact (va_up_ne _ _ (Ne.symm hN_4)).trans hF_15
  refine lv_aload_n hx hb dX4_init_25 rfl (lv_at hl 0 rfl) ?_
  refine lv_iconst (v := nI 0) hx hb dX4_init_26 (by decide) ?_
  refine z_put (fs' := [.int (nI 0), .ref q_5, .int (nI 0), .int (nI 0), .int (nI 0), .null]) hC hM hL_2 hF_17 zcl_X4 (by decide) zl_X4_23 rfl rfl (by rfl) (Nat.le_of_ble_eq_true rfl) rfl dX4_init_27 (fun H locs hM => ?_)
  obtain ⟨f_19, ef_19⟩ : ∃ z9, z9 = va_up f_16 o (eS 5 [.int (nI 0), .ref q_5, .int (nI 0), .int (nI 0), .int (nI 0), .null]) := ⟨_, rfl⟩
  rw [← ef_19] at hM
  have hF_20 : f_19 o = eS 5 [.int (nI 0), .ref q_5, .int (nI 0), .int (nI 0), .int (nI 0), .null] := by rw [ef_19]; exact va_up_self _ _ _
  have hF_21 : f_19 q_5 = eS 0 [.int (nI 0), .ref K.2.2.1, .int (nI 0)] := by rw [ef_19]; exact (va_up_ne _ _ (Ne.symm hN_4)).trans hF_18
  refine lv_aload_n hx hb dX4_init_30 rfl (lv_at hl 0 rfl) ?_
  refine z_new (fs := [.null, .int (nI 0)]) hC hM zcl_X1 zn_X4_26 (by decide) (by decide) (by decide) dX4_init_31 (fun q_31 H hq_31 hM => ?_)
  obtain ⟨f_22, ef_22⟩ : ∃ z9, z9 = va_up f_19 q_31 (eS 2 [.null, .int (nI 0)]) := ⟨_, rfl⟩
  rw [← ef_22] at hM
  have hN_25 : o ≠ q_31 := fun h => hq_31 (h ▸ hL_2)
  have hL_23 : o ∈ L ++ [q_5] ++ [q_31] := List.mem_append_left _ hL_2
  have hF_24 : f_22 o = eS 5 [.int (nI 0), .ref q_5, .int (nI 0), .int (nI 0), .int (nI 0), .null] := by rw [ef_22]; exact (va_up_ne _ _ hN_25).trans hF_20
  have hN_28 : q_5 ≠ q_31 := fun h => hq_31 (h ▸ hL_5)
  have hL_26 : q_5 ∈ L ++ [q_5] ++ [q_31] := List.mem_append_left _ hL_5
  have hF_27 : f_22 q_5 = eS 0 [.int (nI 0), .ref K.2.2.1, .int (nI 0)] := by rw [ef_22]; exact (va_up_ne _ _ hN_28).trans hF_21
  have hL_29 : q_31 ∈ L ++ [q_5] ++ [q_31] := List.mem_append_right _ List.mem_cons_self
  have hF_30 : f_22 q_31 = eS 2 [.null, .int (nI 0)] := by rw [ef_22]; exact va_up_self _ _ _
  refine lv_dup hx hb dX4_init_34 rfl ?_
  refine z_callv (z_runI hC hM (c_ninit hL_29 hF_30) zy_X1_init zm_X4_28 rfl rfl hl.1 (Nat.le_of_ble_eq_true rfl) ⟨by decide, by decide⟩ ⟨by decide, by decide⟩ dX4_init_35) hM (fun L1 f1 H locs hp hM => ?_)
  obtain ⟨q_35, hq_35, rfl, rfl⟩ := hp
  obtain ⟨f_31, ef_31⟩ : ∃ z9, z9 = va_up f_22 q_35 (eD K 1000 (fun _ => 0)) := ⟨_, rfl⟩
  rw [← ef_31] at hM
  have hN_34 : o ≠ q_35 := fun h => hq_35 (h ▸ hL_23)
  have hL_32 : o ∈ L ++ [q_5] ++ [q_31] ++ [q_35] := List.mem_append_left _ hL_23
  have hF_33 : f_31 o = eS 5 [.int (nI 0), .ref q_5, .int (nI 0), .int (nI 0), .int (nI 0), .null] := by rw [ef_31]; exact (va_up_ne _ _ hN_34).trans hF_24
  have hN_37 : q_5 ≠ q_35 := fun h => hq_35 (h ▸ hL_26)
  have hL_35 : q_5 ∈ L ++ [q_5] ++ [q_31] ++ [q_35] := List.mem_append_left _ hL_26
  have hF_36 : f_31 q_5 = eS 0 [.int (nI 0), .ref K.2.2.1, .int (nI 0)] := by rw [ef_31]; exact (va_up_ne _ _ hN_37).trans hF_27
  have hN_40 : q_31 ≠ q_35 := fun h => hq_35 (h ▸ hL_29)
  have hL_38 : q_31 ∈ L ++ [q_5] ++ [q_31] ++ [q_35] := List.mem_append_left _ hL_29
  have hF_39 : f_31 q_31 = eS 2 [.null, .int (nI 0)] := by rw [ef_31]; exact (va_up_ne _ _ hN_40).trans hF_30
  have hL_41 : q_35 ∈ L ++ [q_5] ++ [q_31] ++ [q_35] := List.mem_append_right _ List.mem_cons_self
  have hF_42 : f_31 q_35 = eD K 1000 (fun _ => 0) := by rw [ef_31]; exact va_up_self _ _ _
  obtain ⟨f_43, ef_43⟩ : ∃ z9, z9 = va_up f_31 q_31 (eS 2 [.ref q_35, .int (nI 0)]) := ⟨_, rfl⟩
  rw [← ef_43] at hM
  have hF_44 : f_43 o = eS 5 [.int (nI 0), .ref q_5, .int (nI 0), .int (nI 0), .int (nI 0), .null] := by rw [ef_43]; exact (va_up_ne _ _ hN_25).trans hF_33
  have hF_45 : f_43 q_5 = eS 0 [.int (nI 0), .ref K.2.2.1, .int (nI 0)] := by rw [ef_43]; exact (va_up_ne _ _ hN_28).trans hF_36
  have hF_46 : f_43 q_31 = eS 2 [.ref q_35, .int (nI 0)] := by rw [ef_43]; exact va_up_self _ _ _
  have hF_47 : f_43 q_35 = eD K 1000 (fun _ => 0) := by rw [ef_43]; exact (va_up_ne _ _ (Ne.symm hN_40)).trans hF_42
  refine z_putF (fs' := [.int (nI 0), .ref q_5, .int (nI 0), .int (nI 0), .int (nI 0), .ref q_31]) hC hM hnm hL_32 hF_44 zcl_X4 (by decide) zl_X4_29 rfl rfl rfl (by rfl) (Nat.le_of_ble_eq_true rfl) rfl dX4_init_38 (fun H locs hM => ?_)
  obtain ⟨f_48, ef_48⟩ : ∃ z9, z9 = va_up f_43 o (eS 5 [.int (nI 0), .ref q_5, .int (nI 0), .int (nI 0), .int (nI 0), .ref q_31]) := ⟨_, rfl⟩
  rw [← ef_48] at hM
  have hF_49 : f_48 o = eS 5 [.int (nI 0), .ref q_5, .int (nI 0), .int (nI 0), .int (nI 0), .ref q_31] := by rw [ef_48]; exact va_up_self _ _ _
  have hF_50 : f_48 q_5 = eS 0 [.int (nI 0), .ref K.2.2.1, .int (nI 0)] := by rw [ef_48]; exact (va_up_ne _ _ (Ne.symm hN_4)).trans hF_45
  have hF_51 : f_48 q_31 = eS 2 [.ref q_35, .int (nI 0)] := by rw [ef_48]; exact (va_up_ne _ _ (Ne.symm hN_25)).trans hF_46
  have hF_52 : f_48 q_35 = eD K 1000 (fun _ => 0) := by rw [ef_48]; exact (va_up_ne _ _ (Ne.symm hN_34)).trans hF_47
  refine lv_aload_n hx hb dX4_init_41 rfl (lv_at hl 0 rfl) ?_
  refine lv_iload_n hx hb dX4_init_42 rfl (lv_at hl 1 rfl) ?_
  refine z_putF (fs' := [.int (nI own), .ref q_5, .int (nI 0), .int (nI 0), .int (nI 0), .ref q_31]) hC hM hnm hL_32 hF_49 zcl_X4 (by decide) zl_X4_33 rfl rfl rfl (by rfl) (Nat.le_of_ble_eq_true rfl) rfl dX4_init_43 (fun H locs hM => ?_)
  obtain ⟨f_53, ef_53⟩ : ∃ z9, z9 = va_up f_48 o (eS 5 [.int (nI own), .ref q_5, .int (nI 0), .int (nI 0), .int (nI 0), .ref q_31]) := ⟨_, rfl⟩
  rw [← ef_53] at hM
  have hF_54 : f_53 o = eS 5 [.int (nI own), .ref q_5, .int (nI 0), .int (nI 0), .int (nI 0), .ref q_31] := by rw [ef_53]; exact va_up_self _ _ _
  have hF_55 : f_53 q_5 = eS 0 [.int (nI 0), .ref K.2.2.1, .int (nI 0)] := by rw [ef_53]; exact (va_up_ne _ _ (Ne.symm hN_4)).trans hF_50
  have hF_56 : f_53 q_31 = eS 2 [.ref q_35, .int (nI 0)] := by rw [ef_53]; exact (va_up_ne _ _ (Ne.symm hN_25)).trans hF_51
  have hF_57 : f_53 q_35 = eD K 1000 (fun _ => 0) := by rw [ef_53]; exact (va_up_ne _ _ (Ne.symm hN_34)).trans hF_52
  rw [← hQ]
  exact z_vret hC hM hr hlk (by decide) (by decide) ⟨q_5, q_31, q_35, ⟨hq_5, hq_31, hq_35⟩, rfl, hF_54, hF_55, hF_56, hF_57, (fun x hx0 hx1 hx2 hx3 => by rw [ef_53, ef_48, ef_43, ef_31, ef_22, ef_19, ef_16, ef_13, ef_10, ef_7, ef_1]; simp only [va_up, hx0, hx1, hx2, hx3, if_false])⟩ dX4_init_46
set_option maxHeartbeats 400000 in
set_option maxRecDepth 100000 in
theorem c_tinit {l : Launch} {base : Nat} {K : zK} {L : List Nat} {f : Nat → va_E} {o : Nat} (ho : o ∈ L) (hfo : f o = eS 7 [.null, .null, .null, .null, .int (nI 0), .null]) : zMet l yX6_init cX6_init 1 (none) (zr 4 7 1300 75) base K L f [.ref o] (zQv base K (fun L1 f1 => ∃ q r w hd fo so co, (q ∉ L ∧ r ∉ L ++ [q] ∧ w ∉ L ++ [q] ++ [r] ∧ hd ∉ L ++ [q] ++ [r] ++ [w] ∧ fo ∉ L ++ [q] ++ [r] ++ [w] ++ [hd] ∧ so ∉ L ++ [q] ++ [r] ++ [w] ++ [hd] ++ [fo] ∧ co ∉ L ++ [q] ++ [r] ++ [w] ++ [hd] ++ [fo] ++ [so]) ∧ L1 = L ++ [q] ++ [r] ++ [w] ++ [hd] ++ [fo] ++ [so] ++ [co] ∧ f1 o = eS 7 [.ref q, .ref r, .ref w, .ref hd, .int (nI 0), .ref fo] ∧ f1 q = eS 0 [.int (nI 0), .ref K.2.2.1, .int (nI 0)] ∧ f1 r = eS 0 [.int (nI 0), .ref K.2.2.1, .int (nI 0)] ∧ f1 w = eS 0 [.int (nI 0), .ref K.2.2.1, .int (nI 0)] ∧ f1 hd = eZ K 1000 (fun _ => 0) ∧ f1 fo = eS 1 [.ref so, .ref co, .int (nI 0), .double 0] ∧ f1 so = eD K 120 (fun _ => 0) ∧ f1 co = eI K 120 (fun _ => 0) ∧ ∀ x, x ≠ o → x ≠ q → x ≠ r → x ≠ w → x ≠ hd → x ≠ fo → x ≠ so → x ≠ co → f1 x = f x)) := by
  refine z_met (by decide) (Nat.le_of_ble_eq_true rfl) (fun p e s m below meth c ls hC hM hr hlk hnm hl => ?_)
  have hx := hC.1
  have hb := hC.2.1
  have hml := hC.2.2.1
  have hown := hC.2.2.2.1
  have hts := hC.2.2.2.2.1
  generalize hA : ([.ref o] : List Value).toArray = args at hC ⊢
  generalize hQ : MQ _ _ _ _ _ _ _ = Q
  obtain ⟨locs, hlocs⟩ : ∃ z : List Loc, z = [] := ⟨_, rfl⟩
  obtain ⟨H, hH⟩ : ∃ z : Heap, z = s.heap := ⟨_, rfl⟩
  rw [← hlocs, ← hH] at hM ⊢
  have hl : lv_has ls 1 [(0, .ref o)] := hl
  refine lv_aload_n hx hb dX6_init_0 rfl (lv_at hl 0 rfl) ?_
  refine z_objInit hC zm_X6_1 hl.1 (by decide) (Nat.le_of_ble_eq_true rfl) dX6_init_1 ?_
  refine lv_aload_n hx hb dX6_init_4 rfl (lv_at hl 0 rfl) ?_
  refine z_new (fs := [.int (nI 0), .null, .int (nI 0)]) hC hM zcl_Jx4a65c zn_X6_7 (by decide) (by decide) (by decide) dX6_init_5 (fun q_5 H hq_5 hM => ?_)
  obtain ⟨f_1, ef_1⟩ : ∃ z9, z9 = va_up f q_5 (eS 0 [.int (nI 0), .null, .int (nI 0)]) := ⟨_, rfl⟩
  rw [← ef_1] at hM
  have hN_4 : o ≠ q_5 := fun h => hq_5 (h ▸ ho)
  have hL_2 : o ∈ L ++ [q_5] := List.mem_append_left _ ho
  have hF_3 : f_1 o = eS 7 [.null, .null, .null, .null, .int (nI 0), .null] := by rw [ef_1]; exact (va_up_ne _ _ hN_4).trans hfo
  have hL_5 : q_5 ∈ L ++ [q_5] := List.mem_append_right _ List.mem_cons_self
  have hF_6 : f_1 q_5 = eS 0 [.int (nI 0), .null, .int (nI 0)] := by rw [ef_1]; exact va_up_self _ _ _
  refine lv_dup hx hb dX6_init_8 rfl ?_
  refine z_fcallv (z_runI hC hM (c_linit (mc := nI 0) (n := 0) hL_5 hF_6) zy_Jx4a65c_init_da8c8 zm_X6_9 rfl rfl hl.1 (Nat.le_of_ble_eq_true rfl) ⟨by decide, by decide⟩ ⟨by decide, by decide⟩ dX6_init_9) hM (fun H locs hM => ?_)
  obtain ⟨f_7, ef_7⟩ : ∃ z9, z9 = va_up f_1 q_5 (eS 0 [.int (nI 0), .ref K.2.2.1, .int (nI 0)]) := ⟨_, rfl⟩
  rw [← ef_7] at hM
  have hF_8 : f_7 o = eS 7 [.null, .null, .null, .null, .int (nI 0), .null] := by rw [ef_7]; exact (va_up_ne _ _ hN_4).trans hF_3
  have hF_9 : f_7 q_5 = eS 0 [.int (nI 0), .ref K.2.2.1, .int (nI 0)] := by rw [ef_7]; exact va_up_self _ _ _
  refine z_putF (fs' := [.ref q_5, .null, .null, .null, .int (nI 0), .null]) hC hM hnm hL_2 hF_8 zcl_X6 (by decide) zl_X6_10 rfl rfl rfl (by rfl) (Nat.le_of_ble_eq_true rfl) rfl dX6_init_12 (fun H locs hM => ?_)
  obtain ⟨f_10, ef_10⟩ : ∃ z9, z9 = va_up f_7 o (eS 7 [.ref q_5, .null, .null, .null, .int (nI 0), .null]) := ⟨_, rfl⟩
  rw [← ef_10] at hM
  have hF_11 : f_10 o = eS 7 [.ref q_5, .null, .null, .null, .int (nI 0), .null] := by rw [ef_10]; exact va_up_self _ _ _
  have hF_12 : f_10 q_5 = eS 0 [.int (nI 0), .ref K.2.2.1, .int (nI 0)] := by rw [ef_10]; exact (va_up_ne _ _ (Ne.symm hN_4)).trans hF_9
  refine lv_aload_n hx hb dX6_init_15 rfl (lv_at hl 0 rfl) ?_
  refine z_new (fs := [.int (nI 0), .null, .int (nI 0)]) hC hM zcl_Jx4a65c zn_X6_7 (by decide) (by decide) (by decide) dX6_init_16 (fun q_16 H hq_16 hM => ?_)
  obtain ⟨f_13, ef_13⟩ : ∃ z9, z9 = va_up f_10 q_16 (eS 0 [.int (nI 0), .null, .int (nI 0)]) := ⟨_, rfl⟩
  rw [← ef_13] at hM
  have hN_16 : o ≠ q_16 := fun h => hq_16 (h ▸ hL_2)
  have hL_14 : o ∈ L ++ [q_5] ++ [q_16] := List.mem_append_left _ hL_2
  have hF_15 : f_13 o = eS 7 [.ref q_5, .null, .null, .null, .int (nI 0), .null] := by rw [ef_13]; exact (va_up_ne _ _ hN_16).trans hF_11
  have hN_19 : q_5 ≠ q_16 := fun h => hq_16 (h ▸ hL_5)
  have hL_17 : q_5 ∈ L ++ [q_5] ++ [q_16] := List.mem_append_left _ hL_5
  have hF_18 : f_13 q_5 = eS 0 [.int (nI 0), .ref K.2.2.1, .int (nI 0)] := by rw [ef_13]; exact (va_up_ne _ _ hN_19).trans hF_12
  have hL_20 : q_16 ∈ L ++ [q_5] ++ [q_16] := List.mem_append_right _ List.mem_cons_self
  have hF_21 : f_13 q_16 = eS 0 [.int (nI 0), .null, .int (nI 0)] := by rw [ef_13]; exact va_up_self _ _ _
  refine lv_dup hx hb dX6_init_19 rfl ?_
  refine z_fcallv (z_runI hC hM (c_linit (mc := nI 0) (n := 0) hL_20 hF_21) zy_Jx4a65c_init_da8c8 zm_X6_9 rfl rfl hl.1 (Nat.le_of_ble_eq_true rfl) ⟨by decide, by decide⟩ ⟨by decide, by decide⟩ dX6_init_20) hM (fun H locs hM => ?_)
  obtain ⟨f_22, ef_22⟩ : ∃ z9, z9 = va_up f_13 q_16 (eS 0 [.int (nI 0), .ref K.2.2.1, .int (nI 0)]) := ⟨_, rfl⟩
  rw [← ef_22] at hM
  have hF_23 : f_22 o = eS 7 [.ref q_5, .null, .null, .null, .int (nI 0), .null] := by rw [ef_22]; exact (va_up_ne _ _ hN_16).trans hF_15
  have hF_24 : f_22 q_5 = eS 0 [.int (nI 0), .ref K.2.2.1, .int (nI 0)] := by rw [ef_22]; exact (va_up_ne _ _ hN_19).trans hF_18
  have hF_25 : f_22 q_16 = eS 0 [.int (nI 0), .ref K.2.2.1, .int (nI 0)] := by rw [ef_22]; exact va_up_self _ _ _
  refine z_putF (fs' := [.ref q_5, .ref q_16, .null, .null, .int (nI 0), .null]) hC hM hnm hL_14 hF_23 zcl_X6 (by decide) zl_X6_16 rfl rfl rfl (by rfl) (Nat.le_of_ble_eq_true rfl) rfl dX6_init_23 (fun H locs hM => ?_)
  obtain ⟨f_26, ef_26⟩ : ∃ z9, z9 = va_up f_22 o (eS 7 [.ref q_5, .ref q_16, .null, .null, .int (nI 0), .null]) := ⟨_, rfl⟩
  rw [← ef_26] at hM
  have hF_27 : f_26 o = eS 7 [.ref q_5, .ref q_16, .null, .null, .int (nI 0), .null] := by rw [ef_26]; exact va_up_self _ _ _
  have hF_28 : f_26 q_5 = eS 0 [.int (nI 0), .ref K.2.2.1, .int (nI 0)] := by rw [ef_26]; exact (va_up_ne _ _ (Ne.symm hN_4)).trans hF_24
  have hF_29 : f_26 q_16 = eS 0 [.int (nI 0), .ref K.2.2.1, .int (nI 0)] := by rw [ef_26]; exact (va_up_ne _ _ (Ne.symm hN_16)).trans hF_25
  refine lv_aload_n hx hb dX6_init_26 rfl (lv_at hl 0 rfl) ?_
  refine z_new (fs := [.int (nI 0), .null, .int (nI 0)]) hC hM zcl_Jx4a65c zn_X6_7 (by decide) (by decide) (by decide) dX6_init_27 (fun q_27 H hq_27 hM => ?_)
  obtain ⟨f_30, ef_30⟩ : ∃ z9, z9 = va_up f_26 q_27 (eS 0 [.int (nI 0), .null, .int (nI 0)]) := ⟨_, rfl⟩
  rw [← ef_30] at hM
  have hN_33 : o ≠ q_27 := fun h => hq_27 (h ▸ hL_14)
  have hL_31 : o ∈ L ++ [q_5] ++ [q_16] ++ [q_27] := List.mem_append_left _ hL_14
  have hF_32 : f_30 o = eS 7 [.ref q_5, .ref q_16, .null, .null, .int (nI 0), .null] := by rw [ef_30]; exact (va_up_ne _ _ hN_33).trans hF_27
  have hN_36 : q_5 ≠ q_27 := fun h => hq_27 (h ▸ hL_17)
  have hL_34 : q_5 ∈ L ++ [q_5] ++ [q_16] ++ [q_27] := List.mem_append_left _ hL_17
  have hF_35 : f_30 q_5 = eS 0 [.int (nI 0), .ref K.2.2.1, .int (nI 0)] := by rw [ef_30]; exact (va_up_ne _ _ hN_36).trans hF_28
  have hN_39 : q_16 ≠ q_27 := fun h => hq_27 (h ▸ hL_20)
  have hL_37 : q_16 ∈ L ++ [q_5] ++ [q_16] ++ [q_27] := List.mem_append_left _ hL_20
  have hF_38 : f_30 q_16 = eS 0 [.int (nI 0), .ref K.2.2.1, .int (nI 0)] := by rw [ef_30]; exact (va_up_ne _ _ hN_39).trans hF_29
  have hL_40 : q_27 ∈ L ++ [q_5] ++ [q_16] ++ [q_27] := List.mem_append_right _ List.mem_cons_self
  have hF_41 : f_30 q_27 = eS 0 [.int (nI 0), .null, .int (nI 0)] := by rw [ef_30]; exact va_up_self _ _ _
  refine lv_dup hx hb dX6_init_30 rfl ?_
  refine z_fcallv (z_runI hC hM (c_linit (mc := nI 0) (n := 0) hL_40 hF_41) zy_Jx4a65c_init_da8c8 zm_X6_9 rfl rfl hl.1 (Nat.le_of_ble_eq_true rfl) ⟨by decide, by decide⟩ ⟨by decide, by decide⟩ dX6_init_31) hM (fun H locs hM => ?_)
  obtain ⟨f_42, ef_42⟩ : ∃ z9, z9 = va_up f_30 q_27 (eS 0 [.int (nI 0), .ref K.2.2.1, .int (nI 0)]) := ⟨_, rfl⟩
  rw [← ef_42] at hM
  have hF_43 : f_42 o = eS 7 [.ref q_5, .ref q_16, .null, .null, .int (nI 0), .null] := by rw [ef_42]; exact (va_up_ne _ _ hN_33).trans hF_32
  have hF_44 : f_42 q_5 = eS 0 [.int (nI 0), .ref K.2.2.1, .int (nI 0)] := by rw [ef_42]; exact (va_up_ne _ _ hN_36).trans hF_35
  have hF_45 : f_42 q_16 = eS 0 [.int (nI 0), .ref K.2.2.1, .int (nI 0)] := by rw [ef_42]; exact (va_up_ne _ _ hN_39).trans hF_38
  have hF_46 : f_42 q_27 = eS 0 [.int (nI 0), .ref K.2.2.1, .int (nI 0)] := by rw [ef_42]; exact va_up_self _ _ _
  refine z_putF (fs' := [.ref q_5, .ref q_16, .ref q_27, .null, .int (nI 0), .null]) hC hM hnm hL_31 hF_43 zcl_X6 (by decide) zl_X6_19 rfl rfl rfl (by rfl) (Nat.le_of_ble_eq_true rfl) rfl dX6_init_34 (fun H locs hM => ?_)
  obtain ⟨f_47, ef_47⟩ : ∃ z9, z9 = va_up f_42 o (eS 7 [.ref q_5, .ref q_16, .ref q_27, .null, .int (nI 0), .null]) := ⟨_, rfl⟩
  rw [← ef_47] at hM
  have hF_48 : f_47 o = eS 7 [.ref q_5, .ref q_16, .ref q_27, .null, .int (nI 0), .null] := by rw [ef_47]; exact va_up_self _ _ _
  have hF_49 : f_47 q_5 = eS 0 [.int (nI 0), .ref K.2.2.1, .int (nI 0)] := by rw [ef_47]; exact (va_up_ne _ _ (Ne.symm hN_4)).trans hF_44
  have hF_50 : f_47 q_16 = eS 0 [.int (nI 0), .ref K.2.2.1, .int (nI 0)] := by rw [ef_47]; exact (va_up_ne _ _ (Ne.symm hN_16)).trans hF_45
  have hF_51 : f_47 q_27 = eS 0 [.int (nI 0), .ref K.2.2.1, .int (nI 0)] := by rw [ef_47]; exact (va_up_ne _ _ (Ne.symm hN_33)).trans hF_46
  refine lv_aload_n hx hb dX6_init_37 rfl (lv_at hl 0 rfl) ?_
  refine lv_sipush (v := nI 1000) hx hb dX6_init_38 (by decide) ?_
  refine z_newZ hC hM zarr_boolean (by decide) (by decide) (by decide) dX6_init_41 (fun q_41 H hq_41 hM => ?_)
  obtain ⟨f_52, ef_52⟩ : ∃ z9, z9 = va_up f_47 q_41 (eZ K 1000 (fun _ => 0)) := ⟨_, rfl⟩
  rw [← ef_52] at hM
  have hN_55 : o ≠ q_41 := fun h => hq_41 (h ▸ hL_31)
  have hL_53 : o ∈ L ++ [q_5] ++ [q_16] ++ [q_27] ++ [q_41] := List.mem_append_left _ hL_31
  have hF_54 : f_52 o = eS 7 [.ref q_5, .ref q_16, .ref q_27, .null, .int (nI 0), .null] := by rw [ef_52]; exact (va_up_ne _ _ hN_55).trans hF_48
  have hN_58 : q_5 ≠ q_41 := fun h => hq_41 (h ▸ hL_34)
  have hL_56 : q_5 ∈ L ++ [q_5] ++ [q_16] ++ [q_27] ++ [q_41] := List.mem_append_left _ hL_34
  have hF_57 : f_52 q_5 = eS 0 [.int (nI 0), .ref K.2.2.1, .int (nI 0)] := by rw [ef_52]; exact (va_up_ne _ _ hN_58).trans hF_49
  have hN_61 : q_16 ≠ q_41 := fun h => hq_41 (h ▸ hL_37)
  have hL_59 : q_16 ∈ L ++ [q_5] ++ [q_16] ++ [q_27] ++ [q_41] := List.mem_append_left _ hL_37
  have hF_60 : f_52 q_16 = eS 0 [.int (nI 0), .ref K.2.2.1, .int (nI 0)] := by rw [ef_52]; exact (va_up_ne _ _ hN_61).trans hF_50
  have hN_64 : q_27 ≠ q_41 := fun h => hq_41 (h ▸ hL_40)
  have hL_62 : q_27 ∈ L ++ [q_5] ++ [q_16] ++ [q_27] ++ [q_41] := List.mem_append_left _ hL_40
  have hF_63 : f_52 q_27 = eS 0 [.int (nI 0), .ref K.2.2.1, .int (nI 0)] := by rw [ef_52]; exact (va_up_ne _ _ hN_64).trans hF_51
  have hL_65 : q_41 ∈ L ++ [q_5] ++ [q_16] ++ [q_27] ++ [q_41] := List.mem_append_right _ List.mem_cons_self
  have hF_66 : f_52 q_41 = eZ K 1000 (fun _ => 0) := by rw [ef_52]; exact va_up_self _ _ _
  refine z_putF (fs' := [.ref q_5, .ref q_16, .ref q_27, .ref q_41, .int (nI 0), .null]) hC hM hnm hL_53 hF_54 zcl_X6 (by decide) zl_X6_22 rfl rfl rfl (by rfl) (Nat.le_of_ble_eq_true rfl) rfl dX6_init_43 (fun H locs hM => ?_)
  obtain ⟨f_67, ef_67⟩ : ∃ z9, z9 = va_up f_52 o (eS 7 [.ref q_5, .ref q_16, .ref q_27, .ref q_41, .int (nI 0), .null]) := ⟨_, rfl⟩
  rw [← ef_67] at hM
  have hF_68 : f_67 o = eS 7 [.ref q_5, .ref q_16, .ref q_27, .ref q_41, .int (nI 0), .null] := by rw [ef_67]; exact va_up_self _ _ _
  have hF_69 : f_67 q_5 = eS 0 [.int (nI 0), .ref K.2.2.1, .int (nI 0)] := by rw [ef_67]; exact (va_up_ne _ _ (Ne.symm hN_4)).trans hF_57
  have hF_70 : f_67 q_16 = eS 0 [.int (nI 0), .ref K.2.2.1, .int (nI 0)] := by rw [ef_67]; exact (va_up_ne _ _ (Ne.symm hN_16)).trans hF_60
  have hF_71 : f_67 q_27 = eS 0 [.int (nI 0), .ref K.2.2.1, .int (nI 0)] := by rw [ef_67]; exact (va_up_ne _ _ (Ne.symm hN_33)).trans hF_63
  have hF_72 : f_67 q_41 = eZ K 1000 (fun _ => 0) := by rw [ef_67]; exact (va_up_ne _ _ (Ne.symm hN_55)).trans hF_66
  refine lv_aload_n hx hb dX6_init_46 rfl (lv_at hl 0 rfl) ?_
  refine lv_iconst (v := nI 0) hx hb dX6_init_47 (by decide) ?_
  refine z_put (fs' := [.ref q_5, .ref q_16, .ref q_27, .ref q_41, .int (nI 0), .null]) hC hM hL_53 hF_68 zcl_X6 (by decide) zl_X6_26 rfl rfl (by rfl) (Nat.le_of_ble_eq_true rfl) rfl dX6_init_48 (fun H locs hM => ?_)
  obtain ⟨f_73, ef_73⟩ : ∃ z9, z9 = va_up f_67 o (eS 7 [.ref q_5, .ref q_16, .ref q_27, .ref q_41, .int (nI 0), .null]) := ⟨_, rfl⟩
  rw [← ef_73] at hM
  have hF_74 : f_73 o = eS 7 [.ref q_5, .ref q_16, .ref q_27, .ref q_41, .int (nI 0), .null] := by rw [ef_73]; exact va_up_self _ _ _
  have hF_75 : f_73 q_5 = eS 0 [.int (nI 0), .ref K.2.2.1, .int (nI 0)] := by rw [ef_73]; exact (va_up_ne _ _ (Ne.symm hN_4)).trans hF_69
  have hF_76 : f_73 q_16 = eS 0 [.int (nI 0), .ref K.2.2.1, .int (nI 0)] := by rw [ef_73]; exact (va_up_ne _ _ (Ne.symm hN_16)).trans hF_70
  have hF_77 : f_73 q_27 = eS 0 [.int (nI 0), .ref K.2.2.1, .int (nI 0)] := by rw [ef_73]; exact (va_up_ne _ _ (Ne.symm hN_33)).trans hF_71
  have hF_78 : f_73 q_41 = eZ K 1000 (fun _ => 0) := by rw [ef_73]; exact (va_up_ne _ _ (Ne.symm hN_55)).trans hF_72
  refine lv_aload_n hx hb dX6_init_51 rfl (lv_at hl 0 rfl) ?_
  refine z_new (fs := [.null, .null, .int (nI 0), .double 0]) hC hM zcl_X0 zn_X6_30 (by decide) (by decide) (by decide) dX6_init_52 (fun q_52 H hq_52 hM => ?_)
  obtain ⟨f_79, ef_79⟩ : ∃ z9, z9 = va_up f_73 q_52 (eS 1 [.null, .null, .int (nI 0), .double 0]) := ⟨_, rfl⟩
  rw [← ef_79] at hM
  have hN_82 : o ≠ q_52 := fun h => hq_52 (h ▸ hL_53)
  have hL_80 : o ∈ L ++ [q_5] ++ [q_16] ++ [q_27] ++ [q_41] ++ [q_52] := List.mem_append_left _ hL_53
  have hF_81 : f_79 o = eS 7 [.ref q_5, .ref q_16, .ref q_27, .ref q_41, .int (nI 0), .null] := by rw [ef_79]; exact (va_up_ne _ _ hN_82).trans hF_74
  have hN_85 : q_5 ≠ q_52 := fun h => hq_52 (h ▸ hL_56)
  have hL_83 : q_5 ∈ L ++ [q_5] ++ [q_16] ++ [q_27] ++ [q_41] ++ [q_52] := List.mem_append_left _ hL_56
  have hF_84 : f_79 q_5 = eS 0 [.int (nI 0), .ref K.2.2.1, .int (nI 0)] := by rw [ef_79]; exact (va_up_ne _ _ hN_85).trans hF_75
  have hN_88 : q_16 ≠ q_52 := fun h => hq_52 (h ▸ hL_59)
  have hL_86 : q_16 ∈ L ++ [q_5] ++ [q_16] ++ [q_27] ++ [q_41] ++ [q_52] := List.mem_append_left _ hL_59
  have hF_87 : f_79 q_16 = eS 0 [.int (nI 0), .ref K.2.2.1, .int (nI 0)] := by rw [ef_79]; exact (va_up_ne _ _ hN_88).trans hF_76
  have hN_91 : q_27 ≠ q_52 := fun h => hq_52 (h ▸ hL_62)
  have hL_89 : q_27 ∈ L ++ [q_5] ++ [q_16] ++ [q_27] ++ [q_41] ++ [q_52] := List.mem_append_left _ hL_62
  have hF_90 : f_79 q_27 = eS 0 [.int (nI 0), .ref K.2.2.1, .int (nI 0)] := by rw [ef_79]; exact (va_up_ne _ _ hN_91).trans hF_77
  have hN_94 : q_41 ≠ q_52 := fun h => hq_52 (h ▸ hL_65)
  have hL_92 : q_41 ∈ L ++ [q_5] ++ [q_16] ++ [q_27] ++ [q_41] ++ [q_52] := List.mem_append_left _ hL_65
  have hF_93 : f_79 q_41 = eZ K 1000 (fun _ => 0) := by rw [ef_79]; exact (va_up_ne _ _ hN_94).trans hF_78
  have hL_95 : q_52 ∈ L ++ [q_5] ++ [q_16] ++ [q_27] ++ [q_41] ++ [q_52] := List.mem_append_right _ List.mem_cons_self
  have hF_96 : f_79 q_52 = eS 1 [.null, .null, .int (nI 0), .double 0] := by rw [ef_79]; exact va_up_self _ _ _
  refine lv_dup hx hb dX6_init_55 rfl ?_
  refine z_callv (z_runIN hC hM (c_finit hL_95 hF_96) zy_X0_init zm_X6_32 rfl rfl rfl hl.1 (Nat.le_of_ble_eq_true rfl) ⟨by decide, by decide⟩ ⟨by decide, by decide⟩ dX6_init_56) hM (fun L1 f1 H locs hp hM => ?_)
  obtain ⟨qa_56, qb_56, hqa_56, hqb_56, rfl, rfl⟩ := hp
  obtain ⟨f_97, ef_97⟩ : ∃ z9, z9 = va_up f_79 qa_56 (eD K 120 (fun _ => 0)) := ⟨_, rfl⟩
  rw [← ef_97] at hM
  have hN_100 : o ≠ qa_56 := fun h => hqa_56 (h ▸ hL_80)
  have hL_98 : o ∈ L ++ [q_5] ++ [q_16] ++ [q_27] ++ [q_41] ++ [q_52] ++ [qa_56] := List.mem_append_left _ hL_80
  have hF_99 : f_97 o = eS 7 [.ref q_5, .ref q_16, .ref q_27, .ref q_41, .int (nI 0), .null] := by rw [ef_97]; exact (va_up_ne _ _ hN_100).trans hF_81
  have hN_103 : q_5 ≠ qa_56 := fun h => hqa_56 (h ▸ hL_83)
  have hL_101 : q_5 ∈ L ++ [q_5] ++ [q_16] ++ [q_27] ++ [q_41] ++ [q_52] ++ [qa_56] := List.mem_append_left _ hL_83
  have hF_102 : f_97 q_5 = eS 0 [.int (nI 0), .ref K.2.2.1, .int (nI 0)] := by rw [ef_97]; exact (va_up_ne _ _ hN_103).trans hF_84
  have hN_106 : q_16 ≠ qa_56 := fun h => hqa_56 (h ▸ hL_86)
  have hL_104 : q_16 ∈ L ++ [q_5] ++ [q_16] ++ [q_27] ++ [q_41] ++ [q_52] ++ [qa_56] := List.mem_append_left _ hL_86
  have hF_105 : f_97 q_16 = eS 0 [.int (nI 0), .ref K.2.2.1, .int (nI 0)] := by rw [ef_97]; exact (va_up_ne _ _ hN_106).trans hF_87
  have hN_109 : q_27 ≠ qa_56 := fun h => hqa_56 (h ▸ hL_89)
  have hL_107 : q_27 ∈ L ++ [q_5] ++ [q_16] ++ [q_27] ++ [q_41] ++ [q_52] ++ [qa_56] := List.mem_append_left _ hL_89
  have hF_108 : f_97 q_27 = eS 0 [.int (nI 0), .ref K.2.2.1, .int (nI 0)] := by rw [ef_97]; exact (va_up_ne _ _ hN_109).trans hF_90
  have hN_112 : q_41 ≠ qa_56 := fun h => hqa_56 (h ▸ hL_92)
  have hL_110 : q_41 ∈ L ++ [q_5] ++ [q_16] ++ [q_27] ++ [q_41] ++ [q_52] ++ [qa_56] := List.mem_append_left _ hL_92
  have hF_111 : f_97 q_41 = eZ K 1000 (fun _ => 0) := by rw [ef_97]; exact (va_up_ne _ _ hN_112).trans hF_93
  have hN_115 : q_52 ≠ qa_56 := fun h => hqa_56 (h ▸ hL_95)
  have hL_113 : q_52 ∈ L ++ [q_5] ++ [q_16] ++ [q_27] ++ [q_41] ++ [q_52] ++ [qa_56] := List.mem_append_left _ hL_95
  have hF_114 : f_97 q_52 = eS 1 [.null, .null, .int (nI 0), .double 0] := by rw [ef_97]; exact (va_up_ne _ _ hN_115).trans hF_96
  have hL_116 : qa_56 ∈ L ++ [q_5] ++ [q_16] ++ [q_27] ++ [q_41] ++ [q_52] ++ [qa_56] := List.mem_append_right _ List.mem_cons_self
  have hF_117 : f_97 qa_56 = eD K 120 (fun _ => 0) := by rw [ef_97]; exact va_up_self _ _ _
  obtain ⟨f_118, ef_118⟩ : ∃ z9, z9 = va_up f_97 qb_56 (eI K 120 (fun _ => 0)) := ⟨_, rfl⟩
  rw [← ef_118] at hM
  have hN_121 : o ≠ qb_56 := fun h => hqb_56 (h ▸ hL_98)
  have hL_119 : o ∈ L ++ [q_5] ++ [q_16] ++ [q_27] ++ [q_41] ++ [q_52] ++ [qa_56] ++ [qb_56] := List.mem_append_left _ hL_98
  have hF_120 : f_118 o = eS 7 [.ref q_5, .ref q_16, .ref q_27, .ref q_41, .int (nI 0), .null] := by rw [ef_118]; exact (va_up_ne _ _ hN_121).trans hF_99
  have hN_124 : q_5 ≠ qb_56 := fun h => hqb_56 (h ▸ hL_101)
  have hL_122 : q_5 ∈ L ++ [q_5] ++ [q_16] ++ [q_27] ++ [q_41] ++ [q_52] ++ [qa_56] ++ [qb_56] := List.mem_append_left _ hL_101
  have hF_123 : f_118 q_5 = eS 0 [.int (nI 0), .ref K.2.2.1, .int (nI 0)] := by rw [ef_118]; exact (va_up_ne _ _ hN_124).trans hF_102
  have hN_127 : q_16 ≠ qb_56 := fun h => hqb_56 (h ▸ hL_104)
  have hL_125 : q_16 ∈ L ++ [q_5] ++ [q_16] ++ [q_27] ++ [q_41] ++ [q_52] ++ [qa_56] ++ [qb_56] := List.mem_append_left _ hL_104
  have hF_126 : f_118 q_16 = eS 0 [.int (nI 0), .ref K.2.2.1, .int (nI 0)] := by rw [ef_118]; exact (va_up_ne _ _ hN_127).trans hF_105
  have hN_130 : q_27 ≠ qb_56 := fun h => hqb_56 (h ▸ hL_107)
  have hL_128 : q_27 ∈ L ++ [q_5] ++ [q_16] ++ [q_27] ++ [q_41] ++ [q_52] ++ [qa_56] ++ [qb_56] := List.mem_append_left _ hL_107
  have hF_129 : f_118 q_27 = eS 0 [.int (nI 0), .ref K.2.2.1, .int (nI 0)] := by rw [ef_118]; exact (va_up_ne _ _ hN_130).trans hF_108
  have hN_133 : q_41 ≠ qb_56 := fun h => hqb_56 (h ▸ hL_110)
  have hL_131 : q_41 ∈ L ++ [q_5] ++ [q_16] ++ [q_27] ++ [q_41] ++ [q_52] ++ [qa_56] ++ [qb_56] := List.mem_append_left _ hL_110
  have hF_132 : f_118 q_41 = eZ K 1000 (fun _ => 0) := by rw [ef_118]; exact (va_up_ne _ _ hN_133).trans hF_111
  have hN_136 : q_52 ≠ qb_56 := fun h => hqb_56 (h ▸ hL_113)
  have hL_134 : q_52 ∈ L ++ [q_5] ++ [q_16] ++ [q_27] ++ [q_41] ++ [q_52] ++ [qa_56] ++ [qb_56] := List.mem_append_left _ hL_113
  have hF_135 : f_118 q_52 = eS 1 [.null, .null, .int (nI 0), .double 0] := by rw [ef_118]; exact (va_up_ne _ _ hN_136).trans hF_114
  have hN_139 : qa_56 ≠ qb_56 := fun h => hqb_56 (h ▸ hL_116)
  have hL_137 : qa_56 ∈ L ++ [q_5] ++ [q_16] ++ [q_27] ++ [q_41] ++ [q_52] ++ [qa_56] ++ [qb_56] := List.mem_append_left _ hL_116
  have hF_138 : f_118 qa_56 = eD K 120 (fun _ => 0) := by rw [ef_118]; exact (va_up_ne _ _ hN_139).trans hF_117
  have hL_140 : qb_56 ∈ L ++ [q_5] ++ [q_16] ++ [q_27] ++ [q_41] ++ [q_52] ++ [qa_56] ++ [qb_56] := List.mem_append_right _ List.mem_cons_self
  have hF_141 : f_118 qb_56 = eI K 120 (fun _ => 0) := by rw [ef_118]; exact va_up_self _ _ _
  obtain ⟨f_142, ef_142⟩ : ∃ z9, z9 = va_up f_118 q_52 (eS 1 [.ref qa_56, .ref qb_56, .int (nI 0), .double 0]) := ⟨_, rfl⟩
  rw [← ef_142] at hM
  have hF_143 : f_142 o = eS 7 [.ref q_5, .ref q_16, .ref q_27, .ref q_41, .int (nI 0), .null] := by rw [ef_142]; exact (va_up_ne _ _ hN_82).trans hF_120
  have hF_144 : f_142 q_5 = eS 0 [.int (nI 0), .ref K.2.2.1, .int (nI 0)] := by rw [ef_142]; exact (va_up_ne _ _ hN_85).trans hF_123
  have hF_145 : f_142 q_16 = eS 0 [.int (nI 0), .ref K.2.2.1, .int (nI 0)] := by rw [ef_142]; exact (va_up_ne _ _ hN_88).trans hF_126
  have hF_146 : f_142 q_27 = eS 0 [.int (nI 0), .ref K.2.2.1, .int (nI 0)] := by rw [ef_142]; exact (va_up_ne _ _ hN_91).trans hF_129
  have hF_147 : f_142 q_41 = eZ K 1000 (fun _ => 0) := by rw [ef_142]; exact (va_up_ne _ _ hN_94).trans hF_132
  have hF_148 : f_142 q_52 = eS 1 [.ref qa_56, .ref qb_56, .int (nI 0), .double 0] := by rw [ef_142]; exact va_up_self _ _ _
  have hF_149 : f_142 qa_56 = eD K 120 (fun _ => 0) := by rw [ef_142]; exact (va_up_ne _ _ (Ne.symm hN_115)).trans hF_138
  have hF_150 : f_142 qb_56 = eI K 120 (fun _ => 0) := by rw [ef_142]; exact (va_up_ne _ _ (Ne.symm hN_136)).trans hF_141
  refine z_putF (fs' := [.ref q_5, .ref q_16, .ref q_27, .ref q_41, .int (nI 0), .ref q_52]) hC hM hnm hL_119 hF_143 zcl_X6 (by decide) zl_X6_33 rfl rfl rfl (by rfl) (Nat.le_of_ble_eq_true rfl) rfl dX6_init_59 (fun H locs hM => ?_)
  obtain ⟨f_151, ef_151⟩ : ∃ z9, z9 = va_up f_142 o (eS 7 [.ref q_5, .ref q_16, .ref q_27, .ref q_41, .int (nI 0), .ref q_52]) := ⟨_, rfl⟩
  rw [← ef_151] at hM
  have hF_152 : f_151 o = eS 7 [.ref q_5, .ref q_16, .ref q_27, .ref q_41, .int (nI 0), .ref q_52] := by rw [ef_151]; exact va_up_self _ _ _
  have hF_153 : f_151 q_5 = eS 0 [.int (nI 0), .ref K.2.2.1, .int (nI 0)] := by rw [ef_151]; exact (va_up_ne _ _ (Ne.symm hN_4)).trans hF_144
  have hF_154 : f_151 q_16 = eS 0 [.int (nI 0), .ref K.2.2.1, .int (nI 0)] := by rw [ef_151]; exact (va_up_ne _ _ (Ne.symm hN_16)).trans hF_145
  have hF_155 : f_151 q_27 = eS 0 [.int (nI 0), .ref K.2.2.1, .int (nI 0)] := by rw [ef_151]; exact (va_up_ne _ _ (Ne.symm hN_33)).trans hF_146
  have hF_156 : f_151 q_41 = eZ K 1000 (fun _ => 0) := by rw [ef_151]; exact (va_up_ne _ _ (Ne.symm hN_55)).trans hF_147
  have hF_157 : f_151 q_52 = eS 1 [.ref qa_56, .ref qb_56, .int (nI 0), .double 0] := by rw [ef_151]; exact (va_up_ne _ _ (Ne.symm hN_82)).trans hF_148
  have hF_158 : f_151 qa_56 = eD K 120 (fun _ => 0) := by rw [ef_151]; exact (va_up_ne _ _ (Ne.symm hN_100)).trans hF_149
  have hF_159 : f_151 qb_56 = eI K 120 (fun _ => 0) := by rw [ef_151]; exact (va_up_ne _ _ (Ne.symm hN_121)).trans hF_150
  rw [← hQ]
  exact z_vret hC hM hr hlk (by decide) (by decide) ⟨q_5, q_16, q_27, q_41, q_52, qa_56, qb_56, ⟨hq_5, hq_16, hq_27, hq_41, hq_52, hqa_56, hqb_56⟩, rfl, hF_152, hF_153, hF_154, hF_155, hF_156, hF_157, hF_158, hF_159, (fun x hx0 hx1 hx2 hx3 hx4 hx5 hx6 hx7 => by rw [ef_151, ef_142, ef_118, ef_97, ef_79, ef_73, ef_67, ef_52, ef_47, ef_42, ef_30, ef_26, ef_22, ef_13, ef_10, ef_7, ef_1]; simp only [va_up, hx0, hx1, hx2, hx3, hx4, hx5, hx6, hx7, if_false])⟩ dX6_init_62
