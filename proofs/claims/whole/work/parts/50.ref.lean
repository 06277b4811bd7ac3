/-! CONTRACT: making a TransitryModel (rows laid by wip/whole/ref7.py) -/
theorem inj_map {ma : Nat → Nat} : ∀ l : List Nat, (l.map ma).Nodup → ∀ k k', k ∈ l → k' ∈ l → ma k = ma k' → k = k'
  | [], _, k, _, h, _, _ => absurd h List.not_mem_nil
  | a :: l, hn, k, k', h, h', e => by
    rw [List.map_cons, List.nodup_cons] at hn
    rcases List.mem_cons.mp h with h1 | h1 <;> rcases List.mem_cons.mp h' with h2 | h2
    · rw [h1, h2]
    · exact absurd (by rw [← h1, e]; exact List.mem_map.mpr ⟨k', h2, rfl⟩) hn.1
    · exact absurd (by rw [← h2, ← e]; exact List.mem_map.mpr ⟨k, h1, rfl⟩) hn.1
    · exact inj_map l hn.2 k k' h1 h2 e
def mkL : List Nat := [0] ++ [2] ++ [3] ++ [4] ++ [5] ++ [6] ++ [7] ++ [8] ++ [9] ++ [10] ++ [11] ++ [12] ++ [13] ++ [14] ++ [15] ++ [16] ++ [20] ++ [21] ++ [22] ++ [23] ++ [25] ++ [26]
theorem nd_ix {ma : Nat → Nat} {P L : List Nat} {k q : Nat} (e : ma k = q) (h : (P.map ma).Nodup ∧ ∀ x, x ∈ P → ma x ∈ L) (hq : q ∉ L) : ((P ++ [k]).map ma).Nodup ∧ ∀ x, x ∈ P ++ [k] → ma x ∈ L ++ [q] := by
  refine ⟨?_, fun x hx => ?_⟩
  · rw [List.map_append, List.nodup_append]
    refine ⟨h.1, by simp, fun a ha b hb => ?_⟩
    obtain ⟨x, hx, rfl⟩ := List.mem_map.mp ha
    have hb : b = ma k := by simpa using hb
    rw [hb, e]
    exact fun z => hq (z ▸ h.2 x hx)
  · rcases List.mem_append.mp hx with hx | hx
    · exact List.mem_append_left _ (h.2 x hx)
    · have hx : x = k := by simpa using hx
      rw [hx, e]; exact List.mem_append_right _ List.mem_cons_self
theorem mk_mem {k : Nat} (h : mk k) : k ∈ mkL := by
  have : k = 0 ∨ k = 2 ∨ k = 3 ∨ k = 4 ∨ k = 5 ∨ k = 6 ∨ k = 7 ∨ k = 8 ∨ k = 9 ∨ k = 10 ∨ k = 11 ∨ k = 12 ∨ k = 13 ∨ k = 14 ∨ k = 15 ∨ k = 16 ∨ k = 20 ∨ k = 21 ∨ k = 22 ∨ k = 23 ∨ k = 25 ∨ k = 26 := by omega
  rcases this with h | h | h | h | h | h | h | h | h | h | h | h | h | h | h | h | h | h | h | h | h | h <;> subst h <;> decide
/-- nothing yet -/
def A0 : zA := (fun _ _ => 0, fun _ => 0)
set_option maxHeartbeats 4000000 in
set_option maxRecDepth 100000 in
theorem m_init {l : Launch} {base : Nat} {K : zK} {L : List Nat} {f : Nat → va_E} {o : Nat} (ho : o ∈ L) (hfo : f o = eS 8 [.int (nI 0), .int (nI 0), .null, .null, .null, .null, .null, .null, .null, .null, .null, .null, .null, .null, .null, .null, .null, .double 0, .int (nI 0), .int (nI 0), .null, .null, .null, .null, .int (nI 0), .null, .null]) : zMet l yX7_init cX7_init 1 (none) (zr 1 21 13500 12) base K L f [.ref o] (zQv base K (fun L1 f1 => ∃ ma : Nat → Nat, ma 0 = o ∧ MI K L1 f1 A0 ma (nI 0) ∧ ∀ x, x ∈ L → x ∈ L1 ∧ (x ≠ o → f1 x = f x ∧ ∀ k, mk k → ma k ≠ x))) := by
  refine z_met (by decide) (Nat.le_of_ble_eq_true rfl) (fun p e s m below meth c ls hC hM hr hlk hnm hl => ?_)
  have hx := hC.1
  have hb := hC.2.1
  have hml := hC.2.2.1
  have hown := hC.2.2.2.1
  have hts := hC.2.2.2.2.1
  generalize hA : ([.ref o] : List Value).toArray = args at hC ⊢
  generalize hQ : MQ _ _ _ _ _ _ _ = Q
  obtain ⟨locs, hlocs⟩ : ∃ z : List Loc, z = [] := ⟨_, rfl⟩
  obtain ⟨H, hH⟩ : ∃ z : Heap, z = s.heap := ⟨_, rfl⟩
  rw [← hlocs, ← hH] at hM ⊢
  have hl : lv_has ls 1 [(0, .ref o)] := hl
  refine lv_aload_n hx hb dX7_init_0 rfl (lv_at hl 0 rfl) ?_
  refine z_objInit hC zm_X7_1 hl.1 (by decide) (Nat.le_of_ble_eq_true rfl) dX7_init_1 ?_
  refine lv_aload_n hx hb dX7_init_4 rfl (lv_at hl 0 rfl) ?_
  refine lv_bipush (v := nI 6) hx hb dX7_init_5 (by decide) ?_
  refine z_newI hC hM zarr_int (by decide) (by decide) (by decide) dX7_init_7 (fun q_7 H hq_7 hM => ?_)
  obtain ⟨f_1, ef_1⟩ : ∃ z9, z9 = va_up f q_7 (eI K 6 (fun _ => 0)) := ⟨_, rfl⟩
  rw [← ef_1] at hM
  have hN_4 : o ≠ q_7 := fun h => hq_7 (h ▸ ho)
  have hL_2 : o ∈ L ++ [q_7] := List.mem_append_left _ ho
  have hF_3 : f_1 o = eS 8 [.int (nI 0), .int (nI 0), .null, .null, .null, .null, .null, .null, .null, .null, .null, .null, .null, .null, .null, .null, .null, .double 0, .int (nI 0), .int (nI 0), .null, .null, .null, .null, .int (nI 0), .null, .null] := by rw [ef_1]; exact (va_up_ne _ _ hN_4).trans hfo
  have hL_5 : q_7 ∈ L ++ [q_7] := List.mem_append_right _ List.mem_cons_self
  have hF_6 : f_1 q_7 = eI K 6 (fun _ => 0) := by rw [ef_1]; exact va_up_self _ _ _
  refine z_putF (fs' := [.int (nI 0), .int (nI 0), .ref q_7, .null, .null, .null, .null, .null, .null, .null, .null, .null, .null, .null, .null, .null, .null, .double 0, .int (nI 0), .int (nI 0), .null, .null, .null, .null, .int (nI 0), .null, .null]) hC hM hnm hL_2 hF_3 zcl_X7 (by decide) zl_X7_7 rfl rfl rfl (by rfl) (Nat.le_of_ble_eq_true rfl) rfl dX7_init_9 (fun H locs hM => ?_)
  obtain ⟨f_7, ef_7⟩ : ∃ z9, z9 = va_up f_1 o (eS 8 [.int (nI 0), .int (nI 0), .ref q_7, .null, .null, .null, .null, .null, .null, .null, .null, .null, .null, .null, .null, .null, .null, .double 0, .int (nI 0), .int (nI 0), .null, .null, .null, .null, .int (nI 0), .null, .null]) := ⟨_, rfl⟩
  rw [← ef_7] at hM
  have hF_8 : f_7 o = eS 8 [.int (nI 0), .int (nI 0), .ref q_7, .null, .null, .null, .null, .null, .null, .null, .null, .null, .null, .null, .null, .null, .null, .double 0, .int (nI 0), .int (nI 0), .null, .null, .null, .null, .int (nI 0), .null, .null] := by rw [ef_7]; exact va_up_self _ _ _
  have hF_9 : f_7 q_7 = eI K 6 (fun _ => 0) := by rw [ef_7]; exact (va_up_ne _ _ (Ne.symm hN_4)).trans hF_6
  refine lv_aload_n hx hb dX7_init_12 rfl (lv_at hl 0 rfl) ?_
  refine lv_bipush (v := nI 6) hx hb dX7_init_13 (by decide) ?_
  refine z_newI hC hM zarr_int (by decide) (by decide) (by decide) dX7_init_15 (fun q_15 H hq_15 hM => ?_)
  obtain ⟨f_10, ef_10⟩ : ∃ z9, z9 = va_up f_7 q_15 (eI K 6 (fun _ => 0)) := ⟨_, rfl⟩
  rw [← ef_10] at hM
  have hN_13 : o ≠ q_15 := fun h => hq_15 (h ▸ hL_2)
  have hL_11 : o ∈ L ++ [q_7] ++ [q_15] := List.mem_append_left _ hL_2
  have hF_12 : f_10 o = eS 8 [.int (nI 0), .int (nI 0), .ref q_7, .null, .null, .null, .null, .null, .null, .null, .null, .null, .null, .null, .null, .null, .null, .double 0, .int (nI 0), .int (nI 0), .null, .null, .null, .null, .int (nI 0), .null, .null] := by rw [ef_10]; exact (va_up_ne _ _ hN_13).trans hF_8
  have hN_16 : q_7 ≠ q_15 := fun h => hq_15 (h ▸ hL_5)
  have hL_14 : q_7 ∈ L ++ [q_7] ++ [q_15] := List.mem_append_left _ hL_5
  have hF_15 : f_10 q_7 = eI K 6 (fun _ => 0) := by rw [ef_10]; exact (va_up_ne _ _ hN_16).trans hF_9
  have hL_17 : q_15 ∈ L ++ [q_7] ++ [q_15] := List.mem_append_right _ List.mem_cons_self
  have hF_18 : f_10 q_15 = eI K 6 (fun _ => 0) := by rw [ef_10]; exact va_up_self _ _ _
  refine z_putF (fs' := [.int (nI 0), .int (nI 0), .ref q_7, .ref q_15, .null, .null, .null, .null, .null, .null, .null, .null, .null, .null, .null, .null, .null, .double 0, .int (nI 0), .int (nI 0), .null, .null, .null, .null, .int (nI 0), .null, .null]) hC hM hnm hL_11 hF_12 zcl_X7 (by decide) zl_X7_13 rfl rfl rfl (by rfl) (Nat.le_of_ble_eq_true rfl) rfl dX7_init_17 (fun H locs hM => ?_)
  obtain ⟨f_19, ef_19⟩ : ∃ z9, z9 = va_up f_10 o (eS 8 [.int (nI 0), .int (nI 0), .ref q_7, .ref q_15, .null, .null, .null, .null, .null, .null, .null, .null, .null, .null, .null, .null, .null, .double 0, .int (nI 0), .int (nI 0), .null, .null, .null, .null, .int (nI 0), .null, .null]) := ⟨_, rfl⟩
  rw [← ef_19] at hM
  have hF_20 : f_19 o = eS 8 [.int (nI 0), .int (nI 0), .ref q_7, .ref q_15, .null, .null, .null, .null, .null, .null, .null, .null, .null, .null, .null, .null, .null, .double 0, .int (nI 0), .int (nI 0), .null, .null, .null, .null, .int (nI 0), .null, .null] := by rw [ef_19]; exact va_up_self _ _ _
  have hF_21 : f_19 q_7 = eI K 6 (fun _ => 0) := by rw [ef_19]; exact (va_up_ne _ _ (Ne.symm hN_4)).trans hF_15
  have hF_22 : f_19 q_15 = eI K 6 (fun _ => 0) := by rw [ef_19]; exact (va_up_ne _ _ (Ne.symm hN_13)).trans hF_18
  refine lv_aload_n hx hb dX7_init_20 rfl (lv_at hl 0 rfl) ?_
  refine lv_bipush (v := nI 24) hx hb dX7_init_21 (by decide) ?_
  refine z_newI hC hM zarr_int (by decide) (by decide) (by decide) dX7_init_23 (fun q_23 H hq_23 hM => ?_)
  obtain ⟨f_23, ef_23⟩ : ∃ z9, z9 = va_up f_19 q_23 (eI K 24 (fun _ => 0)) := ⟨_, rfl⟩
  rw [← ef_23] at hM
  have hN_26 : o ≠ q_23 := fun h => hq_23 (h ▸ hL_11)
  have hL_24 : o ∈ L ++ [q_7] ++ [q_15] ++ [q_23] := List.mem_append_left _ hL_11
  have hF_25 : f_23 o = eS 8 [.int (nI 0), .int (nI 0), .ref q_7, .ref q_15, .null, .null, .null, .null, .null, .null, .null, .null, .null, .null, .null, .null, .null, .double 0, .int (nI 0), .int (nI 0), .null, .null, .null, .null, .int (nI 0), .null, .null] := by rw [ef_23]; exact (va_up_ne _ _ hN_26).trans hF_20
  have hN_29 : q_7 ≠ q_23 := fun h => hq_23 (h ▸ hL_14)
  have hL_27 : q_7 ∈ L ++ [q_7] ++ [q_15] ++ [q_23] := List.mem_append_left _ hL_14
  have hF_28 : f_23 q_7 = eI K 6 (fun _ => 0) := by rw [ef_23]; exact (va_up_ne _ _ hN_29).trans hF_21
  have hN_32 : q_15 ≠ q_23 := fun h => hq_23 (h ▸ hL_17)
  have hL_30 : q_15 ∈ L ++ [q_7] ++ [q_15] ++ [q_23] := List.mem_append_left _ hL_17
  have hF_31 : f_23 q_15 = eI K 6 (fun _ => 0) := by rw [ef_23]; exact (va_up_ne _ _ hN_32).trans hF_22
  have hL_33 : q_23 ∈ L ++ [q_7] ++ [q_15] ++ [q_23] := List.mem_append_right _ List.mem_cons_self
  have hF_34 : f_23 q_23 = eI K 24 (fun _ => 0) := by rw [ef_23]; exact va_up_self _ _ _
  refine z_putF (fs' := [.int (nI 0), .int (nI 0), .ref q_7, .ref q_15, .ref q_23, .null, .null, .null, .null, .null, .null, .null, .null, .null, .null, .null, .null, .double 0, .int (nI 0), .int (nI 0), .null, .null, .null, .null, .int (nI 0), .null, .null]) hC hM hnm hL_24 hF_25 zcl_X7 (by decide) zl_X7_16 rfl rfl rfl (by rfl) (Nat.le_of_ble_eq_true rfl) rfl dX7_init_25 (fun H locs hM => ?_)
  obtain ⟨f_35, ef_35⟩ : ∃ z9, z9 = va_up f_23 o (eS 8 [.int (nI 0), .int (nI 0), .ref q_7, .ref q_15, .ref q_23, .null, .null, .null, .null, .null, .null, .null, .null, .null, .null, .null, .null, .double 0, .int (nI 0), .int (nI 0), .null, .null, .null, .null, .int (nI 0), .null, .null]) := ⟨_, rfl⟩
  rw [← ef_35] at hM
  have hF_36 : f_35 o = eS 8 [.int (nI 0), .int (nI 0), .ref q_7, .ref q_15, .ref q_23, .null, .null, .null, .null, .null, .null, .null, .null, .null, .null, .null, .null, .double 0, .int (nI 0), .int (nI 0), .null, .null, .null, .null, .int (nI 0), .null, .null] := by rw [ef_35]; exact va_up_self _ _ _
  have hF_37 : f_35 q_7 = eI K 6 (fun _ => 0) := by rw [ef_35]; exact (va_up_ne _ _ (Ne.symm hN_4)).trans hF_28
  have hF_38 : f_35 q_15 = eI K 6 (fun _ => 0) := by rw [ef_35]; exact (va_up_ne _ _ (Ne.symm hN_13)).trans hF_31
  have hF_39 : f_35 q_23 = eI K 24 (fun _ => 0) := by rw [ef_35]; exact (va_up_ne _ _ (Ne.symm hN_26)).trans hF_34
  refine lv_aload_n hx hb dX7_init_28 rfl (lv_at hl 0 rfl) ?_
  refine lv_bipush (v := nI 24) hx hb dX7_init_29 (by decide) ?_
  refine z_newI hC hM zarr_int (by decide) (by decide) (by decide) dX7_init_31 (fun q_31 H hq_31 hM => ?_)
  obtain ⟨f_40, ef_40⟩ : ∃ z9, z9 = va_up f_35 q_31 (eI K 24 (fun _ => 0)) := ⟨_, rfl⟩
  rw [← ef_40] at hM
  have hN_43 : o ≠ q_31 := fun h => hq_31 (h ▸ hL_24)
  have hL_41 : o ∈ L ++ [q_7] ++ [q_15] ++ [q_23] ++ [q_31] := List.mem_append_left _ hL_24
  have hF_42 : f_40 o = eS 8 [.int (nI 0), .int (nI 0), .ref q_7, .ref q_15, .ref q_23, .null, .null, .null, .null, .null, .null, .null, .null, .null, .null, .null, .null, .double 0, .int (nI 0), .int (nI 0), .null, .null, .null, .null, .int (nI 0), .null, .null] := by rw [ef_40]; exact (va_up_ne _ _ hN_43).trans hF_36
  have hN_46 : q_7 ≠ q_31 := fun h => hq_31 (h ▸ hL_27)
  have hL_44 : q_7 ∈ L ++ [q_7] ++ [q_15] ++ [q_23] ++ [q_31] := List.mem_append_left _ hL_27
  have hF_45 : f_40 q_7 = eI K 6 (fun _ => 0) := by rw [ef_40]; exact (va_up_ne _ _ hN_46).trans hF_37
  have hN_49 : q_15 ≠ q_31 := fun h => hq_31 (h ▸ hL_30)
  have hL_47 : q_15 ∈ L ++ [q_7] ++ [q_15] ++ [q_23] ++ [q_31] := List.mem_append_left _ hL_30
  have hF_48 : f_40 q_15 = eI K 6 (fun _ => 0) := by rw [ef_40]; exact (va_up_ne _ _ hN_49).trans hF_38
  have hN_52 : q_23 ≠ q_31 := fun h => hq_31 (h ▸ hL_33)
  have hL_50 : q_23 ∈ L ++ [q_7] ++ [q_15] ++ [q_23] ++ [q_31] := List.mem_append_left _ hL_33
  have hF_51 : f_40 q_23 = eI K 24 (fun _ => 0) := by rw [ef_40]; exact (va_up_ne _ _ hN_52).trans hF_39
  have hL_53 : q_31 ∈ L ++ [q_7] ++ [q_15] ++ [q_23] ++ [q_31] := List.mem_append_right _ List.mem_cons_self
  have hF_54 : f_40 q_31 = eI K 24 (fun _ => 0) := by rw [ef_40]; exact va_up_self _ _ _
  refine z_putF (fs' := [.int (nI 0), .int (nI 0), .ref q_7, .ref q_15, .ref q_23, .ref q_31, .null, .null, .null, .null, .null, .null, .null, .null, .null, .null, .null, .double 0, .int (nI 0), .int (nI 0), .null, .null, .null, .null, .int (nI 0), .null, .null]) hC hM hnm hL_41 hF_42 zcl_X7 (by decide) zl_X7_19 rfl rfl rfl (by rfl) (Nat.le_of_ble_eq_true rfl) rfl dX7_init_33 (fun H locs hM => ?_)
  obtain ⟨f_55, ef_55⟩ : ∃ z9, z9 = va_up f_40 o (eS 8 [.int (nI 0), .int (nI 0), .ref q_7, .ref q_15, .ref q_23, .ref q_31, .null, .null, .null, .null, .null, .null, .null, .null, .null, .null, .null, .double 0, .int (nI 0), .int (nI 0), .null, .null, .null, .null, .int (nI 0), .null, .null]) := ⟨_, rfl⟩
  rw [← ef_55] at hM
  have hF_56 : f_55 o = eS 8 [.int (nI 0), .int (nI 0), .ref q_7, .ref q_15, .ref q_23, .ref q_31, .null, .null, .null, .null, .null, .null, .null, .null, .null, .null, .null, .double 0, .int (nI 0), .int (nI 0), .null, .null, .null, .null, .int (nI 0), .null, .null] := by rw [ef_55]; exact va_up_self _ _ _
  have hF_57 : f_55 q_7 = eI K 6 (fun _ => 0) := by rw [ef_55]; exact (va_up_ne _ _ (Ne.symm hN_4)).trans hF_45
  have hF_58 : f_55 q_15 = eI K 6 (fun _ => 0) := by rw [ef_55]; exact (va_up_ne _ _ (Ne.symm hN_13)).trans hF_48
  have hF_59 : f_55 q_23 = eI K 24 (fun _ => 0) := by rw [ef_55]; exact (va_up_ne _ _ (Ne.symm hN_26)).trans hF_51
  have hF_60 : f_55 q_31 = eI K 24 (fun _ => 0) := by rw [ef_55]; exact (va_up_ne _ _ (Ne.symm hN_43)).trans hF_54
  refine lv_aload_n hx hb dX7_init_36 rfl (lv_at hl 0 rfl) ?_
  refine lv_bipush (v := nI 24) hx hb dX7_init_37 (by decide) ?_
  refine z_newI hC hM zarr_int (by decide) (by decide) (by decide) dX7_init_39 (fun q_39 H hq_39 hM => ?_)
  obtain ⟨f_61, ef_61⟩ : ∃ z9, z9 = va_up f_55 q_39 (eI K 24 (fun _ => 0)) := ⟨_, rfl⟩
  rw [← ef_61] at hM
  have hN_64 : o ≠ q_39 := fun h => hq_39 (h ▸ hL_41)
  have hL_62 : o ∈ L ++ [q_7] ++ [q_15] ++ [q_23] ++ [q_31] ++ [q_39] := List.mem_append_left _ hL_41
  have hF_63 : f_61 o = eS 8 [.int (nI 0), .int (nI 0), .ref q_7, .ref q_15, .ref q_23, .ref q_31, .null, .null, .null, .null, .null, .null, .null, .null, .null, .null, .null, .double 0, .int (nI 0), .int (nI 0), .null, .null, .null, .null, .int (nI 0), .null, .null] := by rw [ef_61]; exact (va_up_ne _ _ hN_64).trans hF_56
  have hN_67 : q_7 ≠ q_39 := fun h => hq_39 (h ▸ hL_44)
  have hL_65 : q_7 ∈ L ++ [q_7] ++ [q_15] ++ [q_23] ++ [q_31] ++ [q_39] := List.mem_append_left _ hL_44
  have hF_66 : f_61 q_7 = eI K 6 (fun _ => 0) := by rw [ef_61]; exact (va_up_ne _ _ hN_67).trans hF_57
  have hN_70 : q_15 ≠ q_39 := fun h => hq_39 (h ▸ hL_47)
  have hL_68 : q_15 ∈ L ++ [q_7] ++ [q_15] ++ [q_23] ++ [q_31] ++ [q_39] := List.mem_append_left _ hL_47
  have hF_69 : f_61 q_15 = eI K 6 (fun _ => 0) := by rw [ef_61]; exact (va_up_ne _ _ hN_70).trans hF_58
  have hN_73 : q_23 ≠ q_39 := fun h => hq_39 (h ▸ hL_50)
  have hL_71 : q_23 ∈ L ++ [q_7] ++ [q_15] ++ [q_23] ++ [q_31] ++ [q_39] := List.mem_append_left _ hL_50
  have hF_72 : f_61 q_23 = eI K 24 (fun _ => 0) := by rw [ef_61]; exact (va_up_ne _ _ hN_73).trans hF_59
  have hN_76 : q_31 ≠ q_39 := fun h => hq_39 (h ▸ hL_53)
  have hL_74 : q_31 ∈ L ++ [q_7] ++ [q_15] ++ [q_23] ++ [q_31] ++ [q_39] := List.mem_append_left _ hL_53
  have hF_75 : f_61 q_31 = eI K 24 (fun _ => 0) := by rw [ef_61]; exact (va_up_ne _ _ hN_76).trans hF_60
  have hL_77 : q_39 ∈ L ++ [q_7] ++ [q_15] ++ [q_23] ++ [q_31] ++ [q_39] := List.mem_append_right _ List.mem_cons_self
  have hF_78 : f_61 q_39 = eI K 24 (fun _ => 0) := by rw [ef_61]; exact va_up_self _ _ _
  refine z_putF (fs' := [.int (nI 0), .int (nI 0), .ref q_7, .ref q_15, .ref q_23, .ref q_31, .ref q_39, .null, .null, .null, .null, .null, .null, .null, .null, .null, .null, .double 0, .int (nI 0), .int (nI 0), .null, .null, .null, .null, .int (nI 0), .null, .null]) hC hM hnm hL_62 hF_63 zcl_X7 (by decide) zl_X7_22 rfl rfl rfl (by rfl) (Nat.le_of_ble_eq_true rfl) rfl dX7_init_41 (fun H locs hM => ?_)
  obtain ⟨f_79, ef_79⟩ : ∃ z9, z9 = va_up f_61 o (eS 8 [.int (nI 0), .int (nI 0), .ref q_7, .ref q_15, .ref q_23, .ref q_31, .ref q_39, .null, .null, .null, .null, .null, .null, .null, .null, .null, .null, .double 0, .int (nI 0), .int (nI 0), .null, .null, .null, .null, .int (nI 0), .null, .null]) := ⟨_, rfl⟩
  rw [← ef_79] at hM
  have hF_80 : f_79 o = eS 8 [.int (nI 0), .int (nI 0), .ref q_7, .ref q_15, .ref q_23, .ref q_31, .ref q_39, .null, .null, .null, .null, .null, .null, .null, .null, .null, .null, .double 0, .int (nI 0), .int (nI 0), .null, .null, .null, .null, .int (nI 0), .null, .null] := by rw [ef_79]; exact va_up_self _ _ _
  have hF_81 : f_79 q_7 = eI K 6 (fun _ => 0) := by rw [ef_79]; exact (va_up_ne _ _ (Ne.symm hN_4)).trans hF_66
  have hF_82 : f_79 q_15 = eI K 6 (fun _ => 0) := by rw [ef_79]; exact (va_up_ne _ _ (Ne.symm hN_13)).trans hF_69
  have hF_83 : f_79 q_23 = eI K 24 (fun _ => 0) := by rw [ef_79]; exact (va_up_ne _ _ (Ne.symm hN_26)).trans hF_72
  have hF_84 : f_79 q_31 = eI K 24 (fun _ => 0) := by rw [ef_79]; exact (va_up_ne _ _ (Ne.symm hN_43)).trans hF_75
  have hF_85 : f_79 q_39 = eI K 24 (fun _ => 0) := by rw [ef_79]; exact (va_up_ne _ _ (Ne.symm hN_64)).trans hF_78
  refine lv_aload_n hx hb dX7_init_44 rfl (lv_at hl 0 rfl) ?_
  refine lv_bipush (v := nI 24) hx hb dX7_init_45 (by decide) ?_
  refine z_newI hC hM zarr_int (by decide) (by decide) (by decide) dX7_init_47 (fun q_47 H hq_47 hM => ?_)
  obtain ⟨f_86, ef_86⟩ : ∃ z9, z9 = va_up f_79 q_47 (eI K 24 (fun _ => 0)) := ⟨_, rfl⟩
  rw [← ef_86] at hM
  have hN_89 : o ≠ q_47 := fun h => hq_47 (h ▸ hL_62)
  have hL_87 : o ∈ L ++ [q_7] ++ [q_15] ++ [q_23] ++ [q_31] ++ [q_39] ++ [q_47] := List.mem_append_left _ hL_62
  have hF_88 : f_86 o = eS 8 [.int (nI 0), .int (nI 0), .ref q_7, .ref q_15, .ref q_23, .ref q_31, .ref q_39, .null, .null, .null, .null, .null, .null, .null, .null, .null, .null, .double 0, .int (nI 0), .int (nI 0), .null, .null, .null, .null, .int (nI 0), .null, .null] := by rw [ef_86]; exact (va_up_ne _ _ hN_89).trans hF_80
  have hN_92 : q_7 ≠ q_47 := fun h => hq_47 (h ▸ hL_65)
  have hL_90 : q_7 ∈ L ++ [q_7] ++ [q_15] ++ [q_23] ++ [q_31] ++ [q_39] ++ [q_47] := List.mem_append_left _ hL_65
  have hF_91 : f_86 q_7 = eI K 6 (fun _ => 0) := by rw [ef_86]; exact (va_up_ne _ _ hN_92).trans hF_81
  have hN_95 : q_15 ≠ q_47 := fun h => hq_47 (h ▸ hL_68)
  have hL_93 : q_15 ∈ L ++ [q_7] ++ [q_15] ++ [q_23] ++ [q_31] ++ [q_39] ++ [q_47] := List.mem_append_left _ hL_68
  have hF_94 : f_86 q_15 = eI K 6 (fun _ => 0) := by rw [ef_86]; exact (va_up_ne _ _ hN_95).trans hF_82
  have hN_98 : q_23 ≠ q_47 := fun h => hq_47 (h ▸ hL_71)
  have hL_96 : q_23 ∈ L ++ [q_7] ++ [q_15] ++ [q_23] ++ [q_31] ++ [q_39] ++ [q_47] := List.mem_append_left _ hL_71
  have hF_97 : f_86 q_23 = eI K 24 (fun _ => 0) := by rw [ef_86]; exact (va_up_ne _ _ hN_98).trans hF_83
  have hN_101 : q_31 ≠ q_47 := fun h => hq_47 (h ▸ hL_74)
  have hL_99 : q_31 ∈ L ++ [q_7] ++ [q_15] ++ [q_23] ++ [q_31] ++ [q_39] ++ [q_47] := List.mem_append_left _ hL_74
  have hF_100 : f_86 q_31 = eI K 24 (fun _ => 0) := by rw [ef_86]; exact (va_up_ne _ _ hN_101).trans hF_84
  have hN_104 : q_39 ≠ q_47 := fun h => hq_47 (h ▸ hL_77)
  have hL_102 : q_39 ∈ L ++ [q_7] ++ [q_15] ++ [q_23] ++ [q_31] ++ [q_39] ++ [q_47] := List.mem_append_left _ hL_77
  have hF_103 : f_86 q_39 = eI K 24 (fun _ => 0) := by rw [ef_86]; exact (va_up_ne _ _ hN_104).trans hF_85
  have hL_105 : q_47 ∈ L ++ [q_7] ++ [q_15] ++ [q_23] ++ [q_31] ++ [q_39] ++ [q_47] := List.mem_append_right _ List.mem_cons_self
  have hF_106 : f_86 q_47 = eI K 24 (fun _ => 0) := by rw [ef_86]; exact va_up_self _ _ _
  refine z_putF (fs' := [.int (nI 0), .int (nI 0), .ref q_7, .ref q_15, .ref q_23, .ref q_31, .ref q_39, .ref q_47, .null, .null, .null, .null, .null, .null, .null, .null, .null, .double 0, .int (nI 0), .int (nI 0), .null, .null, .null, .null, .int (nI 0), .null, .null]) hC hM hnm hL_87 hF_88 zcl_X7 (by decide) zl_X7_25 rfl rfl rfl (by rfl) (Nat.le_of_ble_eq_true rfl) rfl dX7_init_49 (fun H locs hM => ?_)
  obtain ⟨f_107, ef_107⟩ : ∃ z9, z9 = va_up f_86 o (eS 8 [.int (nI 0), .int (nI 0), .ref q_7, .ref q_15, .ref q_23, .ref q_31, .ref q_39, .ref q_47, .null, .null, .null, .null, .null, .null, .null, .null, .null, .double 0, .int (nI 0), .int (nI 0), .null, .null, .null, .null, .int (nI 0), .null, .null]) := ⟨_, rfl⟩
  rw [← ef_107] at hM
  have hF_108 : f_107 o = eS 8 [.int (nI 0), .int (nI 0), .ref q_7, .ref q_15, .ref q_23, .ref q_31, .ref q_39, .ref q_47, .null, .null, .null, .null, .null, .null, .null, .null, .null, .double 0, .int (nI 0), .int (nI 0), .null, .null, .null, .null, .int (nI 0), .null, .null] := by rw [ef_107]; exact va_up_self _ _ _
  have hF_109 : f_107 q_7 = eI K 6 (fun _ => 0) := by rw [ef_107]; exact (va_up_ne _ _ (Ne.symm hN_4)).trans hF_91
  have hF_110 : f_107 q_15 = eI K 6 (fun _ => 0) := by rw [ef_107]; exact (va_up_ne _ _ (Ne.symm hN_13)).trans hF_94
  have hF_111 : f_107 q_23 = eI K 24 (fun _ => 0) := by rw [ef_107]; exact (va_up_ne _ _ (Ne.symm hN_26)).trans hF_97
  have hF_112 : f_107 q_31 = eI K 24 (fun _ => 0) := by rw [ef_107]; exact (va_up_ne _ _ (Ne.symm hN_43)).trans hF_100
  have hF_113 : f_107 q_39 = eI K 24 (fun _ => 0) := by rw [ef_107]; exact (va_up_ne _ _ (Ne.symm hN_64)).trans hF_103
  have hF_114 : f_107 q_47 = eI K 24 (fun _ => 0) := by rw [ef_107]; exact (va_up_ne _ _ (Ne.symm hN_89)).trans hF_106
  refine lv_aload_n hx hb dX7_init_52 rfl (lv_at hl 0 rfl) ?_
  refine lv_bipush (v := nI 6) hx hb dX7_init_53 (by decide) ?_
  refine z_newI hC hM zarr_int (by decide) (by decide) (by decide) dX7_init_55 (fun q_55 H hq_55 hM => ?_)
  obtain ⟨f_115, ef_115⟩ : ∃ z9, z9 = va_up f_107 q_55 (eI K 6 (fun _ => 0)) := ⟨_, rfl⟩
  rw [← ef_115] at hM
  have hN_118 : o ≠ q_55 := fun h => hq_55 (h ▸ hL_87)
  have hL_116 : o ∈ L ++ [q_7] ++ [q_15] ++ [q_23] ++ [q_31] ++ [q_39] ++ [q_47] ++ [q_55] := List.mem_append_left _ hL_87
  have hF_117 : f_115 o = eS 8 [.int (nI 0), .int (nI 0), .ref q_7, .ref q_15, .ref q_23, .ref q_31, .ref q_39, .ref q_47, .null, .null, .null, .null, .null, .null, .null, .null, .null, .double 0, .int (nI 0), .int (nI 0), .null, .null, .null, .null, .int (nI 0), .null, .null] := by rw [ef_115]; exact (va_up_ne _ _ hN_118).trans hF_108
  have hN_121 : q_7 ≠ q_55 := fun h => hq_55 (h ▸ hL_90)
  have hL_119 : q_7 ∈ L ++ [q_7] ++ [q_15] ++ [q_23] ++ [q_31] ++ [q_39] ++ [q_47] ++ [q_55] := List.mem_append_left _ hL_90
  have hF_120 : f_115 q_7 = eI K 6 (fun _ => 0) := by rw [ef_115]; exact (va_up_ne _ _ hN_121).trans hF_109
  have hN_124 : q_15 ≠ q_55 := fun h => hq_55 (h ▸ hL_93)
  have hL_122 : q_15 ∈ L ++ [q_7] ++ [q_15] ++ [q_23] ++ [q_31] ++ [q_39] ++ [q_47] ++ [q_55] := List.mem_append_left _ hL_93
  have hF_123 : f_115 q_15 = eI K 6 (fun _ => 0) := by rw [ef_115]; exact (va_up_ne _ _ hN_124).trans hF_110
  have hN_127 : q_23 ≠ q_55 := fun h => hq_55 (h ▸ hL_96)
  have hL_125 : q_23 ∈ L ++ [q_7] ++ [q_15] ++ [q_23] ++ [q_31] ++ [q_39] ++ [q_47] ++ [q_55] := List.mem_append_left _ hL_96
  have hF_126 : f_115 q_23 = eI K 24 (fun _ => 0) := by rw [ef_115]; exact (va_up_ne _ _ hN_127).trans hF_111
  have hN_130 : q_31 ≠ q_55 := fun h => hq_55 (h ▸ hL_99)
  have hL_128 : q_31 ∈ L ++ [q_7] ++ [q_15] ++ [q_23] ++ [q_31] ++ [q_39] ++ [q_47] ++ [q_55] := List.mem_append_left _ hL_99
  have hF_129 : f_115 q_31 = eI K 24 (fun _ => 0) := by rw [ef_115]; exact (va_up_ne _ _ hN_130).trans hF_112
  have hN_133 : q_39 ≠ q_55 := fun h => hq_55 (h ▸ hL_102)
  have hL_131 : q_39 ∈ L ++ [q_7] ++ [q_15] ++ [q_23] ++ [q_31] ++ [q_39] ++ [q_47] ++ [q_55] := List.mem_append_left _ hL_102
  have hF_132 : f_115 q_39 = eI K 24 (fun _ => 0) := by rw [ef_115]; exact (va_up_ne _ _ hN_133).trans hF_113
  have hN_136 : q_47 ≠ q_55 := fun h => hq_55 (h ▸ hL_105)
  have hL_134 : q_47 ∈ L ++ [q_7] ++ [q_15] ++ [q_23] ++ [q_31] ++ [q_39] ++ [q_47] ++ [q_55] := List.mem_append_left _ hL_105
  have hF_135 : f_115 q_47 = eI K 24 (fun _ => 0) := by rw [ef_115]; exact (va_up_ne _ _ hN_136).trans hF_114
  have hL_137 : q_55 ∈ L ++ [q_7] ++ [q_15] ++ [q_23] ++ [q_31] ++ [q_39] ++ [q_47] ++ [q_55] := List.mem_append_right _ List.mem_cons_self
  have hF_138 : f_115 q_55 = eI K 6 (fun _ => 0) := by rw [ef_115]; exact va_up_self _ _ _
  refine z_putF (fs' := [.int (nI 0), .int (nI 0), .ref q_7, .ref q_15, .ref q_23, .ref q_31, .ref q_39, .ref q_47, .ref q_55, .null, .null, .null, .null, .null, .null, .null, .null, .double 0, .int (nI 0), .int (nI 0), .null, .null, .null, .null, .int (nI 0), .null, .null]) hC hM hnm hL_116 hF_117 zcl_X7 (by decide) zl_X7_28 rfl rfl rfl (by rfl) (Nat.le_of_ble_eq_true rfl) rfl dX7_init_57 (fun H locs hM => ?_)
  obtain ⟨f_139, ef_139⟩ : ∃ z9, z9 = va_up f_115 o (eS 8 [.int (nI 0), .int (nI 0), .ref q_7, .ref q_15, .ref q_23, .ref q_31, .ref q_39, .ref q_47, .ref q_55, .null, .null, .null, .null, .null, .null, .null, .null, .double 0, .int (nI 0), .int (nI 0), .null, .null, .null, .null, .int (nI 0), .null, .null]) := ⟨_, rfl⟩
  rw [← ef_139] at hM
  have hF_140 : f_139 o = eS 8 [.int (nI 0), .int (nI 0), .ref q_7, .ref q_15, .ref q_23, .ref q_31, .ref q_39, .ref q_47, .ref q_55, .null, .null, .null, .null, .null, .null, .null, .null, .double 0, .int (nI 0), .int (nI 0), .null, .null, .null, .null, .int (nI 0), .null, .null] := by rw [ef_139]; exact va_up_self _ _ _
  have hF_141 : f_139 q_7 = eI K 6 (fun _ => 0) := by rw [ef_139]; exact (va_up_ne _ _ (Ne.symm hN_4)).trans hF_120
  have hF_142 : f_139 q_15 = eI K 6 (fun _ => 0) := by rw [ef_139]; exact (va_up_ne _ _ (Ne.symm hN_13)).trans hF_123
  have hF_143 : f_139 q_23 = eI K 24 (fun _ => 0) := by rw [ef_139]; exact (va_up_ne _ _ (Ne.symm hN_26)).trans hF_126
  have hF_144 : f_139 q_31 = eI K 24 (fun _ => 0) := by rw [ef_139]; exact (va_up_ne _ _ (Ne.symm hN_43)).trans hF_129
  have hF_145 : f_139 q_39 = eI K 24 (fun _ => 0) := by rw [ef_139]; exact (va_up_ne _ _ (Ne.symm hN_64)).trans hF_132
  have hF_146 : f_139 q_47 = eI K 24 (fun _ => 0) := by rw [ef_139]; exact (va_up_ne _ _ (Ne.symm hN_89)).trans hF_135
  have hF_147 : f_139 q_55 = eI K 6 (fun _ => 0) := by rw [ef_139]; exact (va_up_ne _ _ (Ne.symm hN_118)).trans hF_138
  refine lv_aload_n hx hb dX7_init_60 rfl (lv_at hl 0 rfl) ?_
  refine lv_bipush (v := nI 6) hx hb dX7_init_61 (by decide) ?_
  refine z_newI hC hM zarr_int (by decide) (by decide) (by decide) dX7_init_63 (fun q_63 H hq_63 hM => ?_)
  obtain ⟨f_148, ef_148⟩ : ∃ z9, z9 = va_up f_139 q_63 (eI K 6 (fun _ => 0)) := ⟨_, rfl⟩
  rw [← ef_148] at hM
  have hN_151 : o ≠ q_63 := fun h => hq_63 (h ▸ hL_116)
  have hL_149 : o ∈ L ++ [q_7] ++ [q_15] ++ [q_23] ++ [q_31] ++ [q_39] ++ [q_47] ++ [q_55] ++ [q_63] := List.mem_append_left _ hL_116
  have hF_150 : f_148 o = eS 8 [.int (nI 0), .int (nI 0), .ref q_7, .ref q_15, .ref q_23, .ref q_31, .ref q_39, .ref q_47, .ref q_55, .null, .null, .null, .null, .null, .null, .null, .null, .double 0, .int (nI 0), .int (nI 0), .null, .null, .null, .null, .int (nI 0), .null, .null] := by rw [ef_148]; exact (va_up_ne _ _ hN_151).trans hF_140
  have hN_154 : q_7 ≠ q_63 := fun h => hq_63 (h ▸ hL_119)
  have hL_152 : q_7 ∈ L ++ [q_7] ++ [q_15] ++ [q_23] ++ [q_31] ++ [q_39] ++ [q_47] ++ [q_55] ++ [q_63] := List.mem_append_left _ hL_119
  have hF_153 : f_148 q_7 = eI K 6 (fun _ => 0) := by rw [ef_148]; exact (va_up_ne _ _ hN_154).trans hF_141
  have hN_157 : q_15 ≠ q_63 := fun h => hq_63 (h ▸ hL_122)
  have hL_155 : q_15 ∈ L ++ [q_7] ++ [q_15] ++ [q_23] ++ [q_31] ++ [q_39] ++ [q_47] ++ [q_55] ++ [q_63] := List.mem_append_left _ hL_122
  have hF_156 : f_148 q_15 = eI K 6 (fun _ => 0) := by rw [ef_148]; exact (va_up_ne _ _ hN_157).trans hF_142
  have hN_160 : q_23 ≠ q_63 := fun h => hq_63 (h ▸ hL_125)
  have hL_158 : q_23 ∈ L ++ [q_7] ++ [q_15] ++ [q_23] ++ [q_31] ++ [q_39] ++ [q_47] ++ [q_55] ++ [q_63] := List.mem_append_left _ hL_125
  have hF_159 : f_148 q_23 = eI K 24 (fun _ => 0) := by rw [ef_148]; exact (va_up_ne _ _ hN_160).trans hF_143
  have hN_163 : q_31 ≠ q_63 := fun h => hq_63 (h ▸ hL_128)
  have hL_161 : q_31 ∈ L ++ [q_7] ++ [q_15] ++ [q_23] ++ [q_31] ++ [q_39] ++ [q_47] ++ [q_55] ++ [q_63] := List.mem_append_left _ hL_128
  have hF_162 : f_148 q_31 = eI K 24 (fun _ => 0) := by rw [ef_148]; exact (va_up_ne _ _ hN_163).trans hF_144
  have hN_166 : q_39 ≠ q_63 := fun h => hq_63 (h ▸ hL_131)
  have hL_164 : q_39 ∈ L ++ [q_7] ++ [q_15] ++ [q_23] ++ [q_31] ++ [q_39] ++ [q_47] ++ [q_55] ++ [q_63] := List.mem_append_left _ hL_131
  have hF_165 : f_148 q_39 = eI K 24 (fun _ => 0) := by rw [ef_148]; exact (va_up_ne _ _ hN_166).trans hF_145
  have hN_169 : q_47 ≠ q_63 := fun h => hq_63 (h ▸ hL_134)
  have hL_167 : q_47 ∈ L ++ [q_7] ++ [q_15] ++ [q_23] ++ [q_31] ++ [q_39] ++ [q_47] ++ [q_55] ++ [q_63] := List.mem_append_left _ hL_134
  have hF_168 : f_148 q_47 = eI K 24 (fun _ => 0) := by rw [ef_148]; exact (va_up_ne _ _ hN_169).trans hF_146
  have hN_172 : q_55 ≠ q_63 := fun h => hq_63 (h ▸ hL_137)
  have hL_170 : q_55 ∈ L ++ [q_7] ++ [q_15] ++ [q_23] ++ [q_31] ++ [q_39] ++ [q_47] ++ [q_55] ++ [q_63] := List.mem_append_left _ hL_137
  have hF_171 : f_148 q_55 = eI K 6 (fun _ => 0) := by rw [ef_148]; exact (va_up_ne _ _ hN_172).trans hF_147
  have hL_173 : q_63 ∈ L ++ [q_7] ++ [q_15] ++ [q_23] ++ [q_31] ++ [q_39] ++ [q_47] ++ [q_55] ++ [q_63] := List.mem_append_right _ List.mem_cons_self
  have hF_174 : f_148 q_63 = eI K 6 (fun _ => 0) := by rw [ef_148]; exact va_up_self _ _ _
  refine z_putF (fs' := [.int (nI 0), .int (nI 0), .ref q_7, .ref q_15, .ref q_23, .ref q_31, .ref q_39, .ref q_47, .ref q_55, .ref q_63, .null, .null, .null, .null, .null, .null, .null, .double 0, .int (nI 0), .int (nI 0), .null, .null, .null, .null, .int (nI 0), .null, .null]) hC hM hnm hL_149 hF_150 zcl_X7 (by decide) zl_X7_31 rfl rfl rfl (by rfl) (Nat.le_of_ble_eq_true rfl) rfl dX7_init_65 (fun H locs hM => ?_)
  obtain ⟨f_175, ef_175⟩ : ∃ z9, z9 = va_up f_148 o (eS 8 [.int (nI 0), .int (nI 0), .ref q_7, .ref q_15, .ref q_23, .ref q_31, .ref q_39, .ref q_47, .ref q_55, .ref q_63, .null, .null, .null, .null, .null, .null, .null, .double 0, .int (nI 0), .int (nI 0), .null, .null, .null, .null, .int (nI 0), .null, .null]) := ⟨_, rfl⟩
  rw [← ef_175] at hM
  have hF_176 : f_175 o = eS 8 [.int (nI 0), .int (nI 0), .ref q_7, .ref q_15, .ref q_23, .ref q_31, .ref q_39, .ref q_47, .ref q_55, .ref q_63, .null, .null, .null, .null, .null, .null, .null, .double 0, .int (nI 0), .int (nI 0), .null, .null, .null, .null, .int (nI 0), .null, .null] := by rw [ef_175]; exact va_up_self _ _ _
  have hF_177 : f_175 q_7 = eI K 6 (fun _ => 0) := by rw [ef_175]; exact (va_up_ne _ _ (Ne.symm hN_4)).trans hF_153
  have hF_178 : f_175 q_15 = eI K 6 (fun _ => 0) := by rw [ef_175]; exact (va_up_ne _ _ (Ne.symm hN_13)).trans hF_156
  have hF_179 : f_175 q_23 = eI K 24 (fun _ => 0) := by rw [ef_175]; exact (va_up_ne _ _ (Ne.symm hN_26)).trans hF_159
  have hF_180 : f_175 q_31 = eI K 24 (fun _ => 0) := by rw [ef_175]; exact (va_up_ne _ _ (Ne.symm hN_43)).trans hF_162
  have hF_181 : f_175 q_39 = eI K 24 (fun _ => 0) := by rw [ef_175]; exact (va_up_ne _ _ (Ne.symm hN_64)).trans hF_165
  have hF_182 : f_175 q_47 = eI K 24 (fun _ => 0) := by rw [ef_175]; exact (va_up_ne _ _ (Ne.symm hN_89)).trans hF_168
  have hF_183 : f_175 q_55 = eI K 6 (fun _ => 0) := by rw [ef_175]; exact (va_up_ne _ _ (Ne.symm hN_118)).trans hF_171
  have hF_184 : f_175 q_63 = eI K 6 (fun _ => 0) := by rw [ef_175]; exact (va_up_ne _ _ (Ne.symm hN_151)).trans hF_174
  refine lv_aload_n hx hb dX7_init_68 rfl (lv_at hl 0 rfl) ?_
  refine lv_bipush (v := nI 6) hx hb dX7_init_69 (by decide) ?_
  refine z_newI hC hM zarr_int (by decide) (by decide) (by decide) dX7_init_71 (fun q_71 H hq_71 hM => ?_)
  obtain ⟨f_185, ef_185⟩ : ∃ z9, z9 = va_up f_175 q_71 (eI K 6 (fun _ => 0)) := ⟨_, rfl⟩
  rw [← ef_185] at hM
  have hN_188 : o ≠ q_71 := fun h => hq_71 (h ▸ hL_149)
  have hL_186 : o ∈ L ++ [q_7] ++ [q_15] ++ [q_23] ++ [q_31] ++ [q_39] ++ [q_47] ++ [q_55] ++ [q_63] ++ [q_71] := List.mem_append_left _ hL_149
  have hF_187 : f_185 o = eS 8 [.int (nI 0), .int (nI 0), .ref q_7, .ref q_15, .ref q_23, .ref q_31, .ref q_39, .ref q_47, .ref q_55, .ref q_63, .null, .null, .null, .null, .null, .null, .null, .double 0, .int (nI 0), .int (nI 0), .null, .null, .null, .null, .int (nI 0), .null, .null] := by rw [ef_185]; exact (va_up_ne _ _ hN_188).trans hF_176
  have hN_191 : q_7 ≠ q_71 := fun h => hq_71 (h ▸ hL_152)
  have hL_189 : q_7 ∈ L ++ [q_7] ++ [q_15] ++ [q_23] ++ [q_31] ++ [q_39] ++ [q_47] ++ [q_55] ++ [q_63] ++ [q_71] := List.mem_append_left _ hL_152
  have hF_190 : f_185 q_7 = eI K 6 (fun _ => 0) := by rw [ef_185]; exact (va_up_ne _ _ hN_191).trans hF_177
  have hN_194 : q_15 ≠ q_71 := fun h => hq_71 (h ▸ hL_155)
  have hL_192 : q_15 ∈ L ++ [q_7] ++ [q_15] ++ [q_23] ++ [q_31] ++ [q_39] ++ [q_47] ++ [q_55] ++ [q_63] ++ [q_71] := List.mem_append_left _ hL_155
  have hF_193 : f_185 q_15 = eI K 6 (fun _ => 0) := by rw [ef_185]; exact (va_up_ne _ _ hN_194).trans hF_178
  have hN_197 : q_23 ≠ q_71 := fun h => hq_71 (h ▸ hL_158)
  have hL_195 : q_23 ∈ L ++ [q_7] ++ [q_15] ++ [q_23] ++ [q_31] ++ [q_39] ++ [q_47] ++ [q_55] ++ [q_63] ++ [q_71] := List.mem_append_left _ hL_158
  have hF_196 : f_185 q_23 = eI K 24 (fun _ => 0) := by rw [ef_185]; exact (va_up_ne _ _ hN_197).trans hF_179
  have hN_200 : q_31 ≠ q_71 := fun h => hq_71 (h ▸ hL_161)
  have hL_198 : q_31 ∈ L ++ [q_7] ++ [q_15] ++ [q_23] ++ [q_31] ++ [q_39] ++ [q_47] ++ [q_55] ++ [q_63] ++ [q_71] := List.mem_append_left _ hL_161
  have hF_199 : f_185 q_31 = eI K 24 (fun _ => 0) := by rw [ef_185]; exact (va_up_ne _ _ hN_200).trans hF_180
  have hN_203 : q_39 ≠ q_71 := fun h => hq_71 (h ▸ hL_164)
  have hL_201 : q_39 ∈ L ++ [q_7] ++ [q_15] ++ [q_23] ++ [q_31] ++ [q_39] ++ [q_47] ++ [q_55] ++ [q_63] ++ [q_71] := List.mem_append_left _ hL_164
  have hF_202 : f_185 q_39 = eI K 24 (fun _ => 0) := by rw [ef_185]; exact (va_up_ne _ _ hN_203).trans hF_181
  have hN_206 : q_47 ≠ q_71 := fun h => hq_71 (h ▸ hL_167)
  have hL_204 : q_47 ∈ L ++ [q_7] ++ [q_15] ++ [q_23] ++ [q_31] ++ [q_39] ++ [q_47] ++ [q_55] ++ [q_63] ++ [q_71] := List.mem_append_left _ hL_167
  have hF_205 : f_185 q_47 = eI K 24 (fun _ => 0) := by rw [ef_185]; exact (va_up_ne _ _ hN_206).trans hF_182
  have hN_209 : q_55 ≠ q_71 := fun h => hq_71 (h ▸ hL_170)
  have hL_207 : q_55 ∈ L ++ [q_7] ++ [q_15] ++ [q_23] ++ [q_31] ++ [q_39] ++ [q_47] ++ [q_55] ++ [q_63] ++ [q_71] := List.mem_append_left _ hL_170
  have hF_208 : f_185 q_55 = eI K 6 (fun _ => 0) := by rw [ef_185]; exact (va_up_ne _ _ hN_209).trans hF_183
  have hN_212 : q_63 ≠ q_71 := fun h => hq_71 (h ▸ hL_173)
  have hL_210 : q_63 ∈ L ++ [q_7] ++ [q_15] ++ [q_23] ++ [q_31] ++ [q_39] ++ [q_47] ++ [q_55] ++ [q_63] ++ [q_71] := List.mem_append_left _ hL_173
  have hF_211 : f_185 q_63 = eI K 6 (fun _ => 0) := by rw [ef_185]; exact (va_up_ne _ _ hN_212).trans hF_184
  have hL_213 : q_71 ∈ L ++ [q_7] ++ [q_15] ++ [q_23] ++ [q_31] ++ [q_39] ++ [q_47] ++ [q_55] ++ [q_63] ++ [q_71] := List.mem_append_right _ List.mem_cons_self
  have hF_214 : f_185 q_71 = eI K 6 (fun _ => 0) := by rw [ef_185]; exact va_up_self _ _ _
  refine z_putF (fs' := [.int (nI 0), .int (nI 0), .ref q_7, .ref q_15, .ref q_23, .ref q_31, .ref q_39, .ref q_47, .ref q_55, .ref q_63, .ref q_71, .null, .null, .null, .null, .null, .null, .double 0, .int (nI 0), .int (nI 0), .null, .null, .null, .null, .int (nI 0), .null, .null]) hC hM hnm hL_186 hF_187 zcl_X7 (by decide) zl_X7_34 rfl rfl rfl (by rfl) (Nat.le_of_ble_eq_true rfl) rfl dX7_init_73 (fun H locs hM => ?_)
  obtain ⟨f_215, ef_215⟩ : ∃ z9, z9 = va_up f_185 o (eS 8 [.int (nI 0), .int (nI 0), .ref q_7, .ref q_15, .ref q_23, .ref q_31, .ref q_39, .ref q_47, .ref q_55, .ref q_63, .ref q_71, .null, .null, .null, .null, .null, .null, .double 0, .int (nI 0), .int (nI 0), .null, .null, .null, .null, .int (nI 0), .null, .null]) := ⟨_, rfl⟩
  rw [← ef_215] at hM
  have hF_216 : f_215 o = eS 8 [.int (nI 0), .int (nI 0), .ref q_7, .ref q_15, .ref q_23, .ref q_31, .ref q_39, .ref q_47, .ref q_55, .ref q_63, .ref q_71, .null, .null, .null, .null, .null, .null, .double 0, .int (nI 0), .int (nI 0), .null, .null, .null, .null, .int (nI 0), .null, .null] := by rw [ef_215]; exact va_up_self _ _ _
  have hF_217 : f_215 q_7 = eI K 6 (fun _ => 0) := by rw [ef_215]; exact (va_up_ne _ _ (Ne.symm hN_4)).trans hF_190
  have hF_218 : f_215 q_15 = eI K 6 (fun _ => 0) := by rw [ef_215]; exact (va_up_ne _ _ (Ne.symm hN_13)).trans hF_193
  have hF_219 : f_215 q_23 = eI K 24 (fun _ => 0) := by rw [ef_215]; exact (va_up_ne _ _ (Ne.symm hN_26)).trans hF_196
  have hF_220 : f_215 q_31 = eI K 24 (fun _ => 0) := by rw [ef_215]; exact (va_up_ne _ _ (Ne.symm hN_43)).trans hF_199
  have hF_221 : f_215 q_39 = eI K 24 (fun _ => 0) := by rw [ef_215]; exact (va_up_ne _ _ (Ne.symm hN_64)).trans hF_202
  have hF_222 : f_215 q_47 = eI K 24 (fun _ => 0) := by rw [ef_215]; exact (va_up_ne _ _ (Ne.symm hN_89)).trans hF_205
  have hF_223 : f_215 q_55 = eI K 6 (fun _ => 0) := by rw [ef_215]; exact (va_up_ne _ _ (Ne.symm hN_118)).trans hF_208
  have hF_224 : f_215 q_63 = eI K 6 (fun _ => 0) := by rw [ef_215]; exact (va_up_ne _ _ (Ne.symm hN_151)).trans hF_211
  have hF_225 : f_215 q_71 = eI K 6 (fun _ => 0) := by rw [ef_215]; exact (va_up_ne _ _ (Ne.symm hN_188)).trans hF_214
  refine lv_aload_n hx hb dX7_init_76 rfl (lv_at hl 0 rfl) ?_
  refine lv_sipush (v := nI 1000) hx hb dX7_init_77 (by decide) ?_
  refine z_newZ hC hM zarr_boolean (by decide) (by decide) (by decide) dX7_init_80 (fun q_80 H hq_80 hM => ?_)
  obtain ⟨f_226, ef_226⟩ : ∃ z9, z9 = va_up f_215 q_80 (eZ K 1000 (fun _ => 0)) := ⟨_, rfl⟩
  rw [← ef_226] at hM
  have hN_229 : o ≠ q_80 := fun h => hq_80 (h ▸ hL_186)
  have hL_227 : o ∈ L ++ [q_7] ++ [q_15] ++ [q_23] ++ [q_31] ++ [q_39] ++ [q_47] ++ [q_55] ++ [q_63] ++ [q_71] ++ [q_80] := List.mem_append_left _ hL_186
  have hF_228 : f_226 o = eS 8 [.int (nI 0), .int (nI 0), .ref q_7, .ref q_15, .ref q_23, .ref q_31, .ref q_39, .ref q_47, .ref q_55, .ref q_63, .ref q_71, .null, .null, .null, .null, .null, .null, .double 0, .int (nI 0), .int (nI 0), .null, .null, .null, .null, .int (nI 0), .null, .null] := by rw [ef_226]; exact (va_up_ne _ _ hN_229).trans hF_216
  have hN_232 : q_7 ≠ q_80 := fun h => hq_80 (h ▸ hL_189)
  have hL_230 : q_7 ∈ L ++ [q_7] ++ [q_15] ++ [q_23] ++ [q_31] ++ [q_39] ++ [q_47] ++ [q_55] ++ [q_63] ++ [q_71] ++ [q_80] := List.mem_append_left _ hL_189
  have hF_231 : f_226 q_7 = eI K 6 (fun _ => 0) := by rw [ef_226]; exact (va_up_ne _ _ hN_232).trans hF_217
  have hN_235 : q_15 ≠ q_80 := fun h => hq_80 (h ▸ hL_192)
  have hL_233 : q_15 ∈ L ++ [q_7] ++ [q_15] ++ [q_23] ++ [q_31] ++ [q_39] ++ [q_47] ++ [q_55] ++ [q_63] ++ [q_71] ++ [q_80] := List.mem_append_left _ hL_192
  have hF_234 : f_226 q_15 = eI K 6 (fun _ => 0) := by rw [ef_226]; exact (va_up_ne _ _ hN_235).trans hF_218
  have hN_238 : q_23 ≠ q_80 := fun h => hq_80 (h ▸ hL_195)
  have hL_236 : q_23 ∈ L ++ [q_7] ++ [q_15] ++ [q_23] ++ [q_31] ++ [q_39] ++ [q_47] ++ [q_55] ++ [q_63] ++ [q_71] ++ [q_80] := List.mem_append_left _ hL_195
  have hF_237 : f_226 q_23 = eI K 24 (fun _ => 0) := by rw [ef_226]; exact (va_up_ne _ _ hN_238).trans hF_219
  have hN_241 : q_31 ≠ q_80 := fun h => hq_80 (h ▸ hL_198)
  have hL_239 : q_31 ∈ L ++ [q_7] ++ [q_15] ++ [q_23] ++ [q_31] ++ [q_39] ++ [q_47] ++ [q_55] ++ [q_63] ++ [q_71] ++ [q_80] := List.mem_append_left _ hL_198
  have hF_240 : f_226 q_31 = eI K 24 (fun _ => 0) := by rw [ef_226]; exact (va_up_ne _ _ hN_241).trans hF_220
  have hN_244 : q_39 ≠ q_80 := fun h => hq_80 (h ▸ hL_201)
  have hL_242 : q_39 ∈ L ++ [q_7] ++ [q_15] ++ [q_23] ++ [q_31] ++ [q_39] ++ [q_47] ++ [q_55] ++ [q_63] ++ [q_71] ++ [q_80] := List.mem_append_left _ hL_201
  have hF_243 : f_226 q_39 = eI K 24 (fun _ => 0) := by rw [ef_226]; exact (va_up_ne _ _ hN_244).trans hF_221
  have hN_247 : q_47 ≠ q_80 := fun h => hq_80 (h ▸ hL_204)
  have hL_245 : q_47 ∈ L ++ [q_7] ++ [q_15] ++ [q_23] ++ [q_31] ++ [q_39] ++ [q_47] ++ [q_55] ++ [q_63] ++ [q_71] ++ [q_80] := List.mem_append_left _ hL_204
  have hF_246 : f_226 q_47 = eI K 24 (fun _ => 0) := by rw [ef_226]; exact (va_up_ne _ _ hN_247).trans hF_222
  have hN_250 : q_55 ≠ q_80 := fun h => hq_80 (h ▸ hL_207)
  have hL_248 : q_55 ∈ L ++ [q_7] ++ [q_15] ++ [q_23] ++ [q_31] ++ [q_39] ++ [q_47] ++ [q_55] ++ [q_63] ++ [q_71] ++ [q_80] := List.mem_append_left _ hL_207
  have hF_249 : f_226 q_55 = eI K 6 (fun _ => 0) := by rw [ef_226]; exact (va_up_ne _ _ hN_250).trans hF_223
  have hN_253 : q_63 ≠ q_80 := fun h => hq_80 (h ▸ hL_210)
  have hL_251 : q_63 ∈ L ++ [q_7] ++ [q_15] ++ [q_23] ++ [q_31] ++ [q_39] ++ [q_47] ++ [q_55] ++ [q_63] ++ [q_71] ++ [q_80] := List.mem_append_left _ hL_210
  have hF_252 : f_226 q_63 = eI K 6 (fun _ => 0) := by rw [ef_226]; exact (va_up_ne _ _ hN_253).trans hF_224
  have hN_256 : q_71 ≠ q_80 := fun h => hq_80 (h ▸ hL_213)
  have hL_254 : q_71 ∈ L ++ [q_7] ++ [q_15] ++ [q_23] ++ [q_31] ++ [q_39] ++ [q_47] ++ [q_55] ++ [q_63] ++ [q_71] ++ [q_80] := List.mem_append_left _ hL_213
  have hF_255 : f_226 q_71 = eI K 6 (fun _ => 0) := by rw [ef_226]; exact (va_up_ne _ _ hN_256).trans hF_225
  have hL_257 : q_80 ∈ L ++ [q_7] ++ [q_15] ++ [q_23] ++ [q_31] ++ [q_39] ++ [q_47] ++ [q_55] ++ [q_63] ++ [q_71] ++ [q_80] := List.mem_append_right _ List.mem_cons_self
  have hF_258 : f_226 q_80 = eZ K 1000 (fun _ => 0) := by rw [ef_226]; exact va_up_self _ _ _
  refine z_putF (fs' := [.int (nI 0), .int (nI 0), .ref q_7, .ref q_15, .ref q_23, .ref q_31, .ref q_39, .ref q_47, .ref q_55, .ref q_63, .ref q_71, .ref q_80, .null, .null, .null, .null, .null, .double 0, .int (nI 0), .int (nI 0), .null, .null, .null, .null, .int (nI 0), .null, .null]) hC hM hnm hL_227 hF_228 zcl_X7 (by decide) zl_X7_37 rfl rfl rfl (by rfl) (Nat.le_of_ble_eq_true rfl) rfl dX7_init_82 (fun H locs hM => ?_)
  obtain ⟨f_259, ef_259⟩ : ∃ z9, z9 = va_up f_226 o (eS 8 [.int (nI 0), .int (nI 0), .ref q_7, .ref q_15, .ref q_23, .ref q_31, .ref q_39, .ref q_47, .ref q_55, .ref q_63, .ref q_71, .ref q_80, .null, .null, .null, .null, .null, .double 0, .int (nI 0), .int (nI 0), .null, .null, .null, .null, .int (nI 0), .null, .null]) := ⟨_, rfl⟩
  rw [← ef_259] at hM
  have hF_260 : f_259 o = eS 8 [.int (nI 0), .int (nI 0), .ref q_7, .ref q_15, .ref q_23, .ref q_31, .ref q_39, .ref q_47, .ref q_55, .ref q_63, .ref q_71, .ref q_80, .null, .null, .null, .null, .null, .double 0, .int (nI 0), .int (nI 0), .null, .null, .null, .null, .int (nI 0), .null, .null] := by rw [ef_259]; exact va_up_self _ _ _
  have hF_261 : f_259 q_7 = eI K 6 (fun _ => 0) := by rw [ef_259]; exact (va_up_ne _ _ (Ne.symm hN_4)).trans hF_231
  have hF_262 : f_259 q_15 = eI K 6 (fun _ => 0) := by rw [ef_259]; exact (va_up_ne _ _ (Ne.symm hN_13)).trans hF_234
  have hF_263 : f_259 q_23 = eI K 24 (fun _ => 0) := by rw [ef_259]; exact (va_up_ne _ _ (Ne.symm hN_26)).trans hF_237
  have hF_264 : f_259 q_31 = eI K 24 (fun _ => 0) := by rw [ef_259]; exact (va_up_ne _ _ (Ne.symm hN_43)).trans hF_240
  have hF_265 : f_259 q_39 = eI K 24 (fun _ => 0) := by rw [ef_259]; exact (va_up_ne _ _ (Ne.symm hN_64)).trans hF_243
  have hF_266 : f_259 q_47 = eI K 24 (fun _ => 0) := by rw [ef_259]; exact (va_up_ne _ _ (Ne.symm hN_89)).trans hF_246
  have hF_267 : f_259 q_55 = eI K 6 (fun _ => 0) := by rw [ef_259]; exact (va_up_ne _ _ (Ne.symm hN_118)).trans hF_249
  have hF_268 : f_259 q_63 = eI K 6 (fun _ => 0) := by rw [ef_259]; exact (va_up_ne _ _ (Ne.symm hN_151)).trans hF_252
  have hF_269 : f_259 q_71 = eI K 6 (fun _ => 0) := by rw [ef_259]; exact (va_up_ne _ _ (Ne.symm hN_188)).trans hF_255
  have hF_270 : f_259 q_80 = eZ K 1000 (fun _ => 0) := by rw [ef_259]; exact (va_up_ne _ _ (Ne.symm hN_229)).trans hF_258
  refine lv_aload_n hx hb dX7_init_85 rfl (lv_at hl 0 rfl) ?_
  refine lv_sipush (v := nI 6000) hx hb dX7_init_86 (by decide) ?_
  refine z_newZ hC hM zarr_boolean (by decide) (by decide) (by decide) dX7_init_89 (fun q_89 H hq_89 hM => ?_)
  obtain ⟨f_271, ef_271⟩ : ∃ z9, z9 = va_up f_259 q_89 (eZ K 6000 (fun _ => 0)) := ⟨_, rfl⟩
  rw [← ef_271] at hM
  have hN_274 : o ≠ q_89 := fun h => hq_89 (h ▸ hL_227)
  have hL_272 : o ∈ L ++ [q_7] ++ [q_15] ++ [q_23] ++ [q_31] ++ [q_39] ++ [q_47] ++ [q_55] ++ [q_63] ++ [q_71] ++ [q_80] ++ [q_89] := List.mem_append_left _ hL_227
  have hF_273 : f_271 o = eS 8 [.int (nI 0), .int (nI 0), .ref q_7, .ref q_15, .ref q_23, .ref q_31, .ref q_39, .ref q_47, .ref q_55, .ref q_63, .ref q_71, .ref q_80, .null, .null, .null, .null, .null, .double 0, .int (nI 0), .int (nI 0), .null, .null, .null, .null, .int (nI 0), .null, .null] := by rw [ef_271]; exact (va_up_ne _ _ hN_274).trans hF_260
  have hN_277 : q_7 ≠ q_89 := fun h => hq_89 (h ▸ hL_230)
  have hL_275 : q_7 ∈ L ++ [q_7] ++ [q_15] ++ [q_23] ++ [q_31] ++ [q_39] ++ [q_47] ++ [q_55] ++ [q_63] ++ [q_71] ++ [q_80] ++ [q_89] := List.mem_append_left _ hL_230
  have hF_276 : f_271 q_7 = eI K 6 (fun _ => 0) := by rw [ef_271]; exact (va_up_ne _ _ hN_277).trans hF_261
  have hN_280 : q_15 ≠ q_89 := fun h => hq_89 (h ▸ hL_233)
  have hL_278 : q_15 ∈ L ++ [q_7] ++ [q_15] ++ [q_23] ++ [q_31] ++ [q_39] ++ [q_47] ++ [q_55] ++ [q_63] ++ [q_71] ++ [q_80] ++ [q_89] := List.mem_append_left _ hL_233
  have hF_279 : f_271 q_15 = eI K 6 (fun _ => 0) := by rw [ef_271]; exact (va_up_ne _ _ hN_280).trans hF_262
  have hN_283 : q_23 ≠ q_89 := fun h => hq_89 (h ▸ hL_236)
  have hL_281 : q_23 ∈ L ++ [q_7] ++ [q_15] ++ [q_23] ++ [q_31] ++ [q_39] ++ [q_47] ++ [q_55] ++ [q_63] ++ [q_71] ++ [q_80] ++ [q_89] := List.mem_append_left _ hL_236
  have hF_282 : f_271 q_23 = eI K 24 (fun _ => 0) := by rw [ef_271]; exact (va_up_ne _ _ hN_283).trans hF_263
  have hN_286 : q_31 ≠ q_89 := fun h => hq_89 (h ▸ hL_239)
  have hL_284 : q_31 ∈ L ++ [q_7] ++ [q_15] ++ [q_23] ++ [q_31] ++ [q_39] ++ [q_47] ++ [q_55] ++ [q_63] ++ [q_71] ++ [q_80] ++ [q_89] := List.mem_append_left _ hL_239
  have hF_285 : f_271 q_31 = eI K 24 (fun _ => 0) := by rw [ef_271]; exact (va_up_ne _ _ hN_286).trans hF_264
  have hN_289 : q_39 ≠ q_89 := fun h => hq_89 (h ▸ hL_242)
  have hL_287 : q_39 ∈ L ++ [q_7] ++ [q_15] ++ [q_23] ++ [q_31] ++ [q_39] ++ [q_47] ++ [q_55] ++ [q_63] ++ [q_71] ++ [q_80] ++ [q_89] := List.mem_append_left _ hL_242
  have hF_288 : f_271 q_39 = eI K 24 (fun _ => 0) := by rw [ef_271]; exact (va_up_ne _ _ hN_289).trans hF_265
  have hN_292 : q_47 ≠ q_89 := fun h => hq_89 (h ▸ hL_245)
  have hL_290 : q_47 ∈ L ++ [q_7] ++ [q_15] ++ [q_23] ++ [q_31] ++ [q_39] ++ [q_47] ++ [q_55] ++ [q_63] ++ [q_71] ++ [q_80] ++ [q_89] := List.mem_append_left _ hL_245
  have hF_291 : f_271 q_47 = eI K 24 (fun _ => 0) := by rw [ef_271]; exact (va_up_ne _ _ hN_292).trans hF_266
  have hN_295 : q_55 ≠ q_89 := fun h => hq_89 (h ▸ hL_248)
  have hL_293 : q_55 ∈ L ++ [q_7] ++ [q_15] ++ [q_23] ++ [q_31] ++ [q_39] ++ [q_47] ++ [q_55] ++ [q_63] ++ [q_71] ++ [q_80] ++ [q_89] := List.mem_append_left _ hL_248
  have hF_294 : f_271 q_55 = eI K 6 (fun _ => 0) := by rw [ef_271]; exact (va_up_ne _ _ hN_295).trans hF_267
  have hN_298 : q_63 ≠ q_89 := fun h => hq_89 (h ▸ hL_251)
  have hL_296 : q_63 ∈ L ++ [q_7] ++ [q_15] ++ [q_23] ++ [q_31] ++ [q_39] ++ [q_47] ++ [q_55] ++ [q_63] ++ [q_71] ++ [q_80] ++ [q_89] := List.mem_append_left _ hL_251
  have hF_297 : f_271 q_63 = eI K 6 (fun _ => 0) := by rw [ef_271]; exact (va_up_ne _ _ hN_298).trans hF_268
  have hN_301 : q_71 ≠ q_89 := fun h => hq_89 (h ▸ hL_254)
  have hL_299 : q_71 ∈ L ++ [q_7] ++ [q_15] ++ [q_23] ++ [q_31] ++ [q_39] ++ [q_47] ++ [q_55] ++ [q_63] ++ [q_71] ++ [q_80] ++ [q_89] := List.mem_append_left _ hL_254
  have hF_300 : f_271 q_71 = eI K 6 (fun _ => 0) := by rw [ef_271]; exact (va_up_ne _ _ hN_301).trans hF_269
  have hN_304 : q_80 ≠ q_89 := fun h => hq_89 (h ▸ hL_257)
  have hL_302 : q_80 ∈ L ++ [q_7] ++ [q_15] ++ [q_23] ++ [q_31] ++ [q_39] ++ [q_47] ++ [q_55] ++ [q_63] ++ [q_71] ++ [q_80] ++ [q_89] := List.mem_append_left _ hL_257
  have hF_303 : f_271 q_80 = eZ K 1000 (fun _ => 0) := by rw [ef_271]; exact (va_up_ne _ _ hN_304).trans hF_270
  have hL_305 : q_89 ∈ L ++ [q_7] ++ [q_15] ++ [q_23] ++ [q_31] ++ [q_39] ++ [q_47] ++ [q_55] ++ [q_63] ++ [q_71] ++ [q_80] ++ [q_89] := List.mem_append_right _ List.mem_cons_self
  have hF_306 : f_271 q_89 = eZ K 6000 (fun _ => 0) := by rw [ef_271]; exact va_up_self _ _ _
  refine z_putF (fs' := [.int (nI 0), .int (nI 0), .ref q_7, .ref q_15, .ref q_23, .ref q_31, .ref q_39, .ref q_47, .ref q_55, .ref q_63, .ref q_71, .ref q_80, .ref q_89, .null, .null, .null, .null, .double 0, .int (nI 0), .int (nI 0), .null, .null, .null, .null, .int (nI 0), .null, .null]) hC hM hnm hL_272 hF_273 zcl_X7 (by decide) zl_X7_41 rfl rfl rfl (by rfl) (Nat.le_of_ble_eq_true rfl) rfl dX7_init_91 (fun H locs hM => ?_)
  obtain ⟨f_307, ef_307⟩ : ∃ z9, z9 = va_up f_271 o (eS 8 [.int (nI 0), .int (nI 0), .ref q_7, .ref q_15, .ref q_23, .ref q_31, .ref q_39, .ref q_47, .ref q_55, .ref q_63, .ref q_71, .ref q_80, .ref q_89, .null, .null, .null, .null, .double 0, .int (nI 0), .int (nI 0), .null, .null, .null, .null, .int (nI 0), .null, .null]) := ⟨_, rfl⟩
  rw [← ef_307] at hM
  have hF_308 : f_307 o = eS 8 [.int (nI 0), .int (nI 0), .ref q_7, .ref q_15, .ref q_23, .ref q_31, .ref q_39, .ref q_47, .ref q_55, .ref q_63, .ref q_71, .ref q_80, .ref q_89, .null, .null, .null, .null, .double 0, .int (nI 0), .int (nI 0), .null, .null, .null, .null, .int (nI 0), .null, .null] := by rw [ef_307]; exact va_up_self _ _ _
  have hF_309 : f_307 q_7 = eI K 6 (fun _ => 0) := by rw [ef_307]; exact (va_up_ne _ _ (Ne.symm hN_4)).trans hF_276
  have hF_310 : f_307 q_15 = eI K 6 (fun _ => 0) := by rw [ef_307]; exact (va_up_ne _ _ (Ne.symm hN_13)).trans hF_279
  have hF_311 : f_307 q_23 = eI K 24 (fun _ => 0) := by rw [ef_307]; exact (va_up_ne _ _ (Ne.symm hN_26)).trans hF_282
  have hF_312 : f_307 q_31 = eI K 24 (fun _ => 0) := by rw [ef_307]; exact (va_up_ne _ _ (Ne.symm hN_43)).trans hF_285
  have hF_313 : f_307 q_39 = eI K 24 (fun _ => 0) := by rw [ef_307]; exact (va_up_ne _ _ (Ne.symm hN_64)).trans hF_288
  have hF_314 : f_307 q_47 = eI K 24 (fun _ => 0) := by rw [ef_307]; exact (va_up_ne _ _ (Ne.symm hN_89)).trans hF_291
  have hF_315 : f_307 q_55 = eI K 6 (fun _ => 0) := by rw [ef_307]; exact (va_up_ne _ _ (Ne.symm hN_118)).trans hF_294
  have hF_316 : f_307 q_63 = eI K 6 (fun _ => 0) := by rw [ef_307]; exact (va_up_ne _ _ (Ne.symm hN_151)).trans hF_297
  have hF_317 : f_307 q_71 = eI K 6 (fun _ => 0) := by rw [ef_307]; exact (va_up_ne _ _ (Ne.symm hN_188)).trans hF_300
  have hF_318 : f_307 q_80 = eZ K 1000 (fun _ => 0) := by rw [ef_307]; exact (va_up_ne _ _ (Ne.symm hN_229)).trans hF_303
  have hF_319 : f_307 q_89 = eZ K 6000 (fun _ => 0) := by rw [ef_307]; exact (va_up_ne _ _ (Ne.symm hN_274)).trans hF_306
  refine lv_aload_n hx hb dX7_init_94 rfl (lv_at hl 0 rfl) ?_
  refine lv_sipush (v := nI 6000) hx hb dX7_init_95 (by decide) ?_
  refine z_newD hC hM zarr_double (by decide) (by decide) (by decide) dX7_init_98 (fun q_98 H hq_98 hM => ?_)
  obtain ⟨f_320, ef_320⟩ : ∃ z9, z9 = va_up f_307 q_98 (eD K 6000 (fun _ => 0)) := ⟨_, rfl⟩
  rw [← ef_320] at hM
  have hN_323 : o ≠ q_98 := fun h => hq_98 (h ▸ hL_272)
  have hL_321 : o ∈ L ++ [q_7] ++ [q_15] ++ [q_23] ++ [q_31] ++ [q_39] ++ [q_47] ++ [q_55] ++ [q_63] ++ [q_71] ++ [q_80] ++ [q_89] ++ [q_98] := List.mem_append_left _ hL_272
  have hF_322 : f_320 o = eS 8 [.int (nI 0), .int (nI 0), .ref q_7, .ref q_15, .ref q_23, .ref q_31, .ref q_39, .ref q_47, .ref q_55, .ref q_63, .ref q_71, .ref q_80, .ref q_89, .null, .null, .null, .null, .double 0, .int (nI 0), .int (nI 0), .null, .null, .null, .null, .int (nI 0), .null, .null] := by rw [ef_320]; exact (va_up_ne _ _ hN_323).trans hF_308
  have hN_326 : q_7 ≠ q_98 := fun h => hq_98 (h ▸ hL_275)
  have hL_324 : q_7 ∈ L ++ [q_7] ++ [q_15] ++ [q_23] ++ [q_31] ++ [q_39] ++ [q_47] ++ [q_55] ++ [q_63] ++ [q_71] ++ [q_80] ++ [q_89] ++ [q_98] := List.mem_append_left _ hL_275
  have hF_325 : f_320 q_7 = eI K 6 (fun _ => 0) := by rw [ef_320]; exact (va_up_ne _ _ hN_326).trans hF_309
  have hN_329 : q_15 ≠ q_98 := fun h => hq_98 (h ▸ hL_278)
  have hL_327 : q_15 ∈ L ++ [q_7] ++ [q_15] ++ [q_23] ++ [q_31] ++ [q_39] ++ [q_47] ++ [q_55] ++ [q_63] ++ [q_71] ++ [q_80] ++ [q_89] ++ [q_98] := List.mem_append_left _ hL_278
  have hF_328 : f_320 q_15 = eI K 6 (fun _ => 0) := by rw [ef_320]; exact (va_up_ne _ _ hN_329).trans hF_310
  have hN_332 : q_23 ≠ q_98 := fun h => hq_98 (h ▸ hL_281)
  have hL_330 : q_23 ∈ L ++ [q_7] ++ [q_15] ++ [q_23] ++ [q_31] ++ [q_39] ++ [q_47] ++ [q_55] ++ [q_63] ++ [q_71] ++ [q_80] ++ [q_89] ++ [q_98] := List.mem_append_left _ hL_281
  have hF_331 : f_320 q_23 = eI K 24 (fun _ => 0) := by rw [ef_320]; exact (va_up_ne _ _ hN_332).trans hF_311
  have hN_335 : q_31 ≠ q_98 := fun h => hq_98 (h ▸ hL_284)
  have hL_333 : q_31 ∈ L ++ [q_7] ++ [q_15] ++ [q_23] ++ [q_31] ++ [q_39] ++ [q_47] ++ [q_55] ++ [q_63] ++ [q_71] ++ [q_80] ++ [q_89] ++ [q_98] := List.mem_append_left _ hL_284
  have hF_334 : f_320 q_31 = eI K 24 (fun _ => 0) := by rw [ef_320]; exact (va_up_ne _ _ hN_335).trans hF_312
  have hN_338 : q_39 ≠ q_98 := fun h => hq_98 (h ▸ hL_287)
  have hL_336 : q_39 ∈ L ++ [q_7] ++ [q_15] ++ [q_23] ++ [q_31] ++ [q_39] ++ [q_47] ++ [q_55] ++ [q_63] ++ [q_71] ++ [q_80] ++ [q_89] ++ [q_98] := List.mem_append_left _ hL_287
  have hF_337 : f_320 q_39 = eI K 24 (fun _ => 0) := by rw [ef_320]; exact (va_up_ne _ _ hN_338).trans hF_313
  have hN_341 : q_47 ≠ q_98 := fun h => hq_98 (h ▸ hL_290)
  have hL_339 : q_47 ∈ L ++ [q_7] ++ [q_15] ++ [q_23] ++ [q_31] ++ [q_39] ++ [q_47] ++ [q_55] ++ [q_63] ++ [q_71] ++ [q_80] ++ [q_89] ++ [q_98] := List.mem_append_left _ hL_290
  have hF_340 : f_320 q_47 = eI K 24 (fun _ => 0) := by rw [ef_320]; exact (va_up_ne _ _ hN_341).trans hF_314
  have hN_344 : q_55 ≠ q_98 := fun h => hq_98 (h ▸ hL_293)
  have hL_342 : q_55 ∈ L ++ [q_7] ++ [q_15] ++ [q_23] ++ [q_31] ++ [q_39] ++ [q_47] ++ [q_55] ++ [q_63] ++ [q_71] ++ [q_80] ++ [q_89] ++ [q_98] := List.mem_append_left _ hL_293
  have hF_343 : f_320 q_55 = eI K 6 (fun _ => 0) := by rw [ef_320]; exact (va_up_ne _ _ hN_344).trans hF_315
  have hN_347 : q_63 ≠ q_98 := fun h => hq_98 (h ▸ hL_296)
  have hL_345 : q_63 ∈ L ++ [q_7] ++ [q_15] ++ [q_23] ++ [q_31] ++ [q_39] ++ [q_47] ++ [q_55] ++ [q_63] ++ [q_71] ++ [q_80] ++ [q_89] ++ [q_98] := List.mem_append_left _ hL_296
  have hF_346 : f_320 q_63 = eI K 6 (fun _ => 0) := by rw [ef_320]; exact (va_up_ne _ _ hN_347).trans hF_316
  have hN_350 : q_71 ≠ q_98 := fun h => hq_98 (h ▸ hL_299)
  have hL_348 : q_71 ∈ L ++ [q_7] ++ [q_15] ++ [q_23] ++ [q_31] ++ [q_39] ++ [q_47] ++ [q_55] ++ [q_63] ++ [q_71] ++ [q_80] ++ [q_89] ++ [q_98] := List.mem_append_left _ hL_299
  have hF_349 : f_320 q_71 = eI K 6 (fun _ => 0) := by rw [ef_320]; exact (va_up_ne _ _ hN_350).trans hF_317
  have hN_353 : q_80 ≠ q_98 := fun h => hq_98 (h ▸ hL_302)
  have hL_351 : q_80 ∈ L ++ [q_7] ++ [q_15] ++ [q_23] ++ [q_31] ++ [q_39] ++ [q_47] ++ [q_55] ++ [q_63] ++ [q_71] ++ [q_80] ++ [q_89] ++ [q_98] := List.mem_append_left _ hL_302
  have hF_352 : f_320 q_80 = eZ K 1000 (fun _ => 0) := by rw [ef_320]; exact (va_up_ne _ _ hN_353).trans hF_318
  have hN_356 : q_89 ≠ q_98 := fun h => hq_98 (h ▸ hL_305)
  have hL_354 : q_89 ∈ L ++ [q_7] ++ [q_15] ++ [q_23] ++ [q_31] ++ [q_39] ++ [q_47] ++ [q_55] ++ [q_63] ++ [q_71] ++ [q_80] ++ [q_89] ++ [q_98] := List.mem_append_left _ hL_305
  have hF_355 : f_320 q_89 = eZ K 6000 (fun _ => 0) := by rw [ef_320]; exact (va_up_ne _ _ hN_356).trans hF_319
  have hL_357 : q_98 ∈ L ++ [q_7] ++ [q_15] ++ [q_23] ++ [q_31] ++ [q_39] ++ [q_47] ++ [q_55] ++ [q_63] ++ [q_71] ++ [q_80] ++ [q_89] ++ [q_98] := List.mem_append_right _ List.mem_cons_self
  have hF_358 : f_320 q_98 = eD K 6000 (fun _ => 0) := by rw [ef_320]; exact va_up_self _ _ _
  refine z_putF (fs' := [.int (nI 0), .int (nI 0), .ref q_7, .ref q_15, .ref q_23, .ref q_31, .ref q_39, .ref q_47, .ref q_55, .ref q_63, .ref q_71, .ref q_80, .ref q_89, .ref q_98, .null, .null, .null, .double 0, .int (nI 0), .int (nI 0), .null, .null, .null, .null, .int (nI 0), .null, .null]) hC hM hnm hL_321 hF_322 zcl_X7 (by decide) zl_X7_44 rfl rfl rfl (by rfl) (Nat.le_of_ble_eq_true rfl) rfl dX7_init_100 (fun H locs hM => ?_)
  obtain ⟨f_359, ef_359⟩ : ∃ z9, z9 = va_up f_320 o (eS 8 [.int (nI 0), .int (nI 0), .ref q_7, .ref q_15, .ref q_23, .ref q_31, .ref q_39, .ref q_47, .ref q_55, .ref q_63, .ref q_71, .ref q_80, .ref q_89, .ref q_98, .null, .null, .null, .double 0, .int (nI 0), .int (nI 0), .null, .null, .null, .null, .int (nI 0), .null, .null]) := ⟨_, rfl⟩
  rw [← ef_359] at hM
  have hF_360 : f_359 o = eS 8 [.int (nI 0), .int (nI 0), .ref q_7, .ref q_15, .ref q_23, .ref q_31, .ref q_39, .ref q_47, .ref q_55, .ref q_63, .ref q_71, .ref q_80, .ref q_89, .ref q_98, .null, .null, .null, .double 0, .int (nI 0), .int (nI 0), .null, .null, .null, .null, .int (nI 0), .null, .null] := by rw [ef_359]; exact va_up_self _ _ _
  have hF_361 : f_359 q_7 = eI K 6 (fun _ => 0) := by rw [ef_359]; exact (va_up_ne _ _ (Ne.symm hN_4)).trans hF_325
  have hF_362 : f_359 q_15 = eI K 6 (fun _ => 0) := by rw [ef_359]; exact (va_up_ne _ _ (Ne.symm hN_13)).trans hF_328
  have hF_363 : f_359 q_23 = eI K 24 (fun _ => 0) := by rw [ef_359]; exact (va_up_ne _ _ (Ne.symm hN_26)).trans hF_331
  have hF_364 : f_359 q_31 = eI K 24 (fun _ => 0) := by rw [ef_359]; exact (va_up_ne _ _ (Ne.symm hN_43)).trans hF_334
  have hF_365 : f_359 q_39 = eI K 24 (fun _ => 0) := by rw [ef_359]; exact (va_up_ne _ _ (Ne.symm hN_64)).trans hF_337
  have hF_366 : f_359 q_47 = eI K 24 (fun _ => 0) := by rw [ef_359]; exact (va_up_ne _ _ (Ne.symm hN_89)).trans hF_340
  have hF_367 : f_359 q_55 = eI K 6 (fun _ => 0) := by rw [ef_359]; exact (va_up_ne _ _ (Ne.symm hN_118)).trans hF_343
  have hF_368 : f_359 q_63 = eI K 6 (fun _ => 0) := by rw [ef_359]; exact (va_up_ne _ _ (Ne.symm hN_151)).trans hF_346
  have hF_369 : f_359 q_71 = eI K 6 (fun _ => 0) := by rw [ef_359]; exact (va_up_ne _ _ (Ne.symm hN_188)).trans hF_349
  have hF_370 : f_359 q_80 = eZ K 1000 (fun _ => 0) := by rw [ef_359]; exact (va_up_ne _ _ (Ne.symm hN_229)).trans hF_352
  have hF_371 : f_359 q_89 = eZ K 6000 (fun _ => 0) := by rw [ef_359]; exact (va_up_ne _ _ (Ne.symm hN_274)).trans hF_355
  have hF_372 : f_359 q_98 = eD K 6000 (fun _ => 0) := by rw [ef_359]; exact (va_up_ne _ _ (Ne.symm hN_323)).trans hF_358
  refine lv_aload_n hx hb dX7_init_103 rfl (lv_at hl 0 rfl) ?_
  refine lv_bipush (v := nI 6) hx hb dX7_init_104 (by decide) ?_
  refine z_newI hC hM zarr_int (by decide) (by decide) (by decide) dX7_init_106 (fun q_106 H hq_106 hM => ?_)
  obtain ⟨f_373, ef_373⟩ : ∃ z9, z9 = va_up f_359 q_106 (eI K 6 (fun _ => 0)) := ⟨_, rfl⟩
  rw [← ef_373] at hM
  have hN_376 : o ≠ q_106 := fun h => hq_106 (h ▸ hL_321)
  have hL_374 : o ∈ L ++ [q_7] ++ [q_15] ++ [q_23] ++ [q_31] ++ [q_39] ++ [q_47] ++ [q_55] ++ [q_63] ++ [q_71] ++ [q_80] ++ [q_89] ++ [q_98] ++ [q_106] := List.mem_append_left _ hL_321
  have hF_375 : f_373 o = eS 8 [.int (nI 0), .int (nI 0), .ref q_7, .ref q_15, .ref q_23, .ref q_31, .ref q_39, .ref q_47, .ref q_55, .ref q_63, .ref q_71, .ref q_80, .ref q_89, .ref q_98, .null, .null, .null, .double 0, .int (nI 0), .int (nI 0), .null, .null, .null, .null, .int (nI 0), .null, .null] := by rw [ef_373]; exact (va_up_ne _ _ hN_376).trans hF_360
  have hN_379 : q_7 ≠ q_106 := fun h => hq_106 (h ▸ hL_324)
  have hL_377 : q_7 ∈ L ++ [q_7] ++ [q_15] ++ [q_23] ++ [q_31] ++ [q_39] ++ [q_47] ++ [q_55] ++ [q_63] ++ [q_71] ++ [q_80] ++ [q_89] ++ [q_98] ++ [q_106] := List.mem_append_left _ hL_324
  have hF_378 : f_373 q_7 = eI K 6 (fun _ => 0) := by rw [ef_373]; exact (va_up_ne _ _ hN_379).trans hF_361
  have hN_382 : q_15 ≠ q_106 := fun h => hq_106 (h ▸ hL_327)
  have hL_380 : q_15 ∈ L ++ [q_7] ++ [q_15] ++ [q_23] ++ [q_31] ++ [q_39] ++ [q_47] ++ [q_55] ++ [q_63] ++ [q_71] ++ [q_80] ++ [q_89] ++ [q_98] ++ [q_106] := List.mem_append_left _ hL_327
  have hF_381 : f_373 q_15 = eI K 6 (fun _ => 0) := by rw [ef_373]; exact (va_up_ne _ _ hN_382).trans hF_362
  have hN_385 : q_23 ≠ q_106 := fun h => hq_106 (h ▸ hL_330)
  have hL_383 : q_23 ∈ L ++ [q_7] ++ [q_15] ++ [q_23] ++ [q_31] ++ [q_39] ++ [q_47] ++ [q_55] ++ [q_63] ++ [q_71] ++ [q_80] ++ [q_89] ++ [q_98] ++ [q_106] := List.mem_append_left _ hL_330
  have hF_384 : f_373 q_23 = eI K 24 (fun _ => 0) := by rw [ef_373]; exact (va_up_ne _ _ hN_385).trans hF_363
  have hN_388 : q_31 ≠ q_106 := fun h => hq_106 (h ▸ hL_333)
  have hL_386 : q_31 ∈ L ++ [q_7] ++ [q_15] ++ [q_23] ++ [q_31] ++ [q_39] ++ [q_47] ++ [q_55] ++ [q_63] ++ [q_71] ++ [q_80] ++ [q_89] ++ [q_98] ++ [q_106] := List.mem_append_left _ hL_333
  have hF_387 : f_373 q_31 = eI K 24 (fun _ => 0) := by rw [ef_373]; exact (va_up_ne _ _ hN_388).trans hF_364
  have hN_391 : q_39 ≠ q_106 := fun h => hq_106 (h ▸ hL_336)
  have hL_389 : q_39 ∈ L ++ [q_7] ++ [q_15] ++ [q_23] ++ [q_31] ++ [q_39] ++ [q_47] ++ [q_55] ++ [q_63] ++ [q_71] ++ [q_80] ++ [q_89] ++ [q_98] ++ [q_106] := List.mem_append_left _ hL_336
  have hF_390 : f_373 q_39 = eI K 24 (fun _ => 0) := by rw [ef_373]; exact (va_up_ne _ _ hN_391).trans hF_365
  have hN_394 : q_47 ≠ q_106 := fun h => hq_106 (h ▸ hL_339)
  have hL_392 : q_47 ∈ L ++ [q_7] ++ [q_15] ++ [q_23] ++ [q_31] ++ [q_39] ++ [q_47] ++ [q_55] ++ [q_63] ++ [q_71] ++ [q_80] ++ [q_89] ++ [q_98] ++ [q_106] := List.mem_append_left _ hL_339
  have hF_393 : f_373 q_47 = eI K 24 (fun _ => 0) := by rw [ef_373]; exact (va_up_ne _ _ hN_394).trans hF_366
  have hN_397 : q_55 ≠ q_106 := fun h => hq_106 (h ▸ hL_342)
  have hL_395 : q_55 ∈ L ++ [q_7] ++ [q_15] ++ [q_23] ++ [q_31] ++ [q_39] ++ [q_47] ++ [q_55] ++ [q_63] ++ [q_71] ++ [q_80] ++ [q_89] ++ [q_98] ++ [q_106] := List.mem_append_left _ hL_342
  have hF_396 : f_373 q_55 = eI K 6 (fun _ => 0) := by rw [ef_373]; exact (va_up_ne _ _ hN_397).trans hF_367
  have hN_400 : q_63 ≠ q_106 := fun h => hq_106 (h ▸ hL_345)
  have hL_398 : q_63 ∈ L ++ [q_7] ++ [q_15] ++ [q_23] ++ [q_31] ++ [q_39] ++ [q_47] ++ [q_55] ++ [q_63] ++ [q_71] ++ [q_80] ++ [q_89] ++ [q_98] ++ [q_106] := List.mem_append_left _ hL_345
  have hF_399 : f_373 q_63 = eI K 6 (fun _ => 0) := by rw [ef_373]; exact (va_up_ne _ _ hN_400).trans hF_368
  have hN_403 : q_71 ≠ q_106 := fun h => hq_106 (h ▸ hL_348)
  have hL_401 : q_71 ∈ L ++ [q_7] ++ [q_15] ++ [q_23] ++ [q_31] ++ [q_39] ++ [q_47] ++ [q_55] ++ [q_63] ++ [q_71] ++ [q_80] ++ [q_89] ++ [q_98] ++ [q_106] := List.mem_append_left _ hL_348
  have hF_402 : f_373 q_71 = eI K 6 (fun _ => 0) := by rw [ef_373]; exact (va_up_ne _ _ hN_403).trans hF_369
  have hN_406 : q_80 ≠ q_106 := fun h => hq_106 (h ▸ hL_351)
  have hL_404 : q_80 ∈ L ++ [q_7] ++ [q_15] ++ [q_23] ++ [q_31] ++ [q_39] ++ [q_47] ++ [q_55] ++ [q_63] ++ [q_71] ++ [q_80] ++ [q_89] ++ [q_98] ++ [q_106] := List.mem_append_left _ hL_351
  have hF_405 : f_373 q_80 = eZ K 1000 (fun _ => 0) := by rw [ef_373]; exact (va_up_ne _ _ hN_406).trans hF_370
  have hN_409 : q_89 ≠ q_106 := fun h => hq_106 (h ▸ hL_354)
  have hL_407 : q_89 ∈ L ++ [q_7] ++ [q_15] ++ [q_23] ++ [q_31] ++ [q_39] ++ [q_47] ++ [q_55] ++ [q_63] ++ [q_71] ++ [q_80] ++ [q_89] ++ [q_98] ++ [q_106] := List.mem_append_left _ hL_354
  have hF_408 : f_373 q_89 = eZ K 6000 (fun _ => 0) := by rw [ef_373]; exact (va_up_ne _ _ hN_409).trans hF_371
  have hN_412 : q_98 ≠ q_106 := fun h => hq_106 (h ▸ hL_357)
  have hL_410 : q_98 ∈ L ++ [q_7] ++ [q_15] ++ [q_23] ++ [q_31] ++ [q_39] ++ [q_47] ++ [q_55] ++ [q_63] ++ [q_71] ++ [q_80] ++ [q_89] ++ [q_98] ++ [q_106] := List.mem_append_left _ hL_357
  have hF_411 : f_373 q_98 = eD K 6000 (fun _ => 0) := by rw [ef_373]; exact (va_up_ne _ _ hN_412).trans hF_372
  have hL_413 : q_106 ∈ L ++ [q_7] ++ [q_15] ++ [q_23] ++ [q_31] ++ [q_39] ++ [q_47] ++ [q_55] ++ [q_63] ++ [q_71] ++ [q_80] ++ [q_89] ++ [q_98] ++ [q_106] := List.mem_append_right _ List.mem_cons_self
  have hF_414 : f_373 q_106 = eI K 6 (fun _ => 0) := by rw [ef_373]; exact va_up_self _ _ _
  refine z_putF (fs' := [.int (nI 0), .int (nI 0), .ref q_7, .ref q_15, .ref q_23, .ref q_31, .ref q_39, .ref q_47, .ref q_55, .ref q_63, .ref q_71, .ref q_80, .ref q_89, .ref q_98, .ref q_106, .null, .null, .double 0, .int (nI 0), .int (nI 0), .null, .null, .null, .null, .int (nI 0), .null, .null]) hC hM hnm hL_374 hF_375 zcl_X7 (by decide) zl_X7_48 rfl rfl rfl (by rfl) (Nat.le_of_ble_eq_true rfl) rfl dX7_init_108 (fun H locs hM => ?_)
  obtain ⟨f_415, ef_415⟩ : ∃ z9, z9 = va_up f_373 o (eS 8 [.int (nI 0), .int (nI 0), .ref q_7, .ref q_15, .ref q_23, .ref q_31, .ref q_39, .ref q_47, .ref q_55, .ref q_63, .ref q_71, .ref q_80, .ref q_89, .ref q_98, .ref q_106, .null, .null, .double 0, .int (nI 0), .int (nI 0), .null, .null, .null, .null, .int (nI 0), .null, .null]) := ⟨_, rfl⟩
  rw [← ef_415] at hM
  have hF_416 : f_415 o = eS 8 [.int (nI 0), .int (nI 0), .ref q_7, .ref q_15, .ref q_23, .ref q_31, .ref q_39, .ref q_47, .ref q_55, .ref q_63, .ref q_71, .ref q_80, .ref q_89, .ref q_98, .ref q_106, .null, .null, .double 0, .int (nI 0), .int (nI 0), .null, .null, .null, .null, .int (nI 0), .null, .null] := by rw [ef_415]; exact va_up_self _ _ _
  have hF_417 : f_415 q_7 = eI K 6 (fun _ => 0) := by rw [ef_415]; exact (va_up_ne _ _ (Ne.symm hN_4)).trans hF_378
  have hF_418 : f_415 q_15 = eI K 6 (fun _ => 0) := by rw [ef_415]; exact (va_up_ne _ _ (Ne.symm hN_13)).trans hF_381
  have hF_419 : f_415 q_23 = eI K 24 (fun _ => 0) := by rw [ef_415]; exact (va_up_ne _ _ (Ne.symm hN_26)).trans hF_384
  have hF_420 : f_415 q_31 = eI K 24 (fun _ => 0) := by rw [ef_415]; exact (va_up_ne _ _ (Ne.symm hN_43)).trans hF_387
  have hF_421 : f_415 q_39 = eI K 24 (fun _ => 0) := by rw [ef_415]; exact (va_up_ne _ _ (Ne.symm hN_64)).trans hF_390
  have hF_422 : f_415 q_47 = eI K 24 (fun _ => 0) := by rw [ef_415]; exact (va_up_ne _ _ (Ne.symm hN_89)).trans hF_393
  have hF_423 : f_415 q_55 = eI K 6 (fun _ => 0) := by rw [ef_415]; exact (va_up_ne _ _ (Ne.symm hN_118)).trans hF_396
  have hF_424 : f_415 q_63 = eI K 6 (fun _ => 0) := by rw [ef_415]; exact (va_up_ne _ _ (Ne.symm hN_151)).trans hF_399
  have hF_425 : f_415 q_71 = eI K 6 (fun _ => 0) := by rw [ef_415]; exact (va_up_ne _ _ (Ne.symm hN_188)).trans hF_402
  have hF_426 : f_415 q_80 = eZ K 1000 (fun _ => 0) := by rw [ef_415]; exact (va_up_ne _ _ (Ne.symm hN_229)).trans hF_405
  have hF_427 : f_415 q_89 = eZ K 6000 (fun _ => 0) := by rw [ef_415]; exact (va_up_ne _ _ (Ne.symm hN_274)).trans hF_408
  have hF_428 : f_415 q_98 = eD K 6000 (fun _ => 0) := by rw [ef_415]; exact (va_up_ne _ _ (Ne.symm hN_323)).trans hF_411
  have hF_429 : f_415 q_106 = eI K 6 (fun _ => 0) := by rw [ef_415]; exact (va_up_ne _ _ (Ne.symm hN_376)).trans hF_414
  refine lv_aload_n hx hb dX7_init_111 rfl (lv_at hl 0 rfl) ?_
  refine lv_bipush (v := nI 120) hx hb dX7_init_112 (by decide) ?_
  refine z_newD hC hM zarr_double (by decide) (by decide) (by decide) dX7_init_114 (fun q_114 H hq_114 hM => ?_)
  obtain ⟨f_430, ef_430⟩ : ∃ z9, z9 = va_up f_415 q_114 (eD K 120 (fun _ => 0)) := ⟨_, rfl⟩
  rw [← ef_430] at hM
  have hN_433 : o ≠ q_114 := fun h => hq_114 (h ▸ hL_374)
  have hL_431 : o ∈ L ++ [q_7] ++ [q_15] ++ [q_23] ++ [q_31] ++ [q_39] ++ [q_47] ++ [q_55] ++ [q_63] ++ [q_71] ++ [q_80] ++ [q_89] ++ [q_98] ++ [q_106] ++ [q_114] := List.mem_append_left _ hL_374
  have hF_432 : f_430 o = eS 8 [.int (nI 0), .int (nI 0), .ref q_7, .ref q_15, .ref q_23, .ref q_31, .ref q_39, .ref q_47, .ref q_55, .ref q_63, .ref q_71, .ref q_80, .ref q_89, .ref q_98, .ref q_106, .null, .null, .double 0, .int (nI 0), .int (nI 0), .null, .null, .null, .null, .int (nI 0), .null, .null] := by rw [ef_430]; exact (va_up_ne _ _ hN_433).trans hF_416
  have hN_436 : q_7 ≠ q_114 := fun h => hq_114 (h ▸ hL_377)
  have hL_434 : q_7 ∈ L ++ [q_7] ++ [q_15] ++ [q_23] ++ [q_31] ++ [q_39] ++ [q_47] ++ [q_55] ++ [q_63] ++ [q_71] ++ [q_80] ++ [q_89] ++ [q_98] ++ [q_106] ++ [q_114] := List.mem_append_left _ hL_377
  have hF_435 : f_430 q_7 = eI K 6 (fun _ => 0) := by rw [ef_430]; exact (va_up_ne _ _ hN_436).trans hF_417
  have hN_439 : q_15 ≠ q_114 := fun h => hq_114 (h ▸ hL_380)
  have hL_437 : q_15 ∈ L ++ [q_7] ++ [q_15] ++ [q_23] ++ [q_31] ++ [q_39] ++ [q_47] ++ [q_55] ++ [q_63] ++ [q_71] ++ [q_80] ++ [q_89] ++ [q_98] ++ [q_106] ++ [q_114] := List.mem_append_left _ hL_380
  have hF_438 : f_430 q_15 = eI K 6 (fun _ => 0) := by rw [ef_430]; exact (va_up_ne _ _ hN_439).trans hF_418
  have hN_442 : q_23 ≠ q_114 := fun h => hq_114 (h ▸ hL_383)
  have hL_440 : q_23 ∈ L ++ [q_7] ++ [q_15] ++ [q_23] ++ [q_31] ++ [q_39] ++ [q_47] ++ [q_55] ++ [q_63] ++ [q_71] ++ [q_80] ++ [q_89] ++ [q_98] ++ [q_106] ++ [q_114] := List.mem_append_left _ hL_383
  have hF_441 : f_430 q_23 = eI K 24 (fun _ => 0) := by rw [ef_430]; exact (va_up_ne _ _ hN_442).trans hF_419
  have hN_445 : q_31 ≠ q_114 := fun h => hq_114 (h ▸ hL_386)
  have hL_443 : q_31 ∈ L ++ [q_7] ++ [q_15] ++ [q_23] ++ [q_31] ++ [q_39] ++ [q_47] ++ [q_55] ++ [q_63] ++ [q_71] ++ [q_80] ++ [q_89] ++ [q_98] ++ [q_106] ++ [q_114] := List.mem_append_left _ hL_386
  have hF_444 : f_430 q_31 = eI K 24 (fun _ => 0) := by rw [ef_430]; exact (va_up_ne _ _ hN_445).trans hF_420
  have hN_448 : q_39 ≠ q_114 := fun h => hq_114 (h ▸ hL_389)
  have hL_446 : q_39 ∈ L ++ [q_7] ++ [q_15] ++ [q_23] ++ [q_31] ++ [q_39] ++ [q_47] ++ [q_55] ++ [q_63] ++ [q_71] ++ [q_80] ++ [q_89] ++ [q_98] ++ [q_106] ++ [q_114] := List.mem_append_left _ hL_389
  have hF_447 : f_430 q_39 = eI K 24 (fun _ => 0) := by rw [ef_430]; exact (va_up_ne _ _ hN_448).trans hF_421
  have hN_451 : q_47 ≠ q_114 := fun h => hq_114 (h ▸ hL_392)
  have hL_449 : q_47 ∈ L ++ [q_7] ++ [q_15] ++ [q_23] ++ [q_31] ++ [q_39] ++ [q_47] ++ [q_55] ++ [q_63] ++ [q_71] ++ [q_80] ++ [q_89] ++ [q_98] ++ [q_106] ++ [q_114] := List.mem_append_left _ hL_392
  have hF_450 : f_430 q_47 = eI K 24 (fun _ => 0) := by rw [ef_430]; exact (va_up_ne _ _ hN_451).trans hF_422
  have hN_454 : q_55 ≠ q_114 := fun h => hq_114 (h ▸ hL_395)
  have hL_452 : q_55 ∈ L ++ [q_7] ++ [q_15] ++ [q_23] ++ [q_31] ++ [q_39] ++ [q_47] ++ [q_55] ++ [q_63] ++ [q_71] ++ [q_80] ++ [q_89] ++ [q_98] ++ [q_106] ++ [q_114] := List.mem_append_left _ hL_395
  have hF_453 : f_430 q_55 = eI K 6 (fun _ => 0) := by rw [ef_430]; exact (va_up_ne _ _ hN_454).trans hF_423
  have hN_457 : q_63 ≠ q_114 := fun h => hq_114 (h ▸ hL_398)
  have hL_455 : q_63 ∈ L ++ [q_7] ++ [q_15] ++ [q_23] ++ [q_31] ++ [q_39] ++ [q_47] ++ [q_55] ++ [q_63] ++ [q_71] ++ [q_80] ++ [q_89] ++ [q_98] ++ [q_106] ++ [q_114] := List.mem_append_left _ hL_398
  have hF_456 : f_430 q_63 = eI K 6 (fun _ => 0) := by rw [ef_430]; exact (va_up_ne _ _ hN_457).trans hF_424
  have hN_460 : q_71 ≠ q_114 := fun h => hq_114 (h ▸ hL_401)
  have hL_458 : q_71 ∈ L ++ [q_7] ++ [q_15] ++ [q_23] ++ [q_31] ++ [q_39] ++ [q_47] ++ [q_55] ++ [q_63] ++ [q_71] ++ [q_80] ++ [q_89] ++ [q_98] ++ [q_106] ++ [q_114] := List.mem_append_left _ hL_401
  have hF_459 : f_430 q_71 = eI K 6 (fun _ => 0) := by rw [ef_430]; exact (va_up_ne _ _ hN_460).trans hF_425
  have hN_463 : q_80 ≠ q_114 := fun h => hq_114 (h ▸ hL_404)
  have hL_461 : q_80 ∈ L ++ [q_7] ++ [q_15] ++ [q_23] ++ [q_31] ++ [q_39] ++ [q_47] ++ [q_55] ++ [q_63] ++ [q_71] ++ [q_80] ++ [q_89] ++ [q_98] ++ [q_106] ++ [q_114] := List.mem_append_left _ hL_404
  have hF_462 : f_430 q_80 = eZ K 1000 (fun _ => 0) := by rw [ef_430]; exact (va_up_ne _ _ hN_463).trans hF_426
  have hN_466 : q_89 ≠ q_114 := fun h => hq_114 (h ▸ hL_407)
  have hL_464 : q_89 ∈ L ++ [q_7] ++ [q_15] ++ [q_23] ++ [q_31] ++ [q_39] ++ [q_47] ++ [q_55] ++ [q_63] ++ [q_71] ++ [q_80] ++ [q_89] ++ [q_98] ++ [q_106] ++ [q_114] := List.mem_append_left _ hL_407
  have hF_465 : f_430 q_89 = eZ K 6000 (fun _ => 0) := by rw [ef_430]; exact (va_up_ne _ _ hN_466).trans hF_427
  have hN_469 : q_98 ≠ q_114 := fun h => hq_114 (h ▸ hL_410)
  have hL_467 : q_98 ∈ L ++ [q_7] ++ [q_15] ++ [q_23] ++ [q_31] ++ [q_39] ++ [q_47] ++ [q_55] ++ [q_63] ++ [q_71] ++ [q_80] ++ [q_89] ++ [q_98] ++ [q_106] ++ [q_114] := List.mem_append_left _ hL_410
  have hF_468 : f_430 q_98 = eD K 6000 (fun _ => 0) := by rw [ef_430]; exact (va_up_ne _ _ hN_469).trans hF_428
  have hN_472 : q_106 ≠ q_114 := fun h => hq_114 (h ▸ hL_413)
  have hL_470 : q_106 ∈ L ++ [q_7] ++ [q_15] ++ [q_23] ++ [q_31] ++ [q_39] ++ [q_47] ++ [q_55] ++ [q_63] ++ [q_71] ++ [q_80] ++ [q_89] ++ [q_98] ++ [q_106] ++ [q_114] := List.mem_append_left _ hL_413
  have hF_471 : f_430 q_106 = eI K 6 (fun _ => 0) := by rw [ef_430]; exact (va_up_ne _ _ hN_472).trans hF_429
  have hL_473 : q_114 ∈ L ++ [q_7] ++ [q_15] ++ [q_23] ++ [q_31] ++ [q_39] ++ [q_47] ++ [q_55] ++ [q_63] ++ [q_71] ++ [q_80] ++ [q_89] ++ [q_98] ++ [q_106] ++ [q_114] := List.mem_append_right _ List.mem_cons_self
  have hF_474 : f_430 q_114 = eD K 120 (fun _ => 0) := by rw [ef_430]; exact va_up_self _ _ _
  refine z_putF (fs' := [.int (nI 0), .int (nI 0), .ref q_7, .ref q_15, .ref q_23, .ref q_31, .ref q_39, .ref q_47, .ref q_55, .ref q_63, .ref q_71, .ref q_80, .ref q_89, .ref q_98, .ref q_106, .ref q_114, .null, .double 0, .int (nI 0), .int (nI 0), .null, .null, .null, .null, .int (nI 0), .null, .null]) hC hM hnm hL_431 hF_432 zcl_X7 (by decide) zl_X7_51 rfl rfl rfl (by rfl) (Nat.le_of_ble_eq_true rfl) rfl dX7_init_116 (fun H locs hM => ?_)
  obtain ⟨f_475, ef_475⟩ : ∃ z9, z9 = va_up f_430 o (eS 8 [.int (nI 0), .int (nI 0), .ref q_7, .ref q_15, .ref q_23, .ref q_31, .ref q_39, .ref q_47, .ref q_55, .ref q_63, .ref q_71, .ref q_80, .ref q_89, .ref q_98, .ref q_106, .ref q_114, .null, .double 0, .int (nI 0), .int (nI 0), .null, .null, .null, .null, .int (nI 0), .null, .null]) := ⟨_, rfl⟩
  rw [← ef_475] at hM
  have hF_476 : f_475 o = eS 8 [.int (nI 0), .int (nI 0), .ref q_7, .ref q_15, .ref q_23, .ref q_31, .ref q_39, .ref q_47, .ref q_55, .ref q_63, .ref q_71, .ref q_80, .ref q_89, .ref q_98, .ref q_106, .ref q_114, .null, .double 0, .int (nI 0), .int (nI 0), .null, .null, .null, .null, .int (nI 0), .null, .null] := by rw [ef_475]; exact va_up_self _ _ _
  have hF_477 : f_475 q_7 = eI K 6 (fun _ => 0) := by rw [ef_475]; exact (va_up_ne _ _ (Ne.symm hN_4)).trans hF_435
  have hF_478 : f_475 q_15 = eI K 6 (fun _ => 0) := by rw [ef_475]; exact (va_up_ne _ _ (Ne.symm hN_13)).trans hF_438
  have hF_479 : f_475 q_23 = eI K 24 (fun _ => 0) := by rw [ef_475]; exact (va_up_ne _ _ (Ne.symm hN_26)).trans hF_441
  have hF_480 : f_475 q_31 = eI K 24 (fun _ => 0) := by rw [ef_475]; exact (va_up_ne _ _ (Ne.symm hN_43)).trans hF_444
  have hF_481 : f_475 q_39 = eI K 24 (fun _ => 0) := by rw [ef_475]; exact (va_up_ne _ _ (Ne.symm hN_64)).trans hF_447
  have hF_482 : f_475 q_47 = eI K 24 (fun _ => 0) := by rw [ef_475]; exact (va_up_ne _ _ (Ne.symm hN_89)).trans hF_450
  have hF_483 : f_475 q_55 = eI K 6 (fun _ => 0) := by rw [ef_475]; exact (va_up_ne _ _ (Ne.symm hN_118)).trans hF_453
  have hF_484 : f_475 q_63 = eI K 6 (fun _ => 0) := by rw [ef_475]; exact (va_up_ne _ _ (Ne.symm hN_151)).trans hF_456
  have hF_485 : f_475 q_71 = eI K 6 (fun _ => 0) := by rw [ef_475]; exact (va_up_ne _ _ (Ne.symm hN_188)).trans hF_459
  have hF_486 : f_475 q_80 = eZ K 1000 (fun _ => 0) := by rw [ef_475]; exact (va_up_ne _ _ (Ne.symm hN_229)).trans hF_462
  have hF_487 : f_475 q_89 = eZ K 6000 (fun _ => 0) := by rw [ef_475]; exact (va_up_ne _ _ (Ne.symm hN_274)).trans hF_465
  have hF_488 : f_475 q_98 = eD K 6000 (fun _ => 0) := by rw [ef_475]; exact (va_up_ne _ _ (Ne.symm hN_323)).trans hF_468
  have hF_489 : f_475 q_106 = eI K 6 (fun _ => 0) := by rw [ef_475]; exact (va_up_ne _ _ (Ne.symm hN_376)).trans hF_471
  have hF_490 : f_475 q_114 = eD K 120 (fun _ => 0) := by rw [ef_475]; exact (va_up_ne _ _ (Ne.symm hN_433)).trans hF_474
  refine lv_aload_n hx hb dX7_init_119 rfl (lv_at hl 0 rfl) ?_
  refine lv_bipush (v := nI 120) hx hb dX7_init_120 (by decide) ?_
  refine z_newI hC hM zarr_int (by decide) (by decide) (by decide) dX7_init_122 (fun q_122 H hq_122 hM => ?_)
  obtain ⟨f_491, ef_491⟩ : ∃ z9, z9 = va_up f_475 q_122 (eI K 120 (fun _ => 0)) := ⟨_, rfl⟩
  rw [← ef_491] at hM
  have hN_494 : o ≠ q_122 := fun h => hq_122 (h ▸ hL_431)
  have hL_492 : o ∈ L ++ [q_7] ++ [q_15] ++ [q_23] ++ [q_31] ++ [q_39] ++ [q_47] ++ [q_55] ++ [q_63] ++ [q_71] ++ [q_80] ++ [q_89] ++ [q_98] ++ [q_106] ++ [q_114] ++ [q_122] := List.mem_append_left _ hL_431
  have hF_493 : f_491 o = eS 8 [.int (nI 0), .int (nI 0), .ref q_7, .ref q_15, .ref q_23, .ref q_31, .ref q_39, .ref q_47, .ref q_55, .ref q_63, .ref q_71, .ref q_80, .ref q_89, .ref q_98, .ref q_106, .ref q_114, .null, .double 0, .int (nI 0), .int (nI 0), .null, .null, .null, .null, .int (nI 0), .null, .null] := by rw [ef_491]; exact (va_up_ne _ _ hN_494).trans hF_476
  have hN_497 : q_7 ≠ q_122 := fun h => hq_122 (h ▸ hL_434)
  have hL_495 : q_7 ∈ L ++ [q_7] ++ [q_15] ++ [q_23] ++ [q_31] ++ [q_39] ++ [q_47] ++ [q_55] ++ [q_63] ++ [q_71] ++ [q_80] ++ [q_89] ++ [q_98] ++ [q_106] ++ [q_114] ++ [q_122] := List.mem_append_left _ hL_434
  have hF_496 : f_491 q_7 = eI K 6 (fun _ => 0) := by rw [ef_491]; exact (va_up_ne _ _ hN_497).trans hF_477
  have hN_500 : q_15 ≠ q_122 := fun h => hq_122 (h ▸ hL_437)
  have hL_498 : q_15 ∈ L ++ [q_7] ++ [q_15] ++ [q_23] ++ [q_31] ++ [q_39] ++ [q_47] ++ [q_55] ++ [q_63] ++ [q_71] ++ [q_80] ++ [q_89] ++ [q_98] ++ [q_106] ++ [q_114] ++ [q_122] := List.mem_append_left _ hL_437
  have hF_499 : f_491 q_15 = eI K 6 (fun _ => 0) := by rw [ef_491]; exact (va_up_ne _ _ hN_500).trans hF_478
  have hN_503 : q_23 ≠ q_122 := fun h => hq_122 (h ▸ hL_440)
  have hL_501 : q_23 ∈ L ++ [q_7] ++ [q_15] ++ [q_23] ++ [q_31] ++ [q_39] ++ [q_47] ++ [q_55] ++ [q_63] ++ [q_71] ++ [q_80] ++ [q_89] ++ [q_98] ++ [q_106] ++ [q_114] ++ [q_122] := List.mem_append_left _ hL_440
  have hF_502 : f_491 q_23 = eI K 24 (fun _ => 0) := by rw [ef_491]; exact (va_up_ne _ _ hN_503).trans hF_479
  have hN_506 : q_31 ≠ q_122 := fun h => hq_122 (h ▸ hL_443)
  have hL_504 : q_31 ∈ L ++ [q_7] ++ [q_15] ++ [q_23] ++ [q_31] ++ [q_39] ++ [q_47] ++ [q_55] ++ [q_63] ++ [q_71] ++ [q_80] ++ [q_89] ++ [q_98] ++ [q_106] ++ [q_114] ++ [q_122] := List.mem_append_left _ hL_443
  have hF_505 : f_491 q_31 = eI K 24 (fun _ => 0) := by rw [ef_491]; exact (va_up_ne _ _ hN_506).trans hF_480
  have hN_509 : q_39 ≠ q_122 := fun h => hq_122 (h ▸ hL_446)
  have hL_507 : q_39 ∈ L ++ [q_7] ++ [q_15] ++ [q_23] ++ [q_31] ++ [q_39] ++ [q_47] ++ [q_55] ++ [q_63] ++ [q_71] ++ [q_80] ++ [q_89] ++ [q_98] ++ [q_106] ++ [q_114] ++ [q_122] := List.mem_append_left _ hL_446
  have hF_508 : f_491 q_39 = eI K 24 (fun _ => 0) := by rw [ef_491]; exact (va_up_ne _ _ hN_509).trans hF_481
  have hN_512 : q_47 ≠ q_122 := fun h => hq_122 (h ▸ hL_449)
  have hL_510 : q_47 ∈ L ++ [q_7] ++ [q_15] ++ [q_23] ++ [q_31] ++ [q_39] ++ [q_47] ++ [q_55] ++ [q_63] ++ [q_71] ++ [q_80] ++ [q_89] ++ [q_98] ++ [q_106] ++ [q_114] ++ [q_122] := List.mem_append_left _ hL_449
  have hF_511 : f_491 q_47 = eI K 24 (fun _ => 0) := by rw [ef_491]; exact (va_up_ne _ _ hN_512).trans hF_482
  have hN_515 : q_55 ≠ q_122 := fun h => hq_122 (h ▸ hL_452)
  have hL_513 : q_55 ∈ L ++ [q_7] ++ [q_15] ++ [q_23] ++ [q_31] ++ [q_39] ++ [q_47] ++ [q_55] ++ [q_63] ++ [q_71] ++ [q_80] ++ [q_89] ++ [q_98] ++ [q_106] ++ [q_114] ++ [q_122] := List.mem_append_left _ hL_452
  have hF_514 : f_491 q_55 = eI K 6 (fun _ => 0) := by rw [ef_491]; exact (va_up_ne _ _ hN_515).trans hF_483
  have hN_518 : q_63 ≠ q_122 := fun h => hq_122 (h ▸ hL_455)
  have hL_516 : q_63 ∈ L ++ [q_7] ++ [q_15] ++ [q_23] ++ [q_31] ++ [q_39] ++ [q_47] ++ [q_55] ++ [q_63] ++ [q_71] ++ [q_80] ++ [q_89] ++ [q_98] ++ [q_106] ++ [q_114] ++ [q_122] := List.mem_append_left _ hL_455
  have hF_517 : f_491 q_63 = eI K 6 (fun _ => 0) := by rw [ef_491]; exact (va_up_ne _ _ hN_518).trans hF_484
  have hN_521 : q_71 ≠ q_122 := fun h => hq_122 (h ▸ hL_458)
  have hL_519 : q_71 ∈ L ++ [q_7] ++ [q_15] ++ [q_23] ++ [q_31] ++ [q_39] ++ [q_47] ++ [q_55] ++ [q_63] ++ [q_71] ++ [q_80] ++ [q_89] ++ [q_98] ++ [q_106] ++ [q_114] ++ [q_122] := List.mem_append_left _ hL_458
  have hF_520 : f_491 q_71 = eI K 6 (fun _ => 0) := by rw [ef_491]; exact (va_up_ne _ _ hN_521).trans hF_485
  have hN_524 : q_80 ≠ q_122 := fun h => hq_122 (h ▸ hL_461)
  have hL_522 : q_80 ∈ L ++ [q_7] ++ [q_15] ++ [q_23] ++ [q_31] ++ [q_39] ++ [q_47] ++ [q_55] ++ [q_63] ++ [q_71] ++ [q_80] ++ [q_89] ++ [q_98] ++ [q_106] ++ [q_114] ++ [q_122] := List.mem_append_left _ hL_461
  have hF_523 : f_491 q_80 = eZ K 1000 (fun _ => 0) := by rw [ef_491]; exact (va_up_ne _ _ hN_524).trans hF_486
  have hN_527 : q_89 ≠ q_122 := fun h => hq_122 (h ▸ hL_464)
  have hL_525 : q_89 ∈ L ++ [q_7] ++ [q_15] ++ [q_23] ++ [q_31] ++ [q_39] ++ [q_47] ++ [q_55] ++ [q_63] ++ [q_71] ++ [q_80] ++ [q_89] ++ [q_98] ++ [q_106] ++ [q_114] ++ [q_122] := List.mem_append_left _ hL_464
  have hF_526 : f_491 q_89 = eZ K 6000 (fun _ => 0) := by rw [ef_491]; exact (va_up_ne _ _ hN_527).trans hF_487
  have hN_530 : q_98 ≠ q_122 := fun h => hq_122 (h ▸ hL_467)
  have hL_528 : q_98 ∈ L ++ [q_7] ++ [q_15] ++ [q_23] ++ [q_31] ++ [q_39] ++ [q_47] ++ [q_55] ++ [q_63] ++ [q_71] ++ [q_80] ++ [q_89] ++ [q_98] ++ [q_106] ++ [q_114] ++ [q_122] := List.mem_append_left _ hL_467
  have hF_529 : f_491 q_98 = eD K 6000 (fun _ => 0) := by rw [ef_491]; exact (va_up_ne _ _ hN_530).trans hF_488
  have hN_533 : q_106 ≠ q_122 := fun h => hq_122 (h ▸ hL_470)
  have hL_531 : q_106 ∈ L ++ [q_7] ++ [q_15] ++ [q_23] ++ [q_31] ++ [q_39] ++ [q_47] ++ [q_55] ++ [q_63] ++ [q_71] ++ [q_80] ++ [q_89] ++ [q_98] ++ [q_106] ++ [q_114] ++ [q_122] := List.mem_append_left _ hL_470
  have hF_532 : f_491 q_106 = eI K 6 (fun _ => 0) := by rw [ef_491]; exact (va_up_ne _ _ hN_533).trans hF_489
  have hN_536 : q_114 ≠ q_122 := fun h => hq_122 (h ▸ hL_473)
  have hL_534 : q_114 ∈ L ++ [q_7] ++ [q_15] ++ [q_23] ++ [q_31] ++ [q_39] ++ [q_47] ++ [q_55] ++ [q_63] ++ [q_71] ++ [q_80] ++ [q_89] ++ [q_98] ++ [q_106] ++ [q_114] ++ [q_122] := List.mem_append_left _ hL_473
  have hF_535 : f_491 q_114 = eD K 120 (fun _ => 0) := by rw [ef_491]; exact (va_up_ne _ _ hN_536).trans hF_490
  have hL_537 : q_122 ∈ L ++ [q_7] ++ [q_15] ++ [q_23] ++ [q_31] ++ [q_39] ++ [q_47] ++ [q_55] ++ [q_63] ++ [q_71] ++ [q_80] ++ [q_89] ++ [q_98] ++ [q_106] ++ [q_114] ++ [q_122] := List.mem_append_right _ List.mem_cons_self
  have hF_538 : f_491 q_122 = eI K 120 (fun _ => 0) := by rw [ef_491]; exact va_up_self _ _ _
  refine z_putF (fs' := [.int (nI 0), .int (nI 0), .ref q_7, .ref q_15, .ref q_23, .ref q_31, .ref q_39, .ref q_47, .ref q_55, .ref q_63, .ref q_71, .ref q_80, .ref q_89, .ref q_98, .ref q_106, .ref q_114, .ref q_122, .double 0, .int (nI 0), .int (nI 0), .null, .null, .null, .null, .int (nI 0), .null, .null]) hC hM hnm hL_492 hF_493 zcl_X7 (by decide) zl_X7_54 rfl rfl rfl (by rfl) (Nat.le_of_ble_eq_true rfl) rfl dX7_init_124 (fun H locs hM => ?_)
  obtain ⟨f_539, ef_539⟩ : ∃ z9, z9 = va_up f_491 o (eS 8 [.int (nI 0), .int (nI 0), .ref q_7, .ref q_15, .ref q_23, .ref q_31, .ref q_39, .ref q_47, .ref q_55, .ref q_63, .ref q_71, .ref q_80, .ref q_89, .ref q_98, .ref q_106, .ref q_114, .ref q_122, .double 0, .int (nI 0), .int (nI 0), .null, .null, .null, .null, .int (nI 0), .null, .null]) := ⟨_, rfl⟩
  rw [← ef_539] at hM
  have hF_540 : f_539 o = eS 8 [.int (nI 0), .int (nI 0), .ref q_7, .ref q_15, .ref q_23, .ref q_31, .ref q_39, .ref q_47, .ref q_55, .ref q_63, .ref q_71, .ref q_80, .ref q_89, .ref q_98, .ref q_106, .ref q_114, .ref q_122, .double 0, .int (nI 0), .int (nI 0), .null, .null, .null, .null, .int (nI 0), .null, .null] := by rw [ef_539]; exact va_up_self _ _ _
  have hF_541 : f_539 q_7 = eI K 6 (fun _ => 0) := by rw [ef_539]; exact (va_up_ne _ _ (Ne.symm hN_4)).trans hF_496
  have hF_542 : f_539 q_15 = eI K 6 (fun _ => 0) := by rw [ef_539]; exact (va_up_ne _ _ (Ne.symm hN_13)).trans hF_499
  have hF_543 : f_539 q_23 = eI K 24 (fun _ => 0) := by rw [ef_539]; exact (va_up_ne _ _ (Ne.symm hN_26)).trans hF_502
  have hF_544 : f_539 q_31 = eI K 24 (fun _ => 0) := by rw [ef_539]; exact (va_up_ne _ _ (Ne.symm hN_43)).trans hF_505
  have hF_545 : f_539 q_39 = eI K 24 (fun _ => 0) := by rw [ef_539]; exact (va_up_ne _ _ (Ne.symm hN_64)).trans hF_508
  have hF_546 : f_539 q_47 = eI K 24 (fun _ => 0) := by rw [ef_539]; exact (va_up_ne _ _ (Ne.symm hN_89)).trans hF_511
  have hF_547 : f_539 q_55 = eI K 6 (fun _ => 0) := by rw [ef_539]; exact (va_up_ne _ _ (Ne.symm hN_118)).trans hF_514
  have hF_548 : f_539 q_63 = eI K 6 (fun _ => 0) := by rw [ef_539]; exact (va_up_ne _ _ (Ne.symm hN_151)).trans hF_517
  have hF_549 : f_539 q_71 = eI K 6 (fun _ => 0) := by rw [ef_539]; exact (va_up_ne _ _ (Ne.symm hN_188)).trans hF_520
  have hF_550 : f_539 q_80 = eZ K 1000 (fun _ => 0) := by rw [ef_539]; exact (va_up_ne _ _ (Ne.symm hN_229)).trans hF_523
  have hF_551 : f_539 q_89 = eZ K 6000 (fun _ => 0) := by rw [ef_539]; exact (va_up_ne _ _ (Ne.symm hN_274)).trans hF_526
  have hF_552 : f_539 q_98 = eD K 6000 (fun _ => 0) := by rw [ef_539]; exact (va_up_ne _ _ (Ne.symm hN_323)).trans hF_529
  have hF_553 : f_539 q_106 = eI K 6 (fun _ => 0) := by rw [ef_539]; exact (va_up_ne _ _ (Ne.symm hN_376)).trans hF_532
  have hF_554 : f_539 q_114 = eD K 120 (fun _ => 0) := by rw [ef_539]; exact (va_up_ne _ _ (Ne.symm hN_433)).trans hF_535
  have hF_555 : f_539 q_122 = eI K 120 (fun _ => 0) := by rw [ef_539]; exact (va_up_ne _ _ (Ne.symm hN_494)).trans hF_538
  refine lv_aload_n hx hb dX7_init_127 rfl (lv_at hl 0 rfl) ?_
  refine lv_bipush (v := nI 12) hx hb dX7_init_128 (by decide) ?_
  refine z_newI hC hM zarr_int (by decide) (by decide) (by decide) dX7_init_130 (fun q_130 H hq_130 hM => ?_)
  obtain ⟨f_556, ef_556⟩ : ∃ z9, z9 = va_up f_539 q_130 (eI K 12 (fun _ => 0)) := ⟨_, rfl⟩
  rw [← ef_556] at hM
  have hN_559 : o ≠ q_130 := fun h => hq_130 (h ▸ hL_492)
  have hL_557 : o ∈ L ++ [q_7] ++ [q_15] ++ [q_23] ++ [q_31] ++ [q_39] ++ [q_47] ++ [q_55] ++ [q_63] ++ [q_71] ++ [q_80] ++ [q_89] ++ [q_98] ++ [q_106] ++ [q_114] ++ [q_122] ++ [q_130] := List.mem_append_left _ hL_492
  have hF_558 : f_556 o = eS 8 [.int (nI 0), .int (nI 0), .ref q_7, .ref q_15, .ref q_23, .ref q_31, .ref q_39, .ref q_47, .ref q_55, .ref q_63, .ref q_71, .ref q_80, .ref q_89, .ref q_98, .ref q_106, .ref q_114, .ref q_122, .double 0, .int (nI 0), .int (nI 0), .null, .null, .null, .null, .int (nI 0), .null, .null] := by rw [ef_556]; exact (va_up_ne _ _ hN_559).trans hF_540
  have hN_562 : q_7 ≠ q_130 := fun h => hq_130 (h ▸ hL_495)
  have hL_560 : q_7 ∈ L ++ [q_7] ++ [q_15] ++ [q_23] ++ [q_31] ++ [q_39] ++ [q_47] ++ [q_55] ++ [q_63] ++ [q_71] ++ [q_80] ++ [q_89] ++ [q_98] ++ [q_106] ++ [q_114] ++ [q_122] ++ [q_130] := List.mem_append_left _ hL_495
  have hF_561 : f_556 q_7 = eI K 6 (fun _ => 0) := by rw [ef_556]; exact (va_up_ne _ _ hN_562).trans hF_541
  have hN_565 : q_15 ≠ q_130 := fun h => hq_130 (h ▸ hL_498)
  have hL_563 : q_15 ∈ L ++ [q_7] ++ [q_15] ++ [q_23] ++ [q_31] ++ [q_39] ++ [q_47] ++ [q_55] ++ [q_63] ++ [q_71] ++ [q_80] ++ [q_89] ++ [q_98] ++ [q_106] ++ [q_114] ++ [q_122] ++ [q_130] := List.mem_append_left _ hL_498
  have hF_564 : f_556 q_15 = eI K 6 (fun _ => 0) := by rw [ef_556]; exact (va_up_ne _ _ hN_565).trans hF_542
  have hN_568 : q_23 ≠ q_130 := fun h => hq_130 (h ▸ hL_501)
  have hL_566 : q_23 ∈ L ++ [q_7] ++ [q_15] ++ [q_23] ++ [q_31] ++ [q_39] ++ [q_47] ++ [q_55] ++ [q_63] ++ [q_71] ++ [q_80] ++ [q_89] ++ [q_98] ++ [q_106] ++ [q_114] ++ [q_122] ++ [q_130] := List.mem_append_left _ hL_501
  have hF_567 : f_556 q_23 = eI K 24 (fun _ => 0) := by rw [ef_556]; exact (va_up_ne _ _ hN_568).trans hF_543
  have hN_571 : q_31 ≠ q_130 := fun h => hq_130 (h ▸ hL_504)
  have hL_569 : q_31 ∈ L ++ [q_7] ++ [q_15] ++ [q_23] ++ [q_31] ++ [q_39] ++ [q_47] ++ [q_55] ++ [q_63] ++ [q_71] ++ [q_80] ++ [q_89] ++ [q_98] ++ [q_106] ++ [q_114] ++ [q_122] ++ [q_130] := List.mem_append_left _ hL_504
  have hF_570 : f_556 q_31 = eI K 24 (fun _ => 0) := by rw [ef_556]; exact (va_up_ne _ _ hN_571).trans hF_544
  have hN_574 : q_39 ≠ q_130 := fun h => hq_130 (h ▸ hL_507)
  have hL_572 : q_39 ∈ L ++ [q_7] ++ [q_15] ++ [q_23] ++ [q_31] ++ [q_39] ++ [q_47] ++ [q_55] ++ [q_63] ++ [q_71] ++ [q_80] ++ [q_89] ++ [q_98] ++ [q_106] ++ [q_114] ++ [q_122] ++ [q_130] := List.mem_append_left _ hL_507
  have hF_573 : f_556 q_39 = eI K 24 (fun _ => 0) := by rw [ef_556]; exact (va_up_ne _ _ hN_574).trans hF_545
  have hN_577 : q_47 ≠ q_130 := fun h => hq_130 (h ▸ hL_510)
  have hL_575 : q_47 ∈ L ++ [q_7] ++ [q_15] ++ [q_23] ++ [q_31] ++ [q_39] ++ [q_47] ++ [q_55] ++ [q_63] ++ [q_71] ++ [q_80] ++ [q_89] ++ [q_98] ++ [q_106] ++ [q_114] ++ [q_122] ++ [q_130] := List.mem_append_left _ hL_510
  have hF_576 : f_556 q_47 = eI K 24 (fun _ => 0) := by rw [ef_556]; exact (va_up_ne _ _ hN_577).trans hF_546
  have hN_580 : q_55 ≠ q_130 := fun h => hq_130 (h ▸ hL_513)
  have hL_578 : q_55 ∈ L ++ [q_7] ++ [q_15] ++ [q_23] ++ [q_31] ++ [q_39] ++ [q_47] ++ [q_55] ++ [q_63] ++ [q_71] ++ [q_80] ++ [q_89] ++ [q_98] ++ [q_106] ++ [q_114] ++ [q_122] ++ [q_130] := List.mem_append_left _ hL_513
  have hF_579 : f_556 q_55 = eI K 6 (fun _ => 0) := by rw [ef_556]; exact (va_up_ne _ _ hN_580).trans hF_547
  have hN_583 : q_63 ≠ q_130 := fun h => hq_130 (h ▸ hL_516)
  have hL_581 : q_63 ∈ L ++ [q_7] ++ [q_15] ++ [q_23] ++ [q_31] ++ [q_39] ++ [q_47] ++ [q_55] ++ [q_63] ++ [q_71] ++ [q_80] ++ [q_89] ++ [q_98] ++ [q_106] ++ [q_114] ++ [q_122] ++ [q_130] := List.mem_append_left _ hL_516
  have hF_582 : f_556 q_63 = eI K 6 (fun _ => 0) := by rw [ef_556]; exact (va_up_ne _ _ hN_583).trans hF_548
  have hN_586 : q_71 ≠ q_130 := fun h => hq_130 (h ▸ hL_519)
  have hL_584 : q_71 ∈ L ++ [q_7] ++ [q_15] ++ [q_23] ++ [q_31] ++ [q_39] ++ [q_47] ++ [q_55] ++ [q_63] ++ [q_71] ++ [q_80] ++ [q_89] ++ [q_98] ++ [q_106] ++ [q_114] ++ [q_122] ++ [q_130] := List.mem_append_left _ hL_519
  have hF_585 : f_556 q_71 = eI K 6 (fun _ => 0) := by rw [ef_556]; exact (va_up_ne _ _ hN_586).trans hF_549
  have hN_589 : q_80 ≠ q_130 := fun h => hq_130 (h ▸ hL_522)
  have hL_587 : q_80 ∈ L ++ [q_7] ++ [q_15] ++ [q_23] ++ [q_31] ++ [q_39] ++ [q_47] ++ [q_55] ++ [q_63] ++ [q_71] ++ [q_80] ++ [q_89] ++ [q_98] ++ [q_106] ++ [q_114] ++ [q_122] ++ [q_130] := List.mem_append_left _ hL_522
  have hF_588 : f_556 q_80 = eZ K 1000 (fun _ => 0) := by rw [ef_556]; exact (va_up_ne _ _ hN_589).trans hF_550
  have hN_592 : q_89 ≠ q_130 := fun h => hq_130 (h ▸ hL_525)
  have hL_590 : q_89 ∈ L ++ [q_7] ++ [q_15] ++ [q_23] ++ [q_31] ++ [q_39] ++ [q_47] ++ [q_55] ++ [q_63] ++ [q_71] ++ [q_80] ++ [q_89] ++ [q_98] ++ [q_106] ++ [q_114] ++ [q_122] ++ [q_130] := List.mem_append_left _ hL_525
  have hF_591 : f_556 q_89 = eZ K 6000 (fun _ => 0) := by rw [ef_556]; exact (va_up_ne _ _ hN_592).trans hF_551
  have hN_595 : q_98 ≠ q_130 := fun h => hq_130 (h ▸ hL_528)
  have hL_593 : q_98 ∈ L ++ [q_7] ++ [q_15] ++ [q_23] ++ [q_31] ++ [q_39] ++ [q_47] ++ [q_55] ++ [q_63] ++ [q_71] ++ [q_80] ++ [q_89] ++ [q_98] ++ [q_106] ++ [q_114] ++ [q_122] ++ [q_130] := List.mem_append_left _ hL_528
  have hF_594 : f_556 q_98 = eD K 6000 (fun _ => 0) := by rw [ef_556]; exact (va_up_ne _ _ hN_595).trans hF_552
  have hN_598 : q_106 ≠ q_130 := fun h => hq_130 (h ▸ hL_531)
  have hL_596 : q_106 ∈ L ++ [q_7] ++ [q_15] ++ [q_23] ++ [q_31] ++ [q_39] ++ [q_47] ++ [q_55] ++ [q_63] ++ [q_71] ++ [q_80] ++ [q_89] ++ [q_98] ++ [q_106] ++ [q_114] ++ [q_122] ++ [q_130] := List.mem_append_left _ hL_531
  have hF_597 : f_556 q_106 = eI K 6 (fun _ => 0) := by rw [ef_556]; exact (va_up_ne _ _ hN_598).trans hF_553
  have hN_601 : q_114 ≠ q_130 := fun h => hq_130 (h ▸ hL_534)
  have hL_599 : q_114 ∈ L ++ [q_7] ++ [q_15] ++ [q_23] ++ [q_31] ++ [q_39] ++ [q_47] ++ [q_55] ++ [q_63] ++ [q_71] ++ [q_80] ++ [q_89] ++ [q_98] ++ [q_106] ++ [q_114] ++ [q_122] ++ [q_130] := List.mem_append_left _ hL_534
  have hF_600 : f_556 q_114 = eD K 120 (fun _ => 0) := by rw [ef_556]; exact (va_up_ne _ _ hN_601).trans hF_554
  have hN_604 : q_122 ≠ q_130 := fun h => hq_130 (h ▸ hL_537)
  have hL_602 : q_122 ∈ L ++ [q_7] ++ [q_15] ++ [q_23] ++ [q_31] ++ [q_39] ++ [q_47] ++ [q_55] ++ [q_63] ++ [q_71] ++ [q_80] ++ [q_89] ++ [q_98] ++ [q_106] ++ [q_114] ++ [q_122] ++ [q_130] := List.mem_append_left _ hL_537
  have hF_603 : f_556 q_122 = eI K 120 (fun _ => 0) := by rw [ef_556]; exact (va_up_ne _ _ hN_604).trans hF_555
  have hL_605 : q_130 ∈ L ++ [q_7] ++ [q_15] ++ [q_23] ++ [q_31] ++ [q_39] ++ [q_47] ++ [q_55] ++ [q_63] ++ [q_71] ++ [q_80] ++ [q_89] ++ [q_98] ++ [q_106] ++ [q_114] ++ [q_122] ++ [q_130] := List.mem_append_right _ List.mem_cons_self
  have hF_606 : f_556 q_130 = eI K 12 (fun _ => 0) := by rw [ef_556]; exact va_up_self _ _ _
  refine z_putF (fs' := [.int (nI 0), .int (nI 0), .ref q_7, .ref q_15, .ref q_23, .ref q_31, .ref q_39, .ref q_47, .ref q_55, .ref q_63, .ref q_71, .ref q_80, .ref q_89, .ref q_98, .ref q_106, .ref q_114, .ref q_122, .double 0, .int (nI 0), .int (nI 0), .ref q_130, .null, .null, .null, .int (nI 0), .null, .null]) hC hM hnm hL_557 hF_558 zcl_X7 (by decide) zl_X7_57 rfl rfl rfl (by rfl) (Nat.le_of_ble_eq_true rfl) rfl dX7_init_132 (fun H locs hM => ?_)
  obtain ⟨f_607, ef_607⟩ : ∃ z9, z9 = va_up f_556 o (eS 8 [.int (nI 0), .int (nI 0), .ref q_7, .ref q_15, .ref q_23, .ref q_31, .ref q_39, .ref q_47, .ref q_55, .ref q_63, .ref q_71, .ref q_80, .ref q_89, .ref q_98, .ref q_106, .ref q_114, .ref q_122, .double 0, .int (nI 0), .int (nI 0), .ref q_130, .null, .null, .null, .int (nI 0), .null, .null]) := ⟨_, rfl⟩
  rw [← ef_607] at hM
  have hF_608 : f_607 o = eS 8 [.int (nI 0), .int (nI 0), .ref q_7, .ref q_15, .ref q_23, .ref q_31, .ref q_39, .ref q_47, .ref q_55, .ref q_63, .ref q_71, .ref q_80, .ref q_89, .ref q_98, .ref q_106, .ref q_114, .ref q_122, .double 0, .int (nI 0), .int (nI 0), .ref q_130, .null, .null, .null, .int (nI 0), .null, .null] := by rw [ef_607]; exact va_up_self _ _ _
  have hF_609 : f_607 q_7 = eI K 6 (fun _ => 0) := by rw [ef_607]; exact (va_up_ne _ _ (Ne.symm hN_4)).trans hF_561
  have hF_610 : f_607 q_15 = eI K 6 (fun _ => 0) := by rw [ef_607]; exact (va_up_ne _ _ (Ne.symm hN_13)).trans hF_564
  have hF_611 : f_607 q_23 = eI K 24 (fun _ => 0) := by rw [ef_607]; exact (va_up_ne _ _ (Ne.symm hN_26)).trans hF_567
  have hF_612 : f_607 q_31 = eI K 24 (fun _ => 0) := by rw [ef_607]; exact (va_up_ne _ _ (Ne.symm hN_43)).trans hF_570
  have hF_613 : f_607 q_39 = eI K 24 (fun _ => 0) := by rw [ef_607]; exact (va_up_ne _ _ (Ne.symm hN_64)).trans hF_573
  have hF_614 : f_607 q_47 = eI K 24 (fun _ => 0) := by rw [ef_607]; exact (va_up_ne _ _ (Ne.symm hN_89)).trans hF_576
  have hF_615 : f_607 q_55 = eI K 6 (fun _ => 0) := by rw [ef_607]; exact (va_up_ne _ _ (Ne.symm hN_118)).trans hF_579
  have hF_616 : f_607 q_63 = eI K 6 (fun _ => 0) := by rw [ef_607]; exact (va_up_ne _ _ (Ne.symm hN_151)).trans hF_582
  have hF_617 : f_607 q_71 = eI K 6 (fun _ => 0) := by rw [ef_607]; exact (va_up_ne _ _ (Ne.symm hN_188)).trans hF_585
  have hF_618 : f_607 q_80 = eZ K 1000 (fun _ => 0) := by rw [ef_607]; exact (va_up_ne _ _ (Ne.symm hN_229)).trans hF_588
  have hF_619 : f_607 q_89 = eZ K 6000 (fun _ => 0) := by rw [ef_607]; exact (va_up_ne _ _ (Ne.symm hN_274)).trans hF_591
  have hF_620 : f_607 q_98 = eD K 6000 (fun _ => 0) := by rw [ef_607]; exact (va_up_ne _ _ (Ne.symm hN_323)).trans hF_594
  have hF_621 : f_607 q_106 = eI K 6 (fun _ => 0) := by rw [ef_607]; exact (va_up_ne _ _ (Ne.symm hN_376)).trans hF_597
  have hF_622 : f_607 q_114 = eD K 120 (fun _ => 0) := by rw [ef_607]; exact (va_up_ne _ _ (Ne.symm hN_433)).trans hF_600
  have hF_623 : f_607 q_122 = eI K 120 (fun _ => 0) := by rw [ef_607]; exact (va_up_ne _ _ (Ne.symm hN_494)).trans hF_603
  have hF_624 : f_607 q_130 = eI K 12 (fun _ => 0) := by rw [ef_607]; exact (va_up_ne _ _ (Ne.symm hN_559)).trans hF_606
  refine lv_aload_n hx hb dX7_init_135 rfl (lv_at hl 0 rfl) ?_
  refine lv_bipush (v := nI 12) hx hb dX7_init_136 (by decide) ?_
  refine z_newI hC hM zarr_int (by decide) (by decide) (by decide) dX7_init_138 (fun q_138 H hq_138 hM => ?_)
  obtain ⟨f_625, ef_625⟩ : ∃ z9, z9 = va_up f_607 q_138 (eI K 12 (fun _ => 0)) := ⟨_, rfl⟩
  rw [← ef_625] at hM
  have hN_628 : o ≠ q_138 := fun h => hq_138 (h ▸ hL_557)
  have hL_626 : o ∈ L ++ [q_7] ++ [q_15] ++ [q_23] ++ [q_31] ++ [q_39] ++ [q_47] ++ [q_55] ++ [q_63] ++ [q_71] ++ [q_80] ++ [q_89] ++ [q_98] ++ [q_106] ++ [q_114] ++ [q_122] ++ [q_130] ++ [q_138] := List.mem_append_left _ hL_557
  have hF_627 : f_625 o = eS 8 [.int (nI 0), .int (nI 0), .ref q_7, .ref q_15, .ref q_23, .ref q_31, .ref q_39, .ref q_47, .ref q_55, .ref q_63, .ref q_71, .ref q_80, .ref q_89, .ref q_98, .ref q_106, .ref q_114, .ref q_122, .double 0, .int (nI 0), .int (nI 0), .ref q_130, .null, .null, .null, .int (nI 0), .null, .null] := by rw [ef_625]; exact (va_up_ne _ _ hN_628).trans hF_608
  have hN_631 : q_7 ≠ q_138 := fun h => hq_138 (h ▸ hL_560)
  have hL_629 : q_7 ∈ L ++ [q_7] ++ [q_15] ++ [q_23] ++ [q_31] ++ [q_39] ++ [q_47] ++ [q_55] ++ [q_63] ++ [q_71] ++ [q_80] ++ [q_89] ++ [q_98] ++ [q_106] ++ [q_114] ++ [q_122] ++ [q_130] ++ [q_138] := List.mem_append_left _ hL_560
  have hF_630 : f_625 q_7 = eI K 6 (fun _ => 0) := by rw [ef_625]; exact (va_up_ne _ _ hN_631).trans hF_609
  have hN_634 : q_15 ≠ q_138 := fun h => hq_138 (h ▸ hL_563)
  have hL_632 : q_15 ∈ L ++ [q_7] ++ [q_15] ++ [q_23] ++ [q_31] ++ [q_39] ++ [q_47] ++ [q_55] ++ [q_63] ++ [q_71] ++ [q_80] ++ [q_89] ++ [q_98] ++ [q_106] ++ [q_114] ++ [q_122] ++ [q_130] ++ [q_138] := List.mem_append_left _ hL_563
  have hF_633 : f_625 q_15 = eI K 6 (fun _ => 0) := by rw [ef_625]; exact (va_up_ne _ _ hN_634).trans hF_610
  have hN_637 : q_23 ≠ q_138 := fun h => hq_138 (h ▸ hL_566)
  have hL_635 : q_23 ∈ L ++ [q_7] ++ [q_15] ++ [q_23] ++ [q_31] ++ [q_39] ++ [q_47] ++ [q_55] ++ [q_63] ++ [q_71] ++ [q_80] ++ [q_89] ++ [q_98] ++ [q_106] ++ [q_114] ++ [q_122] ++ [q_130] ++ [q_138] := List.mem_append_left _ hL_566
  have hF_636 : f_625 q_23 = eI K 24 (fun _ => 0) := by rw [ef_625]; exact (va_up_ne _ _ hN_637).trans hF_611
  have hN_640 : q_31 ≠ q_138 := fun h => hq_138 (h ▸ hL_569)
  have hL_638 : q_31 ∈ L ++ [q_7] ++ [q_15] ++ [q_23] ++ [q_31] ++ [q_39] ++ [q_47] ++ [q_55] ++ [q_63] ++ [q_71] ++ [q_80] ++ [q_89] ++ [q_98] ++ [q_106] ++ [q_114] ++ [q_122] ++ [q_130] ++ [q_138] := List.mem_append_left _ hL_569
  have hF_639 : f_625 q_31 = eI K 24 (fun _ => 0) := by rw [ef_625]; exact (va_up_ne _ _ hN_640).trans hF_612
  have hN_643 : q_39 ≠ q_138 := fun h => hq_138 (h ▸ hL_572)
  have hL_641 : q_39 ∈ L ++ [q_7] ++ [q_15] ++ [q_23] ++ [q_31] ++ [q_39] ++ [q_47] ++ [q_55] ++ [q_63] ++ [q_71] ++ [q_80] ++ [q_89] ++ [q_98] ++ [q_106] ++ [q_114] ++ [q_122] ++ [q_130] ++ [q_138] := List.mem_append_left _ hL_572
  have hF_642 : f_625 q_39 = eI K 24 (fun _ => 0) := by rw [ef_625]; exact (va_up_ne _ _ hN_643).trans hF_613
  have hN_646 : q_47 ≠ q_138 := fun h => hq_138 (h ▸ hL_575)
  have hL_644 : q_47 ∈ L ++ [q_7] ++ [q_15] ++ [q_23] ++ [q_31] ++ [q_39] ++ [q_47] ++ [q_55] ++ [q_63] ++ [q_71] ++ [q_80] ++ [q_89] ++ [q_98] ++ [q_106] ++ [q_114] ++ [q_122] ++ [q_130] ++ [q_138] := List.mem_append_left _ hL_575
  have hF_645 : f_625 q_47 = eI K 24 (fun _ => 0) := by rw [ef_625]; exact (va_up_ne _ _ hN_646).trans hF_614
  have hN_649 : q_55 ≠ q_138 := fun h => hq_138 (h ▸ hL_578)
  have hL_647 : q_55 ∈ L ++ [q_7] ++ [q_15] ++ [q_23] ++ [q_31] ++ [q_39] ++ [q_47] ++ [q_55] ++ [q_63] ++ [q_71] ++ [q_80] ++ [q_89] ++ [q_98] ++ [q_106] ++ [q_114] ++ [q_122] ++ [q_130] ++ [q_138] := List.mem_append_left _ hL_578
  have hF_648 : f_625 q_55 = eI K 6 (fun _ => 0) := by rw [ef_625]; exact (va_up_ne _ _ hN_649).trans hF_615
  have hN_652 : q_63 ≠ q_138 := fun h => hq_138 (h ▸ hL_581)
  have hL_650 : q_63 ∈ L ++ [q_7] ++ [q_15] ++ [q_23] ++ [q_31] ++ [q_39] ++ [q_47] ++ [q_55] ++ [q_63] ++ [q_71] ++ [q_80] ++ [q_89] ++ [q_98] ++ [q_106] ++ [q_114] ++ [q_122] ++ [q_130] ++ [q_138] := List.mem_append_left _ hL_581
  have hF_651 : f_625 q_63 = eI K 6 (fun _ => 0) := by rw [ef_625]; exact (va_up_ne _ _ hN_652).trans hF_616
  have hN_655 : q_71 ≠ q_138 := fun h => hq_138 (h ▸ hL_584)
  have hL_653 : q_71 ∈ L ++ [q_7] ++ [q_15] ++ [q_23] ++ [q_31] ++ [q_39] ++ [q_47] ++ [q_55] ++ [q_63] ++ [q_71] ++ [q_80] ++ [q_89] ++ [q_98] ++ [q_106] ++ [q_114] ++ [q_122] ++ [q_130] ++ [q_138] := List.mem_append_left _ hL_584
  have hF_654 : f_625 q_71 = eI K 6 (fun _ => 0) := by rw [ef_625]; exact (va_up_ne _ _ hN_655).trans hF_617
  have hN_658 : q_80 ≠ q_138 := fun h => hq_138 (h ▸ hL_587)
  have hL_656 : q_80 ∈ L ++ [q_7] ++ [q_15] ++ [q_23] ++ [q_31] ++ [q_39] ++ [q_47] ++ [q_55] ++ [q_63] ++ [q_71] ++ [q_80] ++ [q_89] ++ [q_98] ++ [q_106] ++ [q_114] ++ [q_122] ++ [q_130] ++ [q_138] := List.mem_append_left _ hL_587
  have hF_657 : f_625 q_80 = eZ K 1000 (fun _ => 0) := by rw [ef_625]; exact (va_up_ne _ _ hN_658).trans hF_618
  have hN_661 : q_89 ≠ q_138 := fun h => hq_138 (h ▸ hL_590)
  have hL_659 : q_89 ∈ L ++ [q_7] ++ [q_15] ++ [q_23] ++ [q_31] ++ [q_39] ++ [q_47] ++ [q_55] ++ [q_63] ++ [q_71] ++ [q_80] ++ [q_89] ++ [q_98] ++ [q_106] ++ [q_114] ++ [q_122] ++ [q_130] ++ [q_138] := List.mem_append_left _ hL_590
  have hF_660 : f_625 q_89 = eZ K 6000 (fun _ => 0) := by rw [ef_625]; exact (va_up_ne _ _ hN_661).trans hF_619
  have hN_664 : q_98 ≠ q_138 := fun h => hq_138 (h ▸ hL_593)
  have hL_662 : q_98 ∈ L ++ [q_7] ++ [q_15] ++ [q_23] ++ [q_31] ++ [q_39] ++ [q_47] ++ [q_55] ++ [q_63] ++ [q_71] ++ [q_80] ++ [q_89] ++ [q_98] ++ [q_106] ++ [q_114] ++ [q_122] ++ [q_130] ++ [q_138] := List.mem_append_left _ hL_593
  have hF_663 : f_625 q_98 = eD K 6000 (fun _ => 0) := by rw [ef_625]; exact (va_up_ne _ _ hN_664).trans hF_620
  have hN_667 : q_106 ≠ q_138 := fun h => hq_138 (h ▸ hL_596)
  have hL_665 : q_106 ∈ L ++ [q_7] ++ [q_15] ++ [q_23] ++ [q_31] ++ [q_39] ++ [q_47] ++ [q_55] ++ [q_63] ++ [q_71] ++ [q_80] ++ [q_89] ++ [q_98] ++ [q_106] ++ [q_114] ++ [q_122] ++ [q_130] ++ [q_138] := List.mem_append_left _ hL_596
  have hF_666 : f_625 q_106 = eI K 6 (fun _ => 0) := by rw [ef_625]; exact (va_up_ne _ _ hN_667).trans hF_621
  have hN_670 : q_114 ≠ q_138 := fun h => hq_138 (h ▸ hL_599)
  have hL_668 : q_114 ∈ L ++ [q_7] ++ [q_15] ++ [q_23] ++ [q_31] ++ [q_39] ++ [q_47] ++ [q_55] ++ [q_63] ++ [q_71] ++ [q_80] ++ [q_89] ++ [q_98] ++ [q_106] ++ [q_114] ++ [q_122] ++ [q_130] ++ [q_138] := List.mem_append_left _ hL_599
  have hF_669 : f_625 q_114 = eD K 120 (fun _ => 0) := by rw [ef_625]; exact (va_up_ne _ _ hN_670).trans hF_622
  have hN_673 : q_122 ≠ q_138 := fun h => hq_138 (h ▸ hL_602)
  have hL_671 : q_122 ∈ L ++ [q_7] ++ [q_15] ++ [q_23] ++ [q_31] ++ [q_39] ++ [q_47] ++ [q_55] ++ [q_63] ++ [q_71] ++ [q_80] ++ [q_89] ++ [q_98] ++ [q_106] ++ [q_114] ++ [q_122] ++ [q_130] ++ [q_138] := List.mem_append_left _ hL_602
  have hF_672 : f_625 q_122 = eI K 120 (fun _ => 0) := by rw [ef_625]; exact (va_up_ne _ _ hN_673).trans hF_623
  have hN_676 : q_130 ≠ q_138 := fun h => hq_138 (h ▸ hL_605)
  have hL_674 : q_130 ∈ L ++ [q_7] ++ [q_15] ++ [q_23] ++ [q_31] ++ [q_39] ++ [q_47] ++ [q_55] ++ [q_63] ++ [q_71] ++ [q_80] ++ [q_89] ++ [q_98] ++ [q_106] ++ [q_114] ++ [q_122] ++ [q_130] ++ [q_138] := List.mem_append_left _ hL_605
  have hF_675 : f_625 q_130 = eI K 12 (fun _ => 0) := by rw [ef_625]; exact (va_up_ne _ _ hN_676).trans hF_624
  have hL_677 : q_138 ∈ L ++ [q_7] ++ [q_15] ++ [q_23] ++ [q_31] ++ [q_39] ++ [q_47] ++ [q_55] ++ [q_63] ++ [q_71] ++ [q_80] ++ [q_89] ++ [q_98] ++ [q_106] ++ [q_114] ++ [q_122] ++ [q_130] ++ [q_138] := List.mem_append_right _ List.mem_cons_self
  have hF_678 : f_625 q_138 = eI K 12 (fun _ => 0) := by rw [ef_625]; exact va_up_self _ _ _
  refine z_putF (fs' := [.int (nI 0), .int (nI 0), .ref q_7, .ref q_15, .ref q_23, .ref q_31, .ref q_39, .ref q_47, .ref q_55, .ref q_63, .ref q_71, .ref q_80, .ref q_89, .ref q_98, .ref q_106, .ref q_114, .ref q_122, .double 0, .int (nI 0), .int (nI 0), .ref q_130, .ref q_138, .null, .null, .int (nI 0), .null, .null]) hC hM hnm hL_626 hF_627 zcl_X7 (by decide) zl_X7_60 rfl rfl rfl (by rfl) (Nat.le_of_ble_eq_true rfl) rfl dX7_init_140 (fun H locs hM => ?_)
  obtain ⟨f_679, ef_679⟩ : ∃ z9, z9 = va_up f_625 o (eS 8 [.int (nI 0), .int (nI 0), .ref q_7, .ref q_15, .ref q_23, .ref q_31, .ref q_39, .ref q_47, .ref q_55, .ref q_63, .ref q_71, .ref q_80, .ref q_89, .ref q_98, .ref q_106, .ref q_114, .ref q_122, .double 0, .int (nI 0), .int (nI 0), .ref q_130, .ref q_138, .null, .null, .int (nI 0), .null, .null]) := ⟨_, rfl⟩
  rw [← ef_679] at hM
  have hF_680 : f_679 o = eS 8 [.int (nI 0), .int (nI 0), .ref q_7, .ref q_15, .ref q_23, .ref q_31, .ref q_39, .ref q_47, .ref q_55, .ref q_63, .ref q_71, .ref q_80, .ref q_89, .ref q_98, .ref q_106, .ref q_114, .ref q_122, .double 0, .int (nI 0), .int (nI 0), .ref q_130, .ref q_138, .null, .null, .int (nI 0), .null, .null] := by rw [ef_679]; exact va_up_self _ _ _
  have hF_681 : f_679 q_7 = eI K 6 (fun _ => 0) := by rw [ef_679]; exact (va_up_ne _ _ (Ne.symm hN_4)).trans hF_630
  have hF_682 : f_679 q_15 = eI K 6 (fun _ => 0) := by rw [ef_679]; exact (va_up_ne _ _ (Ne.symm hN_13)).trans hF_633
  have hF_683 : f_679 q_23 = eI K 24 (fun _ => 0) := by rw [ef_679]; exact (va_up_ne _ _ (Ne.symm hN_26)).trans hF_636
  have hF_684 : f_679 q_31 = eI K 24 (fun _ => 0) := by rw [ef_679]; exact (va_up_ne _ _ (Ne.symm hN_43)).trans hF_639
  have hF_685 : f_679 q_39 = eI K 24 (fun _ => 0) := by rw [ef_679]; exact (va_up_ne _ _ (Ne.symm hN_64)).trans hF_642
  have hF_686 : f_679 q_47 = eI K 24 (fun _ => 0) := by rw [ef_679]; exact (va_up_ne _ _ (Ne.symm hN_89)).trans hF_645
  have hF_687 : f_679 q_55 = eI K 6 (fun _ => 0) := by rw [ef_679]; exact (va_up_ne _ _ (Ne.symm hN_118)).trans hF_648
  have hF_688 : f_679 q_63 = eI K 6 (fun _ => 0) := by rw [ef_679]; exact (va_up_ne _ _ (Ne.symm hN_151)).trans hF_651
  have hF_689 : f_679 q_71 = eI K 6 (fun _ => 0) := by rw [ef_679]; exact (va_up_ne _ _ (Ne.symm hN_188)).trans hF_654
  have hF_690 : f_679 q_80 = eZ K 1000 (fun _ => 0) := by rw [ef_679]; exact (va_up_ne _ _ (Ne.symm hN_229)).trans hF_657
  have hF_691 : f_679 q_89 = eZ K 6000 (fun _ => 0) := by rw [ef_679]; exact (va_up_ne _ _ (Ne.symm hN_274)).trans hF_660
  have hF_692 : f_679 q_98 = eD K 6000 (fun _ => 0) := by rw [ef_679]; exact (va_up_ne _ _ (Ne.symm hN_323)).trans hF_663
  have hF_693 : f_679 q_106 = eI K 6 (fun _ => 0) := by rw [ef_679]; exact (va_up_ne _ _ (Ne.symm hN_376)).trans hF_666
  have hF_694 : f_679 q_114 = eD K 120 (fun _ => 0) := by rw [ef_679]; exact (va_up_ne _ _ (Ne.symm hN_433)).trans hF_669
  have hF_695 : f_679 q_122 = eI K 120 (fun _ => 0) := by rw [ef_679]; exact (va_up_ne _ _ (Ne.symm hN_494)).trans hF_672
  have hF_696 : f_679 q_130 = eI K 12 (fun _ => 0) := by rw [ef_679]; exact (va_up_ne _ _ (Ne.symm hN_559)).trans hF_675
  have hF_697 : f_679 q_138 = eI K 12 (fun _ => 0) := by rw [ef_679]; exact (va_up_ne _ _ (Ne.symm hN_628)).trans hF_678
  refine lv_aload_n hx hb dX7_init_143 rfl (lv_at hl 0 rfl) ?_
  refine lv_bipush (v := nI 12) hx hb dX7_init_144 (by decide) ?_
  refine z_newI hC hM zarr_int (by decide) (by decide) (by decide) dX7_init_146 (fun q_146 H hq_146 hM => ?_)
  obtain ⟨f_698, ef_698⟩ : ∃ z9, z9 = va_up f_679 q_146 (eI K 12 (fun _ => 0)) := ⟨_, rfl⟩
  rw [← ef_698] at hM
  have hN_701 : o ≠ q_146 := fun h => hq_146 (h ▸ hL_626)
  have hL_699 : o ∈ L ++ [q_7] ++ [q_15] ++ [q_23] ++ [q_31] ++ [q_39] ++ [q_47] ++ [q_55] ++ [q_63] ++ [q_71] ++ [q_80] ++ [q_89] ++ [q_98] ++ [q_106] ++ [q_114] ++ [q_122] ++ [q_130] ++ [q_138] ++ [q_146] := List.mem_append_left _ hL_626
  have hF_700 : f_698 o = eS 8 [.int (nI 0), .int (nI 0), .ref q_7, .ref q_15, .ref q_23, .ref q_31, .ref q_39, .ref q_47, .ref q_55, .ref q_63, .ref q_71, .ref q_80, .ref q_89, .ref q_98, .ref q_106, .ref q_114, .ref q_122, .double 0, .int (nI 0), .int (nI 0), .ref q_130, .ref q_138, .null, .null, .int (nI 0), .null, .null] := by rw [ef_698]; exact (va_up_ne _ _ hN_701).trans hF_680
  have hN_704 : q_7 ≠ q_146 := fun h => hq_146 (h ▸ hL_629)
  have hL_702 : q_7 ∈ L ++ [q_7] ++ [q_15] ++ [q_23] ++ [q_31] ++ [q_39] ++ [q_47] ++ [q_55] ++ [q_63] ++ [q_71] ++ [q_80] ++ [q_89] ++ [q_98] ++ [q_106] ++ [q_114] ++ [q_122] ++ [q_130] ++ [q_138] ++ [q_146] := List.mem_append_left _ hL_629
  have hF_703 : f_698 q_7 = eI K 6 (fun _ => 0) := by rw [ef_698]; exact (va_up_ne _ _ hN_704).trans hF_681
  have hN_707 : q_15 ≠ q_146 := fun h => hq_146 (h ▸ hL_632)
  have hL_705 : q_15 ∈ L ++ [q_7] ++ [q_15] ++ [q_23] ++ [q_31] ++ [q_39] ++ [q_47] ++ [q_55] ++ [q_63] ++ [q_71] ++ [q_80] ++ [q_89] ++ [q_98] ++ [q_106] ++ [q_114] ++ [q_122] ++ [q_130] ++ [q_138] ++ [q_146] := List.mem_append_left _ hL_632
  have hF_706 : f_698 q_15 = eI K 6 (fun _ => 0) := by rw [ef_698]; exact (va_up_ne _ _ hN_707).trans hF_682
  have hN_710 : q_23 ≠ q_146 := fun h => hq_146 (h ▸ hL_635)
  have hL_708 : q_23 ∈ L ++ [q_7] ++ [q_15] ++ [q_23] ++ [q_31] ++ [q_39] ++ [q_47] ++ [q_55] ++ [q_63] ++ [q_71] ++ [q_80] ++ [q_89] ++ [q_98] ++ [q_106] ++ [q_114] ++ [q_122] ++ [q_130] ++ [q_138] ++ [q_146] := List.mem_append_left _ hL_635
  have hF_709 : f_698 q_23 = eI K 24 (fun _ => 0) := by rw [ef_698]; exact (va_up_ne _ _ hN_710).trans hF_683
  have hN_713 : q_31 ≠ q_146 := fun h => hq_146 (h ▸ hL_638)
  have hL_711 : q_31 ∈ L ++ [q_7] ++ [q_15] ++ [q_23] ++ [q_31] ++ [q_39] ++ [q_47] ++ [q_55] ++ [q_63] ++ [q_71] ++ [q_80] ++ [q_89] ++ [q_98] ++ [q_106] ++ [q_114] ++ [q_122] ++ [q_130] ++ [q_138] ++ [q_146] := List.mem_append_left _ hL_638
  have hF_712 : f_698 q_31 = eI K 24 (fun _ => 0) := by rw [ef_698]; exact (va_up_ne _ _ hN_713).trans hF_684
  have hN_716 : q_39 ≠ q_146 := fun h => hq_146 (h ▸ hL_641)
  have hL_714 : q_39 ∈ L ++ [q_7] ++ [q_15] ++ [q_23] ++ [q_31] ++ [q_39] ++ [q_47] ++ [q_55] ++ [q_63] ++ [q_71] ++ [q_80] ++ [q_89] ++ [q_98] ++ [q_106] ++ [q_114] ++ [q_122] ++ [q_130] ++ [q_138] ++ [q_146] := List.mem_append_left _ hL_641
  have hF_715 : f_698 q_39 = eI K 24 (fun _ => 0) := by rw [ef_698]; exact (va_up_ne _ _ hN_716).trans hF_685
  have hN_719 : q_47 ≠ q_146 := fun h => hq_146 (h ▸ hL_644)
  have hL_717 : q_47 ∈ L ++ [q_7] ++ [q_15] ++ [q_23] ++ [q_31] ++ [q_39] ++ [q_47] ++ [q_55] ++ [q_63] ++ [q_71] ++ [q_80] ++ [q_89] ++ [q_98] ++ [q_106] ++ [q_114] ++ [q_122] ++ [q_130] ++ [q_138] ++ [q_146] := List.mem_append_left _ hL_644
  have hF_718 : f_698 q_47 = eI K 24 (fun _ => 0) := by rw [ef_698]; exact (va_up_ne _ _ hN_719).trans hF_686
  have hN_722 : q_55 ≠ q_146 := fun h => hq_146 (h ▸ hL_647)
  have hL_720 : q_55 ∈ L ++ [q_7] ++ [q_15] ++ [q_23] ++ [q_31] ++ [q_39] ++ [q_47] ++ [q_55] ++ [q_63] ++ [q_71] ++ [q_80] ++ [q_89] ++ [q_98] ++ [q_106] ++ [q_114] ++ [q_122] ++ [q_130] ++ [q_138] ++ [q_146] := List.mem_append_left _ hL_647
  have hF_721 : f_698 q_55 = eI K 6 (fun _ => 0) := by rw [ef_698]; exact (va_up_ne _ _ hN_722).trans hF_687
  have hN_725 : q_63 ≠ q_146 := fun h => hq_146 (h ▸ hL_650)
  have hL_723 : q_63 ∈ L ++ [q_7] ++ [q_15] ++ [q_23] ++ [q_31] ++ [q_39] ++ [q_47] ++ [q_55] ++ [q_63] ++ [q_71] ++ [q_80] ++ [q_89] ++ [q_98] ++ [q_106] ++ [q_114] ++ [q_122] ++ [q_130] ++ [q_138] ++ [q_146] := List.mem_append_left _ hL_650
  have hF_724 : f_698 q_63 = eI K 6 (fun _ => 0) := by rw [ef_698]; exact (va_up_ne _ _ hN_725).trans hF_688
  have hN_728 : q_71 ≠ q_146 := fun h => hq_146 (h ▸ hL_653)
  have hL_726 : q_71 ∈ L ++ [q_7] ++ [q_15] ++ [q_23] ++ [q_31] ++ [q_39] ++ [q_47] ++ [q_55] ++ [q_63] ++ [q_71] ++ [q_80] ++ [q_89] ++ [q_98] ++ [q_106] ++ [q_114] ++ [q_122] ++ [q_130] ++ [q_138] ++ [q_146] := List.mem_append_left _ hL_653
  have hF_727 : f_698 q_71 = eI K 6 (fun _ => 0) := by rw [ef_698]; exact (va_up_ne _ _ hN_728).trans hF_689
  have hN_731 : q_80 ≠ q_146 := fun h => hq_146 (h ▸ hL_656)
  have hL_729 : q_80 ∈ L ++ [q_7] ++ [q_15] ++ [q_23] ++ [q_31] ++ [q_39] ++ [q_47] ++ [q_55] ++ [q_63] ++ [q_71] ++ [q_80] ++ [q_89] ++ [q_98] ++ [q_106] ++ [q_114] ++ [q_122] ++ [q_130] ++ [q_138] ++ [q_146] := List.mem_append_left _ hL_656
  have hF_730 : f_698 q_80 = eZ K 1000 (fun _ => 0) := by rw [ef_698]; exact (va_up_ne _ _ hN_731).trans hF_690
  have hN_734 : q_89 ≠ q_146 := fun h => hq_146 (h ▸ hL_659)
  have hL_732 : q_89 ∈ L ++ [q_7] ++ [q_15] ++ [q_23] ++ [q_31] ++ [q_39] ++ [q_47] ++ [q_55] ++ [q_63] ++ [q_71] ++ [q_80] ++ [q_89] ++ [q_98] ++ [q_106] ++ [q_114] ++ [q_122] ++ [q_130] ++ [q_138] ++ [q_146] := List.mem_append_left _ hL_659
  have hF_733 : f_698 q_89 = eZ K 6000 (fun _ => 0) := by rw [ef_698]; exact (va_up_ne _ _ hN_734).trans hF_691
  have hN_737 : q_98 ≠ q_146 := fun h => hq_146 (h ▸ hL_662)
  have hL_735 : q_98 ∈ L ++ [q_7] ++ [q_15] ++ [q_23] ++ [q_31] ++ [q_39] ++ [q_47] ++ [q_55] ++ [q_63] ++ [q_71] ++ [q_80] ++ [q_89] ++ [q_98] ++ [q_106] ++ [q_114] ++ [q_122] ++ [q_130] ++ [q_138] ++ [q_146] := List.mem_append_left _ hL_662
  have hF_736 : f_698 q_98 = eD K 6000 (fun _ => 0) := by rw [ef_698]; exact (va_up_ne _ _ hN_737).trans hF_692
  have hN_740 : q_106 ≠ q_146 := fun h => hq_146 (h ▸ hL_665)
  have hL_738 : q_106 ∈ L ++ [q_7] ++ [q_15] ++ [q_23] ++ [q_31] ++ [q_39] ++ [q_47] ++ [q_55] ++ [q_63] ++ [q_71] ++ [q_80] ++ [q_89] ++ [q_98] ++ [q_106] ++ [q_114] ++ [q_122] ++ [q_130] ++ [q_138] ++ [q_146] := List.mem_append_left _ hL_665
  have hF_739 : f_698 q_106 = eI K 6 (fun _ => 0) := by rw [ef_698]; exact (va_up_ne _ _ hN_740).trans hF_693
  have hN_743 : q_114 ≠ q_146 := fun h => hq_146 (h ▸ hL_668)
  have hL_741 : q_114 ∈ L ++ [q_7] ++ [q_15] ++ [q_23] ++ [q_31] ++ [q_39] ++ [q_47] ++ [q_55] ++ [q_63] ++ [q_71] ++ [q_80] ++ [q_89] ++ [q_98] ++ [q_106] ++ [q_114] ++ [q_122] ++ [q_130] ++ [q_138] ++ [q_146] := List.mem_append_left _ hL_668
  have hF_742 : f_698 q_114 = eD K 120 (fun _ => 0) := by rw [ef_698]; exact (va_up_ne _ _ hN_743).trans hF_694
  have hN_746 : q_122 ≠ q_146 := fun h => hq_146 (h ▸ hL_671)
  have hL_744 : q_122 ∈ L ++ [q_7] ++ [q_15] ++ [q_23] ++ [q_31] ++ [q_39] ++ [q_47] ++ [q_55] ++ [q_63] ++ [q_71] ++ [q_80] ++ [q_89] ++ [q_98] ++ [q_106] ++ [q_114] ++ [q_122] ++ [q_130] ++ [q_138] ++ [q_146] := List.mem_append_left _ hL_671
  have hF_745 : f_698 q_122 = eI K 120 (fun _ => 0) := by rw [ef_698]; exact (va_up_ne _ _ hN_746).trans hF_695
  have hN_749 : q_130 ≠ q_146 := fun h => hq_146 (h ▸ hL_674)
  have hL_747 : q_130 ∈ L ++ [q_7] ++ [q_15] ++ [q_23] ++ [q_31] ++ [q_39] ++ [q_47] ++ [q_55] ++ [q_63] ++ [q_71] ++ [q_80] ++ [q_89] ++ [q_98] ++ [q_106] ++ [q_114] ++ [q_122] ++ [q_130] ++ [q_138] ++ [q_146] := List.mem_append_left _ hL_674
  have hF_748 : f_698 q_130 = eI K 12 (fun _ => 0) := by rw [ef_698]; exact (va_up_ne _ _ hN_749).trans hF_696
  have hN_752 : q_138 ≠ q_146 := fun h => hq_146 (h ▸ hL_677)
  have hL_750 : q_138 ∈ L ++ [q_7] ++ [q_15] ++ [q_23] ++ [q_31] ++ [q_39] ++ [q_47] ++ [q_55] ++ [q_63] ++ [q_71] ++ [q_80] ++ [q_89] ++ [q_98] ++ [q_106] ++ [q_114] ++ [q_122] ++ [q_130] ++ [q_138] ++ [q_146] := List.mem_append_left _ hL_677
  have hF_751 : f_698 q_138 = eI K 12 (fun _ => 0) := by rw [ef_698]; exact (va_up_ne _ _ hN_752).trans hF_697
  have hL_753 : q_146 ∈ L ++ [q_7] ++ [q_15] ++ [q_23] ++ [q_31] ++ [q_39] ++ [q_47] ++ [q_55] ++ [q_63] ++ [q_71] ++ [q_80] ++ [q_89] ++ [q_98] ++ [q_106] ++ [q_114] ++ [q_122] ++ [q_130] ++ [q_138] ++ [q_146] := List.mem_append_right _ List.mem_cons_self
  have hF_754 : f_698 q_146 = eI K 12 (fun _ => 0) := by rw [ef_698]; exact va_up_self _ _ _
  refine z_putF (fs' := [.int (nI 0), .int (nI 0), .ref q_7, .ref q_15, .ref q_23, .ref q_31, .ref q_39, .ref q_47, .ref q_55, .ref q_63, .ref q_71, .ref q_80, .ref q_89, .ref q_98, .ref q_106, .ref q_114, .ref q_122, .double 0, .int (nI 0), .int (nI 0), .ref q_130, .ref q_138, .ref q_146, .null, .int (nI 0), .null, .null]) hC hM hnm hL_699 hF_700 zcl_X7 (by decide) zl_X7_63 rfl rfl rfl (by rfl) (Nat.le_of_ble_eq_true rfl) rfl dX7_init_148 (fun H locs hM => ?_)
  obtain ⟨f_755, ef_755⟩ : ∃ z9, z9 = va_up f_698 o (eS 8 [.int (nI 0), .int (nI 0), .ref q_7, .ref q_15, .ref q_23, .ref q_31, .ref q_39, .ref q_47, .ref q_55, .ref q_63, .ref q_71, .ref q_80, .ref q_89, .ref q_98, .ref q_106, .ref q_114, .ref q_122, .double 0, .int (nI 0), .int (nI 0), .ref q_130, .ref q_138, .ref q_146, .null, .int (nI 0), .null, .null]) := ⟨_, rfl⟩
  rw [← ef_755] at hM
  have hF_756 : f_755 o = eS 8 [.int (nI 0), .int (nI 0), .ref q_7, .ref q_15, .ref q_23, .ref q_31, .ref q_39, .ref q_47, .ref q_55, .ref q_63, .ref q_71, .ref q_80, .ref q_89, .ref q_98, .ref q_106, .ref q_114, .ref q_122, .double 0, .int (nI 0), .int (nI 0), .ref q_130, .ref q_138, .ref q_146, .null, .int (nI 0), .null, .null] := by rw [ef_755]; exact va_up_self _ _ _
  have hF_757 : f_755 q_7 = eI K 6 (fun _ => 0) := by rw [ef_755]; exact (va_up_ne _ _ (Ne.symm hN_4)).trans hF_703
  have hF_758 : f_755 q_15 = eI K 6 (fun _ => 0) := by rw [ef_755]; exact (va_up_ne _ _ (Ne.symm hN_13)).trans hF_706
  have hF_759 : f_755 q_23 = eI K 24 (fun _ => 0) := by rw [ef_755]; exact (va_up_ne _ _ (Ne.symm hN_26)).trans hF_709
  have hF_760 : f_755 q_31 = eI K 24 (fun _ => 0) := by rw [ef_755]; exact (va_up_ne _ _ (Ne.symm hN_43)).trans hF_712
  have hF_761 : f_755 q_39 = eI K 24 (fun _ => 0) := by rw [ef_755]; exact (va_up_ne _ _ (Ne.symm hN_64)).trans hF_715
  have hF_762 : f_755 q_47 = eI K 24 (fun _ => 0) := by rw [ef_755]; exact (va_up_ne _ _ (Ne.symm hN_89)).trans hF_718
  have hF_763 : f_755 q_55 = eI K 6 (fun _ => 0) := by rw [ef_755]; exact (va_up_ne _ _ (Ne.symm hN_118)).trans hF_721
  have hF_764 : f_755 q_63 = eI K 6 (fun _ => 0) := by rw [ef_755]; exact (va_up_ne _ _ (Ne.symm hN_151)).trans hF_724
  have hF_765 : f_755 q_71 = eI K 6 (fun _ => 0) := by rw [ef_755]; exact (va_up_ne _ _ (Ne.symm hN_188)).trans hF_727
  have hF_766 : f_755 q_80 = eZ K 1000 (fun _ => 0) := by rw [ef_755]; exact (va_up_ne _ _ (Ne.symm hN_229)).trans hF_730
  have hF_767 : f_755 q_89 = eZ K 6000 (fun _ => 0) := by rw [ef_755]; exact (va_up_ne _ _ (Ne.symm hN_274)).trans hF_733
  have hF_768 : f_755 q_98 = eD K 6000 (fun _ => 0) := by rw [ef_755]; exact (va_up_ne _ _ (Ne.symm hN_323)).trans hF_736
  have hF_769 : f_755 q_106 = eI K 6 (fun _ => 0) := by rw [ef_755]; exact (va_up_ne _ _ (Ne.symm hN_376)).trans hF_739
  have hF_770 : f_755 q_114 = eD K 120 (fun _ => 0) := by rw [ef_755]; exact (va_up_ne _ _ (Ne.symm hN_433)).trans hF_742
  have hF_771 : f_755 q_122 = eI K 120 (fun _ => 0) := by rw [ef_755]; exact (va_up_ne _ _ (Ne.symm hN_494)).trans hF_745
  have hF_772 : f_755 q_130 = eI K 12 (fun _ => 0) := by rw [ef_755]; exact (va_up_ne _ _ (Ne.symm hN_559)).trans hF_748
  have hF_773 : f_755 q_138 = eI K 12 (fun _ => 0) := by rw [ef_755]; exact (va_up_ne _ _ (Ne.symm hN_628)).trans hF_751
  have hF_774 : f_755 q_146 = eI K 12 (fun _ => 0) := by rw [ef_755]; exact (va_up_ne _ _ (Ne.symm hN_701)).trans hF_754
  refine lv_aload_n hx hb dX7_init_151 rfl (lv_at hl 0 rfl) ?_
  refine lv_bipush (v := nI 12) hx hb dX7_init_152 (by decide) ?_
  refine z_newZ hC hM zarr_boolean (by decide) (by decide) (by decide) dX7_init_154 (fun q_154 H hq_154 hM => ?_)
  obtain ⟨f_775, ef_775⟩ : ∃ z9, z9 = va_up f_755 q_154 (eZ K 12 (fun _ => 0)) := ⟨_, rfl⟩
  rw [← ef_775] at hM
  have hN_778 : o ≠ q_154 := fun h => hq_154 (h ▸ hL_699)
  have hL_776 : o ∈ L ++ [q_7] ++ [q_15] ++ [q_23] ++ [q_31] ++ [q_39] ++ [q_47] ++ [q_55] ++ [q_63] ++ [q_71] ++ [q_80] ++ [q_89] ++ [q_98] ++ [q_106] ++ [q_114] ++ [q_122] ++ [q_130] ++ [q_138] ++ [q_146] ++ [q_154] := List.mem_append_left _ hL_699
  have hF_777 : f_775 o = eS 8 [.int (nI 0), .int (nI 0), .ref q_7, .ref q_15, .ref q_23, .ref q_31, .ref q_39, .ref q_47, .ref q_55, .ref q_63, .ref q_71, .ref q_80, .ref q_89, .ref q_98, .ref q_106, .ref q_114, .ref q_122, .double 0, .int (nI 0), .int (nI 0), .ref q_130, .ref q_138, .ref q_146, .null, .int (nI 0), .null, .null] := by rw [ef_775]; exact (va_up_ne _ _ hN_778).trans hF_756
  have hN_781 : q_7 ≠ q_154 := fun h => hq_154 (h ▸ hL_702)
  have hL_779 : q_7 ∈ L ++ [q_7] ++ [q_15] ++ [q_23] ++ [q_31] ++ [q_39] ++ [q_47] ++ [q_55] ++ [q_63] ++ [q_71] ++ [q_80] ++ [q_89] ++ [q_98] ++ [q_106] ++ [q_114] ++ [q_122] ++ [q_130] ++ [q_138] ++ [q_146] ++ [q_154] := List.mem_append_left _ hL_702
  have hF_780 : f_775 q_7 = eI K 6 (fun _ => 0) := by rw [ef_775]; exact (va_up_ne _ _ hN_781).trans hF_757
  have hN_784 : q_15 ≠ q_154 := fun h => hq_154 (h ▸ hL_705)
  have hL_782 : q_15 ∈ L ++ [q_7] ++ [q_15] ++ [q_23] ++ [q_31] ++ [q_39] ++ [q_47] ++ [q_55] ++ [q_63] ++ [q_71] ++ [q_80] ++ [q_89] ++ [q_98] ++ [q_106] ++ [q_114] ++ [q_122] ++ [q_130] ++ [q_138] ++ [q_146] ++ [q_154] := List.mem_append_left _ hL_705
  have hF_783 : f_775 q_15 = eI K 6 (fun _ => 0) := by rw [ef_775]; exact (va_up_ne _ _ hN_784).trans hF_758
  have hN_787 : q_23 ≠ q_154 := fun h => hq_154 (h ▸ hL_708)
  have hL_785 : q_23 ∈ L ++ [q_7] ++ [q_15] ++ [q_23] ++ [q_31] ++ [q_39] ++ [q_47] ++ [q_55] ++ [q_63] ++ [q_71] ++ [q_80] ++ [q_89] ++ [q_98] ++ [q_106] ++ [q_114] ++ [q_122] ++ [q_130] ++ [q_138] ++ [q_146] ++ [q_154] := List.mem_append_left _ hL_708
  have hF_786 : f_775 q_23 = eI K 24 (fun _ => 0) := by rw [ef_775]; exact (va_up_ne _ _ hN_787).trans hF_759
  have hN_790 : q_31 ≠ q_154 := fun h => hq_154 (h ▸ hL_711)
  have hL_788 : q_31 ∈ L ++ [q_7] ++ [q_15] ++ [q_23] ++ [q_31] ++ [q_39] ++ [q_47] ++ [q_55] ++ [q_63] ++ [q_71] ++ [q_80] ++ [q_89] ++ [q_98] ++ [q_106] ++ [q_114] ++ [q_122] ++ [q_130] ++ [q_138] ++ [q_146] ++ [q_154] := List.mem_append_left _ hL_711
  have hF_789 : f_775 q_31 = eI K 24 (fun _ => 0) := by rw [ef_775]; exact (va_up_ne _ _ hN_790).trans hF_760
  have hN_793 : q_39 ≠ q_154 := fun h => hq_154 (h ▸ hL_714)
  have hL_791 : q_39 ∈ L ++ [q_7] ++ [q_15] ++ [q_23] ++ [q_31] ++ [q_39] ++ [q_47] ++ [q_55] ++ [q_63] ++ [q_71] ++ [q_80] ++ [q_89] ++ [q_98] ++ [q_106] ++ [q_114] ++ [q_122] ++ [q_130] ++ [q_138] ++ [q_146] ++ [q_154] := List.mem_append_left _ hL_714
  have hF_792 : f_775 q_39 = eI K 24 (fun _ => 0) := by rw [ef_775]; exact (va_up_ne _ _ hN_793).trans hF_761
  have hN_796 : q_47 ≠ q_154 := fun h => hq_154 (h ▸ hL_717)
  have hL_794 : q_47 ∈ L ++ [q_7] ++ [q_15] ++ [q_23] ++ [q_31] ++ [q_39] ++ [q_47] ++ [q_55] ++ [q_63] ++ [q_71] ++ [q_80] ++ [q_89] ++ [q_98] ++ [q_106] ++ [q_114] ++ [q_122] ++ [q_130] ++ [q_138] ++ [q_146] ++ [q_154] := List.mem_append_left _ hL_717
  have hF_795 : f_775 q_47 = eI K 24 (fun _ => 0) := by rw [ef_775]; exact (va_up_ne _ _ hN_796).trans hF_762
  have hN_799 : q_55 ≠ q_154 := fun h => hq_154 (h ▸ hL_720)
  have hL_797 : q_55 ∈ L ++ [q_7] ++ [q_15] ++ [q_23] ++ [q_31] ++ [q_39] ++ [q_47] ++ [q_55] ++ [q_63] ++ [q_71] ++ [q_80] ++ [q_89] ++ [q_98] ++ [q_106] ++ [q_114] ++ [q_122] ++ [q_130] ++ [q_138] ++ [q_146] ++ [q_154] := List.mem_append_left _ hL_720
  have hF_798 : f_775 q_55 = eI K 6 (fun _ => 0) := by rw [ef_775]; exact (va_up_ne _ _ hN_799).trans hF_763
  have hN_802 : q_63 ≠ q_154 := fun h => hq_154 (h ▸ hL_723)
  have hL_800 : q_63 ∈ L ++ [q_7] ++ [q_15] ++ [q_23] ++ [q_31] ++ [q_39] ++ [q_47] ++ [q_55] ++ [q_63] ++ [q_71] ++ [q_80] ++ [q_89] ++ [q_98] ++ [q_106] ++ [q_114] ++ [q_122] ++ [q_130] ++ [q_138] ++ [q_146] ++ [q_154] := List.mem_append_left _ hL_723
  have hF_801 : f_775 q_63 = eI K 6 (fun _ => 0) := by rw [ef_775]; exact (va_up_ne _ _ hN_802).trans hF_764
  have hN_805 : q_71 ≠ q_154 := fun h => hq_154 (h ▸ hL_726)
  have hL_803 : q_71 ∈ L ++ [q_7] ++ [q_15] ++ [q_23] ++ [q_31] ++ [q_39] ++ [q_47] ++ [q_55] ++ [q_63] ++ [q_71] ++ [q_80] ++ [q_89] ++ [q_98] ++ [q_106] ++ [q_114] ++ [q_122] ++ [q_130] ++ [q_138] ++ [q_146] ++ [q_154] := List.mem_append_left _ hL_726
  have hF_804 : f_775 q_71 = eI K 6 (fun _ => 0) := by rw [ef_775]; exact (va_up_ne _ _ hN_805).trans hF_765
  have hN_808 : q_80 ≠ q_154 := fun h => hq_154 (h ▸ hL_729)
  have hL_806 : q_80 ∈ L ++ [q_7] ++ [q_15] ++ [q_23] ++ [q_31] ++ [q_39] ++ [q_47] ++ [q_55] ++ [q_63] ++ [q_71] ++ [q_80] ++ [q_89] ++ [q_98] ++ [q_106] ++ [q_114] ++ [q_122] ++ [q_130] ++ [q_138] ++ [q_146] ++ [q_154] := List.mem_append_left _ hL_729
  have hF_807 : f_775 q_80 = eZ K 1000 (fun _ => 0) := by rw [ef_775]; exact (va_up_ne _ _ hN_808).trans hF_766
  have hN_811 : q_89 ≠ q_154 := fun h => hq_154 (h ▸ hL_732)
  have hL_809 : q_89 ∈ L ++ [q_7] ++ [q_15] ++ [q_23] ++ [q_31] ++ [q_39] ++ [q_47] ++ [q_55] ++ [q_63] ++ [q_71] ++ [q_80] ++ [q_89] ++ [q_98] ++ [q_106] ++ [q_114] ++ [q_122] ++ [q_130] ++ [q_138] ++ [q_146] ++ [q_154] := List.mem_append_left _ hL_732
  have hF_810 : f_775 q_89 = eZ K 6000 (fun _ => 0) := by rw [ef_775]; exact (va_up_ne _ _ hN_811).trans hF_767
  have hN_814 : q_98 ≠ q_154 := fun h => hq_154 (h ▸ hL_735)
  have hL_812 : q_98 ∈ L ++ [q_7] ++ [q_15] ++ [q_23] ++ [q_31] ++ [q_39] ++ [q_47] ++ [q_55] ++ [q_63] ++ [q_71] ++ [q_80] ++ [q_89] ++ [q_98] ++ [q_106] ++ [q_114] ++ [q_122] ++ [q_130] ++ [q_138] ++ [q_146] ++ [q_154] := List.mem_append_left _ hL_735
  have hF_813 : f_775 q_98 = eD K 6000 (fun _ => 0) := by rw [ef_775]; exact (va_up_ne _ _ hN_814).trans hF_768
  have hN_817 : q_106 ≠ q_154 := fun h => hq_154 (h ▸ hL_738)
  have hL_815 : q_106 ∈ L ++ [q_7] ++ [q_15] ++ [q_23] ++ [q_31] ++ [q_39] ++ [q_47] ++ [q_55] ++ [q_63] ++ [q_71] ++ [q_80] ++ [q_89] ++ [q_98] ++ [q_106] ++ [q_114] ++ [q_122] ++ [q_130] ++ [q_138] ++ [q_146] ++ [q_154] := List.mem_append_left _ hL_738
  have hF_816 : f_775 q_106 = eI K 6 (fun _ => 0) := by rw [ef_775]; exact (va_up_ne _ _ hN_817).trans hF_769
  have hN_820 : q_114 ≠ q_154 := fun h => hq_154 (h ▸ hL_741)
  have hL_818 : q_114 ∈ L ++ [q_7] ++ [q_15] ++ [q_23] ++ [q_31] ++ [q_39] ++ [q_47] ++ [q_55] ++ [q_63] ++ [q_71] ++ [q_80] ++ [q_89] ++ [q_98] ++ [q_106] ++ [q_114] ++ [q_122] ++ [q_130] ++ [q_138] ++ [q_146] ++ [q_154] := List.mem_append_left _ hL_741
  have hF_819 : f_775 q_114 = eD K 120 (fun _ => 0) := by rw [ef_775]; exact (va_up_ne _ _ hN_820).trans hF_770
  have hN_823 : q_122 ≠ q_154 := fun h => hq_154 (h ▸ hL_744)
  have hL_821 : q_122 ∈ L ++ [q_7] ++ [q_15] ++ [q_23] ++ [q_31] ++ [q_39] ++ [q_47] ++ [q_55] ++ [q_63] ++ [q_71] ++ [q_80] ++ [q_89] ++ [q_98] ++ [q_106] ++ [q_114] ++ [q_122] ++ [q_130] ++ [q_138] ++ [q_146] ++ [q_154] := List.mem_append_left _ hL_744
  have hF_822 : f_775 q_122 = eI K 120 (fun _ => 0) := by rw [ef_775]; exact (va_up_ne _ _ hN_823).trans hF_771
  have hN_826 : q_130 ≠ q_154 := fun h => hq_154 (h ▸ hL_747)
  have hL_824 : q_130 ∈ L ++ [q_7] ++ [q_15] ++ [q_23] ++ [q_31] ++ [q_39] ++ [q_47] ++ [q_55] ++ [q_63] ++ [q_71] ++ [q_80] ++ [q_89] ++ [q_98] ++ [q_106] ++ [q_114] ++ [q_122] ++ [q_130] ++ [q_138] ++ [q_146] ++ [q_154] := List.mem_append_left _ hL_747
  have hF_825 : f_775 q_130 = eI K 12 (fun _ => 0) := by rw [ef_775]; exact (va_up_ne _ _ hN_826).trans hF_772
  have hN_829 : q_138 ≠ q_154 := fun h => hq_154 (h ▸ hL_750)
  have hL_827 : q_138 ∈ L ++ [q_7] ++ [q_15] ++ [q_23] ++ [q_31] ++ [q_39] ++ [q_47] ++ [q_55] ++ [q_63] ++ [q_71] ++ [q_80] ++ [q_89] ++ [q_98] ++ [q_106] ++ [q_114] ++ [q_122] ++ [q_130] ++ [q_138] ++ [q_146] ++ [q_154] := List.mem_append_left _ hL_750
  have hF_828 : f_775 q_138 = eI K 12 (fun _ => 0) := by rw [ef_775]; exact (va_up_ne _ _ hN_829).trans hF_773
  have hN_832 : q_146 ≠ q_154 := fun h => hq_154 (h ▸ hL_753)
  have hL_830 : q_146 ∈ L ++ [q_7] ++ [q_15] ++ [q_23] ++ [q_31] ++ [q_39] ++ [q_47] ++ [q_55] ++ [q_63] ++ [q_71] ++ [q_80] ++ [q_89] ++ [q_98] ++ [q_106] ++ [q_114] ++ [q_122] ++ [q_130] ++ [q_138] ++ [q_146] ++ [q_154] := List.mem_append_left _ hL_753
  have hF_831 : f_775 q_146 = eI K 12 (fun _ => 0) := by rw [ef_775]; exact (va_up_ne _ _ hN_832).trans hF_774
  have hL_833 : q_154 ∈ L ++ [q_7] ++ [q_15] ++ [q_23] ++ [q_31] ++ [q_39] ++ [q_47] ++ [q_55] ++ [q_63] ++ [q_71] ++ [q_80] ++ [q_89] ++ [q_98] ++ [q_106] ++ [q_114] ++ [q_122] ++ [q_130] ++ [q_138] ++ [q_146] ++ [q_154] := List.mem_append_right _ List.mem_cons_self
  have hF_834 : f_775 q_154 = eZ K 12 (fun _ => 0) := by rw [ef_775]; exact va_up_self _ _ _
  refine z_putF (fs' := [.int (nI 0), .int (nI 0), .ref q_7, .ref q_15, .ref q_23, .ref q_31, .ref q_39, .ref q_47, .ref q_55, .ref q_63, .ref q_71, .ref q_80, .ref q_89, .ref q_98, .ref q_106, .ref q_114, .ref q_122, .double 0, .int (nI 0), .int (nI 0), .ref q_130, .ref q_138, .ref q_146, .ref q_154, .int (nI 0), .null, .null]) hC hM hnm hL_776 hF_777 zcl_X7 (by decide) zl_X7_66 rfl rfl rfl (by rfl) (Nat.le_of_ble_eq_true rfl) rfl dX7_init_156 (fun H locs hM => ?_)
  obtain ⟨f_835, ef_835⟩ : ∃ z9, z9 = va_up f_775 o (eS 8 [.int (nI 0), .int (nI 0), .ref q_7, .ref q_15, .ref q_23, .ref q_31, .ref q_39, .ref q_47, .ref q_55, .ref q_63, .ref q_71, .ref q_80, .ref q_89, .ref q_98, .ref q_106, .ref q_114, .ref q_122, .double 0, .int (nI 0), .int (nI 0), .ref q_130, .ref q_138, .ref q_146, .ref q_154, .int (nI 0), .null, .null]) := ⟨_, rfl⟩
  rw [← ef_835] at hM
  have hF_836 : f_835 o = eS 8 [.int (nI 0), .int (nI 0), .ref q_7, .ref q_15, .ref q_23, .ref q_31, .ref q_39, .ref q_47, .ref q_55, .ref q_63, .ref q_71, .ref q_80, .ref q_89, .ref q_98, .ref q_106, .ref q_114, .ref q_122, .double 0, .int (nI 0), .int (nI 0), .ref q_130, .ref q_138, .ref q_146, .ref q_154, .int (nI 0), .null, .null] := by rw [ef_835]; exact va_up_self _ _ _
  have hF_837 : f_835 q_7 = eI K 6 (fun _ => 0) := by rw [ef_835]; exact (va_up_ne _ _ (Ne.symm hN_4)).trans hF_780
  have hF_838 : f_835 q_15 = eI K 6 (fun _ => 0) := by rw [ef_835]; exact (va_up_ne _ _ (Ne.symm hN_13)).trans hF_783
  have hF_839 : f_835 q_23 = eI K 24 (fun _ => 0) := by rw [ef_835]; exact (va_up_ne _ _ (Ne.symm hN_26)).trans hF_786
  have hF_840 : f_835 q_31 = eI K 24 (fun _ => 0) := by rw [ef_835]; exact (va_up_ne _ _ (Ne.symm hN_43)).trans hF_789
  have hF_841 : f_835 q_39 = eI K 24 (fun _ => 0) := by rw [ef_835]; exact (va_up_ne _ _ (Ne.symm hN_64)).trans hF_792
  have hF_842 : f_835 q_47 = eI K 24 (fun _ => 0) := by rw [ef_835]; exact (va_up_ne _ _ (Ne.symm hN_89)).trans hF_795
  have hF_843 : f_835 q_55 = eI K 6 (fun _ => 0) := by rw [ef_835]; exact (va_up_ne _ _ (Ne.symm hN_118)).trans hF_798
  have hF_844 : f_835 q_63 = eI K 6 (fun _ => 0) := by rw [ef_835]; exact (va_up_ne _ _ (Ne.symm hN_151)).trans hF_801
  have hF_845 : f_835 q_71 = eI K 6 (fun _ => 0) := by rw [ef_835]; exact (va_up_ne _ _ (Ne.symm hN_188)).trans hF_804
  have hF_846 : f_835 q_80 = eZ K 1000 (fun _ => 0) := by rw [ef_835]; exact (va_up_ne _ _ (Ne.symm hN_229)).trans hF_807
  have hF_847 : f_835 q_89 = eZ K 6000 (fun _ => 0) := by rw [ef_835]; exact (va_up_ne _ _ (Ne.symm hN_274)).trans hF_810
  have hF_848 : f_835 q_98 = eD K 6000 (fun _ => 0) := by rw [ef_835]; exact (va_up_ne _ _ (Ne.symm hN_323)).trans hF_813
  have hF_849 : f_835 q_106 = eI K 6 (fun _ => 0) := by rw [ef_835]; exact (va_up_ne _ _ (Ne.symm hN_376)).trans hF_816
  have hF_850 : f_835 q_114 = eD K 120 (fun _ => 0) := by rw [ef_835]; exact (va_up_ne _ _ (Ne.symm hN_433)).trans hF_819
  have hF_851 : f_835 q_122 = eI K 120 (fun _ => 0) := by rw [ef_835]; exact (va_up_ne _ _ (Ne.symm hN_494)).trans hF_822
  have hF_852 : f_835 q_130 = eI K 12 (fun _ => 0) := by rw [ef_835]; exact (va_up_ne _ _ (Ne.symm hN_559)).trans hF_825
  have hF_853 : f_835 q_138 = eI K 12 (fun _ => 0) := by rw [ef_835]; exact (va_up_ne _ _ (Ne.symm hN_628)).trans hF_828
  have hF_854 : f_835 q_146 = eI K 12 (fun _ => 0) := by rw [ef_835]; exact (va_up_ne _ _ (Ne.symm hN_701)).trans hF_831
  have hF_855 : f_835 q_154 = eZ K 12 (fun _ => 0) := by rw [ef_835]; exact (va_up_ne _ _ (Ne.symm hN_778)).trans hF_834
  refine lv_aload_n hx hb dX7_init_159 rfl (lv_at hl 0 rfl) ?_
  refine lv_bipush (v := nI 30) hx hb dX7_init_160 (by decide) ?_
  refine z_newI hC hM zarr_int (by decide) (by decide) (by decide) dX7_init_162 (fun q_162 H hq_162 hM => ?_)
  obtain ⟨f_856, ef_856⟩ : ∃ z9, z9 = va_up f_835 q_162 (eI K 30 (fun _ => 0)) := ⟨_, rfl⟩
  rw [← ef_856] at hM
  have hN_859 : o ≠ q_162 := fun h => hq_162 (h ▸ hL_776)
  have hL_857 : o ∈ L ++ [q_7] ++ [q_15] ++ [q_23] ++ [q_31] ++ [q_39] ++ [q_47] ++ [q_55] ++ [q_63] ++ [q_71] ++ [q_80] ++ [q_89] ++ [q_98] ++ [q_106] ++ [q_114] ++ [q_122] ++ [q_130] ++ [q_138] ++ [q_146] ++ [q_154] ++ [q_162] := List.mem_append_left _ hL_776
  have hF_858 : f_856 o = eS 8 [.int (nI 0), .int (nI 0), .ref q_7, .ref q_15, .ref q_23, .ref q_31, .ref q_39, .ref q_47, .ref q_55, .ref q_63, .ref q_71, .ref q_80, .ref q_89, .ref q_98, .ref q_106, .ref q_114, .ref q_122, .double 0, .int (nI 0), .int (nI 0), .ref q_130, .ref q_138, .ref q_146, .ref q_154, .int (nI 0), .null, .null] := by rw [ef_856]; exact (va_up_ne _ _ hN_859).trans hF_836
  have hN_862 : q_7 ≠ q_162 := fun h => hq_162 (h ▸ hL_779)
  have hL_860 : q_7 ∈ L ++ [q_7] ++ [q_15] ++ [q_23] ++ [q_31] ++ [q_39] ++ [q_47] ++ [q_55] ++ [q_63] ++ [q_71] ++ [q_80] ++ [q_89] ++ [q_98] ++ [q_106] ++ [q_114] ++ [q_122] ++ [q_130] ++ [q_138] ++ [q_146] ++ [q_154] ++ [q_162] := List.mem_append_left _ hL_779
  have hF_861 : f_856 q_7 = eI K 6 (fun _ => 0) := by rw [ef_856]; exact (va_up_ne _ _ hN_862).trans hF_837
  have hN_865 : q_15 ≠ q_162 := fun h => hq_162 (h ▸ hL_782)
  have hL_863 : q_15 ∈ L ++ [q_7] ++ [q_15] ++ [q_23] ++ [q_31] ++ [q_39] ++ [q_47] ++ [q_55] ++ [q_63] ++ [q_71] ++ [q_80] ++ [q_89] ++ [q_98] ++ [q_106] ++ [q_114] ++ [q_122] ++ [q_130] ++ [q_138] ++ [q_146] ++ [q_154] ++ [q_162] := List.mem_append_left _ hL_782
  have hF_864 : f_856 q_15 = eI K 6 (fun _ => 0) := by rw [ef_856]; exact (va_up_ne _ _ hN_865).trans hF_838
  have hN_868 : q_23 ≠ q_162 := fun h => hq_162 (h ▸ hL_785)
  have hL_866 : q_23 ∈ L ++ [q_7] ++ [q_15] ++ [q_23] ++ [q_31] ++ [q_39] ++ [q_47] ++ [q_55] ++ [q_63] ++ [q_71] ++ [q_80] ++ [q_89] ++ [q_98] ++ [q_106] ++ [q_114] ++ [q_122] ++ [q_130] ++ [q_138] ++ [q_146] ++ [q_154] ++ [q_162] := List.mem_append_left _ hL_785
  have hF_867 : f_856 q_23 = eI K 24 (fun _ => 0) := by rw [ef_856]; exact (va_up_ne _ _ hN_868).trans hF_839
  have hN_871 : q_31 ≠ q_162 := fun h => hq_162 (h ▸ hL_788)
  have hL_869 : q_31 ∈ L ++ [q_7] ++ [q_15] ++ [q_23] ++ [q_31] ++ [q_39] ++ [q_47] ++ [q_55] ++ [q_63] ++ [q_71] ++ [q_80] ++ [q_89] ++ [q_98] ++ [q_106] ++ [q_114] ++ [q_122] ++ [q_130] ++ [q_138] ++ [q_146] ++ [q_154] ++ [q_162] := List.mem_append_left _ hL_788
  have hF_870 : f_856 q_31 = eI K 24 (fun _ => 0) := by rw [ef_856]; exact (va_up_ne _ _ hN_871).trans hF_840
  have hN_874 : q_39 ≠ q_162 := fun h => hq_162 (h ▸ hL_791)
  have hL_872 : q_39 ∈ L ++ [q_7] ++ [q_15] ++ [q_23] ++ [q_31] ++ [q_39] ++ [q_47] ++ [q_55] ++ [q_63] ++ [q_71] ++ [q_80] ++ [q_89] ++ [q_98] ++ [q_106] ++ [q_114] ++ [q_122] ++ [q_130] ++ [q_138] ++ [q_146] ++ [q_154] ++ [q_162] := List.mem_append_left _ hL_791
  have hF_873 : f_856 q_39 = eI K 24 (fun _ => 0) := by rw [ef_856]; exact (va_up_ne _ _ hN_874).trans hF_841
  have hN_877 : q_47 ≠ q_162 := fun h => hq_162 (h ▸ hL_794)
  have hL_875 : q_47 ∈ L ++ [q_7] ++ [q_15] ++ [q_23] ++ [q_31] ++ [q_39] ++ [q_47] ++ [q_55] ++ [q_63] ++ [q_71] ++ [q_80] ++ [q_89] ++ [q_98] ++ [q_106] ++ [q_114] ++ [q_122] ++ [q_130] ++ [q_138] ++ [q_146] ++ [q_154] ++ [q_162] := List.mem_append_left _ hL_794
  have hF_876 : f_856 q_47 = eI K 24 (fun _ => 0) := by rw [ef_856]; exact (va_up_ne _ _ hN_877).trans hF_842
  have hN_880 : q_55 ≠ q_162 := fun h => hq_162 (h ▸ hL_797)
  have hL_878 : q_55 ∈ L ++ [q_7] ++ [q_15] ++ [q_23] ++ [q_31] ++ [q_39] ++ [q_47] ++ [q_55] ++ [q_63] ++ [q_71] ++ [q_80] ++ [q_89] ++ [q_98] ++ [q_106] ++ [q_114] ++ [q_122] ++ [q_130] ++ [q_138] ++ [q_146] ++ [q_154] ++ [q_162] := List.mem_append_left _ hL_797
  have hF_879 : f_856 q_55 = eI K 6 (fun _ => 0) := by rw [ef_856]; exact (va_up_ne _ _ hN_880).trans hF_843
  have hN_883 : q_63 ≠ q_162 := fun h => hq_162 (h ▸ hL_800)
  have hL_881 : q_63 ∈ L ++ [q_7] ++ [q_15] ++ [q_23] ++ [q_31] ++ [q_39] ++ [q_47] ++ [q_55] ++ [q_63] ++ [q_71] ++ [q_80] ++ [q_89] ++ [q_98] ++ [q_106] ++ [q_114] ++ [q_122] ++ [q_130] ++ [q_138] ++ [q_146] ++ [q_154] ++ [q_162] := List.mem_append_left _ hL_800
  have hF_882 : f_856 q_63 = eI K 6 (fun _ => 0) := by rw [ef_856]; exact (va_up_ne _ _ hN_883).trans hF_844
  have hN_886 : q_71 ≠ q_162 := fun h => hq_162 (h ▸ hL_803)
  have hL_884 : q_71 ∈ L ++ [q_7] ++ [q_15] ++ [q_23] ++ [q_31] ++ [q_39] ++ [q_47] ++ [q_55] ++ [q_63] ++ [q_71] ++ [q_80] ++ [q_89] ++ [q_98] ++ [q_106] ++ [q_114] ++ [q_122] ++ [q_130] ++ [q_138] ++ [q_146] ++ [q_154] ++ [q_162] := List.mem_append_left _ hL_803
  have hF_885 : f_856 q_71 = eI K 6 (fun _ => 0) := by rw [ef_856]; exact (va_up_ne _ _ hN_886).trans hF_845
  have hN_889 : q_80 ≠ q_162 := fun h => hq_162 (h ▸ hL_806)
  have hL_887 : q_80 ∈ L ++ [q_7] ++ [q_15] ++ [q_23] ++ [q_31] ++ [q_39] ++ [q_47] ++ [q_55] ++ [q_63] ++ [q_71] ++ [q_80] ++ [q_89] ++ [q_98] ++ [q_106] ++ [q_114] ++ [q_122] ++ [q_130] ++ [q_138] ++ [q_146] ++ [q_154] ++ [q_162] := List.mem_append_left _ hL_806
  have hF_888 : f_856 q_80 = eZ K 1000 (fun _ => 0) := by rw [ef_856]; exact (va_up_ne _ _ hN_889).trans hF_846
  have hN_892 : q_89 ≠ q_162 := fun h => hq_162 (h ▸ hL_809)
  have hL_890 : q_89 ∈ L ++ [q_7] ++ [q_15] ++ [q_23] ++ [q_31] ++ [q_39] ++ [q_47] ++ [q_55] ++ [q_63] ++ [q_71] ++ [q_80] ++ [q_89] ++ [q_98] ++ [q_106] ++ [q_114] ++ [q_122] ++ [q_130] ++ [q_138] ++ [q_146] ++ [q_154] ++ [q_162] := List.mem_append_left _ hL_809
  have hF_891 : f_856 q_89 = eZ K 6000 (fun _ => 0) := by rw [ef_856]; exact (va_up_ne _ _ hN_892).trans hF_847
  have hN_895 : q_98 ≠ q_162 := fun h => hq_162 (h ▸ hL_812)
  have hL_893 : q_98 ∈ L ++ [q_7] ++ [q_15] ++ [q_23] ++ [q_31] ++ [q_39] ++ [q_47] ++ [q_55] ++ [q_63] ++ [q_71] ++ [q_80] ++ [q_89] ++ [q_98] ++ [q_106] ++ [q_114] ++ [q_122] ++ [q_130] ++ [q_138] ++ [q_146] ++ [q_154] ++ [q_162] := List.mem_append_left _ hL_812
  have hF_894 : f_856 q_98 = eD K 6000 (fun _ => 0) := by rw [ef_856]; exact (va_up_ne _ _ hN_895).trans hF_848
  have hN_898 : q_106 ≠ q_162 := fun h => hq_162 (h ▸ hL_815)
  have hL_896 : q_106 ∈ L ++ [q_7] ++ [q_15] ++ [q_23] ++ [q_31] ++ [q_39] ++ [q_47] ++ [q_55] ++ [q_63] ++ [q_71] ++ [q_80] ++ [q_89] ++ [q_98] ++ [q_106] ++ [q_114] ++ [q_122] ++ [q_130] ++ [q_138] ++ [q_146] ++ [q_154] ++ [q_162] := List.mem_append_left _ hL_815
  have hF_897 : f_856 q_106 = eI K 6 (fun _ => 0) := by rw [ef_856]; exact (va_up_ne _ _ hN_898).trans hF_849
  have hN_901 : q_114 ≠ q_162 := fun h => hq_162 (h ▸ hL_818)
  have hL_899 : q_114 ∈ L ++ [q_7] ++ [q_15] ++ [q_23] ++ [q_31] ++ [q_39] ++ [q_47] ++ [q_55] ++ [q_63] ++ [q_71] ++ [q_80] ++ [q_89] ++ [q_98] ++ [q_106] ++ [q_114] ++ [q_122] ++ [q_130] ++ [q_138] ++ [q_146] ++ [q_154] ++ [q_162] := List.mem_append_left _ hL_818
  have hF_900 : f_856 q_114 = eD K 120 (fun _ => 0) := by rw [ef_856]; exact (va_up_ne _ _ hN_901).trans hF_850
  have hN_904 : q_122 ≠ q_162 := fun h => hq_162 (h ▸ hL_821)
  have hL_902 : q_122 ∈ L ++ [q_7] ++ [q_15] ++ [q_23] ++ [q_31] ++ [q_39] ++ [q_47] ++ [q_55] ++ [q_63] ++ [q_71] ++ [q_80] ++ [q_89] ++ [q_98] ++ [q_106] ++ [q_114] ++ [q_122] ++ [q_130] ++ [q_138] ++ [q_146] ++ [q_154] ++ [q_162] := List.mem_append_left _ hL_821
  have hF_903 : f_856 q_122 = eI K 120 (fun _ => 0) := by rw [ef_856]; exact (va_up_ne _ _ hN_904).trans hF_851
  have hN_907 : q_130 ≠ q_162 := fun h => hq_162 (h ▸ hL_824)
  have hL_905 : q_130 ∈ L ++ [q_7] ++ [q_15] ++ [q_23] ++ [q_31] ++ [q_39] ++ [q_47] ++ [q_55] ++ [q_63] ++ [q_71] ++ [q_80] ++ [q_89] ++ [q_98] ++ [q_106] ++ [q_114] ++ [q_122] ++ [q_130] ++ [q_138] ++ [q_146] ++ [q_154] ++ [q_162] := List.mem_append_left _ hL_824
  have hF_906 : f_856 q_130 = eI K 12 (fun _ => 0) := by rw [ef_856]; exact (va_up_ne _ _ hN_907).trans hF_852
  have hN_910 : q_138 ≠ q_162 := fun h => hq_162 (h ▸ hL_827)
  have hL_908 : q_138 ∈ L ++ [q_7] ++ [q_15] ++ [q_23] ++ [q_31] ++ [q_39] ++ [q_47] ++ [q_55] ++ [q_63] ++ [q_71] ++ [q_80] ++ [q_89] ++ [q_98] ++ [q_106] ++ [q_114] ++ [q_122] ++ [q_130] ++ [q_138] ++ [q_146] ++ [q_154] ++ [q_162] := List.mem_append_left _ hL_827
  have hF_909 : f_856 q_138 = eI K 12 (fun _ => 0) := by rw [ef_856]; exact (va_up_ne _ _ hN_910).trans hF_853
  have hN_913 : q_146 ≠ q_162 := fun h => hq_162 (h ▸ hL_830)
  have hL_911 : q_146 ∈ L ++ [q_7] ++ [q_15] ++ [q_23] ++ [q_31] ++ [q_39] ++ [q_47] ++ [q_55] ++ [q_63] ++ [q_71] ++ [q_80] ++ [q_89] ++ [q_98] ++ [q_106] ++ [q_114] ++ [q_122] ++ [q_130] ++ [q_138] ++ [q_146] ++ [q_154] ++ [q_162] := List.mem_append_left _ hL_830
  have hF_912 : f_856 q_146 = eI K 12 (fun _ => 0) := by rw [ef_856]; exact (va_up_ne _ _ hN_913).trans hF_854
  have hN_916 : q_154 ≠ q_162 := fun h => hq_162 (h ▸ hL_833)
  have hL_914 : q_154 ∈ L ++ [q_7] ++ [q_15] ++ [q_23] ++ [q_31] ++ [q_39] ++ [q_47] ++ [q_55] ++ [q_63] ++ [q_71] ++ [q_80] ++ [q_89] ++ [q_98] ++ [q_106] ++ [q_114] ++ [q_122] ++ [q_130] ++ [q_138] ++ [q_146] ++ [q_154] ++ [q_162] := List.mem_append_left _ hL_833
  have hF_915 : f_856 q_154 = eZ K 12 (fun _ => 0) := by rw [ef_856]; exact (va_up_ne _ _ hN_916).trans hF_855
  have hL_917 : q_162 ∈ L ++ [q_7] ++ [q_15] ++ [q_23] ++ [q_31] ++ [q_39] ++ [q_47] ++ [q_55] ++ [q_63] ++ [q_71] ++ [q_80] ++ [q_89] ++ [q_98] ++ [q_106] ++ [q_114] ++ [q_122] ++ [q_130] ++ [q_138] ++ [q_146] ++ [q_154] ++ [q_162] := List.mem_append_right _ List.mem_cons_self
  have hF_918 : f_856 q_162 = eI K 30 (fun _ => 0) := by rw [ef_856]; exact va_up_self _ _ _
  refine z_putF (fs' := [.int (nI 0), .int (nI 0), .ref q_7, .ref q_15, .ref q_23, .ref q_31, .ref q_39, .ref q_47, .ref q_55, .ref q_63, .ref q_71, .ref q_80, .ref q_89, .ref q_98, .ref q_106, .ref q_114, .ref q_122, .double 0, .int (nI 0), .int (nI 0), .ref q_130, .ref q_138, .ref q_146, .ref q_154, .int (nI 0), .ref q_162, .null]) hC hM hnm hL_857 hF_858 zcl_X7 (by decide) zl_X7_69 rfl rfl rfl (by rfl) (Nat.le_of_ble_eq_true rfl) rfl dX7_init_164 (fun H locs hM => ?_)
  obtain ⟨f_919, ef_919⟩ : ∃ z9, z9 = va_up f_856 o (eS 8 [.int (nI 0), .int (nI 0), .ref q_7, .ref q_15, .ref q_23, .ref q_31, .ref q_39, .ref q_47, .ref q_55, .ref q_63, .ref q_71, .ref q_80, .ref q_89, .ref q_98, .ref q_106, .ref q_114, .ref q_122, .double 0, .int (nI 0), .int (nI 0), .ref q_130, .ref q_138, .ref q_146, .ref q_154, .int (nI 0), .ref q_162, .null]) := ⟨_, rfl⟩
  rw [← ef_919] at hM
  have hF_920 : f_919 o = eS 8 [.int (nI 0), .int (nI 0), .ref q_7, .ref q_15, .ref q_23, .ref q_31, .ref q_39, .ref q_47, .ref q_55, .ref q_63, .ref q_71, .ref q_80, .ref q_89, .ref q_98, .ref q_106, .ref q_114, .ref q_122, .double 0, .int (nI 0), .int (nI 0), .ref q_130, .ref q_138, .ref q_146, .ref q_154, .int (nI 0), .ref q_162, .null] := by rw [ef_919]; exact va_up_self _ _ _
  have hF_921 : f_919 q_7 = eI K 6 (fun _ => 0) := by rw [ef_919]; exact (va_up_ne _ _ (Ne.symm hN_4)).trans hF_861
  have hF_922 : f_919 q_15 = eI K 6 (fun _ => 0) := by rw [ef_919]; exact (va_up_ne _ _ (Ne.symm hN_13)).trans hF_864
  have hF_923 : f_919 q_23 = eI K 24 (fun _ => 0) := by rw [ef_919]; exact (va_up_ne _ _ (Ne.symm hN_26)).trans hF_867
  have hF_924 : f_919 q_31 = eI K 24 (fun _ => 0) := by rw [ef_919]; exact (va_up_ne _ _ (Ne.symm hN_43)).trans hF_870
  have hF_925 : f_919 q_39 = eI K 24 (fun _ => 0) := by rw [ef_919]; exact (va_up_ne _ _ (Ne.symm hN_64)).trans hF_873
  have hF_926 : f_919 q_47 = eI K 24 (fun _ => 0) := by rw [ef_919]; exact (va_up_ne _ _ (Ne.symm hN_89)).trans hF_876
  have hF_927 : f_919 q_55 = eI K 6 (fun _ => 0) := by rw [ef_919]; exact (va_up_ne _ _ (Ne.symm hN_118)).trans hF_879
  have hF_928 : f_919 q_63 = eI K 6 (fun _ => 0) := by rw [ef_919]; exact (va_up_ne _ _ (Ne.symm hN_151)).trans hF_882
  have hF_929 : f_919 q_71 = eI K 6 (fun _ => 0) := by rw [ef_919]; exact (va_up_ne _ _ (Ne.symm hN_188)).trans hF_885
  have hF_930 : f_919 q_80 = eZ K 1000 (fun _ => 0) := by rw [ef_919]; exact (va_up_ne _ _ (Ne.symm hN_229)).trans hF_888
  have hF_931 : f_919 q_89 = eZ K 6000 (fun _ => 0) := by rw [ef_919]; exact (va_up_ne _ _ (Ne.symm hN_274)).trans hF_891
  have hF_932 : f_919 q_98 = eD K 6000 (fun _ => 0) := by rw [ef_919]; exact (va_up_ne _ _ (Ne.symm hN_323)).trans hF_894
  have hF_933 : f_919 q_106 = eI K 6 (fun _ => 0) := by rw [ef_919]; exact (va_up_ne _ _ (Ne.symm hN_376)).trans hF_897
  have hF_934 : f_919 q_114 = eD K 120 (fun _ => 0) := by rw [ef_919]; exact (va_up_ne _ _ (Ne.symm hN_433)).trans hF_900
  have hF_935 : f_919 q_122 = eI K 120 (fun _ => 0) := by rw [ef_919]; exact (va_up_ne _ _ (Ne.symm hN_494)).trans hF_903
  have hF_936 : f_919 q_130 = eI K 12 (fun _ => 0) := by rw [ef_919]; exact (va_up_ne _ _ (Ne.symm hN_559)).trans hF_906
  have hF_937 : f_919 q_138 = eI K 12 (fun _ => 0) := by rw [ef_919]; exact (va_up_ne _ _ (Ne.symm hN_628)).trans hF_909
  have hF_938 : f_919 q_146 = eI K 12 (fun _ => 0) := by rw [ef_919]; exact (va_up_ne _ _ (Ne.symm hN_701)).trans hF_912
  have hF_939 : f_919 q_154 = eZ K 12 (fun _ => 0) := by rw [ef_919]; exact (va_up_ne _ _ (Ne.symm hN_778)).trans hF_915
  have hF_940 : f_919 q_162 = eI K 30 (fun _ => 0) := by rw [ef_919]; exact (va_up_ne _ _ (Ne.symm hN_859)).trans hF_918
  refine lv_aload_n hx hb dX7_init_167 rfl (lv_at hl 0 rfl) ?_
  refine lv_bipush (v := nI 30) hx hb dX7_init_168 (by decide) ?_
  refine z_newI hC hM zarr_int (by decide) (by decide) (by decide) dX7_init_170 (fun q_170 H hq_170 hM => ?_)
  obtain ⟨f_941, ef_941⟩ : ∃ z9, z9 = va_up f_919 q_170 (eI K 30 (fun _ => 0)) := ⟨_, rfl⟩
  rw [← ef_941] at hM
  have hN_944 : o ≠ q_170 := fun h => hq_170 (h ▸ hL_857)
  have hL_942 : o ∈ L ++ [q_7] ++ [q_15] ++ [q_23] ++ [q_31] ++ [q_39] ++ [q_47] ++ [q_55] ++ [q_63] ++ [q_71] ++ [q_80] ++ [q_89] ++ [q_98] ++ [q_106] ++ [q_114] ++ [q_122] ++ [q_130] ++ [q_138] ++ [q_146] ++ [q_154] ++ [q_162] ++ [q_170] := List.mem_append_left _ hL_857
  have hF_943 : f_941 o = eS 8 [.int (nI 0), .int (nI 0), .ref q_7, .ref q_15, .ref q_23, .ref q_31, .ref q_39, .ref q_47, .ref q_55, .ref q_63, .ref q_71, .ref q_80, .ref q_89, .ref q_98, .ref q_106, .ref q_114, .ref q_122, .double 0, .int (nI 0), .int (nI 0), .ref q_130, .ref q_138, .ref q_146, .ref q_154, .int (nI 0), .ref q_162, .null] := by rw [ef_941]; exact (va_up_ne _ _ hN_944).trans hF_920
  have hN_947 : q_7 ≠ q_170 := fun h => hq_170 (h ▸ hL_860)
  have hL_945 : q_7 ∈ L ++ [q_7] ++ [q_15] ++ [q_23] ++ [q_31] ++ [q_39] ++ [q_47] ++ [q_55] ++ [q_63] ++ [q_71] ++ [q_80] ++ [q_89] ++ [q_98] ++ [q_106] ++ [q_114] ++ [q_122] ++ [q_130] ++ [q_138] ++ [q_146] ++ [q_154] ++ [q_162] ++ [q_170] := List.mem_append_left _ hL_860
  have hF_946 : f_941 q_7 = eI K 6 (fun _ => 0) := by rw [ef_941]; exact (va_up_ne _ _ hN_947).trans hF_921
  have hN_950 : q_15 ≠ q_170 := fun h => hq_170 (h ▸ hL_863)
  have hL_948 : q_15 ∈ L ++ [q_7] ++ [q_15] ++ [q_23] ++ [q_31] ++ [q_39] ++ [q_47] ++ [q_55] ++ [q_63] ++ [q_71] ++ [q_80] ++ [q_89] ++ [q_98] ++ [q_106] ++ [q_114] ++ [q_122] ++ [q_130] ++ [q_138] ++ [q_146] ++ [q_154] ++ [q_162] ++ [q_170] := List.mem_append_left _ hL_863
  have hF_949 : f_941 q_15 = eI K 6 (fun _ => 0) := by rw [ef_941]; exact (va_up_ne _ _ hN_950).trans hF_922
  have hN_953 : q_23 ≠ q_170 := fun h => hq_170 (h ▸ hL_866)
  have hL_951 : q_23 ∈ L ++ [q_7] ++ [q_15] ++ [q_23] ++ [q_31] ++ [q_39] ++ [q_47] ++ [q_55] ++ [q_63] ++ [q_71] ++ [q_80] ++ [q_89] ++ [q_98] ++ [q_106] ++ [q_114] ++ [q_122] ++ [q_130] ++ [q_138] ++ [q_146] ++ [q_154] ++ [q_162] ++ [q_170] := List.mem_append_left _ hL_866
  have hF_952 : f_941 q_23 = eI K 24 (fun _ => 0) := by rw [ef_941]; exact (va_up_ne _ _ hN_953).trans hF_923
  have hN_956 : q_31 ≠ q_170 := fun h => hq_170 (h ▸ hL_869)
  have hL_954 : q_31 ∈ L ++ [q_7] ++ [q_15] ++ [q_23] ++ [q_31] ++ [q_39] ++ [q_47] ++ [q_55] ++ [q_63] ++ [q_71] ++ [q_80] ++ [q_89] ++ [q_98] ++ [q_106] ++ [q_114] ++ [q_122] ++ [q_130] ++ [q_138] ++ [q_146] ++ [q_154] ++ [q_162] ++ [q_170] := List.mem_append_left _ hL_869
  have hF_955 : f_941 q_31 = eI K 24 (fun _ => 0) := by rw [ef_941]; exact (va_up_ne _ _ hN_956).trans hF_924
  have hN_959 : q_39 ≠ q_170 := fun h => hq_170 (h ▸ hL_872)
  have hL_957 : q_39 ∈ L ++ [q_7] ++ [q_15] ++ [q_23] ++ [q_31] ++ [q_39] ++ [q_47] ++ [q_55] ++ [q_63] ++ [q_71] ++ [q_80] ++ [q_89] ++ [q_98] ++ [q_106] ++ [q_114] ++ [q_122] ++ [q_130] ++ [q_138] ++ [q_146] ++ [q_154] ++ [q_162] ++ [q_170] := List.mem_append_left _ hL_872
  have hF_958 : f_941 q_39 = eI K 24 (fun _ => 0) := by rw [ef_941]; exact (va_up_ne _ _ hN_959).trans hF_925
  have hN_962 : q_47 ≠ q_170 := fun h => hq_170 (h ▸ hL_875)
  have hL_960 : q_47 ∈ L ++ [q_7] ++ [q_15] ++ [q_23] ++ [q_31] ++ [q_39] ++ [q_47] ++ [q_55] ++ [q_63] ++ [q_71] ++ [q_80] ++ [q_89] ++ [q_98] ++ [q_106] ++ [q_114] ++ [q_122] ++ [q_130] ++ [q_138] ++ [q_146] ++ [q_154] ++ [q_162] ++ [q_170] := List.mem_append_left _ hL_875
  have hF_961 : f_941 q_47 = eI K 24 (fun _ => 0) := by rw [ef_941]; exact (va_up_ne _ _ hN_962).trans hF_926
  have hN_965 : q_55 ≠ q_170 := fun h => hq_170 (h ▸ hL_878)
  have hL_963 : q_55 ∈ L ++ [q_7] ++ [q_15] ++ [q_23] ++ [q_31] ++ [q_39] ++ [q_47] ++ [q_55] ++ [q_63] ++ [q_71] ++ [q_80] ++ [q_89] ++ [q_98] ++ [q_106] ++ [q_114] ++ [q_122] ++ [q_130] ++ [q_138] ++ [q_146] ++ [q_154] ++ [q_162] ++ [q_170] := List.mem_append_left _ hL_878
  have hF_964 : f_941 q_55 = eI K 6 (fun _ => 0) := by rw [ef_941]; exact (va_up_ne _ _ hN_965).trans hF_927
  have hN_968 : q_63 ≠ q_170 := fun h => hq_170 (h ▸ hL_881)
  have hL_966 : q_63 ∈ L ++ [q_7] ++ [q_15] ++ [q_23] ++ [q_31] ++ [q_39] ++ [q_47] ++ [q_55] ++ [q_63] ++ [q_71] ++ [q_80] ++ [q_89] ++ [q_98] ++ [q_106] ++ [q_114] ++ [q_122] ++ [q_130] ++ [q_138] ++ [q_146] ++ [q_154] ++ [q_162] ++ [q_170] := List.mem_append_left _ hL_881
  have hF_967 : f_941 q_63 = eI K 6 (fun _ => 0) := by rw [ef_941]; exact (va_up_ne _ _ hN_968).trans hF_928
  have hN_971 : q_71 ≠ q_170 := fun h => hq_170 (h ▸ hL_884)
  have hL_969 : q_71 ∈ L ++ [q_7] ++ [q_15] ++ [q_23] ++ [q_31] ++ [q_39] ++ [q_47] ++ [q_55] ++ [q_63] ++ [q_71] ++ [q_80] ++ [q_89] ++ [q_98] ++ [q_106] ++ [q_114] ++ [q_122] ++ [q_130] ++ [q_138] ++ [q_146] ++ [q_154] ++ [q_162] ++ [q_170] := List.mem_append_left _ hL_884
  have hF_970 : f_941 q_71 = eI K 6 (fun _ => 0) := by rw [ef_941]; exact (va_up_ne _ _ hN_971).trans hF_929
  have hN_974 : q_80 ≠ q_170 := fun h => hq_170 (h ▸ hL_887)
  have hL_972 : q_80 ∈ L ++ [q_7] ++ [q_15] ++ [q_23] ++ [q_31] ++ [q_39] ++ [q_47] ++ [q_55] ++ [q_63] ++ [q_71] ++ [q_80] ++ [q_89] ++ [q_98] ++ [q_106] ++ [q_114] ++ [q_122] ++ [q_130] ++ [q_138] ++ [q_146] ++ [q_154] ++ [q_162] ++ [q_170] := List.mem_append_left _ hL_887
  have hF_973 : f_941 q_80 = eZ K 1000 (fun _ => 0) := by rw [ef_941]; exact (va_up_ne _ _ hN_974).trans hF_930
  have hN_977 : q_89 ≠ q_170 := fun h => hq_170 (h ▸ hL_890)
  have hL_975 : q_89 ∈ L ++ [q_7] ++ [q_15] ++ [q_23] ++ [q_31] ++ [q_39] ++ [q_47] ++ [q_55] ++ [q_63] ++ [q_71] ++ [q_80] ++ [q_89] ++ [q_98] ++ [q_106] ++ [q_114] ++ [q_122] ++ [q_130] ++ [q_138] ++ [q_146] ++ [q_154] ++ [q_162] ++ [q_170] := List.mem_append_left _ hL_890
  have hF_976 : f_941 q_89 = eZ K 6000 (fun _ => 0) := by rw [ef_941]; exact (va_up_ne _ _ hN_977).trans hF_931
  have hN_980 : q_98 ≠ q_170 := fun h => hq_170 (h ▸ hL_893)
  have hL_978 : q_98 ∈ L ++ [q_7] ++ [q_15] ++ [q_23] ++ [q_31] ++ [q_39] ++ [q_47] ++ [q_55] ++ [q_63] ++ [q_71] ++ [q_80] ++ [q_89] ++ [q_98] ++ [q_106] ++ [q_114] ++ [q_122] ++ [q_130] ++ [q_138] ++ [q_146] ++ [q_154] ++ [q_162] ++ [q_170] := List.mem_append_left _ hL_893
  have hF_979 : f_941 q_98 = eD K 6000 (fun _ => 0) := by rw [ef_941]; exact (va_up_ne _ _ hN_980).trans hF_932
  have hN_983 : q_106 ≠ q_170 := fun h => hq_170 (h ▸ hL_896)
  have hL_981 : q_106 ∈ L ++ [q_7] ++ [q_15] ++ [q_23] ++ [q_31] ++ [q_39] ++ [q_47] ++ [q_55] ++ [q_63] ++ [q_71] ++ [q_80] ++ [q_89] ++ [q_98] ++ [q_106] ++ [q_114] ++ [q_122] ++ [q_130] ++ [q_138] ++ [q_146] ++ [q_154] ++ [q_162] ++ [q_170] := List.mem_append_left _ hL_896
  have hF_982 : f_941 q_106 = eI K 6 (fun _ => 0) := by rw [ef_941]; exact (va_up_ne _ _ hN_983).trans hF_933
  have hN_986 : q_114 ≠ q_170 := fun h => hq_170 (h ▸ hL_899)
  have hL_984 : q_114 ∈ L ++ [q_7] ++ [q_15] ++ [q_23] ++ [q_31] ++ [q_39] ++ [q_47] ++ [q_55] ++ [q_63] ++ [q_71] ++ [q_80] ++ [q_89] ++ [q_98] ++ [q_106] ++ [q_114] ++ [q_122] ++ [q_130] ++ [q_138] ++ [q_146] ++ [q_154] ++ [q_162] ++ [q_170] := List.mem_append_left _ hL_899
  have hF_985 : f_941 q_114 = eD K 120 (fun _ => 0) := by rw [ef_941]; exact (va_up_ne _ _ hN_986).trans hF_934
  have hN_989 : q_122 ≠ q_170 := fun h => hq_170 (h ▸ hL_902)
  have hL_987 : q_122 ∈ L ++ [q_7] ++ [q_15] ++ [q_23] ++ [q_31] ++ [q_39] ++ [q_47] ++ [q_55] ++ [q_63] ++ [q_71] ++ [q_80] ++ [q_89] ++ [q_98] ++ [q_106] ++ [q_114] ++ [q_122] ++ [q_130] ++ [q_138] ++ [q_146] ++ [q_154] ++ [q_162] ++ [q_170] := List.mem_append_left _ hL_902
  have hF_988 : f_941 q_122 = eI K 120 (fun _ => 0) := by rw [ef_941]; exact (va_up_ne _ _ hN_989).trans hF_935
  have hN_992 : q_130 ≠ q_170 := fun h => hq_170 (h ▸ hL_905)
  have hL_990 : q_130 ∈ L ++ [q_7] ++ [q_15] ++ [q_23] ++ [q_31] ++ [q_39] ++ [q_47] ++ [q_55] ++ [q_63] ++ [q_71] ++ [q_80] ++ [q_89] ++ [q_98] ++ [q_106] ++ [q_114] ++ [q_122] ++ [q_130] ++ [q_138] ++ [q_146] ++ [q_154] ++ [q_162] ++ [q_170] := List.mem_append_left _ hL_905
  have hF_991 : f_941 q_130 = eI K 12 (fun _ => 0) := by rw [ef_941]; exact (va_up_ne _ _ hN_992).trans hF_936
  have hN_995 : q_138 ≠ q_170 := fun h => hq_170 (h ▸ hL_908)
  have hL_993 : q_138 ∈ L ++ [q_7] ++ [q_15] ++ [q_23] ++ [q_31] ++ [q_39] ++ [q_47] ++ [q_55] ++ [q_63] ++ [q_71] ++ [q_80] ++ [q_89] ++ [q_98] ++ [q_106] ++ [q_114] ++ [q_122] ++ [q_130] ++ [q_138] ++ [q_146] ++ [q_154] ++ [q_162] ++ [q_170] := List.mem_append_left _ hL_908
  have hF_994 : f_941 q_138 = eI K 12 (fun _ => 0) := by rw [ef_941]; exact (va_up_ne _ _ hN_995).trans hF_937
  have hN_998 : q_146 ≠ q_170 := fun h => hq_170 (h ▸ hL_911)
  have hL_996 : q_146 ∈ L ++ [q_7] ++ [q_15] ++ [q_23] ++ [q_31] ++ [q_39] ++ [q_47] ++ [q_55] ++ [q_63] ++ [q_71] ++ [q_80] ++ [q_89] ++ [q_98] ++ [q_106] ++ [q_114] ++ [q_122] ++ [q_130] ++ [q_138] ++ [q_146] ++ [q_154] ++ [q_162] ++ [q_170] := List.mem_append_left _ hL_911
  have hF_997 : f_941 q_146 = eI K 12 (fun _ => 0) := by rw [ef_941]; exact (va_up_ne _ _ hN_998).trans hF_938
  have hN_1001 : q_154 ≠ q_170 := fun h => hq_170 (h ▸ hL_914)
  have hL_999 : q_154 ∈ L ++ [q_7] ++ [q_15] ++ [q_23] ++ [q_31] ++ [q_39] ++ [q_47] ++ [q_55] ++ [q_63] ++ [q_71] ++ [q_80] ++ [q_89] ++ [q_98] ++ [q_106] ++ [q_114] ++ [q_122] ++ [q_130] ++ [q_138] ++ [q_146] ++ [q_154] ++ [q_162] ++ [q_170] := List.mem_append_left _ hL_914
  have hF_1000 : f_941 q_154 = eZ K 12 (fun _ => 0) := by rw [ef_941]; exact (va_up_ne _ _ hN_1001).trans hF_939
  have hN_1004 : q_162 ≠ q_170 := fun h => hq_170 (h ▸ hL_917)
  have hL_1002 : q_162 ∈ L ++ [q_7] ++ [q_15] ++ [q_23] ++ [q_31] ++ [q_39] ++ [q_47] ++ [q_55] ++ [q_63] ++ [q_71] ++ [q_80] ++ [q_89] ++ [q_98] ++ [q_106] ++ [q_114] ++ [q_122] ++ [q_130] ++ [q_138] ++ [q_146] ++ [q_154] ++ [q_162] ++ [q_170] := List.mem_append_left _ hL_917
  have hF_1003 : f_941 q_162 = eI K 30 (fun _ => 0) := by rw [ef_941]; exact (va_up_ne _ _ hN_1004).trans hF_940
  have hL_1005 : q_170 ∈ L ++ [q_7] ++ [q_15] ++ [q_23] ++ [q_31] ++ [q_39] ++ [q_47] ++ [q_55] ++ [q_63] ++ [q_71] ++ [q_80] ++ [q_89] ++ [q_98] ++ [q_106] ++ [q_114] ++ [q_122] ++ [q_130] ++ [q_138] ++ [q_146] ++ [q_154] ++ [q_162] ++ [q_170] := List.mem_append_right _ List.mem_cons_self
  have hF_1006 : f_941 q_170 = eI K 30 (fun _ => 0) := by rw [ef_941]; exact va_up_self _ _ _
  refine z_putF (fs' := [.int (nI 0), .int (nI 0), .ref q_7, .ref q_15, .ref q_23, .ref q_31, .ref q_39, .ref q_47, .ref q_55, .ref q_63, .ref q_71, .ref q_80, .ref q_89, .ref q_98, .ref q_106, .ref q_114, .ref q_122, .double 0, .int (nI 0), .int (nI 0), .ref q_130, .ref q_138, .ref q_146, .ref q_154, .int (nI 0), .ref q_162, .ref q_170]) hC hM hnm hL_942 hF_943 zcl_X7 (by decide) zl_X7_72 rfl rfl rfl (by rfl) (Nat.le_of_ble_eq_true rfl) rfl dX7_init_172 (fun H locs hM => ?_)
  obtain ⟨f_1007, ef_1007⟩ : ∃ z9, z9 = va_up f_941 o (eS 8 [.int (nI 0), .int (nI 0), .ref q_7, .ref q_15, .ref q_23, .ref q_31, .ref q_39, .ref q_47, .ref q_55, .ref q_63, .ref q_71, .ref q_80, .ref q_89, .ref q_98, .ref q_106, .ref q_114, .ref q_122, .double 0, .int (nI 0), .int (nI 0), .ref q_130, .ref q_138, .ref q_146, .ref q_154, .int (nI 0), .ref q_162, .ref q_170]) := ⟨_, rfl⟩
  rw [← ef_1007] at hM
  have hF_1008 : f_1007 o = eS 8 [.int (nI 0), .int (nI 0), .ref q_7, .ref q_15, .ref q_23, .ref q_31, .ref q_39, .ref q_47, .ref q_55, .ref q_63, .ref q_71, .ref q_80, .ref q_89, .ref q_98, .ref q_106, .ref q_114, .ref q_122, .double 0, .int (nI 0), .int (nI 0), .ref q_130, .ref q_138, .ref q_146, .ref q_154, .int (nI 0), .ref q_162, .ref q_170] := by rw [ef_1007]; exact va_up_self _ _ _
  have hF_1009 : f_1007 q_7 = eI K 6 (fun _ => 0) := by rw [ef_1007]; exact (va_up_ne _ _ (Ne.symm hN_4)).trans hF_946
  have hF_1010 : f_1007 q_15 = eI K 6 (fun _ => 0) := by rw [ef_1007]; exact (va_up_ne _ _ (Ne.symm hN_13)).trans hF_949
  have hF_1011 : f_1007 q_23 = eI K 24 (fun _ => 0) := by rw [ef_1007]; exact (va_up_ne _ _ (Ne.symm hN_26)).trans hF_952
  have hF_1012 : f_1007 q_31 = eI K 24 (fun _ => 0) := by rw [ef_1007]; exact (va_up_ne _ _ (Ne.symm hN_43)).trans hF_955
  have hF_1013 : f_1007 q_39 = eI K 24 (fun _ => 0) := by rw [ef_1007]; exact (va_up_ne _ _ (Ne.symm hN_64)).trans hF_958
  have hF_1014 : f_1007 q_47 = eI K 24 (fun _ => 0) := by rw [ef_1007]; exact (va_up_ne _ _ (Ne.symm hN_89)).trans hF_961
  have hF_1015 : f_1007 q_55 = eI K 6 (fun _ => 0) := by rw [ef_1007]; exact (va_up_ne _ _ (Ne.symm hN_118)).trans hF_964
  have hF_1016 : f_1007 q_63 = eI K 6 (fun _ => 0) := by rw [ef_1007]; exact (va_up_ne _ _ (Ne.symm hN_151)).trans hF_967
  have hF_1017 : f_1007 q_71 = eI K 6 (fun _ => 0) := by rw [ef_1007]; exact (va_up_ne _ _ (Ne.symm hN_188)).trans hF_970
  have hF_1018 : f_1007 q_80 = eZ K 1000 (fun _ => 0) := by rw [ef_1007]; exact (va_up_ne _ _ (Ne.symm hN_229)).trans hF_973
  have hF_1019 : f_1007 q_89 = eZ K 6000 (fun _ => 0) := by rw [ef_1007]; exact (va_up_ne _ _ (Ne.symm hN_274)).trans hF_976
  have hF_1020 : f_1007 q_98 = eD K 6000 (fun _ => 0) := by rw [ef_1007]; exact (va_up_ne _ _ (Ne.symm hN_323)).trans hF_979
  have hF_1021 : f_1007 q_106 = eI K 6 (fun _ => 0) := by rw [ef_1007]; exact (va_up_ne _ _ (Ne.symm hN_376)).trans hF_982
  have hF_1022 : f_1007 q_114 = eD K 120 (fun _ => 0) := by rw [ef_1007]; exact (va_up_ne _ _ (Ne.symm hN_433)).trans hF_985
  have hF_1023 : f_1007 q_122 = eI K 120 (fun _ => 0) := by rw [ef_1007]; exact (va_up_ne _ _ (Ne.symm hN_494)).trans hF_988
  have hF_1024 : f_1007 q_130 = eI K 12 (fun _ => 0) := by rw [ef_1007]; exact (va_up_ne _ _ (Ne.symm hN_559)).trans hF_991
  have hF_1025 : f_1007 q_138 = eI K 12 (fun _ => 0) := by rw [ef_1007]; exact (va_up_ne _ _ (Ne.symm hN_628)).trans hF_994
  have hF_1026 : f_1007 q_146 = eI K 12 (fun _ => 0) := by rw [ef_1007]; exact (va_up_ne _ _ (Ne.symm hN_701)).trans hF_997
  have hF_1027 : f_1007 q_154 = eZ K 12 (fun _ => 0) := by rw [ef_1007]; exact (va_up_ne _ _ (Ne.symm hN_778)).trans hF_1000
  have hF_1028 : f_1007 q_162 = eI K 30 (fun _ => 0) := by rw [ef_1007]; exact (va_up_ne _ _ (Ne.symm hN_859)).trans hF_1003
  have hF_1029 : f_1007 q_170 = eI K 30 (fun _ => 0) := by rw [ef_1007]; exact (va_up_ne _ _ (Ne.symm hN_944)).trans hF_1006
  rw [← hQ]
  obtain ⟨ma, hma⟩ : ∃ z : Nat → Nat, z = fun k => if k = 0 then o else if k = 2 then q_7 else if k = 3 then q_15 else if k = 4 then q_23 else if k = 5 then q_31 else if k = 6 then q_39 else if k = 7 then q_47 else if k = 8 then q_55 else if k = 9 then q_63 else if k = 10 then q_71 else if k = 11 then q_80 else if k = 12 then q_89 else if k = 13 then q_98 else if k = 14 then q_106 else if k = 15 then q_114 else if k = 16 then q_122 else if k = 20 then q_130 else if k = 21 then q_138 else if k = 22 then q_146 else if k = 23 then q_154 else if k = 25 then q_162 else q_170 := ⟨_, rfl⟩
  have e0 : ma 0 = o := by rw [hma]; rfl
  have e2 : ma 2 = q_7 := by rw [hma]; rfl
  have e3 : ma 3 = q_15 := by rw [hma]; rfl
  have e4 : ma 4 = q_23 := by rw [hma]; rfl
  have e5 : ma 5 = q_31 := by rw [hma]; rfl
  have e6 : ma 6 = q_39 := by rw [hma]; rfl
  have e7 : ma 7 = q_47 := by rw [hma]; rfl
  have e8 : ma 8 = q_55 := by rw [hma]; rfl
  have e9 : ma 9 = q_63 := by rw [hma]; rfl
  have e10 : ma 10 = q_71 := by rw [hma]; rfl
  have e11 : ma 11 = q_80 := by rw [hma]; rfl
  have e12 : ma 12 = q_89 := by rw [hma]; rfl
  have e13 : ma 13 = q_98 := by rw [hma]; rfl
  have e14 : ma 14 = q_106 := by rw [hma]; rfl
  have e15 : ma 15 = q_114 := by rw [hma]; rfl
  have e16 : ma 16 = q_122 := by rw [hma]; rfl
  have e20 : ma 20 = q_130 := by rw [hma]; rfl
  have e21 : ma 21 = q_138 := by rw [hma]; rfl
  have e22 : ma 22 = q_146 := by rw [hma]; rfl
  have e23 : ma 23 = q_154 := by rw [hma]; rfl
  have e25 : ma 25 = q_162 := by rw [hma]; rfl
  have e26 : ma 26 = q_170 := by rw [hma]; rfl
  have s0 : (([0] : List Nat).map ma).Nodup ∧ ∀ x, x ∈ ([0] : List Nat) → ma x ∈ L := ⟨by simp, fun x hx => by rw [List.mem_singleton.mp hx, e0]; exact ho⟩
  have s2 := nd_ix e2 s0 hq_7
  have s3 := nd_ix e3 s2 hq_15
  have s4 := nd_ix e4 s3 hq_23
  have s5 := nd_ix e5 s4 hq_31
  have s6 := nd_ix e6 s5 hq_39
  have s7 := nd_ix e7 s6 hq_47
  have s8 := nd_ix e8 s7 hq_55
  have s9 := nd_ix e9 s8 hq_63
  have s10 := nd_ix e10 s9 hq_71
  have s11 := nd_ix e11 s10 hq_80
  have s12 := nd_ix e12 s11 hq_89
  have s13 := nd_ix e13 s12 hq_98
  have s14 := nd_ix e14 s13 hq_106
  have s15 := nd_ix e15 s14 hq_114
  have s16 := nd_ix e16 s15 hq_122
  have s20 := nd_ix e20 s16 hq_130
  have s21 := nd_ix e21 s20 hq_138
  have s22 := nd_ix e22 s21 hq_146
  have s23 := nd_ix e23 s22 hq_154
  have s25 := nd_ix e25 s23 hq_162
  have s26 := nd_ix e26 s25 hq_170
  have hmi : ∀ k k', mk k → mk k' → ma k = ma k' → k = k' := fun k k' hk hk' => inj_map mkL s26.1 k k' (mk_mem hk) (mk_mem hk')
  have hmm : ∀ k, mk k → ma k ∈ L ++ [q_7] ++ [q_15] ++ [q_23] ++ [q_31] ++ [q_39] ++ [q_47] ++ [q_55] ++ [q_63] ++ [q_71] ++ [q_80] ++ [q_89] ++ [q_98] ++ [q_106] ++ [q_114] ++ [q_122] ++ [q_130] ++ [q_138] ++ [q_146] ++ [q_154] ++ [q_162] ++ [q_170] := mk_all (by rw [e0]; exact hL_942) (by rw [e2]; exact hL_945) (by rw [e3]; exact hL_948) (by rw [e4]; exact hL_951) (by rw [e5]; exact hL_954) (by rw [e6]; exact hL_957) (by rw [e7]; exact hL_960) (by rw [e8]; exact hL_963) (by rw [e9]; exact hL_966) (by rw [e10]; exact hL_969) (by rw [e11]; exact hL_972) (by rw [e12]; exact hL_975) (by rw [e13]; exact hL_978) (by rw [e14]; exact hL_981) (by rw [e15]; exact hL_984) (by rw [e16]; exact hL_987) (by rw [e20]; exact hL_990) (by rw [e21]; exact hL_993) (by rw [e22]; exact hL_996) (by rw [e23]; exact hL_999) (by rw [e25]; exact hL_1002) (by rw [e26]; exact hL_1005)
  have hcell : ∀ k, mk k → f_1007 (ma k) = mC K A0 ma (nI 0) (fun _ => 0, fun _ => 0, 0, nI 0) (fun _ => 0) k := mk_all (by show f_1007 (ma 0) = mO A0 ma (nI 0) (fun _ => 0, fun _ => 0, 0, nI 0); unfold mO; rw [e0, e2, e3, e4, e5, e6, e7, e8, e9, e10, e11, e12, e13, e14, e15, e16, e20, e21, e22, e23, e25, e26]; exact hF_1008) (by rw [e2]; exact hF_1009) (by rw [e3]; exact hF_1010) (by rw [e4]; exact hF_1011) (by rw [e5]; exact hF_1012) (by rw [e6]; exact hF_1013) (by rw [e7]; exact hF_1014) (by rw [e8]; exact hF_1015) (by rw [e9]; exact hF_1016) (by rw [e10]; exact hF_1017) (by rw [e11]; exact hF_1018) (by rw [e12]; exact hF_1019) (by rw [e13]; exact hF_1020) (by rw [e14]; exact hF_1021) (by rw [e15]; exact hF_1022) (by rw [e16]; exact hF_1023) (by rw [e20]; exact hF_1024) (by rw [e21]; exact hF_1025) (by rw [e22]; exact hF_1026) (by rw [e23]; exact hF_1027) (by rw [e25]; exact hF_1028) (by rw [e26]; exact hF_1029)
  refine z_vret hC hM hr hlk (by decide) (by decide) ?_ dX7_init_175
  refine ⟨ma, e0, ⟨hmm, hmi, _, _, fun j hj => absurd hj (Nat.not_lt_zero j), hcell⟩, fun x hx => ⟨?_, fun hxo => ?_⟩⟩
  · exact (app_l _ (app_l _ (app_l _ (app_l _ (app_l _ (app_l _ (app_l _ (app_l _ (app_l _ (app_l _ (app_l _ (app_l _ (app_l _ (app_l _ (app_l _ (app_l _ (app_l _ (app_l _ (app_l _ (app_l _ (app_l _ hx)))))))))))))))))))))
  · have x2 : x ≠ q_7 := ne_of hx hq_7
    have x3 : x ≠ q_15 := ne_of (app_l _ hx) hq_15
    have x4 : x ≠ q_23 := ne_of (app_l _ (app_l _ hx)) hq_23
    have x5 : x ≠ q_31 := ne_of (app_l _ (app_l _ (app_l _ hx))) hq_31
    have x6 : x ≠ q_39 := ne_of (app_l _ (app_l _ (app_l _ (app_l _ hx)))) hq_39
    have x7 : x ≠ q_47 := ne_of (app_l _ (app_l _ (app_l _ (app_l _ (app_l _ hx))))) hq_47
    have x8 : x ≠ q_55 := ne_of (app_l _ (app_l _ (app_l _ (app_l _ (app_l _ (app_l _ hx)))))) hq_55
    have x9 : x ≠ q_63 := ne_of (app_l _ (app_l _ (app_l _ (app_l _ (app_l _ (app_l _ (app_l _ hx))))))) hq_63
    have x10 : x ≠ q_71 := ne_of (app_l _ (app_l _ (app_l _ (app_l _ (app_l _ (app_l _ (app_l _ (app_l _ hx)))))))) hq_71
    have x11 : x ≠ q_80 := ne_of (app_l _ (app_l _ (app_l _ (app_l _ (app_l _ (app_l _ (app_l _ (app_l _ (app_l _ hx))))))))) hq_80
    have x12 : x ≠ q_89 := ne_of (app_l _ (app_l _ (app_l _ (app_l _ (app_l _ (app_l _ (app_l _ (app_l _ (app_l _ (app_l _ hx)))))))))) hq_89
    have x13 : x ≠ q_98 := ne_of (app_l _ (app_l _ (app_l _ (app_l _ (app_l _ (app_l _ (app_l _ (app_l _ (app_l _ (app_l _ (app_l _ hx))))))))))) hq_98
    have x14 : x ≠ q_106 := ne_of (app_l _ (app_l _ (app_l _ (app_l _ (app_l _ (app_l _ (app_l _ (app_l _ (app_l _ (app_l _ (app_l _ (app_l _ hx)))))))))))) hq_106
    have x15 : x ≠ q_114 := ne_of (app_l _ (app_l _ (app_l _ (app_l _ (app_l _ (app_l _ (app_l _ (app_l _ (app_l _ (app_l _ (app_l _ (app_l _ (app_l _ hx))))))))))))) hq_114
    have x16 : x ≠ q_122 := ne_of (app_l _ (app_l _ (app_l _ (app_l _ (app_l _ (app_l _ (app_l _ (app_l _ (app_l _ (app_l _ (app_l _ (app_l _ (app_l _ (app_l _ hx)))))))))))))) hq_122
    have x20 : x ≠ q_130 := ne_of (app_l _ (app_l _ (app_l _ (app_l _ (app_l _ (app_l _ (app_l _ (app_l _ (app_l _ (app_l _ (app_l _ (app_l _ (app_l _ (app_l _ (app_l _ hx))))))))))))))) hq_130
    have x21 : x ≠ q_138 := ne_of (app_l _ (app_l _ (app_l _ (app_l _ (app_l _ (app_l _ (app_l _ (app_l _ (app_l _ (app_l _ (app_l _ (app_l _ (app_l _ (app_l _ (app_l _ (app_l _ hx)))))))))))))))) hq_138
    have x22 : x ≠ q_146 := ne_of (app_l _ (app_l _ (app_l _ (app_l _ (app_l _ (app_l _ (app_l _ (app_l _ (app_l _ (app_l _ (app_l _ (app_l _ (app_l _ (app_l _ (app_l _ (app_l _ (app_l _ hx))))))))))))))))) hq_146
    have x23 : x ≠ q_154 := ne_of (app_l _ (app_l _ (app_l _ (app_l _ (app_l _ (app_l _ (app_l _ (app_l _ (app_l _ (app_l _ (app_l _ (app_l _ (app_l _ (app_l _ (app_l _ (app_l _ (app_l _ (app_l _ hx)))))))))))))))))) hq_154
    have x25 : x ≠ q_162 := ne_of (app_l _ (app_l _ (app_l _ (app_l _ (app_l _ (app_l _ (app_l _ (app_l _ (app_l _ (app_l _ (app_l _ (app_l _ (app_l _ (app_l _ (app_l _ (app_l _ (app_l _ (app_l _ (app_l _ hx))))))))))))))))))) hq_162
    have x26 : x ≠ q_170 := ne_of (app_l _ (app_l _ (app_l _ (app_l _ (app_l _ (app_l _ (app_l _ (app_l _ (app_l _ (app_l _ (app_l _ (app_l _ (app_l _ (app_l _ (app_l _ (app_l _ (app_l _ (app_l _ (app_l _ (app_l _ hx)))))))))))))))))))) hq_170
    refine ⟨?_, mk_all (by rw [e0]; exact Ne.symm hxo) (by rw [e2]; exact Ne.symm x2) (by rw [e3]; exact Ne.symm x3) (by rw [e4]; exact Ne.symm x4) (by rw [e5]; exact Ne.symm x5) (by rw [e6]; exact Ne.symm x6) (by rw [e7]; exact Ne.symm x7) (by rw [e8]; exact Ne.symm x8) (by rw [e9]; exact Ne.symm x9) (by rw [e10]; exact Ne.symm x10) (by rw [e11]; exact Ne.symm x11) (by rw [e12]; exact Ne.symm x12) (by rw [e13]; exact Ne.symm x13) (by rw [e14]; exact Ne.symm x14) (by rw [e15]; exact Ne.symm x15) (by rw [e16]; exact Ne.symm x16) (by rw [e20]; exact Ne.symm x20) (by rw [e21]; exact Ne.symm x21) (by rw [e22]; exact Ne.symm x22) (by rw [e23]; exact Ne.symm x23) (by rw [e25]; exact Ne.symm x25) (by rw [e26]; exact Ne.symm x26)⟩
    rw [ef_1007, ef_941, ef_919, ef_856, ef_835, ef_775, ef_755, ef_698, ef_679, ef_625, ef_607, ef_556, ef_539, ef_491, ef_475, ef_430, ef_415, ef_373, ef_359, ef_320, ef_307, ef_271, ef_259, ef_226, ef_215, ef_185, ef_175, ef_148, ef_139, ef_115, ef_107, ef_86, ef_79, ef_61, ef_55, ef_40, ef_35, ef_23, ef_19, ef_10, ef_7, ef_1]
    simp only [va_up, hxo, x2, x3, x4, x5, x6, x7, x8, x9, x10, x11, x12, x13, x14, x15, x16, x20, x21, x22, x23, x25, x26, if_false]
