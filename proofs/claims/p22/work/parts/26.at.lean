/-! CONTRACTS of Transitry: the things there are (rows laid by wip/whole/at.py) -/
set_option maxHeartbeats 400000 in
set_option maxRecDepth 100000 in
theorem c_starAt {l : Launch} {base : Nat} {K : zK} {L : List Nat} {f : Nat → va_E} (hst : l.stackTraces = false) {o sl wl pl hd hc fo : Nat} (ho : o ∈ L) (hfo : f o = eS 7 [.ref sl, .ref wl, .ref pl, .ref hd, .int (nI hc), .ref fo]) {ee n : Nat} {es : Nat → Nat} {fs : Nat → List Value} (hLI : LI K L f sl ee n es) (hn : n ≤ 60) (hes : ∀ i, i < n → es i ∈ L ∧ f (es i) = eS 5 (fs i)) (x : Int32) : zXMet l yX6_starAt cX6_starAt 2 (some (.object "Transitry$Star")) (zr 6 1 6 82) base K L f [.ref o, .int x] (zPq base K (fun r => ∃ i, i < n ∧ x = nI i ∧ r = some (es i)) L f) (zPx (fun E => E = xIO ∧ ¬ inR x 0 ((n : Int) - 1)) L f) := by
  obtain ⟨hpl, ⟨mc, hfp⟩, hor⟩ := hLI
  refine z_xmet (by decide) (Nat.le_of_ble_eq_true rfl) (fun p e s m below meth c ls hC hM hr hlk hxt hl => ?_)
  have hx := hC.1
  have hb := hC.2.1
  have hml := hC.2.2.1
  have hown := hC.2.2.2.1
  have hts := hC.2.2.2.2.1
  generalize hA : ([.ref o, .int x] : List Value).toArray = args at hC ⊢
  generalize hQ : vx_MQ _ _ _ _ _ _ _ _ = Q
  obtain ⟨locs, hlocs⟩ : ∃ z : List Loc, z = [] := ⟨_, rfl⟩
  obtain ⟨H, hH⟩ : ∃ z : Heap, z = s.heap := ⟨_, rfl⟩
  rw [← hlocs, ← hH] at hM ⊢
  have hl : lv_has ls 2 [(0, .ref o), (1, .int x)] := hl
  refine lv_iload_n hx hb dX6_starAt_0 rfl (lv_at hl 1 rfl) ?_
  refine z_if_lt (tgt := 15) hx hb rfl dX6_starAt_1 (by decide) (fun c_1 => ?_) (fun c_1 => ?_)
  · rw [← hQ]
    exact z_throw (is := 222) (text := "there is no such star") hC hM hst hlk hxt hl.1 zth_IO (by decide) dX6_starAt_15 dX6_starAt_18 dX6_starAt_19 dX6_starAt_21 dX6_starAt_24 (by decide) (by decide) (by decide) ⟨⟨rfl, fun z => by have := z.1; have := z.2; omega⟩, rfl, rfl⟩
  · refine lv_iload_n hx hb dX6_starAt_4 rfl (lv_at hl 1 rfl) ?_
    refine lv_aload_n hx hb dX6_starAt_5 rfl (lv_at hl 0 rfl) ?_
    refine z_get hC hM ho hfo zcl_X6 (by decide) zl_X6_10 rfl dX6_starAt_6 ?_
    refine z_fcalli (z_runV hC hM (c_size hpl hfp) zy_Jx4a65c_size_8abf5 zm_X6_42 hpl hfp zcl_Jx4a65c rfl rfl rfl hl.1 (Nat.le_of_ble_eq_true rfl) ⟨by decide, by decide⟩ ⟨by decide, by decide⟩ dX6_starAt_9) hM (fun H locs hM => ?_)
    refine z_icmp_lt (tgt := 25) hx hb rfl (nI_toInt (by omega)) dX6_starAt_12 (by decide) (fun c_12 => ?_) (fun c_12 => ?_)
    · skip
      obtain ⟨i, hi0, hi, hxi⟩ := nI_of_range (b := (n : Int) - 1) (Int.le_refl 0) c_1 (by omega)
      subst hxi
      have hin : i < n := by omega
      obtain ⟨hle, cap, arr, hfe, hc1, hc2, hnc, harr, -⟩ := hor.resolve_left (fun z => by omega)
      refine lv_aload_n hx hb dX6_starAt_25 rfl (lv_at hl 0 rfl) ?_
      refine z_get hC hM ho hfo zcl_X6 (by decide) zl_X6_10 rfl dX6_starAt_26 ?_
      refine lv_iload_n hx hb dX6_starAt_29 rfl (lv_at hl 1 rfl) ?_
      refine z_fcallq (z_runV hC hM (c_get hpl hfp hle hfe hin hnc (by omega) (harr i hin)) zy_Jx4a65c_get_915e3 zm_X6_225 hpl hfp zcl_Jx4a65c rfl rfl rfl hl.1 (Nat.le_of_ble_eq_true rfl) ⟨by decide, by decide⟩ ⟨by decide, by decide⟩ dX6_starAt_30) hM (fun H locs hM => ?_)
      refine z_cast hC hM ((hes i hin).1) ((hes i hin).2) zcl_X4 zc_X6_53 dX6_starAt_33 ?_
      rw [← hQ]
      refine vx_ret ?_
      exact z_qret (v := (some ((es i)))) hC hM hr (Or.inl ⟨_, rfl⟩) hlk (by decide) (by decide) ⟨⟨i, hin, rfl, rfl⟩, rfl, rfl⟩ dX6_starAt_36
    · rw [← hQ]
      exact z_throw (is := 222) (text := "there is no such star") hC hM hst hlk hxt hl.1 zth_IO (by decide) dX6_starAt_15 dX6_starAt_18 dX6_starAt_19 dX6_starAt_21 dX6_starAt_24 (by decide) (by decide) (by decide) ⟨⟨rfl, fun z => by have := z.1; have := z.2; omega⟩, rfl, rfl⟩
set_option maxHeartbeats 400000 in
set_option maxRecDepth 100000 in
theorem c_worldAt {l : Launch} {base : Nat} {K : zK} {L : List Nat} {f : Nat → va_E} (hst : l.stackTraces = false) {o sl wl pl hd hc fo : Nat} (ho : o ∈ L) (hfo : f o = eS 7 [.ref sl, .ref wl, .ref pl, .ref hd, .int (nI hc), .ref fo]) {ee n : Nat} {es : Nat → Nat} {fs : Nat → List Value} (hLI : LI K L f wl ee n es) (hn : n ≤ 60) (hes : ∀ i, i < n → es i ∈ L ∧ f (es i) = eS 6 (fs i)) (x : Int32) : zXMet l yX6_worldAt cX6_worldAt 2 (some (.object "Transitry$World")) (zr 6 1 6 82) base K L f [.ref o, .int x] (zPq base K (fun r => ∃ i, i < n ∧ x = nI i ∧ r = some (es i)) L f) (zPx (fun E => E = xIO ∧ ¬ inR x 0 ((n : Int) - 1)) L f) := by
  obtain ⟨hpl, ⟨mc, hfp⟩, hor⟩ := hLI
  refine z_xmet (by decide) (Nat.le_of_ble_eq_true rfl) (fun p e s m below meth c ls hC hM hr hlk hxt hl => ?_)
  have hx := hC.1
  have hb := hC.2.1
  have hml := hC.2.2.1
  have hown := hC.2.2.2.1
  have hts := hC.2.2.2.2.1
  generalize hA : ([.ref o, .int x] : List Value).toArray = args at hC ⊢
  generalize hQ : vx_MQ _ _ _ _ _ _ _ _ = Q
  obtain ⟨locs, hlocs⟩ : ∃ z : List Loc, z = [] := ⟨_, rfl⟩
  obtain ⟨H, hH⟩ : ∃ z : Heap, z = s.heap := ⟨_, rfl⟩
  rw [← hlocs, ← hH] at hM ⊢
  have hl : lv_has ls 2 [(0, .ref o), (1, .int x)] := hl
  refine lv_iload_n hx hb dX6_worldAt_0 rfl (lv_at hl 1 rfl) ?_
  refine z_if_lt (tgt := 15) hx hb rfl dX6_worldAt_1 (by decide) (fun c_1 => ?_) (fun c_1 => ?_)
  · rw [← hQ]
    exact z_throw (is := 229) (text := "there is no such world") hC hM hst hlk hxt hl.1 zth_IO (by decide) dX6_worldAt_15 dX6_worldAt_18 dX6_worldAt_19 dX6_worldAt_21 dX6_worldAt_24 (by decide) (by decide) (by decide) ⟨⟨rfl, fun z => by have := z.1; have := z.2; omega⟩, rfl, rfl⟩
  · refine lv_iload_n hx hb dX6_worldAt_4 rfl (lv_at hl 1 rfl) ?_
    refine lv_aload_n hx hb dX6_worldAt_5 rfl (lv_at hl 0 rfl) ?_
    refine z_get hC hM ho hfo zcl_X6 (by decide) zl_X6_16 rfl dX6_worldAt_6 ?_
    refine z_fcalli (z_runV hC hM (c_size hpl hfp) zy_Jx4a65c_size_8abf5 zm_X6_42 hpl hfp zcl_Jx4a65c rfl rfl rfl hl.1 (Nat.le_of_ble_eq_true rfl) ⟨by decide, by decide⟩ ⟨by decide, by decide⟩ dX6_worldAt_9) hM (fun H locs hM => ?_)
    refine z_icmp_lt (tgt := 25) hx hb rfl (nI_toInt (by omega)) dX6_worldAt_12 (by decide) (fun c_12 => ?_) (fun c_12 => ?_)
    · skip
      obtain ⟨i, hi0, hi, hxi⟩ := nI_of_range (b := (n : Int) - 1) (Int.le_refl 0) c_1 (by omega)
      subst hxi
      have hin : i < n := by omega
      obtain ⟨hle, cap, arr, hfe, hc1, hc2, hnc, harr, -⟩ := hor.resolve_left (fun z => by omega)
      refine lv_aload_n hx hb dX6_worldAt_25 rfl (lv_at hl 0 rfl) ?_
      refine z_get hC hM ho hfo zcl_X6 (by decide) zl_X6_16 rfl dX6_worldAt_26 ?_
      refine lv_iload_n hx hb dX6_worldAt_29 rfl (lv_at hl 1 rfl) ?_
      refine z_fcallq (z_runV hC hM (c_get hpl hfp hle hfe hin hnc (by omega) (harr i hin)) zy_Jx4a65c_get_915e3 zm_X6_225 hpl hfp zcl_Jx4a65c rfl rfl rfl hl.1 (Nat.le_of_ble_eq_true rfl) ⟨by decide, by decide⟩ ⟨by decide, by decide⟩ dX6_worldAt_30) hM (fun H locs hM => ?_)
      refine z_cast hC hM ((hes i hin).1) ((hes i hin).2) zcl_X5 zc_X6_166 dX6_worldAt_33 ?_
      rw [← hQ]
      refine vx_ret ?_
      exact z_qret (v := (some ((es i)))) hC hM hr (Or.inl ⟨_, rfl⟩) hlk (by decide) (by decide) ⟨⟨i, hin, rfl, rfl⟩, rfl, rfl⟩ dX6_worldAt_36
    · rw [← hQ]
      exact z_throw (is := 229) (text := "there is no such world") hC hM hst hlk hxt hl.1 zth_IO (by decide) dX6_worldAt_15 dX6_worldAt_18 dX6_worldAt_19 dX6_worldAt_21 dX6_worldAt_24 (by decide) (by decide) (by decide) ⟨⟨rfl, fun z => by have := z.1; have := z.2; omega⟩, rfl, rfl⟩
set_option maxHeartbeats 400000 in
set_option maxRecDepth 100000 in
theorem c_paperAt {l : Launch} {base : Nat} {K : zK} {L : List Nat} {f : Nat → va_E} (hst : l.stackTraces = false) {o sl wl pl hd hc fo : Nat} (ho : o ∈ L) (hfo : f o = eS 7 [.ref sl, .ref wl, .ref pl, .ref hd, .int (nI hc), .ref fo]) {ee n : Nat} {es : Nat → Nat} {fs : Nat → List Value} (hLI : LI K L f pl ee n es) (hn : n ≤ 60) (hes : ∀ i, i < n → es i ∈ L ∧ f (es i) = eS 3 (fs i)) (x : Int32) : zXMet l yX6_paperAt cX6_paperAt 2 (some (.object "Transitry$Paper")) (zr 6 1 6 82) base K L f [.ref o, .int x] (zPq base K (fun r => ∃ i, i < n ∧ x = nI i ∧ r = some (es i)) L f) (zPx (fun E => E = xIO ∧ ¬ inR x 0 ((n : Int) - 1)) L f) := by
  obtain ⟨hpl, ⟨mc, hfp⟩, hor⟩ := hLI
  refine z_xmet (by decide) (Nat.le_of_ble_eq_true rfl) (fun p e s m below meth c ls hC hM hr hlk hxt hl => ?_)
  have hx := hC.1
  have hb := hC.2.1
  have hml := hC.2.2.1
  have hown := hC.2.2.2.1
  have hts := hC.2.2.2.2.1
  generalize hA : ([.ref o, .int x] : List Value).toArray = args at hC ⊢
  generalize hQ : vx_MQ _ _ _ _ _ _ _ _ = Q
  obtain ⟨locs, hlocs⟩ : ∃ z : List Loc, z = [] := ⟨_, rfl⟩
  obtain ⟨H, hH⟩ : ∃ z : Heap, z = s.heap := ⟨_, rfl⟩
  rw [← hlocs, ← hH] at hM ⊢
  have hl : lv_has ls 2 [(0, .ref o), (1, .int x)] := hl
  refine lv_iload_n hx hb dX6_paperAt_0 rfl (lv_at hl 1 rfl) ?_
  refine z_if_lt (tgt := 15) hx hb rfl dX6_paperAt_1 (by decide) (fun c_1 => ?_) (fun c_1 => ?_)
  · rw [← hQ]
    exact z_throw (is := 231) (text := "there is no such paper") hC hM hst hlk hxt hl.1 zth_IO (by decide) dX6_paperAt_15 dX6_paperAt_18 dX6_paperAt_19 dX6_paperAt_21 dX6_paperAt_24 (by decide) (by decide) (by decide) ⟨⟨rfl, fun z => by have := z.1; have := z.2; omega⟩, rfl, rfl⟩
  · refine lv_iload_n hx hb dX6_paperAt_4 rfl (lv_at hl 1 rfl) ?_
    refine lv_aload_n hx hb dX6_paperAt_5 rfl (lv_at hl 0 rfl) ?_
    refine z_get hC hM ho hfo zcl_X6 (by decide) zl_X6_19 rfl dX6_paperAt_6 ?_
    refine z_fcalli (z_runV hC hM (c_size hpl hfp) zy_Jx4a65c_size_8abf5 zm_X6_42 hpl hfp zcl_Jx4a65c rfl rfl rfl hl.1 (Nat.le_of_ble_eq_true rfl) ⟨by decide, by decide⟩ ⟨by decide, by decide⟩ dX6_paperAt_9) hM (fun H locs hM => ?_)
    refine z_icmp_lt (tgt := 25) hx hb rfl (nI_toInt (by omega)) dX6_paperAt_12 (by decide) (fun c_12 => ?_) (fun c_12 => ?_)
    · skip
      obtain ⟨i, hi0, hi, hxi⟩ := nI_of_range (b := (n : Int) - 1) (Int.le_refl 0) c_1 (by omega)
      subst hxi
      have hin : i < n := by omega
      obtain ⟨hle, cap, arr, hfe, hc1, hc2, hnc, harr, -⟩ := hor.resolve_left (fun z => by omega)
      refine lv_aload_n hx hb dX6_paperAt_25 rfl (lv_at hl 0 rfl) ?_
      refine z_get hC hM ho hfo zcl_X6 (by decide) zl_X6_19 rfl dX6_paperAt_26 ?_
      refine lv_iload_n hx hb dX6_paperAt_29 rfl (lv_at hl 1 rfl) ?_
      refine z_fcallq (z_runV hC hM (c_get hpl hfp hle hfe hin hnc (by omega) (harr i hin)) zy_Jx4a65c_get_915e3 zm_X6_225 hpl hfp zcl_Jx4a65c rfl rfl rfl hl.1 (Nat.le_of_ble_eq_true rfl) ⟨by decide, by decide⟩ ⟨by decide, by decide⟩ dX6_paperAt_30) hM (fun H locs hM => ?_)
      refine z_cast hC hM ((hes i hin).1) ((hes i hin).2) zcl_X2 zc_X6_199 dX6_paperAt_33 ?_
      rw [← hQ]
      refine vx_ret ?_
      exact z_qret (v := (some ((es i)))) hC hM hr (Or.inl ⟨_, rfl⟩) hlk (by decide) (by decide) ⟨⟨i, hin, rfl, rfl⟩, rfl, rfl⟩ dX6_paperAt_36
    · rw [← hQ]
      exact z_throw (is := 231) (text := "there is no such paper") hC hM hst hlk hxt hl.1 zth_IO (by decide) dX6_paperAt_15 dX6_paperAt_18 dX6_paperAt_19 dX6_paperAt_21 dX6_paperAt_24 (by decide) (by decide) (by decide) ⟨⟨rfl, fun z => by have := z.1; have := z.2; omega⟩, rfl, rfl⟩
set_option maxHeartbeats 400000 in
set_option maxRecDepth 100000 in
theorem c_isHidden {l : Launch} {base : Nat} {K : zK} {L : List Nat} {f : Nat → va_E} {o sl wl pl hd hc fo : Nat} (ho : o ∈ L) (hfo : f o = eS 7 [.ref sl, .ref wl, .ref pl, .ref hd, .int (nI hc), .ref fo]) {hg : Nat → Nat} (hhd : hd ∈ L) (hfh : f hd = eZ K 1000 (fun h => nI (hg h))) (hg1 : ∀ h, hg h ≤ 1) {h : Nat} (hh : h < 1000) : zMet l yX6_isHidden cX6_isHidden 2 (some .boolean) (zr 0 0 0 0) base K L f [.ref o, .int (nI h)] (zFi base K (zb (hg h = 1)) L f) := by
  have h91 := hg1 h
  refine z_met (by decide) (Nat.le_of_ble_eq_true rfl) (fun p e s m below meth c ls hC hM hr hlk hnm hl => ?_)
  have hx := hC.1
  have hb := hC.2.1
  have hml := hC.2.2.1
  have hown := hC.2.2.2.1
  have hts := hC.2.2.2.2.1
  generalize hA : ([.ref o, .int (nI h)] : List Value).toArray = args at hC ⊢
  generalize hQ : MQ _ _ _ _ _ _ _ = Q
  obtain ⟨locs, hlocs⟩ : ∃ z : List Loc, z = [] := ⟨_, rfl⟩
  obtain ⟨H, hH⟩ : ∃ z : Heap, z = s.heap := ⟨_, rfl⟩
  rw [← hlocs, ← hH] at hM ⊢
  have hl : lv_has ls 2 [(0, .ref o), (1, .int (nI h))] := hl
  refine lv_iload_n hx hb dX6_isHidden_0 rfl (lv_at hl 1 rfl) ?_
  refine z_if_lt (tgt := 26) hx hb (nI_toInt (by omega)) dX6_isHidden_1 (by decide) (fun c_1 => ?_) (fun c_1 => ?_)
  · exact absurd c_1 (by omega)
  · refine lv_iload_n hx hb dX6_isHidden_4 rfl (lv_at hl 1 rfl) ?_
    refine lv_aload_n hx hb dX6_isHidden_5 rfl (lv_at hl 0 rfl) ?_
    refine z_get hC hM ho hfo zcl_X6 (by decide) zl_X6_22 rfl dX6_isHidden_6 ?_
    refine z_alen (n := 1000) 2 hC hM hhd hfh rfl rfl dX6_isHidden_9 ?_
    refine z_icmp_ge (tgt := 26) hx hb (nI_toInt (by omega)) (nI_toInt (by decide)) dX6_isHidden_10 (by decide) (fun c_10 => ?_) (fun c_10 => ?_)
    · exact absurd c_10 (by omega)
    · refine lv_aload_n hx hb dX6_isHidden_13 rfl (lv_at hl 0 rfl) ?_
      refine z_get hC hM ho hfo zcl_X6 (by decide) zl_X6_22 rfl dX6_isHidden_14 ?_
      refine lv_iload_n hx hb dX6_isHidden_17 rfl (lv_at hl 1 rfl) ?_
      refine z_zald hC hM hhd hfh (by omega) (by omega) dX6_isHidden_18 ?_
      refine z_if_eq (tgt := 26) hx hb (nI_toInt (by omega)) dX6_isHidden_19 (by decide) (fun c_19 => ?_) (fun c_19 => ?_)
      · refine lv_iconst (v := nI 0) hx hb dX6_isHidden_26 (by decide) ?_
        rw [← hQ]
        exact z_iret hC hM hr hlk rfl (by decide) (by decide) ⟨(zb_f (by omega)), rfl, rfl⟩ dX6_isHidden_27
      · refine lv_iconst (v := nI 1) hx hb dX6_isHidden_22 (by decide) ?_
        refine lv_goto (tgt := 27) hx hb dX6_isHidden_23 (by decide) ?_
        rw [← hQ]
        exact z_iret hC hM hr hlk rfl (by decide) (by decide) ⟨(zb_t (by omega)), rfl, rfl⟩ dX6_isHidden_27
set_option maxHeartbeats 400000 in
set_option maxRecDepth 100000 in
theorem c_hide {l : Launch} {base : Nat} {K : zK} {L : List Nat} {f : Nat → va_E} {o sl wl pl hd hc fo : Nat} (ho : o ∈ L) (hfo : f o = eS 7 [.ref sl, .ref wl, .ref pl, .ref hd, .int (nI hc), .ref fo]) {hg : Nat → Nat} (hhd : hd ∈ L) (hfh : f hd = eZ K 1000 (fun h => nI (hg h))) (hne : o ≠ hd) {h : Nat} (hh : h < 1000) : zMet l yX6_hide cX6_hide 2 (none) (zr 0 0 0 0) base K L f [.ref o, .int (nI h)] (zFv base K L (va_up (va_up f hd (eZ K 1000 (va_up (fun h => nI (hg h)) h (nI 1)))) o (eS 7 [.ref sl, .ref wl, .ref pl, .ref hd, .int (nI (hc + 1)), .ref fo]))) := by
  refine z_met (by decide) (Nat.le_of_ble_eq_true rfl) (fun p e s m below meth c ls hC hM hr hlk hnm hl => ?_)
  have hx := hC.1
  have hb := hC.2.1
  have hml := hC.2.2.1
  have hown := hC.2.2.2.1
  have hts := hC.2.2.2.2.1
  generalize hA : ([.ref o, .int (nI h)] : List Value).toArray = args at hC ⊢
  generalize hQ : MQ _ _ _ _ _ _ _ = Q
  obtain ⟨locs, hlocs⟩ : ∃ z : List Loc, z = [] := ⟨_, rfl⟩
  obtain ⟨H, hH⟩ : ∃ z : Heap, z = s.heap := ⟨_, rfl⟩
  rw [← hlocs, ← hH] at hM ⊢
  have hl : lv_has ls 2 [(0, .ref o), (1, .int (nI h))] := hl
  refine lv_iload_n hx hb dX6_hide_0 rfl (lv_at hl 1 rfl) ?_
  refine z_if_lt (tgt := 30) hx hb (nI_toInt (by omega)) dX6_hide_1 (by decide) (fun c_1 => ?_) (fun c_1 => ?_)
  · exact absurd c_1 (by omega)
  · refine lv_iload_n hx hb dX6_hide_4 rfl (lv_at hl 1 rfl) ?_
    refine lv_aload_n hx hb dX6_hide_5 rfl (lv_at hl 0 rfl) ?_
    refine z_get hC hM ho hfo zcl_X6 (by decide) zl_X6_22 rfl dX6_hide_6 ?_
    refine z_alen (n := 1000) 2 hC hM hhd hfh rfl rfl dX6_hide_9 ?_
    refine z_icmp_ge (tgt := 30) hx hb (nI_toInt (by omega)) (nI_toInt (by decide)) dX6_hide_10 (by decide) (fun c_10 => ?_) (fun c_10 => ?_)
    · exact absurd c_10 (by omega)
    · refine lv_aload_n hx hb dX6_hide_13 rfl (lv_at hl 0 rfl) ?_
      refine z_get hC hM ho hfo zcl_X6 (by decide) zl_X6_22 rfl dX6_hide_14 ?_
      refine lv_iload_n hx hb dX6_hide_17 rfl (lv_at hl 1 rfl) ?_
      refine lv_iconst (v := nI 1) hx hb dX6_hide_18 (by decide) ?_
      refine z_zast hC hM hhd hfh (by omega) (by omega) (by decide) dX6_hide_19 (fun H locs hM => ?_)
      obtain ⟨f_1, ef_1⟩ : ∃ z9, z9 = va_up f hd (eZ K 1000 (va_up (fun h => nI (hg h)) h (nI 1))) := ⟨_, rfl⟩
      rw [← ef_1] at hM
      have hF_2 : f_1 o = eS 7 [.ref sl, .ref wl, .ref pl, .ref hd, .int (nI hc), .ref fo] := by rw [ef_1]; exact (va_up_ne _ _ hne).trans hfo
      have hF_3 : f_1 hd = eZ K 1000 (va_up (fun h => nI (hg h)) h (nI 1)) := by rw [ef_1]; exact va_up_self _ _ _
      refine lv_aload_n hx hb dX6_hide_20 rfl (lv_at hl 0 rfl) ?_
      refine lv_dup hx hb dX6_hide_21 rfl ?_
      refine z_get hC hM ho hF_2 zcl_X6 (by decide) zl_X6_26 rfl dX6_hide_22 ?_
      refine lv_iconst (v := nI 1) hx hb dX6_hide_25 (by decide) ?_
      refine z_iadd hx hb dX6_hide_26 ?_
      refine z_put (fs' := [.ref sl, .ref wl, .ref pl, .ref hd, .int (nI (hc + 1)), .ref fo]) hC hM ho hF_2 zcl_X6 (by decide) zl_X6_26 rfl rfl (by rfl) (Nat.le_of_ble_eq_true rfl) rfl dX6_hide_27 (fun H locs hM => ?_)
      obtain ⟨f_4, ef_4⟩ : ∃ z9, z9 = va_up f_1 o (eS 7 [.ref sl, .ref wl, .ref pl, .ref hd, .int (nI (hc + 1)), .ref fo]) := ⟨_, rfl⟩
      rw [← ef_4] at hM
      have hF_5 : f_4 o = eS 7 [.ref sl, .ref wl, .ref pl, .ref hd, .int (nI (hc + 1)), .ref fo] := by rw [ef_4]; exact va_up_self _ _ _
      have hF_6 : f_4 hd = eZ K 1000 (va_up (fun h => nI (hg h)) h (nI 1)) := by rw [ef_4]; exact (va_up_ne _ _ (Ne.symm hne)).trans hF_3
      rw [← hQ]
      exact z_vret hC hM hr hlk (by decide) (by decide) ⟨rfl, (by rw [ef_4, ef_1])⟩ dX6_hide_30
