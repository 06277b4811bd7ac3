/-! CONTRACTS of Transitry: what is in range (rows laid by wip/whole/req.py) -/
set_option maxHeartbeats 400000 in
set_option maxRecDepth 100000 in
theorem c_reqRange {l : Launch} {base : Nat} {K : zK} {L : List Nat} {f : Nat → va_E} (hst : l.stackTraces = false) (x : Int32) (a b : Nat) (ha : a < 2 ^ 31) (hb : b < 2 ^ 31) : zXMet l yX6_requireRange cX6_requireRange 3 (none) (zr 6 1 6 82) base K L f [.int x, .int (nI a), .int (nI b)] (zPv base K (inR x a b) L f) (zPx (fun E => E = xIA ∧ ¬ inR x a b) L f) := by
  refine z_xmet (by decide) (Nat.le_of_ble_eq_true rfl) (fun p e s m below meth c ls hC hM hr hlk hxt hl => ?_)
  have hx := hC.1
  have hb := hC.2.1
  have hml := hC.2.2.1
  have hown := hC.2.2.2.1
  have hts := hC.2.2.2.2.1
  generalize hA : ([.int x, .int (nI a), .int (nI b)] : List Value).toArray = args at hC ⊢
  generalize hQ : vx_MQ _ _ _ _ _ _ _ _ = Q
  obtain ⟨locs, hlocs⟩ : ∃ z : List Loc, z = [] := ⟨_, rfl⟩
  obtain ⟨H, hH⟩ : ∃ z : Heap, z = s.heap := ⟨_, rfl⟩
  rw [← hlocs, ← hH] at hM ⊢
  have hl : lv_has ls 3 [(0, .int x), (1, .int (nI a)), (2, .int (nI b))] := hl
  refine lv_iload_n hx hb dX6_requireRange_0 rfl (lv_at hl 0 rfl) ?_
  refine lv_iload_n hx hb dX6_requireRange_1 rfl (lv_at hl 1 rfl) ?_
  refine z_icmp_lt (tgt := 10) hx hb rfl (nI_toInt (by omega)) dX6_requireRange_2 (by decide) (fun c_2 => ?_) (fun c_2 => ?_)
  · rw [← hQ]
    exact z_throw (is := 240) (text := "an argument is out of its range") hC hM hst hlk hxt hl.1 zth_IA (by decide) dX6_requireRange_10 dX6_requireRange_13 dX6_requireRange_14 dX6_requireRange_16 dX6_requireRange_19 (by decide) (by decide) (by decide) ⟨⟨rfl, fun z => by have := z.1; have := z.2; omega⟩, rfl, rfl⟩
  · refine lv_iload_n hx hb dX6_requireRange_5 rfl (lv_at hl 0 rfl) ?_
    refine lv_iload_n hx hb dX6_requireRange_6 rfl (lv_at hl 2 rfl) ?_
    refine z_icmp_le (tgt := 20) hx hb rfl (nI_toInt (by omega)) dX6_requireRange_7 (by decide) (fun c_7 => ?_) (fun c_7 => ?_)
    · rw [← hQ]
      refine vx_ret ?_
      exact z_vret hC hM hr hlk (by decide) (by decide) ⟨⟨by omega, by omega⟩, rfl, rfl⟩ dX6_requireRange_20
    · rw [← hQ]
      exact z_throw (is := 240) (text := "an argument is out of its range") hC hM hst hlk hxt hl.1 zth_IA (by decide) dX6_requireRange_10 dX6_requireRange_13 dX6_requireRange_14 dX6_requireRange_16 dX6_requireRange_19 (by decide) (by decide) (by decide) ⟨⟨rfl, fun z => by have := z.1; have := z.2; omega⟩, rfl, rfl⟩
set_option maxHeartbeats 400000 in
set_option maxRecDepth 100000 in
theorem c_reqHour {l : Launch} {base : Nat} {K : zK} {L : List Nat} {f : Nat → va_E} (hst : l.stackTraces = false) (x : Int32) : zXMet l yX6_requireHour cX6_requireHour 1 (none) (zr 6 1 6 82) base K L f [.int x] (zPv base K (inR x 0 999) L f) (zPx (fun E => E = xIO ∧ ¬ inR x 0 999) L f) := by
  refine z_xmet (by decide) (Nat.le_of_ble_eq_true rfl) (fun p e s m below meth c ls hC hM hr hlk hxt hl => ?_)
  have hx := hC.1
  have hb := hC.2.1
  have hml := hC.2.2.1
  have hown := hC.2.2.2.1
  have hts := hC.2.2.2.2.1
  generalize hA : ([.int x] : List Value).toArray = args at hC ⊢
  generalize hQ : vx_MQ _ _ _ _ _ _ _ _ = Q
  obtain ⟨locs, hlocs⟩ : ∃ z : List Loc, z = [] := ⟨_, rfl⟩
  obtain ⟨H, hH⟩ : ∃ z : Heap, z = s.heap := ⟨_, rfl⟩
  rw [← hlocs, ← hH] at hM ⊢
  have hl : lv_has ls 1 [(0, .int x)] := hl
  refine lv_iload_n hx hb dX6_requireHour_0 rfl (lv_at hl 0 rfl) ?_
  refine z_if_lt (tgt := 11) hx hb rfl dX6_requireHour_1 (by decide) (fun c_1 => ?_) (fun c_1 => ?_)
  · rw [← hQ]
    exact z_throw (is := 233) (text := "there is no such hour") hC hM hst hlk hxt hl.1 zth_IO (by decide) dX6_requireHour_11 dX6_requireHour_14 dX6_requireHour_15 dX6_requireHour_17 dX6_requireHour_20 (by decide) (by decide) (by decide) ⟨⟨rfl, fun z => by have := z.1; have := z.2; omega⟩, rfl, rfl⟩
  · refine lv_iload_n hx hb dX6_requireHour_4 rfl (lv_at hl 0 rfl) ?_
    refine lv_sipush (v := nI 1000) hx hb dX6_requireHour_5 (by decide) ?_
    refine z_icmp_lt (tgt := 21) hx hb rfl (nI_toInt (by decide)) dX6_requireHour_8 (by decide) (fun c_8 => ?_) (fun c_8 => ?_)
    · rw [← hQ]
      refine vx_ret ?_
      exact z_vret hC hM hr hlk (by decide) (by decide) ⟨⟨by omega, by omega⟩, rfl, rfl⟩ dX6_requireHour_21
    · rw [← hQ]
      exact z_throw (is := 233) (text := "there is no such hour") hC hM hst hlk hxt hl.1 zth_IO (by decide) dX6_requireHour_11 dX6_requireHour_14 dX6_requireHour_15 dX6_requireHour_17 dX6_requireHour_20 (by decide) (by decide) (by decide) ⟨⟨rfl, fun z => by have := z.1; have := z.2; omega⟩, rfl, rfl⟩
set_option maxHeartbeats 400000 in
set_option maxRecDepth 100000 in
theorem c_reqHours {l : Launch} {base : Nat} {K : zK} {L : List Nat} {f : Nat → va_E} (hst : l.stackTraces = false) (x y : Int32) : zXMet l yX6_requireHours cX6_requireHours 2 (none) (zr 7 3 18 103) base K L f [.int x, .int y] (zPv base K (inR x 0 999 ∧ inR y 0 999 ∧ x.toInt ≤ y.toInt) L f) (zPx (fun E => (E = xIO ∧ ¬ (inR x 0 999 ∧ inR y 0 999)) ∨ (E = xIA ∧ (inR x 0 999 ∧ inR y 0 999) ∧ y.toInt < x.toInt)) L f) := by
  refine z_xmet (by decide) (Nat.le_of_ble_eq_true rfl) (fun p e s m below meth c ls hC hM hr hlk hxt hl => ?_)
  have hx := hC.1
  have hb := hC.2.1
  have hml := hC.2.2.1
  have hown := hC.2.2.2.1
  have hts := hC.2.2.2.2.1
  generalize hA : ([.int x, .int y] : List Value).toArray = args at hC ⊢
  generalize hQ : vx_MQ _ _ _ _ _ _ _ _ = Q
  obtain ⟨locs, hlocs⟩ : ∃ z : List Loc, z = [] := ⟨_, rfl⟩
  obtain ⟨H, hH⟩ : ∃ z : Heap, z = s.heap := ⟨_, rfl⟩
  rw [← hlocs, ← hH] at hM ⊢
  have hl : lv_has ls 2 [(0, .int x), (1, .int y)] := hl
  refine lv_iload_n hx hb dX6_requireHours_0 rfl (lv_at hl 0 rfl) ?_
  refine z_xpcallv hQ (z_xrunS hC hM (c_reqHour hst x) zy_X6_requireHour zm_X6_91 rfl rfl hl.1 (Nat.le_of_ble_eq_true rfl) ⟨by decide, by decide⟩ ⟨by decide, by decide⟩ dX6_requireHours_1) hM hxt hlk (by decide) (by decide) (fun E hE => ⟨Or.inl ⟨hE.1, fun z => hE.2 z.1⟩, rfl, rfl⟩) (fun hp_1 H locs hM => ?_)
  refine lv_iload_n hx hb dX6_requireHours_4 rfl (lv_at hl 1 rfl) ?_
  refine z_xpcallv hQ (z_xrunS hC hM (c_reqHour hst y) zy_X6_requireHour zm_X6_91 rfl rfl hl.1 (Nat.le_of_ble_eq_true rfl) ⟨by decide, by decide⟩ ⟨by decide, by decide⟩ dX6_requireHours_5) hM hxt hlk (by decide) (by decide) (fun E hE => ⟨Or.inl ⟨hE.1, fun z => hE.2 z.2⟩, rfl, rfl⟩) (fun hp_5 H locs hM => ?_)
  refine lv_iload_n hx hb dX6_requireHours_8 rfl (lv_at hl 1 rfl) ?_
  refine lv_iload_n hx hb dX6_requireHours_9 rfl (lv_at hl 0 rfl) ?_
  refine z_icmp_ge (tgt := 23) hx hb rfl rfl dX6_requireHours_10 (by decide) (fun c_10 => ?_) (fun c_10 => ?_)
  · rw [← hQ]
    refine vx_ret ?_
    exact z_vret hC hM hr hlk (by decide) (by decide) ⟨⟨hp_1, hp_5, by omega⟩, rfl, rfl⟩ dX6_requireHours_23
  · rw [← hQ]
    exact z_throw (is := 237) (text := "the last hour is before the first") hC hM hst hlk hxt hl.1 zth_IA (by decide) dX6_requireHours_13 dX6_requireHours_16 dX6_requireHours_17 dX6_requireHours_19 dX6_requireHours_22 (by decide) (by decide) (by decide) ⟨Or.inr ⟨rfl, ⟨hp_1, hp_5⟩, by omega⟩, rfl, rfl⟩
