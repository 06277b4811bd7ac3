/-! CONTRACTS of the law's own methods: a call of the class, its exceptions as codes (rows laid by wip/whole/law1.py) -/
theorem hpass2 {own E n1 n2 : String} {x y : ExceptionTableEntry} (h1 : x.catchType ≠ 0) (h2 : Cond.classLink own x.catchType n1 ∈ WA) (h3 : (E, n1) ∈ znc) (h4 : y.catchType ≠ 0) (h5 : Cond.classLink own y.catchType n2 ∈ WA) (h6 : (E, n2) ∈ znc) : ∀ z ∈ [x, y], z.catchType ≠ 0 ∧ ∃ nm : String, Cond.classLink own z.catchType nm ∈ WA ∧ (E, nm) ∈ znc := by
  intro z hz
  rcases List.mem_cons.mp hz with hz | hz
  · rw [hz]; exact ⟨h1, n1, h2, h3⟩
  · rw [List.mem_singleton.mp hz]; exact ⟨h4, n2, h5, h6⟩
theorem fall_t {A : zA} {x : Int32} (c : (v_fallen A x).toInt = 0) : (0 : Int64) = (v_fallen A x).toInt64 := by
  rcases fallen_cases A x with h | h
  · rw [h]; decide
  · rw [h] at c; exact absurd c (by decide)
theorem fall_f {A : zA} {x : Int32} (c : (v_fallen A x).toInt ≠ 0) : (1 : Int64) = (v_fallen A x).toInt64 := by
  rcases fallen_cases A x with h | h
  · rw [h] at c; exact absurd (by decide) c
  · rw [h]; decide
theorem zyH_star : zYH yL_star cL_star 4 (some .int) [(0, 9, 12, 13), (0, 9, 15, 15)] 3 := ⟨⟨wa_in 130 (by decide +kernel) rfl, rfl⟩, wa_in 27 (by decide +kernel) rfl, by decide +kernel, by decide +kernel, by decide +kernel⟩
set_option maxHeartbeats 400000 in
set_option maxRecDepth 100000 in
theorem w_star {l : Launch} {base : Nat} {K : zK} {L : List Nat} {f : Nat → va_E} (hst : l.stackTraces = false) {A : zA} {ad : Nat → Nat} (hI : CI K L f A ad) {oa : Nat} {g : Nat → Int64} (ho : oa ∈ L) (hfo : f oa = eJ K 1 g) (hno : ∀ t, live A t → ad t ≠ oa) (x : Int32) : vx_Met l yL_star (wzH yL_star cL_star 4 (some .int) [(0, 9, 12, 13), (0, 9, 15, 15)]) (zr 9 12 1200 221) (va_Pc [.ref ((ad 1)), .int x, .ref oa] (zPre base K L f)) (zQi base K (fun r L1 f1 => r = nI (k_star A x) ∧ WR K A ad L f (a_star A x) oa (k_star A x) ((nI (ns A)).toInt64) L1 f1)) (zX base K (fun _ _ _ => False)) ((zr 9 12 1200 221)).cells ((zr 9 12 1200 221)).slots (base ≤ ·) := by
  refine z_xmetH (by decide) (Nat.le_of_ble_eq_true rfl) (fun p e s m below meth c ls hC hM hr hlk htab hl => ?_)
  have hx := hC.1
  have hb := hC.2.1
  have hml := hC.2.2.1
  have hown := hC.2.2.2.1
  have hts := hC.2.2.2.2.1
  generalize hA : ([.ref ((ad 1)), .int x, .ref oa] : List Value).toArray = args at hC ⊢
  generalize hQ : vx_MQ _ _ _ _ _ _ _ _ = Q
  obtain ⟨locs, hlocs⟩ : ∃ z : List Loc, z = [] := ⟨_, rfl⟩
  obtain ⟨H, hH⟩ : ∃ z : Heap, z = s.heap := ⟨_, rfl⟩
  rw [← hlocs, ← hH] at hM ⊢
  have hfx : f (ad 1) = eS 7 [.ref (ad 6), .ref (ad 8), .ref (ad 10), .ref (ad 5), .int (nI (hN A 1000)), .ref (ad 2)] := hI.2.2.2.1
  have hLx := hI.2.1 1 (live_c (by omega))
  have hl : lv_has ls 4 [(0, .ref ((ad 1))), (1, .int x), (2, .ref oa)] := hl
  refine lv_aload_n hx hb dL_star_0 rfl (lv_at hl 2 rfl) ?_
  refine lv_iconst (v := nI 0) hx hb dL_star_1 (by decide) ?_
  refine lv_aload_n hx hb dL_star_2 rfl (lv_at hl 0 rfl) ?_
  refine lv_iload_n hx hb dL_star_3 rfl (lv_at hl 1 rfl) ?_
  refine z_xq (av := #[]) (val := fun r : Int32 => some (.int r)) (post := fun r u => k_star A x = 0 ∧ r = nI (ns A) ∧ CR K A ad L f (a_star A x) u.1 u.2) (z_xrunV hC hM (p_star hst hI x) zy_X6_star zm_L_7 hLx hfx zcl_X6 rfl rfl rfl hl.1 (Nat.le_of_ble_eq_true rfl) ⟨by decide, by decide⟩ ⟨by decide, by decide⟩ dL_star_4) (fun st o t ⟨⟨r, u, h1, h2, h3⟩, h4⟩ => ⟨r, u, h1, h2, h3, h4⟩) hM (fun E ce q9 L1 f1 H locs hp hM hcell hcv hcls => ?_) (fun r L1 f1 H locs hp hM => ?_)
  · obtain ⟨hE, hCR⟩ := hp
    obtain ⟨j, hj, hE⟩ := xE_cases hE
    match j, hj, hE with
    | 0, hj, hE =>
      obtain rfl : xIA = E := Option.some.inj hE
      refine z_catch (pre := []) (x := ⟨0, 9, 12, 13⟩) (suf := [⟨0, 9, 15, 15⟩]) hC (htab.trans rfl) (fun z hz => absurd hz List.not_mem_nil) (by decide) (by decide) zcl_IA zcx_IA hcell hcv hcls ?_
      refine lv_astore_n (lv' := [(3, .ref q9), (0, .ref ((ad 1))), (1, .int x), (2, .ref oa)]) hx hb dL_star_12 rfl hl (by decide) rfl (fun ls hl => ?_)
      refine lv_iconst (v := nI 1) hx hb dL_star_13 (by decide) ?_
      rw [← hQ]
      refine vx_ret ?_
      exact z_iret hC hM hr hlk rfl (by decide) (by decide) ⟨congrArg nI hj.symm, WR.x hCR ho hno hfo (by omega)⟩ dL_star_14
    | 1, hj, hE =>
      obtain rfl : xIS = E := Option.some.inj hE
      refine z_catch (pre := [⟨0, 9, 12, 13⟩]) (x := ⟨0, 9, 15, 15⟩) (suf := []) hC (htab.trans rfl) (fun z hz => by rw [List.mem_singleton.mp hz]; exact ⟨by decide, xIA, zcl_IA, by decide⟩) (by decide) (by decide) zcl_IS zcx_IS hcell hcv hcls ?_
      refine lv_astore_n (lv' := [(3, .ref q9), (0, .ref ((ad 1))), (1, .int x), (2, .ref oa)]) hx hb dL_star_15 rfl hl (by decide) rfl (fun ls hl => ?_)
      refine lv_iconst (v := nI 2) hx hb dL_star_16 (by decide) ?_
      rw [← hQ]
      refine vx_ret ?_
      exact z_iret hC hM hr hlk rfl (by decide) (by decide) ⟨congrArg nI hj.symm, WR.x hCR ho hno hfo (by omega)⟩ dL_star_17
    | j + 2, hj, hE => exact absurd hE (by simp)
  · obtain ⟨hk0, hv, hCR⟩ := hp
    subst hv
    obtain ⟨ho1, hfo1⟩ := hCR.out ho hno
    have hfo1 := hfo1.trans hfo
    refine lv_i2l (v := (nI (ns A)).toInt64) hx hb dL_star_7 rfl ?_
    refine z_last (i := 0) hC hM ho1 hfo1 (by decide) (by decide) dL_star_8 (fun H locs hM => ?_)
    refine lv_goto (tgt := 18) hx hb dL_star_9 (by decide) ?_
    refine lv_iconst (v := nI 0) hx hb dL_star_18 (by decide) ?_
    rw [← hQ]
    refine vx_ret ?_
    exact z_iret hC hM hr hlk rfl (by decide) (by decide) ⟨congrArg nI hk0.symm, f1, va_up g 0 ((nI (ns A)).toInt64), hCR, rfl, fun _ => (va_up_self _ _ _).trans rfl⟩ dL_star_19
theorem zyH_planet : zYH yL_planet cL_planet 8 (some .int) [(0, 16, 19, 21), (0, 16, 23, 13), (0, 16, 27, 15)] 7 := ⟨⟨wa_in 338 (by decide +kernel) rfl, rfl⟩, wa_in 27 (by decide +kernel) rfl, by decide +kernel, by decide +kernel, by decide +kernel⟩
set_option maxHeartbeats 400000 in
set_option maxRecDepth 100000 in
theorem w_planet {l : Launch} {base : Nat} {K : zK} {L : List Nat} {f : Nat → va_E} (hst : l.stackTraces = false) {A : zA} {ad : Nat → Nat} (hI : CI K L f A ad) {oa : Nat} {g : Nat → Int64} (ho : oa ∈ L) (hfo : f oa = eJ K 1 g) (hno : ∀ t, live A t → ad t ≠ oa) (x y1 y2 y3 y4 : Int32) : vx_Met l yL_planet (wzH yL_planet cL_planet 8 (some .int) [(0, 16, 19, 21), (0, 16, 23, 13), (0, 16, 27, 15)]) (zr 9 12 200 236) (va_Pc [.ref ((ad 1)), .int x, .int y1, .int y2, .int y3, .int y4, .ref oa] (zPre base K L f)) (zQi base K (fun r L1 f1 => r = nI (k_planet A x y1 y2 y3 y4) ∧ WR K A ad L f (a_planet A x y1 y2 y3 y4) oa (k_planet A x y1 y2 y3 y4) ((nI (A.1 3 (iv x) + 1)).toInt64) L1 f1)) (zX base K (fun _ _ _ => False)) ((zr 9 12 200 236)).cells ((zr 9 12 200 236)).slots (base ≤ ·) := by
  refine z_xmetH (by decide) (Nat.le_of_ble_eq_true rfl) (fun p e s m below meth c ls hC hM hr hlk htab hl => ?_)
  have hx := hC.1
  have hb := hC.2.1
  have hml := hC.2.2.1
  have hown := hC.2.2.2.1
  have hts := hC.2.2.2.2.1
  generalize hA : ([.ref ((ad 1)), .int x, .int y1, .int y2, .int y3, .int y4, .ref oa] : List Value).toArray = args at hC ⊢
  generalize hQ : vx_MQ _ _ _ _ _ _ _ _ = Q
  obtain ⟨locs, hlocs⟩ : ∃ z : List Loc, z = [] := ⟨_, rfl⟩
  obtain ⟨H, hH⟩ : ∃ z : Heap, z = s.heap := ⟨_, rfl⟩
  rw [← hlocs, ← hH] at hM ⊢
  have hfx : f (ad 1) = eS 7 [.ref (ad 6), .ref (ad 8), .ref (ad 10), .ref (ad 5), .int (nI (hN A 1000)), .ref (ad 2)] := hI.2.2.2.1
  have hLx := hI.2.1 1 (live_c (by omega))
  have hl : lv_has ls 8 [(0, .ref ((ad 1))), (1, .int x), (2, .int y1), (3, .int y2), (4, .int y3), (5, .int y4), (6, .ref oa)] := hl
  refine lv_aload hx hb dL_planet_0 (lv_at hl 6 rfl) ?_
  refine lv_iconst (v := nI 0) hx hb dL_planet_2 (by decide) ?_
  refine lv_aload_n hx hb dL_planet_3 rfl (lv_at hl 0 rfl) ?_
  refine lv_iload_n hx hb dL_planet_4 rfl (lv_at hl 1 rfl) ?_
  refine lv_iload_n hx hb dL_planet_5 rfl (lv_at hl 2 rfl) ?_
  refine lv_iload_n hx hb dL_planet_6 rfl (lv_at hl 3 rfl) ?_
  refine lv_iload hx hb dL_planet_7 (lv_at hl 4 rfl) ?_
  refine lv_iload hx hb dL_planet_9 (lv_at hl 5 rfl) ?_
  refine z_xq (av := #[]) (val := fun r : Int32 => some (.int r)) (post := fun r u => k_planet A x y1 y2 y3 y4 = 0 ∧ r = nI (A.1 3 (iv x) + 1) ∧ CR K A ad L f (a_planet A x y1 y2 y3 y4) u.1 u.2) (z_xrunV hC hM (p_planet hst hI x y1 y2 y3 y4) zy_X6_planet zm_L_17 hLx hfx zcl_X6 rfl rfl rfl hl.1 (Nat.le_of_ble_eq_true rfl) ⟨by decide, by decide⟩ ⟨by decide, by decide⟩ dL_planet_11) (fun st o t ⟨⟨r, u, h1, h2, h3⟩, h4⟩ => ⟨r, u, h1, h2, h3, h4⟩) hM (fun E ce q9 L1 f1 H locs hp hM hcell hcv hcls => ?_) (fun r L1 f1 H locs hp hM => ?_)
  · obtain ⟨hE, hCR⟩ := hp
    obtain ⟨j, hj, hE⟩ := xE_cases hE
    match j, hj, hE with
    | 0, hj, hE =>
      obtain rfl : xIO = E := Option.some.inj hE
      refine z_catch (pre := []) (x := ⟨0, 16, 19, 21⟩) (suf := [⟨0, 16, 23, 13⟩, ⟨0, 16, 27, 15⟩]) hC (htab.trans rfl) (fun z hz => absurd hz List.not_mem_nil) (by decide) (by decide) zcl_IO zcx_IO hcell hcv hcls ?_
      refine lv_astore (lv' := [(7, .ref q9), (0, .ref ((ad 1))), (1, .int x), (2, .int y1), (3, .int y2), (4, .int y3), (5, .int y4), (6, .ref oa)]) hx hb dL_planet_19 hl (by decide) rfl (fun ls hl => ?_)
      refine lv_iconst (v := nI 1) hx hb dL_planet_21 (by decide) ?_
      rw [← hQ]
      refine vx_ret ?_
      exact z_iret hC hM hr hlk rfl (by decide) (by decide) ⟨congrArg nI hj.symm, WR.x hCR ho hno hfo (by omega)⟩ dL_planet_22
    | 1, hj, hE =>
      obtain rfl : xIA = E := Option.some.inj hE
      refine z_catch (pre := [⟨0, 16, 19, 21⟩]) (x := ⟨0, 16, 23, 13⟩) (suf := [⟨0, 16, 27, 15⟩]) hC (htab.trans rfl) (fun z hz => by rw [List.mem_singleton.mp hz]; exact ⟨by decide, xIO, zcl_IO, by decide⟩) (by decide) (by decide) zcl_IA zcx_IA hcell hcv hcls ?_
      refine lv_astore (lv' := [(7, .ref q9), (0, .ref ((ad 1))), (1, .int x), (2, .int y1), (3, .int y2), (4, .int y3), (5, .int y4), (6, .ref oa)]) hx hb dL_planet_23 hl (by decide) rfl (fun ls hl => ?_)
      refine lv_iconst (v := nI 2) hx hb dL_planet_25 (by decide) ?_
      rw [← hQ]
      refine vx_ret ?_
      exact z_iret hC hM hr hlk rfl (by decide) (by decide) ⟨congrArg nI hj.symm, WR.x hCR ho hno hfo (by omega)⟩ dL_planet_26
    | 2, hj, hE =>
      obtain rfl : xIS = E := Option.some.inj hE
      refine z_catch (pre := [⟨0, 16, 19, 21⟩, ⟨0, 16, 23, 13⟩]) (x := ⟨0, 16, 27, 15⟩) (suf := []) hC (htab.trans rfl) (hpass2 (by decide) zcl_IO (by decide) (by decide) zcl_IA (by decide)) (by decide) (by decide) zcl_IS zcx_IS hcell hcv hcls ?_
      refine lv_astore (lv' := [(7, .ref q9), (0, .ref ((ad 1))), (1, .int x), (2, .int y1), (3, .int y2), (4, .int y3), (5, .int y4), (6, .ref oa)]) hx hb dL_planet_27 hl (by decide) rfl (fun ls hl => ?_)
      refine lv_iconst (v := nI 3) hx hb dL_planet_29 (by decide) ?_
      rw [← hQ]
      refine vx_ret ?_
      exact z_iret hC hM hr hlk rfl (by decide) (by decide) ⟨congrArg nI hj.symm, WR.x hCR ho hno hfo (by omega)⟩ dL_planet_30
    | j + 3, hj, hE => exact absurd hE (by simp)
  · obtain ⟨hk0, hv, hCR⟩ := hp
    subst hv
    obtain ⟨ho1, hfo1⟩ := hCR.out ho hno
    have hfo1 := hfo1.trans hfo
    refine lv_i2l (v := (nI (A.1 3 (iv x) + 1)).toInt64) hx hb dL_planet_14 rfl ?_
    refine z_last (i := 0) hC hM ho1 hfo1 (by decide) (by decide) dL_planet_15 (fun H locs hM => ?_)
    refine lv_goto (tgt := 31) hx hb dL_planet_16 (by decide) ?_
    refine lv_iconst (v := nI 0) hx hb dL_planet_31 (by decide) ?_
    rw [← hQ]
    refine vx_ret ?_
    exact z_iret hC hM hr hlk rfl (by decide) (by decide) ⟨congrArg nI hk0.symm, f1, va_up g 0 ((nI (A.1 3 (iv x) + 1)).toInt64), hCR, rfl, fun _ => (va_up_self _ _ _).trans rfl⟩ dL_planet_32
theorem zyH_spots : zYH yL_spots cL_spots 6 (some .int) [(0, 12, 15, 21), (0, 12, 19, 13)] 5 := ⟨⟨wa_in 403 (by decide +kernel) rfl, rfl⟩, wa_in 27 (by decide +kernel) rfl, by decide +kernel, by decide +kernel, by decide +kernel⟩
set_option maxHeartbeats 400000 in
set_option maxRecDepth 100000 in
theorem w_spots {l : Launch} {base : Nat} {K : zK} {L : List Nat} {f : Nat → va_E} (hst : l.stackTraces = false) {A : zA} {ad : Nat → Nat} (hI : CI K L f A ad) {oa : Nat} {g : Nat → Int64} (ho : oa ∈ L) (hfo : f oa = eJ K 1 g) (hno : ∀ t, live A t → ad t ≠ oa) (x y1 y2 : Int32) : vx_Met l yL_spots (wzH yL_spots cL_spots 6 (some .int) [(0, 12, 15, 21), (0, 12, 19, 13)]) (zr 8 3 18 129) (va_Pc [.ref ((ad 1)), .int x, .int y1, .int y2, .ref oa] (zPre base K L f)) (zQi base K (fun r L1 f1 => r = nI (k_spots A x y1 y2) ∧ WR K A ad L f (a_spots A x y1 y2) oa (k_spots A x y1 y2) ((nI (A.1 9 (iv x))).toInt64) L1 f1)) (zX base K (fun _ _ _ => False)) ((zr 8 3 18 129)).cells ((zr 8 3 18 129)).slots (base ≤ ·) := by
  refine z_xmetH (by decide) (Nat.le_of_ble_eq_true rfl) (fun p e s m below meth c ls hC hM hr hlk htab hl => ?_)
  have hx := hC.1
  have hb := hC.2.1
  have hml := hC.2.2.1
  have hown := hC.2.2.2.1
  have hts := hC.2.2.2.2.1
  generalize hA : ([.ref ((ad 1)), .int x, .int y1, .int y2, .ref oa] : List Value).toArray = args at hC ⊢
  generalize hQ : vx_MQ _ _ _ _ _ _ _ _ = Q
  obtain ⟨locs, hlocs⟩ : ∃ z : List Loc, z = [] := ⟨_, rfl⟩
  obtain ⟨H, hH⟩ : ∃ z : Heap, z = s.heap := ⟨_, rfl⟩
  rw [← hlocs, ← hH] at hM ⊢
  have hfx : f (ad 1) = eS 7 [.ref (ad 6), .ref (ad 8), .ref (ad 10), .ref (ad 5), .int (nI (hN A 1000)), .ref (ad 2)] := hI.2.2.2.1
  have hLx := hI.2.1 1 (live_c (by omega))
  have hl : lv_has ls 6 [(0, .ref ((ad 1))), (1, .int x), (2, .int y1), (3, .int y2), (4, .ref oa)] := hl
  refine lv_aload hx hb dL_spots_0 (lv_at hl 4 rfl) ?_
  refine lv_iconst (v := nI 0) hx hb dL_spots_2 (by decide) ?_
  refine lv_aload_n hx hb dL_spots_3 rfl (lv_at hl 0 rfl) ?_
  refine lv_iload_n hx hb dL_spots_4 rfl (lv_at hl 1 rfl) ?_
  refine lv_iload_n hx hb dL_spots_5 rfl (lv_at hl 2 rfl) ?_
  refine lv_iload_n hx hb dL_spots_6 rfl (lv_at hl 3 rfl) ?_
  refine z_xq (av := #[]) (val := fun r : Int32 => some (.int r)) (post := fun r u => k_spots A x y1 y2 = 0 ∧ r = nI (A.1 9 (iv x)) ∧ CR K A ad L f (a_spots A x y1 y2) u.1 u.2) (z_xrunV hC hM (p_spots hst hI x y1 y2) zy_X6_spots zm_L_23 hLx hfx zcl_X6 rfl rfl rfl hl.1 (Nat.le_of_ble_eq_true rfl) ⟨by decide, by decide⟩ ⟨by decide, by decide⟩ dL_spots_7) (fun st o t ⟨⟨r, u, h1, h2, h3⟩, h4⟩ => ⟨r, u, h1, h2, h3, h4⟩) hM (fun E ce q9 L1 f1 H locs hp hM hcell hcv hcls => ?_) (fun r L1 f1 H locs hp hM => ?_)
  · obtain ⟨hE, hCR⟩ := hp
    obtain ⟨j, hj, hE⟩ := xE_cases hE
    match j, hj, hE with
    | 0, hj, hE =>
      obtain rfl : xIO = E := Option.some.inj hE
      refine z_catch (pre := []) (x := ⟨0, 12, 15, 21⟩) (suf := [⟨0, 12, 19, 13⟩]) hC (htab.trans rfl) (fun z hz => absurd hz List.not_mem_nil) (by decide) (by decide) zcl_IO zcx_IO hcell hcv hcls ?_
      refine lv_astore (lv' := [(5, .ref q9), (0, .ref ((ad 1))), (1, .int x), (2, .int y1), (3, .int y2), (4, .ref oa)]) hx hb dL_spots_15 hl (by decide) rfl (fun ls hl => ?_)
      refine lv_iconst (v := nI 1) hx hb dL_spots_17 (by decide) ?_
      rw [← hQ]
      refine vx_ret ?_
      exact z_iret hC hM hr hlk rfl (by decide) (by decide) ⟨congrArg nI hj.symm, WR.x hCR ho hno hfo (by omega)⟩ dL_spots_18
    | 1, hj, hE =>
      obtain rfl : xIA = E := Option.some.inj hE
      refine z_catch (pre := [⟨0, 12, 15, 21⟩]) (x := ⟨0, 12, 19, 13⟩) (suf := []) hC (htab.trans rfl) (fun z hz => by rw [List.mem_singleton.mp hz]; exact ⟨by decide, xIO, zcl_IO, by decide⟩) (by decide) (by decide) zcl_IA zcx_IA hcell hcv hcls ?_
      refine lv_astore (lv' := [(5, .ref q9), (0, .ref ((ad 1))), (1, .int x), (2, .int y1), (3, .int y2), (4, .ref oa)]) hx hb dL_spots_19 hl (by decide) rfl (fun ls hl => ?_)
      refine lv_iconst (v := nI 2) hx hb dL_spots_21 (by decide) ?_
      rw [← hQ]
      refine vx_ret ?_
      exact z_iret hC hM hr hlk rfl (by decide) (by decide) ⟨congrArg nI hj.symm, WR.x hCR ho hno hfo (by omega)⟩ dL_spots_22
    | j + 2, hj, hE => exact absurd hE (by simp)
  · obtain ⟨hk0, hv, hCR⟩ := hp
    subst hv
    obtain ⟨ho1, hfo1⟩ := hCR.out ho hno
    have hfo1 := hfo1.trans hfo
    refine lv_i2l (v := (nI (A.1 9 (iv x))).toInt64) hx hb dL_spots_10 rfl ?_
    refine z_last (i := 0) hC hM ho1 hfo1 (by decide) (by decide) dL_spots_11 (fun H locs hM => ?_)
    refine lv_goto (tgt := 23) hx hb dL_spots_12 (by decide) ?_
    refine lv_iconst (v := nI 0) hx hb dL_spots_23 (by decide) ?_
    rw [← hQ]
    refine vx_ret ?_
    exact z_iret hC hM hr hlk rfl (by decide) (by decide) ⟨congrArg nI hk0.symm, f1, va_up g 0 ((nI (A.1 9 (iv x))).toInt64), hCR, rfl, fun _ => (va_up_self _ _ _).trans rfl⟩ dL_spots_24
theorem zyH_blend : zYH yL_blend cL_blend 5 (some .int) [(0, 10, 13, 21), (0, 10, 17, 13)] 4 := ⟨⟨wa_in 410 (by decide +kernel) rfl, rfl⟩, wa_in 27 (by decide +kernel) rfl, by decide +kernel, by decide +kernel, by decide +kernel⟩
set_option maxHeartbeats 400000 in
set_option maxRecDepth 100000 in
theorem w_blend {l : Launch} {base : Nat} {K : zK} {L : List Nat} {f : Nat → va_E} (hst : l.stackTraces = false) {A : zA} {ad : Nat → Nat} (hI : CI K L f A ad) {oa : Nat} {g : Nat → Int64} (ho : oa ∈ L) (hfo : f oa = eJ K 1 g) (hno : ∀ t, live A t → ad t ≠ oa) (x y1 : Int32) : vx_Met l yL_blend (wzH yL_blend cL_blend 5 (some .int) [(0, 10, 13, 21), (0, 10, 17, 13)]) (zr 8 2 12 128) (va_Pc [.ref ((ad 1)), .int x, .int y1, .ref oa] (zPre base K L f)) (zQi base K (fun r L1 f1 => r = nI (k_blend A x y1) ∧ WR K A ad L f (a_blend A x y1) oa (k_blend A x y1) ((nI (A.1 10 (iv x))).toInt64) L1 f1)) (zX base K (fun _ _ _ => False)) ((zr 8 2 12 128)).cells ((zr 8 2 12 128)).slots (base ≤ ·) := by
  refine z_xmetH (by decide) (Nat.le_of_ble_eq_true rfl) (fun p e s m below meth c ls hC hM hr hlk htab hl => ?_)
  have hx := hC.1
  have hb := hC.2.1
  have hml := hC.2.2.1
  have hown := hC.2.2.2.1
  have hts := hC.2.2.2.2.1
  generalize hA : ([.ref ((ad 1)), .int x, .int y1, .ref oa] : List Value).toArray = args at hC ⊢
  generalize hQ : vx_MQ _ _ _ _ _ _ _ _ = Q
  obtain ⟨locs, hlocs⟩ : ∃ z : List Loc, z = [] := ⟨_, rfl⟩
  obtain ⟨H, hH⟩ : ∃ z : Heap, z = s.heap := ⟨_, rfl⟩
  rw [← hlocs, ← hH] at hM ⊢
  have hfx : f (ad 1) = eS 7 [.ref (ad 6), .ref (ad 8), .ref (ad 10), .ref (ad 5), .int (nI (hN A 1000)), .ref (ad 2)] := hI.2.2.2.1
  have hLx := hI.2.1 1 (live_c (by omega))
  have hl : lv_has ls 5 [(0, .ref ((ad 1))), (1, .int x), (2, .int y1), (3, .ref oa)] := hl
  refine lv_aload_n hx hb dL_blend_0 rfl (lv_at hl 3 rfl) ?_
  refine lv_iconst (v := nI 0) hx hb dL_blend_1 (by decide) ?_
  refine lv_aload_n hx hb dL_blend_2 rfl (lv_at hl 0 rfl) ?_
  refine lv_iload_n hx hb dL_blend_3 rfl (lv_at hl 1 rfl) ?_
  refine lv_iload_n hx hb dL_blend_4 rfl (lv_at hl 2 rfl) ?_
  refine z_xq (av := #[]) (val := fun r : Int32 => some (.int r)) (post := fun r u => k_blend A x y1 = 0 ∧ r = nI (A.1 10 (iv x)) ∧ CR K A ad L f (a_blend A x y1) u.1 u.2) (z_xrunV hC hM (p_blend hst hI x y1) zy_X6_blend zm_L_27 hLx hfx zcl_X6 rfl rfl rfl hl.1 (Nat.le_of_ble_eq_true rfl) ⟨by decide, by decide⟩ ⟨by decide, by decide⟩ dL_blend_5) (fun st o t ⟨⟨r, u, h1, h2, h3⟩, h4⟩ => ⟨r, u, h1, h2, h3, h4⟩) hM (fun E ce q9 L1 f1 H locs hp hM hcell hcv hcls => ?_) (fun r L1 f1 H locs hp hM => ?_)
  · obtain ⟨hE, hCR⟩ := hp
    obtain ⟨j, hj, hE⟩ := xE_cases hE
    match j, hj, hE with
    | 0, hj, hE =>
      obtain rfl : xIO = E := Option.some.inj hE
      refine z_catch (pre := []) (x := ⟨0, 10, 13, 21⟩) (suf := [⟨0, 10, 17, 13⟩]) hC (htab.trans rfl) (fun z hz => absurd hz List.not_mem_nil) (by decide) (by decide) zcl_IO zcx_IO hcell hcv hcls ?_
      refine lv_astore (lv' := [(4, .ref q9), (0, .ref ((ad 1))), (1, .int x), (2, .int y1), (3, .ref oa)]) hx hb dL_blend_13 hl (by decide) rfl (fun ls hl => ?_)
      refine lv_iconst (v := nI 1) hx hb dL_blend_15 (by decide) ?_
      rw [← hQ]
      refine vx_ret ?_
      exact z_iret hC hM hr hlk rfl (by decide) (by decide) ⟨congrArg nI hj.symm, WR.x hCR ho hno hfo (by omega)⟩ dL_blend_16
    | 1, hj, hE =>
      obtain rfl : xIA = E := Option.some.inj hE
      refine z_catch (pre := [⟨0, 10, 13, 21⟩]) (x := ⟨0, 10, 17, 13⟩) (suf := []) hC (htab.trans rfl) (fun z hz => by rw [List.mem_singleton.mp hz]; exact ⟨by decide, xIO, zcl_IO, by decide⟩) (by decide) (by decide) zcl_IA zcx_IA hcell hcv hcls ?_
      refine lv_astore (lv' := [(4, .ref q9), (0, .ref ((ad 1))), (1, .int x), (2, .int y1), (3, .ref oa)]) hx hb dL_blend_17 hl (by decide) rfl (fun ls hl => ?_)
      refine lv_iconst (v := nI 2) hx hb dL_blend_19 (by decide) ?_
      rw [← hQ]
      refine vx_ret ?_
      exact z_iret hC hM hr hlk rfl (by decide) (by decide) ⟨congrArg nI hj.symm, WR.x hCR ho hno hfo (by omega)⟩ dL_blend_20
    | j + 2, hj, hE => exact absurd hE (by simp)
  · obtain ⟨hk0, hv, hCR⟩ := hp
    subst hv
    obtain ⟨ho1, hfo1⟩ := hCR.out ho hno
    have hfo1 := hfo1.trans hfo
    refine lv_i2l (v := (nI (A.1 10 (iv x))).toInt64) hx hb dL_blend_8 rfl ?_
    refine z_last (i := 0) hC hM ho1 hfo1 (by decide) (by decide) dL_blend_9 (fun H locs hM => ?_)
    refine lv_goto (tgt := 21) hx hb dL_blend_10 (by decide) ?_
    refine lv_iconst (v := nI 0) hx hb dL_blend_21 (by decide) ?_
    rw [← hQ]
    refine vx_ret ?_
    exact z_iret hC hM hr hlk rfl (by decide) (by decide) ⟨congrArg nI hk0.symm, f1, va_up g 0 ((nI (A.1 10 (iv x))).toInt64), hCR, rfl, fun _ => (va_up_self _ _ _).trans rfl⟩ dL_blend_22
theorem zyH_light : zYH yL_light cL_light 5 (some .int) [(0, 9, 12, 21)] 4 := ⟨⟨wa_in 417 (by decide +kernel) rfl, rfl⟩, wa_in 27 (by decide +kernel) rfl, by decide +kernel, by decide +kernel, by decide +kernel⟩
set_option maxHeartbeats 400000 in
set_option maxRecDepth 100000 in
theorem w_light {l : Launch} {base : Nat} {K : zK} {L : List Nat} {f : Nat → va_E} (hst : l.stackTraces = false) {A : zA} {ad : Nat → Nat} (hI : CI K L f A ad) {oa : Nat} {g : Nat → Int64} (ho : oa ∈ L) (hfo : f oa = eJ K 1 g) (hno : ∀ t, live A t → ad t ≠ oa) (x y1 : Int32) : vx_Met l yL_light (wzH yL_light cL_light 5 (some .int) [(0, 9, 12, 21)]) (zr 8 2 12 127) (va_Pc [.ref ((ad 1)), .int x, .int y1, .ref oa] (zPre base K L f)) (zQi base K (fun r L1 f1 => r = nI (k_light A x y1) ∧ WR K A ad L f A oa (k_light A x y1) (v_light A x y1) L1 f1)) (zX base K (fun _ _ _ => False)) ((zr 8 2 12 127)).cells ((zr 8 2 12 127)).slots (base ≤ ·) := by
  refine z_xmetH (by decide) (Nat.le_of_ble_eq_true rfl) (fun p e s m below meth c ls hC hM hr hlk htab hl => ?_)
  have hx := hC.1
  have hb := hC.2.1
  have hml := hC.2.2.1
  have hown := hC.2.2.2.1
  have hts := hC.2.2.2.2.1
  generalize hA : ([.ref ((ad 1)), .int x, .int y1, .ref oa] : List Value).toArray = args at hC ⊢
  generalize hQ : vx_MQ _ _ _ _ _ _ _ _ = Q
  obtain ⟨locs, hlocs⟩ : ∃ z : List Loc, z = [] := ⟨_, rfl⟩
  obtain ⟨H, hH⟩ : ∃ z : Heap, z = s.heap := ⟨_, rfl⟩
  rw [← hlocs, ← hH] at hM ⊢
  have hfx : f (ad 1) = eS 7 [.ref (ad 6), .ref (ad 8), .ref (ad 10), .ref (ad 5), .int (nI (hN A 1000)), .ref (ad 2)] := hI.2.2.2.1
  have hLx := hI.2.1 1 (live_c (by omega))
  have hl : lv_has ls 5 [(0, .ref ((ad 1))), (1, .int x), (2, .int y1), (3, .ref oa)] := hl
  refine lv_aload_n hx hb dL_light_0 rfl (lv_at hl 3 rfl) ?_
  refine lv_iconst (v := nI 0) hx hb dL_light_1 (by decide) ?_
  refine lv_aload_n hx hb dL_light_2 rfl (lv_at hl 0 rfl) ?_
  refine lv_iload_n hx hb dL_light_3 rfl (lv_at hl 1 rfl) ?_
  refine lv_iload_n hx hb dL_light_4 rfl (lv_at hl 2 rfl) ?_
  refine z_xq (av := #[]) (val := fun r : Int64 => some (.long r)) (post := fun r u => k_light A x y1 = 0 ∧ r = v_light A x y1 ∧ CR K A ad L f A u.1 u.2) (z_xrunV hC hM (p_light hst hI x y1) zy_X6_light zm_L_31 hLx hfx zcl_X6 rfl rfl rfl hl.1 (Nat.le_of_ble_eq_true rfl) ⟨by decide, by decide⟩ ⟨by decide, by decide⟩ dL_light_5) (fun st o t ⟨⟨r, u, h1, h2, h3⟩, h4⟩ => ⟨r, u, h1, h2, h3, h4⟩) hM (fun E ce q9 L1 f1 H locs hp hM hcell hcv hcls => ?_) (fun r L1 f1 H locs hp hM => ?_)
  · obtain ⟨hE, hCR⟩ := hp
    obtain ⟨j, hj, hE⟩ := xE_cases hE
    match j, hj, hE with
    | 0, hj, hE =>
      obtain rfl : xIO = E := Option.some.inj hE
      refine z_catch (pre := []) (x := ⟨0, 9, 12, 21⟩) (suf := []) hC (htab.trans rfl) (fun z hz => absurd hz List.not_mem_nil) (by decide) (by decide) zcl_IO zcx_IO hcell hcv hcls ?_
      refine lv_astore (lv' := [(4, .ref q9), (0, .ref ((ad 1))), (1, .int x), (2, .int y1), (3, .ref oa)]) hx hb dL_light_12 hl (by decide) rfl (fun ls hl => ?_)
      refine lv_iconst (v := nI 1) hx hb dL_light_14 (by decide) ?_
      rw [← hQ]
      refine vx_ret ?_
      exact z_iret hC hM hr hlk rfl (by decide) (by decide) ⟨congrArg nI hj.symm, WR.x hCR ho hno hfo (by omega)⟩ dL_light_15
    | j + 1, hj, hE => exact absurd hE (by simp)
  · obtain ⟨hk0, hv, hCR⟩ := hp
    subst hv
    obtain ⟨ho1, hfo1⟩ := hCR.out ho hno
    have hfo1 := hfo1.trans hfo
    refine z_last (i := 0) hC hM ho1 hfo1 (by decide) (by decide) dL_light_8 (fun H locs hM => ?_)
    refine lv_goto (tgt := 16) hx hb dL_light_9 (by decide) ?_
    refine lv_iconst (v := nI 0) hx hb dL_light_16 (by decide) ?_
    rw [← hQ]
    refine vx_ret ?_
    exact z_iret hC hM hr hlk rfl (by decide) (by decide) ⟨congrArg nI hk0.symm, f1, va_up g 0 (v_light A x y1), hCR, rfl, fun _ => (va_up_self _ _ _).trans rfl⟩ dL_light_17
theorem zyH_cloud : zYH yL_cloud cL_cloud 5 (some .int) [(0, 10, 13, 21), (0, 10, 17, 13)] 4 := ⟨⟨wa_in 454 (by decide +kernel) rfl, rfl⟩, wa_in 27 (by decide +kernel) rfl, by decide +kernel, by decide +kernel, by decide +kernel⟩
set_option maxHeartbeats 400000 in
set_option maxRecDepth 100000 in
theorem w_cloud {l : Launch} {base : Nat} {K : zK} {L : List Nat} {f : Nat → va_E} (hst : l.stackTraces = false) {A : zA} {ad : Nat → Nat} (hI : CI K L f A ad) {oa : Nat} {g : Nat → Int64} (ho : oa ∈ L) (hfo : f oa = eJ K 1 g) (hno : ∀ t, live A t → ad t ≠ oa) (x y1 : Int32) : vx_Met l yL_cloud (wzH yL_cloud cL_cloud 5 (some .int) [(0, 10, 13, 21), (0, 10, 17, 13)]) (zr 9 3 18 153) (va_Pc [.ref ((ad 1)), .int x, .int y1, .ref oa] (zPre base K L f)) (zQi base K (fun r L1 f1 => r = nI (k_cloud x y1) ∧ WR K A ad L f (a_cloud A x y1) oa (k_cloud x y1) ((v_cloud A x y1).toInt64) L1 f1)) (zX base K (fun _ _ _ => False)) ((zr 9 3 18 153)).cells ((zr 9 3 18 153)).slots (base ≤ ·) := by
  refine z_xmetH (by decide) (Nat.le_of_ble_eq_true rfl) (fun p e s m below meth c ls hC hM hr hlk htab hl => ?_)
  have hx := hC.1
  have hb := hC.2.1
  have hml := hC.2.2.1
  have hown := hC.2.2.2.1
  have hts := hC.2.2.2.2.1
  generalize hA : ([.ref ((ad 1)), .int x, .int y1, .ref oa] : List Value).toArray = args at hC ⊢
  generalize hQ : vx_MQ _ _ _ _ _ _ _ _ = Q
  obtain ⟨locs, hlocs⟩ : ∃ z : List Loc, z = [] := ⟨_, rfl⟩
  obtain ⟨H, hH⟩ : ∃ z : Heap, z = s.heap := ⟨_, rfl⟩
  rw [← hlocs, ← hH] at hM ⊢
  have hfx : f (ad 1) = eS 7 [.ref (ad 6), .ref (ad 8), .ref (ad 10), .ref (ad 5), .int (nI (hN A 1000)), .ref (ad 2)] := hI.2.2.2.1
  have hLx := hI.2.1 1 (live_c (by omega))
  have hl : lv_has ls 5 [(0, .ref ((ad 1))), (1, .int x), (2, .int y1), (3, .ref oa)] := hl
  refine lv_aload_n hx hb dL_cloud_0 rfl (lv_at hl 3 rfl) ?_
  refine lv_iconst (v := nI 0) hx hb dL_cloud_1 (by decide) ?_
  refine lv_aload_n hx hb dL_cloud_2 rfl (lv_at hl 0 rfl) ?_
  refine lv_iload_n hx hb dL_cloud_3 rfl (lv_at hl 1 rfl) ?_
  refine lv_iload_n hx hb dL_cloud_4 rfl (lv_at hl 2 rfl) ?_
  refine z_xq (av := #[]) (val := fun r : Int32 => some (.int r)) (post := fun r u => k_cloud x y1 = 0 ∧ r = v_cloud A x y1 ∧ CR K A ad L f (a_cloud A x y1) u.1 u.2) (z_xrunV hC hM (p_cloud hst hI x y1) zy_X6_cloud zm_L_35 hLx hfx zcl_X6 rfl rfl rfl hl.1 (Nat.le_of_ble_eq_true rfl) ⟨by decide, by decide⟩ ⟨by decide, by decide⟩ dL_cloud_5) (fun st o t ⟨⟨r, u, h1, h2, h3⟩, h4⟩ => ⟨r, u, h1, h2, h3, h4⟩) hM (fun E ce q9 L1 f1 H locs hp hM hcell hcv hcls => ?_) (fun r L1 f1 H locs hp hM => ?_)
  · obtain ⟨hE, hCR⟩ := hp
    obtain ⟨j, hj, hE⟩ := xE_cases hE
    match j, hj, hE with
    | 0, hj, hE =>
      obtain rfl : xIO = E := Option.some.inj hE
      refine z_catch (pre := []) (x := ⟨0, 10, 13, 21⟩) (suf := [⟨0, 10, 17, 13⟩]) hC (htab.trans rfl) (fun z hz => absurd hz List.not_mem_nil) (by decide) (by decide) zcl_IO zcx_IO hcell hcv hcls ?_
      refine lv_astore (lv' := [(4, .ref q9), (0, .ref ((ad 1))), (1, .int x), (2, .int y1), (3, .ref oa)]) hx hb dL_cloud_13 hl (by decide) rfl (fun ls hl => ?_)
      refine lv_iconst (v := nI 1) hx hb dL_cloud_15 (by decide) ?_
      rw [← hQ]
      refine vx_ret ?_
      exact z_iret hC hM hr hlk rfl (by decide) (by decide) ⟨congrArg nI hj.symm, WR.x hCR ho hno hfo (by omega)⟩ dL_cloud_16
    | 1, hj, hE =>
      obtain rfl : xIA = E := Option.some.inj hE
      refine z_catch (pre := [⟨0, 10, 13, 21⟩]) (x := ⟨0, 10, 17, 13⟩) (suf := []) hC (htab.trans rfl) (fun z hz => by rw [List.mem_singleton.mp hz]; exact ⟨by decide, xIO, zcl_IO, by decide⟩) (by decide) (by decide) zcl_IA zcx_IA hcell hcv hcls ?_
      refine lv_astore (lv' := [(4, .ref q9), (0, .ref ((ad 1))), (1, .int x), (2, .int y1), (3, .ref oa)]) hx hb dL_cloud_17 hl (by decide) rfl (fun ls hl => ?_)
      refine lv_iconst (v := nI 2) hx hb dL_cloud_19 (by decide) ?_
      rw [← hQ]
      refine vx_ret ?_
      exact z_iret hC hM hr hlk rfl (by decide) (by decide) ⟨congrArg nI hj.symm, WR.x hCR ho hno hfo (by omega)⟩ dL_cloud_20
    | j + 2, hj, hE => exact absurd hE (by simp)
  · obtain ⟨hk0, hv, hCR⟩ := hp
    subst hv
    obtain ⟨ho1, hfo1⟩ := hCR.out ho hno
    have hfo1 := hfo1.trans hfo
    refine lv_i2l (v := (v_cloud A x y1).toInt64) hx hb dL_cloud_8 rfl ?_
    refine z_last (i := 0) hC hM ho1 hfo1 (by decide) (by decide) dL_cloud_9 (fun H locs hM => ?_)
    refine lv_goto (tgt := 21) hx hb dL_cloud_10 (by decide) ?_
    refine lv_iconst (v := nI 0) hx hb dL_cloud_21 (by decide) ?_
    rw [← hQ]
    refine vx_ret ?_
    exact z_iret hC hM hr hlk rfl (by decide) (by decide) ⟨congrArg nI hk0.symm, f1, va_up g 0 ((v_cloud A x y1).toInt64), hCR, rfl, fun _ => (va_up_self _ _ _).trans rfl⟩ dL_cloud_22
theorem zyH_observe : zYH yL_observe cL_observe 6 (some .int) [(0, 12, 15, 21), (0, 12, 19, 13)] 5 := ⟨⟨wa_in 473 (by decide +kernel) rfl, rfl⟩, wa_in 27 (by decide +kernel) rfl, by decide +kernel, by decide +kernel, by decide +kernel⟩
set_option maxHeartbeats 400000 in
set_option maxRecDepth 100000 in
theorem w_observe {l : Launch} {base : Nat} {K : zK} {L : List Nat} {f : Nat → va_E} (hst : l.stackTraces = false) {A : zA} {ad : Nat → Nat} (hI : CI K L f A ad) {oa : Nat} {g : Nat → Int64} (ho : oa ∈ L) (hfo : f oa = eJ K 1 g) (hno : ∀ t, live A t → ad t ≠ oa) (x y1 y2 : Int32) : vx_Met l yL_observe (wzH yL_observe cL_observe 6 (some .int) [(0, 12, 15, 21), (0, 12, 19, 13)]) (zr 9 4 24 158) (va_Pc [.ref ((ad 1)), .int x, .int y1, .int y2, .ref oa] (zPre base K L f)) (zQi base K (fun r L1 f1 => r = nI (k_observe A x y1 y2) ∧ WR K A ad L f (a_observe A x y1 y2) oa (k_observe A x y1 y2) ((v_observe A x y1 y2).toInt64) L1 f1)) (zX base K (fun _ _ _ => False)) ((zr 9 4 24 158)).cells ((zr 9 4 24 158)).slots (base ≤ ·) := by
  refine z_xmetH (by decide) (Nat.le_of_ble_eq_true rfl) (fun p e s m below meth c ls hC hM hr hlk htab hl => ?_)
  have hx := hC.1
  have hb := hC.2.1
  have hml := hC.2.2.1
  have hown := hC.2.2.2.1
  have hts := hC.2.2.2.2.1
  generalize hA : ([.ref ((ad 1)), .int x, .int y1, .int y2, .ref oa] : List Value).toArray = args at hC ⊢
  generalize hQ : vx_MQ _ _ _ _ _ _ _ _ = Q
  obtain ⟨locs, hlocs⟩ : ∃ z : List Loc, z = [] := ⟨_, rfl⟩
  obtain ⟨H, hH⟩ : ∃ z : Heap, z = s.heap := ⟨_, rfl⟩
  rw [← hlocs, ← hH] at hM ⊢
  have hfx : f (ad 1) = eS 7 [.ref (ad 6), .ref (ad 8), .ref (ad 10), .ref (ad 5), .int (nI (hN A 1000)), .ref (ad 2)] := hI.2.2.2.1
  have hLx := hI.2.1 1 (live_c (by omega))
  have hl : lv_has ls 6 [(0, .ref ((ad 1))), (1, .int x), (2, .int y1), (3, .int y2), (4, .ref oa)] := hl
  refine lv_aload hx hb dL_observe_0 (lv_at hl 4 rfl) ?_
  refine lv_iconst (v := nI 0) hx hb dL_observe_2 (by decide) ?_
  refine lv_aload_n hx hb dL_observe_3 rfl (lv_at hl 0 rfl) ?_
  refine lv_iload_n hx hb dL_observe_4 rfl (lv_at hl 1 rfl) ?_
  refine lv_iload_n hx hb dL_observe_5 rfl (lv_at hl 2 rfl) ?_
  refine lv_iload_n hx hb dL_observe_6 rfl (lv_at hl 3 rfl) ?_
  refine z_xq (av := #[]) (val := fun r : Int32 => some (.int r)) (post := fun r u => k_observe A x y1 y2 = 0 ∧ r = v_observe A x y1 y2 ∧ CR K A ad L f (a_observe A x y1 y2) u.1 u.2) (z_xrunV hC hM (p_observe hst hI x y1 y2) zy_X6_observe zm_L_38 hLx hfx zcl_X6 rfl rfl rfl hl.1 (Nat.le_of_ble_eq_true rfl) ⟨by decide, by decide⟩ ⟨by decide, by decide⟩ dL_observe_7) (fun st o t ⟨⟨r, u, h1, h2, h3⟩, h4⟩ => ⟨r, u, h1, h2, h3, h4⟩) hM (fun E ce q9 L1 f1 H locs hp hM hcell hcv hcls => ?_) (fun r L1 f1 H locs hp hM => ?_)
  · obtain ⟨hE, hCR⟩ := hp
    obtain ⟨j, hj, hE⟩ := xE_cases hE
    match j, hj, hE with
    | 0, hj, hE =>
      obtain rfl : xIO = E := Option.some.inj hE
      refine z_catch (pre := []) (x := ⟨0, 12, 15, 21⟩) (suf := [⟨0, 12, 19, 13⟩]) hC (htab.trans rfl) (fun z hz => absurd hz List.not_mem_nil) (by decide) (by decide) zcl_IO zcx_IO hcell hcv hcls ?_
      refine lv_astore (lv' := [(5, .ref q9), (0, .ref ((ad 1))), (1, .int x), (2, .int y1), (3, .int y2), (4, .ref oa)]) hx hb dL_observe_15 hl (by decide) rfl (fun ls hl => ?_)
      refine lv_iconst (v := nI 1) hx hb dL_observe_17 (by decide) ?_
      rw [← hQ]
      refine vx_ret ?_
      exact z_iret hC hM hr hlk rfl (by decide) (by decide) ⟨congrArg nI hj.symm, WR.x hCR ho hno hfo (by omega)⟩ dL_observe_18
    | 1, hj, hE =>
      obtain rfl : xIA = E := Option.some.inj hE
      refine z_catch (pre := [⟨0, 12, 15, 21⟩]) (x := ⟨0, 12, 19, 13⟩) (suf := []) hC (htab.trans rfl) (fun z hz => by rw [List.mem_singleton.mp hz]; exact ⟨by decide, xIO, zcl_IO, by decide⟩) (by decide) (by decide) zcl_IA zcx_IA hcell hcv hcls ?_
      refine lv_astore (lv' := [(5, .ref q9), (0, .ref ((ad 1))), (1, .int x), (2, .int y1), (3, .int y2), (4, .ref oa)]) hx hb dL_observe_19 hl (by decide) rfl (fun ls hl => ?_)
      refine lv_iconst (v := nI 2) hx hb dL_observe_21 (by decide) ?_
      rw [← hQ]
      refine vx_ret ?_
      exact z_iret hC hM hr hlk rfl (by decide) (by decide) ⟨congrArg nI hj.symm, WR.x hCR ho hno hfo (by omega)⟩ dL_observe_22
    | j + 2, hj, hE => exact absurd hE (by simp)
  · obtain ⟨hk0, hv, hCR⟩ := hp
    subst hv
    obtain ⟨ho1, hfo1⟩ := hCR.out ho hno
    have hfo1 := hfo1.trans hfo
    refine lv_i2l (v := (v_observe A x y1 y2).toInt64) hx hb dL_observe_10 rfl ?_
    refine z_last (i := 0) hC hM ho1 hfo1 (by decide) (by decide) dL_observe_11 (fun H locs hM => ?_)
    refine lv_goto (tgt := 23) hx hb dL_observe_12 (by decide) ?_
    refine lv_iconst (v := nI 0) hx hb dL_observe_23 (by decide) ?_
    rw [← hQ]
    refine vx_ret ?_
    exact z_iret hC hM hr hlk rfl (by decide) (by decide) ⟨congrArg nI hk0.symm, f1, va_up g 0 ((v_observe A x y1 y2).toInt64), hCR, rfl, fun _ => (va_up_self _ _ _).trans rfl⟩ dL_observe_24
theorem zyH_kept : zYH yL_kept cL_kept 5 (some .int) [(0, 9, 12, 21)] 4 := ⟨⟨wa_in 492 (by decide +kernel) rfl, rfl⟩, wa_in 27 (by decide +kernel) rfl, by decide +kernel, by decide +kernel, by decide +kernel⟩
set_option maxHeartbeats 400000 in
set_option maxRecDepth 100000 in
theorem w_kept {l : Launch} {base : Nat} {K : zK} {L : List Nat} {f : Nat → va_E} (hst : l.stackTraces = false) {A : zA} {ad : Nat → Nat} (hI : CI K L f A ad) {oa : Nat} {g : Nat → Int64} (ho : oa ∈ L) (hfo : f oa = eJ K 1 g) (hno : ∀ t, live A t → ad t ≠ oa) (x y1 : Int32) : vx_Met l yL_kept (wzH yL_kept cL_kept 5 (some .int) [(0, 9, 12, 21)]) (zr 8 2 12 127) (va_Pc [.ref ((ad 1)), .int x, .int y1, .ref oa] (zPre base K L f)) (zQi base K (fun r L1 f1 => r = nI (k_kept A x y1) ∧ WR K A ad L f A oa (k_kept A x y1) (v_kept A x y1) L1 f1)) (zX base K (fun _ _ _ => False)) ((zr 8 2 12 127)).cells ((zr 8 2 12 127)).slots (base ≤ ·) := by
  refine z_xmetH (by decide) (Nat.le_of_ble_eq_true rfl) (fun p e s m below meth c ls hC hM hr hlk htab hl => ?_)
  have hx := hC.1
  have hb := hC.2.1
  have hml := hC.2.2.1
  have hown := hC.2.2.2.1
  have hts := hC.2.2.2.2.1
  generalize hA : ([.ref ((ad 1)), .int x, .int y1, .ref oa] : List Value).toArray = args at hC ⊢
  generalize hQ : vx_MQ _ _ _ _ _ _ _ _ = Q
  obtain ⟨locs, hlocs⟩ : ∃ z : List Loc, z = [] := ⟨_, rfl⟩
  obtain ⟨H, hH⟩ : ∃ z : Heap, z = s.heap := ⟨_, rfl⟩
  rw [← hlocs, ← hH] at hM ⊢
  have hfx : f (ad 1) = eS 7 [.ref (ad 6), .ref (ad 8), .ref (ad 10), .ref (ad 5), .int (nI (hN A 1000)), .ref (ad 2)] := hI.2.2.2.1
  have hLx := hI.2.1 1 (live_c (by omega))
  have hl : lv_has ls 5 [(0, .ref ((ad 1))), (1, .int x), (2, .int y1), (3, .ref oa)] := hl
  refine lv_aload_n hx hb dL_kept_0 rfl (lv_at hl 3 rfl) ?_
  refine lv_iconst (v := nI 0) hx hb dL_kept_1 (by decide) ?_
  refine lv_aload_n hx hb dL_kept_2 rfl (lv_at hl 0 rfl) ?_
  refine lv_iload_n hx hb dL_kept_3 rfl (lv_at hl 1 rfl) ?_
  refine lv_iload_n hx hb dL_kept_4 rfl (lv_at hl 2 rfl) ?_
  refine z_xq (av := #[]) (val := fun r : Int64 => some (.long r)) (post := fun r u => k_kept A x y1 = 0 ∧ r = v_kept A x y1 ∧ CR K A ad L f A u.1 u.2) (z_xrunV hC hM (p_kept hst hI x y1) zy_X6_kept zm_L_41 hLx hfx zcl_X6 rfl rfl rfl hl.1 (Nat.le_of_ble_eq_true rfl) ⟨by decide, by decide⟩ ⟨by decide, by decide⟩ dL_kept_5) (fun st o t ⟨⟨r, u, h1, h2, h3⟩, h4⟩ => ⟨r, u, h1, h2, h3, h4⟩) hM (fun E ce q9 L1 f1 H locs hp hM hcell hcv hcls => ?_) (fun r L1 f1 H locs hp hM => ?_)
  · obtain ⟨hE, hCR⟩ := hp
    obtain ⟨j, hj, hE⟩ := xE_cases hE
    match j, hj, hE with
    | 0, hj, hE =>
      obtain rfl : xIO = E := Option.some.inj hE
      refine z_catch (pre := []) (x := ⟨0, 9, 12, 21⟩) (suf := []) hC (htab.trans rfl) (fun z hz => absurd hz List.not_mem_nil) (by decide) (by decide) zcl_IO zcx_IO hcell hcv hcls ?_
      refine lv_astore (lv' := [(4, .ref q9), (0, .ref ((ad 1))), (1, .int x), (2, .int y1), (3, .ref oa)]) hx hb dL_kept_12 hl (by decide) rfl (fun ls hl => ?_)
      refine lv_iconst (v := nI 1) hx hb dL_kept_14 (by decide) ?_
      rw [← hQ]
      refine vx_ret ?_
      exact z_iret hC hM hr hlk rfl (by decide) (by decide) ⟨congrArg nI hj.symm, WR.x hCR ho hno hfo (by omega)⟩ dL_kept_15
    | j + 1, hj, hE => exact absurd hE (by simp)
  · obtain ⟨hk0, hv, hCR⟩ := hp
    subst hv
    obtain ⟨ho1, hfo1⟩ := hCR.out ho hno
    have hfo1 := hfo1.trans hfo
    refine z_last (i := 0) hC hM ho1 hfo1 (by decide) (by decide) dL_kept_8 (fun H locs hM => ?_)
    refine lv_goto (tgt := 16) hx hb dL_kept_9 (by decide) ?_
    refine lv_iconst (v := nI 0) hx hb dL_kept_16 (by decide) ?_
    rw [← hQ]
    refine vx_ret ?_
    exact z_iret hC hM hr hlk rfl (by decide) (by decide) ⟨congrArg nI hk0.symm, f1, va_up g 0 (v_kept A x y1), hCR, rfl, fun _ => (va_up_self _ _ _).trans rfl⟩ dL_kept_17
theorem zyH_score : zYH yL_score cL_score 5 (some .int) [(0, 9, 12, 21), (0, 9, 16, 13), (0, 9, 20, 15)] 4 := ⟨⟨wa_in 501 (by decide +kernel) rfl, rfl⟩, wa_in 27 (by decide +kernel) rfl, by decide +kernel, by decide +kernel, by decide +kernel⟩
set_option maxHeartbeats 400000 in
set_option maxRecDepth 100000 in
theorem w_score {l : Launch} {base : Nat} {K : zK} {L : List Nat} {f : Nat → va_E} (hst : l.stackTraces = false) {A : zA} {ad : Nat → Nat} (hI : CI K L f A ad) {oa : Nat} {g : Nat → Int64} (ho : oa ∈ L) (hfo : f oa = eJ K 1 g) (hno : ∀ t, live A t → ad t ≠ oa) (x y1 : Int32) : vx_Met l yL_score (wzH yL_score cL_score 5 (some .int) [(0, 9, 12, 21), (0, 9, 16, 13), (0, 9, 20, 15)]) (zr 9 3 18 152) (va_Pc [.ref ((ad 1)), .int x, .int y1, .ref oa] (zPre base K L f)) (zQi base K (fun r L1 f1 => r = nI (k_fold A x y1) ∧ WR K A ad L f A oa (k_fold A x y1) (v_score A x y1) L1 f1)) (zX base K (fun _ _ _ => False)) ((zr 9 3 18 152)).cells ((zr 9 3 18 152)).slots (base ≤ ·) := by
  refine z_xmetH (by decide) (Nat.le_of_ble_eq_true rfl) (fun p e s m below meth c ls hC hM hr hlk htab hl => ?_)
  have hx := hC.1
  have hb := hC.2.1
  have hml := hC.2.2.1
  have hown := hC.2.2.2.1
  have hts := hC.2.2.2.2.1
  generalize hA : ([.ref ((ad 1)), .int x, .int y1, .ref oa] : List Value).toArray = args at hC ⊢
  generalize hQ : vx_MQ _ _ _ _ _ _ _ _ = Q
  obtain ⟨locs, hlocs⟩ : ∃ z : List Loc, z = [] := ⟨_, rfl⟩
  obtain ⟨H, hH⟩ : ∃ z : Heap, z = s.heap := ⟨_, rfl⟩
  rw [← hlocs, ← hH] at hM ⊢
  have hfx : f (ad 1) = eS 7 [.ref (ad 6), .ref (ad 8), .ref (ad 10), .ref (ad 5), .int (nI (hN A 1000)), .ref (ad 2)] := hI.2.2.2.1
  have hLx := hI.2.1 1 (live_c (by omega))
  have hl : lv_has ls 5 [(0, .ref ((ad 1))), (1, .int x), (2, .int y1), (3, .ref oa)] := hl
  refine lv_aload_n hx hb dL_score_0 rfl (lv_at hl 3 rfl) ?_
  refine lv_iconst (v := nI 0) hx hb dL_score_1 (by decide) ?_
  refine lv_aload_n hx hb dL_score_2 rfl (lv_at hl 0 rfl) ?_
  refine lv_iload_n hx hb dL_score_3 rfl (lv_at hl 1 rfl) ?_
  refine lv_iload_n hx hb dL_score_4 rfl (lv_at hl 2 rfl) ?_
  refine z_xq (av := #[]) (val := fun r : Int64 => some (.long r)) (post := fun r u => k_fold A x y1 = 0 ∧ r = v_score A x y1 ∧ CR K A ad L f A u.1 u.2) (z_xrunV hC hM (p_score hst hI x y1) zy_X6_score zm_L_44 hLx hfx zcl_X6 rfl rfl rfl hl.1 (Nat.le_of_ble_eq_true rfl) ⟨by decide, by decide⟩ ⟨by decide, by decide⟩ dL_score_5) (fun st o t ⟨⟨r, u, h1, h2, h3⟩, h4⟩ => ⟨r, u, h1, h2, h3, h4⟩) hM (fun E ce q9 L1 f1 H locs hp hM hcell hcv hcls => ?_) (fun r L1 f1 H locs hp hM => ?_)
  · obtain ⟨hE, hCR⟩ := hp
    obtain ⟨j, hj, hE⟩ := xE_cases hE
    match j, hj, hE with
    | 0, hj, hE =>
      obtain rfl : xIO = E := Option.some.inj hE
      refine z_catch (pre := []) (x := ⟨0, 9, 12, 21⟩) (suf := [⟨0, 9, 16, 13⟩, ⟨0, 9, 20, 15⟩]) hC (htab.trans rfl) (fun z hz => absurd hz List.not_mem_nil) (by decide) (by decide) zcl_IO zcx_IO hcell hcv hcls ?_
      refine lv_astore (lv' := [(4, .ref q9), (0, .ref ((ad 1))), (1, .int x), (2, .int y1), (3, .ref oa)]) hx hb dL_score_12 hl (by decide) rfl (fun ls hl => ?_)
      refine lv_iconst (v := nI 1) hx hb dL_score_14 (by decide) ?_
      rw [← hQ]
      refine vx_ret ?_
      exact z_iret hC hM hr hlk rfl (by decide) (by decide) ⟨congrArg nI hj.symm, WR.x hCR ho hno hfo (by omega)⟩ dL_score_15
    | 1, hj, hE =>
      obtain rfl : xIA = E := Option.some.inj hE
      refine z_catch (pre := [⟨0, 9, 12, 21⟩]) (x := ⟨0, 9, 16, 13⟩) (suf := [⟨0, 9, 20, 15⟩]) hC (htab.trans rfl) (fun z hz => by rw [List.mem_singleton.mp hz]; exact ⟨by decide, xIO, zcl_IO, by decide⟩) (by decide) (by decide) zcl_IA zcx_IA hcell hcv hcls ?_
      refine lv_astore (lv' := [(4, .ref q9), (0, .ref ((ad 1))), (1, .int x), (2, .int y1), (3, .ref oa)]) hx hb dL_score_16 hl (by decide) rfl (fun ls hl => ?_)
      refine lv_iconst (v := nI 2) hx hb dL_score_18 (by decide) ?_
      rw [← hQ]
      refine vx_ret ?_
      exact z_iret hC hM hr hlk rfl (by decide) (by decide) ⟨congrArg nI hj.symm, WR.x hCR ho hno hfo (by omega)⟩ dL_score_19
    | 2, hj, hE =>
      obtain rfl : xIS = E := Option.some.inj hE
      refine z_catch (pre := [⟨0, 9, 12, 21⟩, ⟨0, 9, 16, 13⟩]) (x := ⟨0, 9, 20, 15⟩) (suf := []) hC (htab.trans rfl) (hpass2 (by decide) zcl_IO (by decide) (by decide) zcl_IA (by decide)) (by decide) (by decide) zcl_IS zcx_IS hcell hcv hcls ?_
      refine lv_astore (lv' := [(4, .ref q9), (0, .ref ((ad 1))), (1, .int x), (2, .int y1), (3, .ref oa)]) hx hb dL_score_20 hl (by decide) rfl (fun ls hl => ?_)
      refine lv_iconst (v := nI 3) hx hb dL_score_22 (by decide) ?_
      rw [← hQ]
      refine vx_ret ?_
      exact z_iret hC hM hr hlk rfl (by decide) (by decide) ⟨congrArg nI hj.symm, WR.x hCR ho hno hfo (by omega)⟩ dL_score_23
    | j + 3, hj, hE => exact absurd hE (by simp)
  · obtain ⟨hk0, hv, hCR⟩ := hp
    subst hv
    obtain ⟨ho1, hfo1⟩ := hCR.out ho hno
    have hfo1 := hfo1.trans hfo
    refine z_last (i := 0) hC hM ho1 hfo1 (by decide) (by decide) dL_score_8 (fun H locs hM => ?_)
    refine lv_goto (tgt := 24) hx hb dL_score_9 (by decide) ?_
    refine lv_iconst (v := nI 0) hx hb dL_score_24 (by decide) ?_
    rw [← hQ]
    refine vx_ret ?_
    exact z_iret hC hM hr hlk rfl (by decide) (by decide) ⟨congrArg nI hk0.symm, f1, va_up g 0 (v_score A x y1), hCR, rfl, fun _ => (va_up_self _ _ _).trans rfl⟩ dL_score_25
theorem zyH_phase : zYH yL_phase cL_phase 5 (some .int) [(0, 10, 13, 21), (0, 10, 17, 13), (0, 10, 21, 15)] 4 := ⟨⟨wa_in 540 (by decide +kernel) rfl, rfl⟩, wa_in 27 (by decide +kernel) rfl, by decide +kernel, by decide +kernel, by decide +kernel⟩
set_option maxHeartbeats 400000 in
set_option maxRecDepth 100000 in
theorem w_phase {l : Launch} {base : Nat} {K : zK} {L : List Nat} {f : Nat → va_E} (hst : l.stackTraces = false) {A : zA} {ad : Nat → Nat} (hI : CI K L f A ad) {oa : Nat} {g : Nat → Int64} (ho : oa ∈ L) (hfo : f oa = eJ K 1 g) (hno : ∀ t, live A t → ad t ≠ oa) (x y1 : Int32) : vx_Met l yL_phase (wzH yL_phase cL_phase 5 (some .int) [(0, 10, 13, 21), (0, 10, 17, 13), (0, 10, 21, 15)]) (zr 9 3 18 152) (va_Pc [.ref ((ad 1)), .int x, .int y1, .ref oa] (zPre base K L f)) (zQi base K (fun r L1 f1 => r = nI (k_fold A x y1) ∧ WR K A ad L f A oa (k_fold A x y1) ((v_phase A x y1).toInt64) L1 f1)) (zX base K (fun _ _ _ => False)) ((zr 9 3 18 152)).cells ((zr 9 3 18 152)).slots (base ≤ ·) := by
  refine z_xmetH (by decide) (Nat.le_of_ble_eq_true rfl) (fun p e s m below meth c ls hC hM hr hlk htab hl => ?_)
  have hx := hC.1
  have hb := hC.2.1
  have hml := hC.2.2.1
  have hown := hC.2.2.2.1
  have hts := hC.2.2.2.2.1
  generalize hA : ([.ref ((ad 1)), .int x, .int y1, .ref oa] : List Value).toArray = args at hC ⊢
  generalize hQ : vx_MQ _ _ _ _ _ _ _ _ = Q
  obtain ⟨locs, hlocs⟩ : ∃ z : List Loc, z = [] := ⟨_, rfl⟩
  obtain ⟨H, hH⟩ : ∃ z : Heap, z = s.heap := ⟨_, rfl⟩
  rw [← hlocs, ← hH] at hM ⊢
  have hfx : f (ad 1) = eS 7 [.ref (ad 6), .ref (ad 8), .ref (ad 10), .ref (ad 5), .int (nI (hN A 1000)), .ref (ad 2)] := hI.2.2.2.1
  have hLx := hI.2.1 1 (live_c (by omega))
  have hl : lv_has ls 5 [(0, .ref ((ad 1))), (1, .int x), (2, .int y1), (3, .ref oa)] := hl
  refine lv_aload_n hx hb dL_phase_0 rfl (lv_at hl 3 rfl) ?_
  refine lv_iconst (v := nI 0) hx hb dL_phase_1 (by decide) ?_
  refine lv_aload_n hx hb dL_phase_2 rfl (lv_at hl 0 rfl) ?_
  refine lv_iload_n hx hb dL_phase_3 rfl (lv_at hl 1 rfl) ?_
  refine lv_iload_n hx hb dL_phase_4 rfl (lv_at hl 2 rfl) ?_
  refine z_xq (av := #[]) (val := fun r : Int32 => some (.int r)) (post := fun r u => k_fold A x y1 = 0 ∧ r = v_phase A x y1 ∧ CR K A ad L f A u.1 u.2) (z_xrunV hC hM (p_phase hst hI x y1) zy_X6_phase zm_L_47 hLx hfx zcl_X6 rfl rfl rfl hl.1 (Nat.le_of_ble_eq_true rfl) ⟨by decide, by decide⟩ ⟨by decide, by decide⟩ dL_phase_5) (fun st o t ⟨⟨r, u, h1, h2, h3⟩, h4⟩ => ⟨r, u, h1, h2, h3, h4⟩) hM (fun E ce q9 L1 f1 H locs hp hM hcell hcv hcls => ?_) (fun r L1 f1 H locs hp hM => ?_)
  · obtain ⟨hE, hCR⟩ := hp
    obtain ⟨j, hj, hE⟩ := xE_cases hE
    match j, hj, hE with
    | 0, hj, hE =>
      obtain rfl : xIO = E := Option.some.inj hE
      refine z_catch (pre := []) (x := ⟨0, 10, 13, 21⟩) (suf := [⟨0, 10, 17, 13⟩, ⟨0, 10, 21, 15⟩]) hC (htab.trans rfl) (fun z hz => absurd hz List.not_mem_nil) (by decide) (by decide) zcl_IO zcx_IO hcell hcv hcls ?_
      refine lv_astore (lv' := [(4, .ref q9), (0, .ref ((ad 1))), (1, .int x), (2, .int y1), (3, .ref oa)]) hx hb dL_phase_13 hl (by decide) rfl (fun ls hl => ?_)
      refine lv_iconst (v := nI 1) hx hb dL_phase_15 (by decide) ?_
      rw [← hQ]
      refine vx_ret ?_
      exact z_iret hC hM hr hlk rfl (by decide) (by decide) ⟨congrArg nI hj.symm, WR.x hCR ho hno hfo (by omega)⟩ dL_phase_16
    | 1, hj, hE =>
      obtain rfl : xIA = E := Option.some.inj hE
      refine z_catch (pre := [⟨0, 10, 13, 21⟩]) (x := ⟨0, 10, 17, 13⟩) (suf := [⟨0, 10, 21, 15⟩]) hC (htab.trans rfl) (fun z hz => by rw [List.mem_singleton.mp hz]; exact ⟨by decide, xIO, zcl_IO, by decide⟩) (by decide) (by decide) zcl_IA zcx_IA hcell hcv hcls ?_
      refine lv_astore (lv' := [(4, .ref q9), (0, .ref ((ad 1))), (1, .int x), (2, .int y1), (3, .ref oa)]) hx hb dL_phase_17 hl (by decide) rfl (fun ls hl => ?_)
      refine lv_iconst (v := nI 2) hx hb dL_phase_19 (by decide) ?_
      rw [← hQ]
      refine vx_ret ?_
      exact z_iret hC hM hr hlk rfl (by decide) (by decide) ⟨congrArg nI hj.symm, WR.x hCR ho hno hfo (by omega)⟩ dL_phase_20
    | 2, hj, hE =>
      obtain rfl : xIS = E := Option.some.inj hE
      refine z_catch (pre := [⟨0, 10, 13, 21⟩, ⟨0, 10, 17, 13⟩]) (x := ⟨0, 10, 21, 15⟩) (suf := []) hC (htab.trans rfl) (hpass2 (by decide) zcl_IO (by decide) (by decide) zcl_IA (by decide)) (by decide) (by decide) zcl_IS zcx_IS hcell hcv hcls ?_
      refine lv_astore (lv' := [(4, .ref q9), (0, .ref ((ad 1))), (1, .int x), (2, .int y1), (3, .ref oa)]) hx hb dL_phase_21 hl (by decide) rfl (fun ls hl => ?_)
      refine lv_iconst (v := nI 3) hx hb dL_phase_23 (by decide) ?_
      rw [← hQ]
      refine vx_ret ?_
      exact z_iret hC hM hr hlk rfl (by decide) (by decide) ⟨congrArg nI hj.symm, WR.x hCR ho hno hfo (by omega)⟩ dL_phase_24
    | j + 3, hj, hE => exact absurd hE (by simp)
  · obtain ⟨hk0, hv, hCR⟩ := hp
    subst hv
    obtain ⟨ho1, hfo1⟩ := hCR.out ho hno
    have hfo1 := hfo1.trans hfo
    refine lv_i2l (v := (v_phase A x y1).toInt64) hx hb dL_phase_8 rfl ?_
    refine z_last (i := 0) hC hM ho1 hfo1 (by decide) (by decide) dL_phase_9 (fun H locs hM => ?_)
    refine lv_goto (tgt := 25) hx hb dL_phase_10 (by decide) ?_
    refine lv_iconst (v := nI 0) hx hb dL_phase_25 (by decide) ?_
    rw [← hQ]
    refine vx_ret ?_
    exact z_iret hC hM hr hlk rfl (by decide) (by decide) ⟨congrArg nI hk0.symm, f1, va_up g 0 ((v_phase A x y1).toInt64), hCR, rfl, fun _ => (va_up_self _ _ _).trans rfl⟩ dL_phase_26
theorem zyH_period : zYH yL_period cL_period 5 (some .int) [(0, 10, 13, 21), (0, 10, 17, 13), (0, 10, 21, 15)] 4 := ⟨⟨wa_in 547 (by decide +kernel) rfl, rfl⟩, wa_in 27 (by decide +kernel) rfl, by decide +kernel, by decide +kernel, by decide +kernel⟩
set_option maxHeartbeats 400000 in
set_option maxRecDepth 100000 in
theorem w_period {l : Launch} {base : Nat} {K : zK} {L : List Nat} {f : Nat → va_E} (hst : l.stackTraces = false) {A : zA} {ad : Nat → Nat} (hI : CI K L f A ad) {oa : Nat} {g : Nat → Int64} (ho : oa ∈ L) (hfo : f oa = eJ K 1 g) (hno : ∀ t, live A t → ad t ≠ oa) (x y1 : Int32) : vx_Met l yL_period (wzH yL_period cL_period 5 (some .int) [(0, 10, 13, 21), (0, 10, 17, 13), (0, 10, 21, 15)]) (zr 9 3 18 166) (va_Pc [.ref ((ad 1)), .int x, .int y1, .ref oa] (zPre base K L f)) (zQi base K (fun r L1 f1 => r = nI (k_period A x y1) ∧ WR K A ad L f A oa (k_period A x y1) ((v_period A x y1).toInt64) L1 f1)) (zX base K (fun _ _ _ => False)) ((zr 9 3 18 166)).cells ((zr 9 3 18 166)).slots (base ≤ ·) := by
  refine z_xmetH (by decide) (Nat.le_of_ble_eq_true rfl) (fun p e s m below meth c ls hC hM hr hlk htab hl => ?_)
  have hx := hC.1
  have hb := hC.2.1
  have hml := hC.2.2.1
  have hown := hC.2.2.2.1
  have hts := hC.2.2.2.2.1
  generalize hA : ([.ref ((ad 1)), .int x, .int y1, .ref oa] : List Value).toArray = args at hC ⊢
  generalize hQ : vx_MQ _ _ _ _ _ _ _ _ = Q
  obtain ⟨locs, hlocs⟩ : ∃ z : List Loc, z = [] := ⟨_, rfl⟩
  obtain ⟨H, hH⟩ : ∃ z : Heap, z = s.heap := ⟨_, rfl⟩
  rw [← hlocs, ← hH] at hM ⊢
  have hfx : f (ad 1) = eS 7 [.ref (ad 6), .ref (ad 8), .ref (ad 10), .ref (ad 5), .int (nI (hN A 1000)), .ref (ad 2)] := hI.2.2.2.1
  have hLx := hI.2.1 1 (live_c (by omega))
  have hl : lv_has ls 5 [(0, .ref ((ad 1))), (1, .int x), (2, .int y1), (3, .ref oa)] := hl
  refine lv_aload_n hx hb dL_period_0 rfl (lv_at hl 3 rfl) ?_
  refine lv_iconst (v := nI 0) hx hb dL_period_1 (by decide) ?_
  refine lv_aload_n hx hb dL_period_2 rfl (lv_at hl 0 rfl) ?_
  refine lv_iload_n hx hb dL_period_3 rfl (lv_at hl 1 rfl) ?_
  refine lv_iload_n hx hb dL_period_4 rfl (lv_at hl 2 rfl) ?_
  refine z_xq (av := #[]) (val := fun r : Int32 => some (.int r)) (post := fun r u => k_period A x y1 = 0 ∧ r = v_period A x y1 ∧ CR K A ad L f A u.1 u.2) (z_xrunV hC hM (p_period hst hI x y1) zy_X6_period zm_L_50 hLx hfx zcl_X6 rfl rfl rfl hl.1 (Nat.le_of_ble_eq_true rfl) ⟨by decide, by decide⟩ ⟨by decide, by decide⟩ dL_period_5) (fun st o t ⟨⟨r, u, h1, h2, h3⟩, h4⟩ => ⟨r, u, h1, h2, h3, h4⟩) hM (fun E ce q9 L1 f1 H locs hp hM hcell hcv hcls => ?_) (fun r L1 f1 H locs hp hM => ?_)
  · obtain ⟨hE, hCR⟩ := hp
    obtain ⟨j, hj, hE⟩ := xE_cases hE
    match j, hj, hE with
    | 0, hj, hE =>
      obtain rfl : xIO = E := Option.some.inj hE
      refine z_catch (pre := []) (x := ⟨0, 10, 13, 21⟩) (suf := [⟨0, 10, 17, 13⟩, ⟨0, 10, 21, 15⟩]) hC (htab.trans rfl) (fun z hz => absurd hz List.not_mem_nil) (by decide) (by decide) zcl_IO zcx_IO hcell hcv hcls ?_
      refine lv_astore (lv' := [(4, .ref q9), (0, .ref ((ad 1))), (1, .int x), (2, .int y1), (3, .ref oa)]) hx hb dL_period_13 hl (by decide) rfl (fun ls hl => ?_)
      refine lv_iconst (v := nI 1) hx hb dL_period_15 (by decide) ?_
      rw [← hQ]
      refine vx_ret ?_
      exact z_iret hC hM hr hlk rfl (by decide) (by decide) ⟨congrArg nI hj.symm, WR.x hCR ho hno hfo (by omega)⟩ dL_period_16
    | 1, hj, hE =>
      obtain rfl : xIA = E := Option.some.inj hE
      refine z_catch (pre := [⟨0, 10, 13, 21⟩]) (x := ⟨0, 10, 17, 13⟩) (suf := [⟨0, 10, 21, 15⟩]) hC (htab.trans rfl) (fun z hz => by rw [List.mem_singleton.mp hz]; exact ⟨by decide, xIO, zcl_IO, by decide⟩) (by decide) (by decide) zcl_IA zcx_IA hcell hcv hcls ?_
      refine lv_astore (lv' := [(4, .ref q9), (0, .ref ((ad 1))), (1, .int x), (2, .int y1), (3, .ref oa)]) hx hb dL_period_17 hl (by decide) rfl (fun ls hl => ?_)
      refine lv_iconst (v := nI 2) hx hb dL_period_19 (by decide) ?_
      rw [← hQ]
      refine vx_ret ?_
      exact z_iret hC hM hr hlk rfl (by decide) (by decide) ⟨congrArg nI hj.symm, WR.x hCR ho hno hfo (by omega)⟩ dL_period_20
    | 2, hj, hE =>
      obtain rfl : xIS = E := Option.some.inj hE
      refine z_catch (pre := [⟨0, 10, 13, 21⟩, ⟨0, 10, 17, 13⟩]) (x := ⟨0, 10, 21, 15⟩) (suf := []) hC (htab.trans rfl) (hpass2 (by decide) zcl_IO (by decide) (by decide) zcl_IA (by decide)) (by decide) (by decide) zcl_IS zcx_IS hcell hcv hcls ?_
      refine lv_astore (lv' := [(4, .ref q9), (0, .ref ((ad 1))), (1, .int x), (2, .int y1), (3, .ref oa)]) hx hb dL_period_21 hl (by decide) rfl (fun ls hl => ?_)
      refine lv_iconst (v := nI 3) hx hb dL_period_23 (by decide) ?_
      rw [← hQ]
      refine vx_ret ?_
      exact z_iret hC hM hr hlk rfl (by decide) (by decide) ⟨congrArg nI hj.symm, WR.x hCR ho hno hfo (by omega)⟩ dL_period_24
    | j + 3, hj, hE => exact absurd hE (by simp)
  · obtain ⟨hk0, hv, hCR⟩ := hp
    subst hv
    obtain ⟨ho1, hfo1⟩ := hCR.out ho hno
    have hfo1 := hfo1.trans hfo
    refine lv_i2l (v := (v_period A x y1).toInt64) hx hb dL_period_8 rfl ?_
    refine z_last (i := 0) hC hM ho1 hfo1 (by decide) (by decide) dL_period_9 (fun H locs hM => ?_)
    refine lv_goto (tgt := 25) hx hb dL_period_10 (by decide) ?_
    refine lv_iconst (v := nI 0) hx hb dL_period_25 (by decide) ?_
    rw [← hQ]
    refine vx_ret ?_
    exact z_iret hC hM hr hlk rfl (by decide) (by decide) ⟨congrArg nI hk0.symm, f1, va_up g 0 ((v_period A x y1).toInt64), hCR, rfl, fun _ => (va_up_self _ _ _).trans rfl⟩ dL_period_26
theorem zyH_whyNot : zYH yL_whyNot cL_whyNot 5 (some .int) [(0, 10, 13, 21), (0, 10, 17, 13)] 4 := ⟨⟨wa_in 567 (by decide +kernel) rfl, rfl⟩, wa_in 27 (by decide +kernel) rfl, by decide +kernel, by decide +kernel, by decide +kernel⟩
set_option maxHeartbeats 400000 in
set_option maxRecDepth 100000 in
theorem w_whyNot {l : Launch} {base : Nat} {K : zK} {L : List Nat} {f : Nat → va_E} (hst : l.stackTraces = false) {A : zA} {ad : Nat → Nat} (hI : CI K L f A ad) {oa : Nat} {g : Nat → Int64} (ho : oa ∈ L) (hfo : f oa = eJ K 1 g) (hno : ∀ t, live A t → ad t ≠ oa) (x y1 : Int32) : vx_Met l yL_whyNot (wzH yL_whyNot cL_whyNot 5 (some .int) [(0, 10, 13, 21), (0, 10, 17, 13)]) (zr 9 2 12 167) (va_Pc [.ref ((ad 1)), .int x, .int y1, .ref oa] (zPre base K L f)) (zQi base K (fun r L1 f1 => r = nI (k_whyNot A x y1) ∧ WR K A ad L f A oa (k_whyNot A x y1) ((v_whyNot A x y1).toInt64) L1 f1)) (zX base K (fun _ _ _ => False)) ((zr 9 2 12 167)).cells ((zr 9 2 12 167)).slots (base ≤ ·) := by
  refine z_xmetH (by decide) (Nat.le_of_ble_eq_true rfl) (fun p e s m below meth c ls hC hM hr hlk htab hl => ?_)
  have hx := hC.1
  have hb := hC.2.1
  have hml := hC.2.2.1
  have hown := hC.2.2.2.1
  have hts := hC.2.2.2.2.1
  generalize hA : ([.ref ((ad 1)), .int x, .int y1, .ref oa] : List Value).toArray = args at hC ⊢
  generalize hQ : vx_MQ _ _ _ _ _ _ _ _ = Q
  obtain ⟨locs, hlocs⟩ : ∃ z : List Loc, z = [] := ⟨_, rfl⟩
  obtain ⟨H, hH⟩ : ∃ z : Heap, z = s.heap := ⟨_, rfl⟩
  rw [← hlocs, ← hH] at hM ⊢
  have hfx : f (ad 1) = eS 7 [.ref (ad 6), .ref (ad 8), .ref (ad 10), .ref (ad 5), .int (nI (hN A 1000)), .ref (ad 2)] := hI.2.2.2.1
  have hLx := hI.2.1 1 (live_c (by omega))
  have hl : lv_has ls 5 [(0, .ref ((ad 1))), (1, .int x), (2, .int y1), (3, .ref oa)] := hl
  refine lv_aload_n hx hb dL_whyNot_0 rfl (lv_at hl 3 rfl) ?_
  refine lv_iconst (v := nI 0) hx hb dL_whyNot_1 (by decide) ?_
  refine lv_aload_n hx hb dL_whyNot_2 rfl (lv_at hl 0 rfl) ?_
  refine lv_iload_n hx hb dL_whyNot_3 rfl (lv_at hl 1 rfl) ?_
  refine lv_iload_n hx hb dL_whyNot_4 rfl (lv_at hl 2 rfl) ?_
  refine z_xq (av := #[]) (val := fun r : Int32 => some (.int r)) (post := fun r u => k_whyNot A x y1 = 0 ∧ r = v_whyNot A x y1 ∧ CR K A ad L f A u.1 u.2) (z_xrunV hC hM (p_whyNot hst hI x y1) zy_X6_whyNot zm_L_53 hLx hfx zcl_X6 rfl rfl rfl hl.1 (Nat.le_of_ble_eq_true rfl) ⟨by decide, by decide⟩ ⟨by decide, by decide⟩ dL_whyNot_5) (fun st o t ⟨⟨r, u, h1, h2, h3⟩, h4⟩ => ⟨r, u, h1, h2, h3, h4⟩) hM (fun E ce q9 L1 f1 H locs hp hM hcell hcv hcls => ?_) (fun r L1 f1 H locs hp hM => ?_)
  · obtain ⟨hE, hCR⟩ := hp
    obtain ⟨j, hj, hE⟩ := xE_cases hE
    match j, hj, hE with
    | 0, hj, hE =>
      obtain rfl : xIO = E := Option.some.inj hE
      refine z_catch (pre := []) (x := ⟨0, 10, 13, 21⟩) (suf := [⟨0, 10, 17, 13⟩]) hC (htab.trans rfl) (fun z hz => absurd hz List.not_mem_nil) (by decide) (by decide) zcl_IO zcx_IO hcell hcv hcls ?_
      refine lv_astore (lv' := [(4, .ref q9), (0, .ref ((ad 1))), (1, .int x), (2, .int y1), (3, .ref oa)]) hx hb dL_whyNot_13 hl (by decide) rfl (fun ls hl => ?_)
      refine lv_iconst (v := nI 1) hx hb dL_whyNot_15 (by decide) ?_
      rw [← hQ]
      refine vx_ret ?_
      exact z_iret hC hM hr hlk rfl (by decide) (by decide) ⟨congrArg nI hj.symm, WR.x hCR ho hno hfo (by omega)⟩ dL_whyNot_16
    | 1, hj, hE =>
      obtain rfl : xIA = E := Option.some.inj hE
      refine z_catch (pre := [⟨0, 10, 13, 21⟩]) (x := ⟨0, 10, 17, 13⟩) (suf := []) hC (htab.trans rfl) (fun z hz => by rw [List.mem_singleton.mp hz]; exact ⟨by decide, xIO, zcl_IO, by decide⟩) (by decide) (by decide) zcl_IA zcx_IA hcell hcv hcls ?_
      refine lv_astore (lv' := [(4, .ref q9), (0, .ref ((ad 1))), (1, .int x), (2, .int y1), (3, .ref oa)]) hx hb dL_whyNot_17 hl (by decide) rfl (fun ls hl => ?_)
      refine lv_iconst (v := nI 2) hx hb dL_whyNot_19 (by decide) ?_
      rw [← hQ]
      refine vx_ret ?_
      exact z_iret hC hM hr hlk rfl (by decide) (by decide) ⟨congrArg nI hj.symm, WR.x hCR ho hno hfo (by omega)⟩ dL_whyNot_20
    | j + 2, hj, hE => exact absurd hE (by simp)
  · obtain ⟨hk0, hv, hCR⟩ := hp
    subst hv
    obtain ⟨ho1, hfo1⟩ := hCR.out ho hno
    have hfo1 := hfo1.trans hfo
    refine lv_i2l (v := (v_whyNot A x y1).toInt64) hx hb dL_whyNot_8 rfl ?_
    refine z_last (i := 0) hC hM ho1 hfo1 (by decide) (by decide) dL_whyNot_9 (fun H locs hM => ?_)
    refine lv_goto (tgt := 21) hx hb dL_whyNot_10 (by decide) ?_
    refine lv_iconst (v := nI 0) hx hb dL_whyNot_21 (by decide) ?_
    rw [← hQ]
    refine vx_ret ?_
    exact z_iret hC hM hr hlk rfl (by decide) (by decide) ⟨congrArg nI hk0.symm, f1, va_up g 0 ((v_whyNot A x y1).toInt64), hCR, rfl, fun _ => (va_up_self _ _ _).trans rfl⟩ dL_whyNot_22
theorem zyH_oddEven : zYH yL_oddEven cL_oddEven 5 (some .int) [(0, 9, 12, 21), (0, 9, 16, 13), (0, 9, 20, 15)] 4 := ⟨⟨wa_in 574 (by decide +kernel) rfl, rfl⟩, wa_in 27 (by decide +kernel) rfl, by decide +kernel, by decide +kernel, by decide +kernel⟩
set_option maxHeartbeats 400000 in
set_option maxRecDepth 100000 in
theorem w_oddEven {l : Launch} {base : Nat} {K : zK} {L : List Nat} {f : Nat → va_E} (hst : l.stackTraces = false) {A : zA} {ad : Nat → Nat} (hI : CI K L f A ad) {oa : Nat} {g : Nat → Int64} (ho : oa ∈ L) (hfo : f oa = eJ K 1 g) (hno : ∀ t, live A t → ad t ≠ oa) (x y1 : Int32) : vx_Met l yL_oddEven (wzH yL_oddEven cL_oddEven 5 (some .int) [(0, 9, 12, 21), (0, 9, 16, 13), (0, 9, 20, 15)]) (zr 9 3 18 159) (va_Pc [.ref ((ad 1)), .int x, .int y1, .ref oa] (zPre base K L f)) (zQi base K (fun r L1 f1 => r = nI (k_fold A x y1) ∧ WR K A ad L f A oa (k_fold A x y1) (v_oddEven A x y1) L1 f1)) (zX base K (fun _ _ _ => False)) ((zr 9 3 18 159)).cells ((zr 9 3 18 159)).slots (base ≤ ·) := by
  refine z_xmetH (by decide) (Nat.le_of_ble_eq_true rfl) (fun p e s m below meth c ls hC hM hr hlk htab hl => ?_)
  have hx := hC.1
  have hb := hC.2.1
  have hml := hC.2.2.1
  have hown := hC.2.2.2.1
  have hts := hC.2.2.2.2.1
  generalize hA : ([.ref ((ad 1)), .int x, .int y1, .ref oa] : List Value).toArray = args at hC ⊢
  generalize hQ : vx_MQ _ _ _ _ _ _ _ _ = Q
  obtain ⟨locs, hlocs⟩ : ∃ z : List Loc, z = [] := ⟨_, rfl⟩
  obtain ⟨H, hH⟩ : ∃ z : Heap, z = s.heap := ⟨_, rfl⟩
  rw [← hlocs, ← hH] at hM ⊢
  have hfx : f (ad 1) = eS 7 [.ref (ad 6), .ref (ad 8), .ref (ad 10), .ref (ad 5), .int (nI (hN A 1000)), .ref (ad 2)] := hI.2.2.2.1
  have hLx := hI.2.1 1 (live_c (by omega))
  have hl : lv_has ls 5 [(0, .ref ((ad 1))), (1, .int x), (2, .int y1), (3, .ref oa)] := hl
  refine lv_aload_n hx hb dL_oddEven_0 rfl (lv_at hl 3 rfl) ?_
  refine lv_iconst (v := nI 0) hx hb dL_oddEven_1 (by decide) ?_
  refine lv_aload_n hx hb dL_oddEven_2 rfl (lv_at hl 0 rfl) ?_
  refine lv_iload_n hx hb dL_oddEven_3 rfl (lv_at hl 1 rfl) ?_
  refine lv_iload_n hx hb dL_oddEven_4 rfl (lv_at hl 2 rfl) ?_
  refine z_xq (av := #[]) (val := fun r : Int64 => some (.long r)) (post := fun r u => k_fold A x y1 = 0 ∧ r = v_oddEven A x y1 ∧ CR K A ad L f A u.1 u.2) (z_xrunV hC hM (p_oddEven hst hI x y1) zy_X6_oddEven zm_L_56 hLx hfx zcl_X6 rfl rfl rfl hl.1 (Nat.le_of_ble_eq_true rfl) ⟨by decide, by decide⟩ ⟨by decide, by decide⟩ dL_oddEven_5) (fun st o t ⟨⟨r, u, h1, h2, h3⟩, h4⟩ => ⟨r, u, h1, h2, h3, h4⟩) hM (fun E ce q9 L1 f1 H locs hp hM hcell hcv hcls => ?_) (fun r L1 f1 H locs hp hM => ?_)
  · obtain ⟨hE, hCR⟩ := hp
    obtain ⟨j, hj, hE⟩ := xE_cases hE
    match j, hj, hE with
    | 0, hj, hE =>
      obtain rfl : xIO = E := Option.some.inj hE
      refine z_catch (pre := []) (x := ⟨0, 9, 12, 21⟩) (suf := [⟨0, 9, 16, 13⟩, ⟨0, 9, 20, 15⟩]) hC (htab.trans rfl) (fun z hz => absurd hz List.not_mem_nil) (by decide) (by decide) zcl_IO zcx_IO hcell hcv hcls ?_
      refine lv_astore (lv' := [(4, .ref q9), (0, .ref ((ad 1))), (1, .int x), (2, .int y1), (3, .ref oa)]) hx hb dL_oddEven_12 hl (by decide) rfl (fun ls hl => ?_)
      refine lv_iconst (v := nI 1) hx hb dL_oddEven_14 (by decide) ?_
      rw [← hQ]
      refine vx_ret ?_
      exact z_iret hC hM hr hlk rfl (by decide) (by decide) ⟨congrArg nI hj.symm, WR.x hCR ho hno hfo (by omega)⟩ dL_oddEven_15
    | 1, hj, hE =>
      obtain rfl : xIA = E := Option.some.inj hE
      refine z_catch (pre := [⟨0, 9, 12, 21⟩]) (x := ⟨0, 9, 16, 13⟩) (suf := [⟨0, 9, 20, 15⟩]) hC (htab.trans rfl) (fun z hz => by rw [List.mem_singleton.mp hz]; exact ⟨by decide, xIO, zcl_IO, by decide⟩) (by decide) (by decide) zcl_IA zcx_IA hcell hcv hcls ?_
      refine lv_astore (lv' := [(4, .ref q9), (0, .ref ((ad 1))), (1, .int x), (2, .int y1), (3, .ref oa)]) hx hb dL_oddEven_16 hl (by decide) rfl (fun ls hl => ?_)
      refine lv_iconst (v := nI 2) hx hb dL_oddEven_18 (by decide) ?_
      rw [← hQ]
      refine vx_ret ?_
      exact z_iret hC hM hr hlk rfl (by decide) (by decide) ⟨congrArg nI hj.symm, WR.x hCR ho hno hfo (by omega)⟩ dL_oddEven_19
    | 2, hj, hE =>
      obtain rfl : xIS = E := Option.some.inj hE
      refine z_catch (pre := [⟨0, 9, 12, 21⟩, ⟨0, 9, 16, 13⟩]) (x := ⟨0, 9, 20, 15⟩) (suf := []) hC (htab.trans rfl) (hpass2 (by decide) zcl_IO (by decide) (by decide) zcl_IA (by decide)) (by decide) (by decide) zcl_IS zcx_IS hcell hcv hcls ?_
      refine lv_astore (lv' := [(4, .ref q9), (0, .ref ((ad 1))), (1, .int x), (2, .int y1), (3, .ref oa)]) hx hb dL_oddEven_20 hl (by decide) rfl (fun ls hl => ?_)
      refine lv_iconst (v := nI 3) hx hb dL_oddEven_22 (by decide) ?_
      rw [← hQ]
      refine vx_ret ?_
      exact z_iret hC hM hr hlk rfl (by decide) (by decide) ⟨congrArg nI hj.symm, WR.x hCR ho hno hfo (by omega)⟩ dL_oddEven_23
    | j + 3, hj, hE => exact absurd hE (by simp)
  · obtain ⟨hk0, hv, hCR⟩ := hp
    subst hv
    obtain ⟨ho1, hfo1⟩ := hCR.out ho hno
    have hfo1 := hfo1.trans hfo
    refine z_last (i := 0) hC hM ho1 hfo1 (by decide) (by decide) dL_oddEven_8 (fun H locs hM => ?_)
    refine lv_goto (tgt := 24) hx hb dL_oddEven_9 (by decide) ?_
    refine lv_iconst (v := nI 0) hx hb dL_oddEven_24 (by decide) ?_
    rw [← hQ]
    refine vx_ret ?_
    exact z_iret hC hM hr hlk rfl (by decide) (by decide) ⟨congrArg nI hk0.symm, f1, va_up g 0 (v_oddEven A x y1), hCR, rfl, fun _ => (va_up_self _ _ _).trans rfl⟩ dL_oddEven_25
theorem zyH_world : zYH yL_world cL_world 5 (some .int) [(0, 10, 13, 21), (0, 10, 17, 13), (0, 10, 21, 15)] 4 := ⟨⟨wa_in 583 (by decide +kernel) rfl, rfl⟩, wa_in 27 (by decide +kernel) rfl, by decide +kernel, by decide +kernel, by decide +kernel⟩
set_option maxHeartbeats 400000 in
set_option maxRecDepth 100000 in
theorem w_world {l : Launch} {base : Nat} {K : zK} {L : List Nat} {f : Nat → va_E} (hst : l.stackTraces = false) {A : zA} {ad : Nat → Nat} (hI : CI K L f A ad) {oa : Nat} {g : Nat → Int64} (ho : oa ∈ L) (hfo : f oa = eJ K 1 g) (hno : ∀ t, live A t → ad t ≠ oa) (x y1 : Int32) : vx_Met l yL_world (wzH yL_world cL_world 5 (some .int) [(0, 10, 13, 21), (0, 10, 17, 13), (0, 10, 21, 15)]) (zr 9 12 1200 224) (va_Pc [.ref ((ad 1)), .int x, .int y1, .ref oa] (zPre base K L f)) (zQi base K (fun r L1 f1 => r = nI (k_world A x y1) ∧ WR K A ad L f (a_world A x y1) oa (k_world A x y1) ((nI (nw A)).toInt64) L1 f1)) (zX base K (fun _ _ _ => False)) ((zr 9 12 1200 224)).cells ((zr 9 12 1200 224)).slots (base ≤ ·) := by
  refine z_xmetH (by decide) (Nat.le_of_ble_eq_true rfl) (fun p e s m below meth c ls hC hM hr hlk htab hl => ?_)
  have hx := hC.1
  have hb := hC.2.1
  have hml := hC.2.2.1
  have hown := hC.2.2.2.1
  have hts := hC.2.2.2.2.1
  generalize hA : ([.ref ((ad 1)), .int x, .int y1, .ref oa] : List Value).toArray = args at hC ⊢
  generalize hQ : vx_MQ _ _ _ _ _ _ _ _ = Q
  obtain ⟨locs, hlocs⟩ : ∃ z : List Loc, z = [] := ⟨_, rfl⟩
  obtain ⟨H, hH⟩ : ∃ z : Heap, z = s.heap := ⟨_, rfl⟩
  rw [← hlocs, ← hH] at hM ⊢
  have hfx : f (ad 1) = eS 7 [.ref (ad 6), .ref (ad 8), .ref (ad 10), .ref (ad 5), .int (nI (hN A 1000)), .ref (ad 2)] := hI.2.2.2.1
  have hLx := hI.2.1 1 (live_c (by omega))
  have hl : lv_has ls 5 [(0, .ref ((ad 1))), (1, .int x), (2, .int y1), (3, .ref oa)] := hl
  refine lv_aload_n hx hb dL_world_0 rfl (lv_at hl 3 rfl) ?_
  refine lv_iconst (v := nI 0) hx hb dL_world_1 (by decide) ?_
  refine lv_aload_n hx hb dL_world_2 rfl (lv_at hl 0 rfl) ?_
  refine lv_iload_n hx hb dL_world_3 rfl (lv_at hl 1 rfl) ?_
  refine lv_iload_n hx hb dL_world_4 rfl (lv_at hl 2 rfl) ?_
  refine z_xq (av := #[]) (val := fun r : Int32 => some (.int r)) (post := fun r u => k_world A x y1 = 0 ∧ r = nI (nw A) ∧ CR K A ad L f (a_world A x y1) u.1 u.2) (z_xrunV hC hM (p_world hst hI x y1) zy_X6_world zm_L_59 hLx hfx zcl_X6 rfl rfl rfl hl.1 (Nat.le_of_ble_eq_true rfl) ⟨by decide, by decide⟩ ⟨by decide, by decide⟩ dL_world_5) (fun st o t ⟨⟨r, u, h1, h2, h3⟩, h4⟩ => ⟨r, u, h1, h2, h3, h4⟩) hM (fun E ce q9 L1 f1 H locs hp hM hcell hcv hcls => ?_) (fun r L1 f1 H locs hp hM => ?_)
  · obtain ⟨hE, hCR⟩ := hp
    obtain ⟨j, hj, hE⟩ := xE_cases hE
    match j, hj, hE with
    | 0, hj, hE =>
      obtain rfl : xIO = E := Option.some.inj hE
      refine z_catch (pre := []) (x := ⟨0, 10, 13, 21⟩) (suf := [⟨0, 10, 17, 13⟩, ⟨0, 10, 21, 15⟩]) hC (htab.trans rfl) (fun z hz => absurd hz List.not_mem_nil) (by decide) (by decide) zcl_IO zcx_IO hcell hcv hcls ?_
      refine lv_astore (lv' := [(4, .ref q9), (0, .ref ((ad 1))), (1, .int x), (2, .int y1), (3, .ref oa)]) hx hb dL_world_13 hl (by decide) rfl (fun ls hl => ?_)
      refine lv_iconst (v := nI 1) hx hb dL_world_15 (by decide) ?_
      rw [← hQ]
      refine vx_ret ?_
      exact z_iret hC hM hr hlk rfl (by decide) (by decide) ⟨congrArg nI hj.symm, WR.x hCR ho hno hfo (by omega)⟩ dL_world_16
    | 1, hj, hE =>
      obtain rfl : xIA = E := Option.some.inj hE
      refine z_catch (pre := [⟨0, 10, 13, 21⟩]) (x := ⟨0, 10, 17, 13⟩) (suf := [⟨0, 10, 21, 15⟩]) hC (htab.trans rfl) (fun z hz => by rw [List.mem_singleton.mp hz]; exact ⟨by decide, xIO, zcl_IO, by decide⟩) (by decide) (by decide) zcl_IA zcx_IA hcell hcv hcls ?_
      refine lv_astore (lv' := [(4, .ref q9), (0, .ref ((ad 1))), (1, .int x), (2, .int y1), (3, .ref oa)]) hx hb dL_world_17 hl (by decide) rfl (fun ls hl => ?_)
      refine lv_iconst (v := nI 2) hx hb dL_world_19 (by decide) ?_
      rw [← hQ]
      refine vx_ret ?_
      exact z_iret hC hM hr hlk rfl (by decide) (by decide) ⟨congrArg nI hj.symm, WR.x hCR ho hno hfo (by omega)⟩ dL_world_20
    | 2, hj, hE =>
      obtain rfl : xIS = E := Option.some.inj hE
      refine z_catch (pre := [⟨0, 10, 13, 21⟩, ⟨0, 10, 17, 13⟩]) (x := ⟨0, 10, 21, 15⟩) (suf := []) hC (htab.trans rfl) (hpass2 (by decide) zcl_IO (by decide) (by decide) zcl_IA (by decide)) (by decide) (by decide) zcl_IS zcx_IS hcell hcv hcls ?_
      refine lv_astore (lv' := [(4, .ref q9), (0, .ref ((ad 1))), (1, .int x), (2, .int y1), (3, .ref oa)]) hx hb dL_world_21 hl (by decide) rfl (fun ls hl => ?_)
      refine lv_iconst (v := nI 3) hx hb dL_world_23 (by decide) ?_
      rw [← hQ]
      refine vx_ret ?_
      exact z_iret hC hM hr hlk rfl (by decide) (by decide) ⟨congrArg nI hj.symm, WR.x hCR ho hno hfo (by omega)⟩ dL_world_24
    | j + 3, hj, hE => exact absurd hE (by simp)
  · obtain ⟨hk0, hv, hCR⟩ := hp
    subst hv
    obtain ⟨ho1, hfo1⟩ := hCR.out ho hno
    have hfo1 := hfo1.trans hfo
    refine lv_i2l (v := (nI (nw A)).toInt64) hx hb dL_world_8 rfl ?_
    refine z_last (i := 0) hC hM ho1 hfo1 (by decide) (by decide) dL_world_9 (fun H locs hM => ?_)
    refine lv_goto (tgt := 25) hx hb dL_world_10 (by decide) ?_
    refine lv_iconst (v := nI 0) hx hb dL_world_25 (by decide) ?_
    rw [← hQ]
    refine vx_ret ?_
    exact z_iret hC hM hr hlk rfl (by decide) (by decide) ⟨congrArg nI hk0.symm, f1, va_up g 0 ((nI (nw A)).toInt64), hCR, rfl, fun _ => (va_up_self _ _ _).trans rfl⟩ dL_world_26
theorem zyH_about : zYH yL_about cL_about 5 (some .int) [(0, 10, 13, 21), (0, 10, 17, 13)] 4 := ⟨⟨wa_in 634 (by decide +kernel) rfl, rfl⟩, wa_in 27 (by decide +kernel) rfl, by decide +kernel, by decide +kernel, by decide +kernel⟩
set_option maxHeartbeats 400000 in
set_option maxRecDepth 100000 in
theorem w_about {l : Launch} {base : Nat} {K : zK} {L : List Nat} {f : Nat → va_E} (hst : l.stackTraces = false) {A : zA} {ad : Nat → Nat} (hI : CI K L f A ad) {oa : Nat} {g : Nat → Int64} (ho : oa ∈ L) (hfo : f oa = eJ K 1 g) (hno : ∀ t, live A t → ad t ≠ oa) (x y1 : Int32) : vx_Met l yL_about (wzH yL_about cL_about 5 (some .int) [(0, 10, 13, 21), (0, 10, 17, 13)]) (zr 8 2 12 127) (va_Pc [.ref ((ad 1)), .int x, .int y1, .ref oa] (zPre base K L f)) (zQi base K (fun r L1 f1 => r = nI (k_about A x y1) ∧ WR K A ad L f A oa (k_about A x y1) ((v_about A x y1).toInt64) L1 f1)) (zX base K (fun _ _ _ => False)) ((zr 8 2 12 127)).cells ((zr 8 2 12 127)).slots (base ≤ ·) := by
  refine z_xmetH (by decide) (Nat.le_of_ble_eq_true rfl) (fun p e s m below meth c ls hC hM hr hlk htab hl => ?_)
  have hx := hC.1
  have hb := hC.2.1
  have hml := hC.2.2.1
  have hown := hC.2.2.2.1
  have hts := hC.2.2.2.2.1
  generalize hA : ([.ref ((ad 1)), .int x, .int y1, .ref oa] : List Value).toArray = args at hC ⊢
  generalize hQ : vx_MQ _ _ _ _ _ _ _ _ = Q
  obtain ⟨locs, hlocs⟩ : ∃ z : List Loc, z = [] := ⟨_, rfl⟩
  obtain ⟨H, hH⟩ : ∃ z : Heap, z = s.heap := ⟨_, rfl⟩
  rw [← hlocs, ← hH] at hM ⊢
  have hfx : f (ad 1) = eS 7 [.ref (ad 6), .ref (ad 8), .ref (ad 10), .ref (ad 5), .int (nI (hN A 1000)), .ref (ad 2)] := hI.2.2.2.1
  have hLx := hI.2.1 1 (live_c (by omega))
  have hl : lv_has ls 5 [(0, .ref ((ad 1))), (1, .int x), (2, .int y1), (3, .ref oa)] := hl
  refine lv_aload_n hx hb dL_about_0 rfl (lv_at hl 3 rfl) ?_
  refine lv_iconst (v := nI 0) hx hb dL_about_1 (by decide) ?_
  refine lv_aload_n hx hb dL_about_2 rfl (lv_at hl 0 rfl) ?_
  refine lv_iload_n hx hb dL_about_3 rfl (lv_at hl 1 rfl) ?_
  refine lv_iload_n hx hb dL_about_4 rfl (lv_at hl 2 rfl) ?_
  refine z_xq (av := #[]) (val := fun r : Int32 => some (.int r)) (post := fun r u => k_about A x y1 = 0 ∧ r = v_about A x y1 ∧ CR K A ad L f A u.1 u.2) (z_xrunV hC hM (p_about hst hI x y1) zy_X6_about zm_L_62 hLx hfx zcl_X6 rfl rfl rfl hl.1 (Nat.le_of_ble_eq_true rfl) ⟨by decide, by decide⟩ ⟨by decide, by decide⟩ dL_about_5) (fun st o t ⟨⟨r, u, h1, h2, h3⟩, h4⟩ => ⟨r, u, h1, h2, h3, h4⟩) hM (fun E ce q9 L1 f1 H locs hp hM hcell hcv hcls => ?_) (fun r L1 f1 H locs hp hM => ?_)
  · obtain ⟨hE, hCR⟩ := hp
    obtain ⟨j, hj, hE⟩ := xE_cases hE
    match j, hj, hE with
    | 0, hj, hE =>
      obtain rfl : xIO = E := Option.some.inj hE
      refine z_catch (pre := []) (x := ⟨0, 10, 13, 21⟩) (suf := [⟨0, 10, 17, 13⟩]) hC (htab.trans rfl) (fun z hz => absurd hz List.not_mem_nil) (by decide) (by decide) zcl_IO zcx_IO hcell hcv hcls ?_
      refine lv_astore (lv' := [(4, .ref q9), (0, .ref ((ad 1))), (1, .int x), (2, .int y1), (3, .ref oa)]) hx hb dL_about_13 hl (by decide) rfl (fun ls hl => ?_)
      refine lv_iconst (v := nI 1) hx hb dL_about_15 (by decide) ?_
      rw [← hQ]
      refine vx_ret ?_
      exact z_iret hC hM hr hlk rfl (by decide) (by decide) ⟨congrArg nI hj.symm, WR.x hCR ho hno hfo (by omega)⟩ dL_about_16
    | 1, hj, hE =>
      obtain rfl : xIA = E := Option.some.inj hE
      refine z_catch (pre := [⟨0, 10, 13, 21⟩]) (x := ⟨0, 10, 17, 13⟩) (suf := []) hC (htab.trans rfl) (fun z hz => by rw [List.mem_singleton.mp hz]; exact ⟨by decide, xIO, zcl_IO, by decide⟩) (by decide) (by decide) zcl_IA zcx_IA hcell hcv hcls ?_
      refine lv_astore (lv' := [(4, .ref q9), (0, .ref ((ad 1))), (1, .int x), (2, .int y1), (3, .ref oa)]) hx hb dL_about_17 hl (by decide) rfl (fun ls hl => ?_)
      refine lv_iconst (v := nI 2) hx hb dL_about_19 (by decide) ?_
      rw [← hQ]
      refine vx_ret ?_
      exact z_iret hC hM hr hlk rfl (by decide) (by decide) ⟨congrArg nI hj.symm, WR.x hCR ho hno hfo (by omega)⟩ dL_about_20
    | j + 2, hj, hE => exact absurd hE (by simp)
  · obtain ⟨hk0, hv, hCR⟩ := hp
    subst hv
    obtain ⟨ho1, hfo1⟩ := hCR.out ho hno
    have hfo1 := hfo1.trans hfo
    refine lv_i2l (v := (v_about A x y1).toInt64) hx hb dL_about_8 rfl ?_
    refine z_last (i := 0) hC hM ho1 hfo1 (by decide) (by decide) dL_about_9 (fun H locs hM => ?_)
    refine lv_goto (tgt := 21) hx hb dL_about_10 (by decide) ?_
    refine lv_iconst (v := nI 0) hx hb dL_about_21 (by decide) ?_
    rw [← hQ]
    refine vx_ret ?_
    exact z_iret hC hM hr hlk rfl (by decide) (by decide) ⟨congrArg nI hk0.symm, f1, va_up g 0 ((v_about A x y1).toInt64), hCR, rfl, fun _ => (va_up_self _ _ _).trans rfl⟩ dL_about_22
theorem zyH_periodAnew : zYH yL_periodAnew cL_periodAnew 4 (some .int) [(0, 9, 12, 21)] 3 := ⟨⟨wa_in 646 (by decide +kernel) rfl, rfl⟩, wa_in 27 (by decide +kernel) rfl, by decide +kernel, by decide +kernel, by decide +kernel⟩
set_option maxHeartbeats 400000 in
set_option maxRecDepth 100000 in
theorem w_periodAnew {l : Launch} {base : Nat} {K : zK} {L : List Nat} {f : Nat → va_E} (hst : l.stackTraces = false) {A : zA} {ad : Nat → Nat} (hI : CI K L f A ad) {oa : Nat} {g : Nat → Int64} (ho : oa ∈ L) (hfo : f oa = eJ K 1 g) (hno : ∀ t, live A t → ad t ≠ oa) (x : Int32) : vx_Met l yL_periodAnew (wzH yL_periodAnew cL_periodAnew 4 (some .int) [(0, 9, 12, 21)]) (zr 8 1 6 140) (va_Pc [.ref ((ad 1)), .int x, .ref oa] (zPre base K L f)) (zQi base K (fun r L1 f1 => r = nI (k_anew A x) ∧ WR K A ad L f A oa (k_anew A x) ((v_anew A x).toInt64) L1 f1)) (zX base K (fun _ _ _ => False)) ((zr 8 1 6 140)).cells ((zr 8 1 6 140)).slots (base ≤ ·) := by
  refine z_xmetH (by decide) (Nat.le_of_ble_eq_true rfl) (fun p e s m below meth c ls hC hM hr hlk htab hl => ?_)
  have hx := hC.1
  have hb := hC.2.1
  have hml := hC.2.2.1
  have hown := hC.2.2.2.1
  have hts := hC.2.2.2.2.1
  generalize hA : ([.ref ((ad 1)), .int x, .ref oa] : List Value).toArray = args at hC ⊢
  generalize hQ : vx_MQ _ _ _ _ _ _ _ _ = Q
  obtain ⟨locs, hlocs⟩ : ∃ z : List Loc, z = [] := ⟨_, rfl⟩
  obtain ⟨H, hH⟩ : ∃ z : Heap, z = s.heap := ⟨_, rfl⟩
  rw [← hlocs, ← hH] at hM ⊢
  have hfx : f (ad 1) = eS 7 [.ref (ad 6), .ref (ad 8), .ref (ad 10), .ref (ad 5), .int (nI (hN A 1000)), .ref (ad 2)] := hI.2.2.2.1
  have hLx := hI.2.1 1 (live_c (by omega))
  have hl : lv_has ls 4 [(0, .ref ((ad 1))), (1, .int x), (2, .ref oa)] := hl
  refine lv_aload_n hx hb dL_periodAnew_0 rfl (lv_at hl 2 rfl) ?_
  refine lv_iconst (v := nI 0) hx hb dL_periodAnew_1 (by decide) ?_
  refine lv_aload_n hx hb dL_periodAnew_2 rfl (lv_at hl 0 rfl) ?_
  refine lv_iload_n hx hb dL_periodAnew_3 rfl (lv_at hl 1 rfl) ?_
  refine z_xq (av := #[]) (val := fun r : Int32 => some (.int r)) (post := fun r u => k_anew A x = 0 ∧ r = v_anew A x ∧ CR K A ad L f A u.1 u.2) (z_xrunV hC hM (p_anew hst hI x) zy_X6_periodAnew zm_L_65 hLx hfx zcl_X6 rfl rfl rfl hl.1 (Nat.le_of_ble_eq_true rfl) ⟨by decide, by decide⟩ ⟨by decide, by decide⟩ dL_periodAnew_4) (fun st o t ⟨⟨r, u, h1, h2, h3⟩, h4⟩ => ⟨r, u, h1, h2, h3, h4⟩) hM (fun E ce q9 L1 f1 H locs hp hM hcell hcv hcls => ?_) (fun r L1 f1 H locs hp hM => ?_)
  · obtain ⟨hE, hCR⟩ := hp
    obtain ⟨j, hj, hE⟩ := xE_cases hE
    match j, hj, hE with
    | 0, hj, hE =>
      obtain rfl : xIO = E := Option.some.inj hE
      refine z_catch (pre := []) (x := ⟨0, 9, 12, 21⟩) (suf := []) hC (htab.trans rfl) (fun z hz => absurd hz List.not_mem_nil) (by decide) (by decide) zcl_IO zcx_IO hcell hcv hcls ?_
      refine lv_astore_n (lv' := [(3, .ref q9), (0, .ref ((ad 1))), (1, .int x), (2, .ref oa)]) hx hb dL_periodAnew_12 rfl hl (by decide) rfl (fun ls hl => ?_)
      refine lv_iconst (v := nI 1) hx hb dL_periodAnew_13 (by decide) ?_
      rw [← hQ]
      refine vx_ret ?_
      exact z_iret hC hM hr hlk rfl (by decide) (by decide) ⟨congrArg nI hj.symm, WR.x hCR ho hno hfo (by omega)⟩ dL_periodAnew_14
    | j + 1, hj, hE => exact absurd hE (by simp)
  · obtain ⟨hk0, hv, hCR⟩ := hp
    subst hv
    obtain ⟨ho1, hfo1⟩ := hCR.out ho hno
    have hfo1 := hfo1.trans hfo
    refine lv_i2l (v := (v_anew A x).toInt64) hx hb dL_periodAnew_7 rfl ?_
    refine z_last (i := 0) hC hM ho1 hfo1 (by decide) (by decide) dL_periodAnew_8 (fun H locs hM => ?_)
    refine lv_goto (tgt := 15) hx hb dL_periodAnew_9 (by decide) ?_
    refine lv_iconst (v := nI 0) hx hb dL_periodAnew_15 (by decide) ?_
    rw [← hQ]
    refine vx_ret ?_
    exact z_iret hC hM hr hlk rfl (by decide) (by decide) ⟨congrArg nI hk0.symm, f1, va_up g 0 ((v_anew A x).toInt64), hCR, rfl, fun _ => (va_up_self _ _ _).trans rfl⟩ dL_periodAnew_16
theorem zyH_paper : zYH yL_paper cL_paper 5 (some .int) [(0, 10, 13, 21), (0, 10, 17, 15)] 4 := ⟨⟨wa_in 653 (by decide +kernel) rfl, rfl⟩, wa_in 27 (by decide +kernel) rfl, by decide +kernel, by decide +kernel, by decide +kernel⟩
set_option maxHeartbeats 400000 in
set_option maxRecDepth 100000 in
theorem w_paper {l : Launch} {base : Nat} {K : zK} {L : List Nat} {f : Nat → va_E} (hst : l.stackTraces = false) {A : zA} {ad : Nat → Nat} (hI : CI K L f A ad) {oa : Nat} {g : Nat → Int64} (ho : oa ∈ L) (hfo : f oa = eJ K 1 g) (hno : ∀ t, live A t → ad t ≠ oa) (x y1 : Int32) : vx_Met l yL_paper (wzH yL_paper cL_paper 5 (some .int) [(0, 10, 13, 21), (0, 10, 17, 15)]) (zr 9 12 200 225) (va_Pc [.ref ((ad 1)), .int x, .int y1, .ref oa] (zPre base K L f)) (zQi base K (fun r L1 f1 => r = nI (k_paper A x y1) ∧ WR K A ad L f (a_paper A x y1) oa (k_paper A x y1) ((nI (np A)).toInt64) L1 f1)) (zX base K (fun _ _ _ => False)) ((zr 9 12 200 225)).cells ((zr 9 12 200 225)).slots (base ≤ ·) := by
  refine z_xmetH (by decide) (Nat.le_of_ble_eq_true rfl) (fun p e s m below meth c ls hC hM hr hlk htab hl => ?_)
  have hx := hC.1
  have hb := hC.2.1
  have hml := hC.2.2.1
  have hown := hC.2.2.2.1
  have hts := hC.2.2.2.2.1
  generalize hA : ([.ref ((ad 1)), .int x, .int y1, .ref oa] : List Value).toArray = args at hC ⊢
  generalize hQ : vx_MQ _ _ _ _ _ _ _ _ = Q
  obtain ⟨locs, hlocs⟩ : ∃ z : List Loc, z = [] := ⟨_, rfl⟩
  obtain ⟨H, hH⟩ : ∃ z : Heap, z = s.heap := ⟨_, rfl⟩
  rw [← hlocs, ← hH] at hM ⊢
  have hfx : f (ad 1) = eS 7 [.ref (ad 6), .ref (ad 8), .ref (ad 10), .ref (ad 5), .int (nI (hN A 1000)), .ref (ad 2)] := hI.2.2.2.1
  have hLx := hI.2.1 1 (live_c (by omega))
  have hl : lv_has ls 5 [(0, .ref ((ad 1))), (1, .int x), (2, .int y1), (3, .ref oa)] := hl
  refine lv_aload_n hx hb dL_paper_0 rfl (lv_at hl 3 rfl) ?_
  refine lv_iconst (v := nI 0) hx hb dL_paper_1 (by decide) ?_
  refine lv_aload_n hx hb dL_paper_2 rfl (lv_at hl 0 rfl) ?_
  refine lv_iload_n hx hb dL_paper_3 rfl (lv_at hl 1 rfl) ?_
  refine lv_iload_n hx hb dL_paper_4 rfl (lv_at hl 2 rfl) ?_
  refine z_xq (av := #[]) (val := fun r : Int32 => some (.int r)) (post := fun r u => k_paper A x y1 = 0 ∧ r = nI (np A) ∧ CR K A ad L f (a_paper A x y1) u.1 u.2) (z_xrunV hC hM (p_paper hst hI x y1) zy_X6_paper zm_L_68 hLx hfx zcl_X6 rfl rfl rfl hl.1 (Nat.le_of_ble_eq_true rfl) ⟨by decide, by decide⟩ ⟨by decide, by decide⟩ dL_paper_5) (fun st o t ⟨⟨r, u, h1, h2, h3⟩, h4⟩ => ⟨r, u, h1, h2, h3, h4⟩) hM (fun E ce q9 L1 f1 H locs hp hM hcell hcv hcls => ?_) (fun r L1 f1 H locs hp hM => ?_)
  · obtain ⟨hE, hCR⟩ := hp
    obtain ⟨j, hj, hE⟩ := xE_cases hE
    match j, hj, hE with
    | 0, hj, hE =>
      obtain rfl : xIO = E := Option.some.inj hE
      refine z_catch (pre := []) (x := ⟨0, 10, 13, 21⟩) (suf := [⟨0, 10, 17, 15⟩]) hC (htab.trans rfl) (fun z hz => absurd hz List.not_mem_nil) (by decide) (by decide) zcl_IO zcx_IO hcell hcv hcls ?_
      refine lv_astore (lv' := [(4, .ref q9), (0, .ref ((ad 1))), (1, .int x), (2, .int y1), (3, .ref oa)]) hx hb dL_paper_13 hl (by decide) rfl (fun ls hl => ?_)
      refine lv_iconst (v := nI 1) hx hb dL_paper_15 (by decide) ?_
      rw [← hQ]
      refine vx_ret ?_
      exact z_iret hC hM hr hlk rfl (by decide) (by decide) ⟨congrArg nI hj.symm, WR.x hCR ho hno hfo (by omega)⟩ dL_paper_16
    | 1, hj, hE =>
      obtain rfl : xIS = E := Option.some.inj hE
      refine z_catch (pre := [⟨0, 10, 13, 21⟩]) (x := ⟨0, 10, 17, 15⟩) (suf := []) hC (htab.trans rfl) (fun z hz => by rw [List.mem_singleton.mp hz]; exact ⟨by decide, xIO, zcl_IO, by decide⟩) (by decide) (by decide) zcl_IS zcx_IS hcell hcv hcls ?_
      refine lv_astore (lv' := [(4, .ref q9), (0, .ref ((ad 1))), (1, .int x), (2, .int y1), (3, .ref oa)]) hx hb dL_paper_17 hl (by decide) rfl (fun ls hl => ?_)
      refine lv_iconst (v := nI 2) hx hb dL_paper_19 (by decide) ?_
      rw [← hQ]
      refine vx_ret ?_
      exact z_iret hC hM hr hlk rfl (by decide) (by decide) ⟨congrArg nI hj.symm, WR.x hCR ho hno hfo (by omega)⟩ dL_paper_20
    | j + 2, hj, hE => exact absurd hE (by simp)
  · obtain ⟨hk0, hv, hCR⟩ := hp
    subst hv
    obtain ⟨ho1, hfo1⟩ := hCR.out ho hno
    have hfo1 := hfo1.trans hfo
    refine lv_i2l (v := (nI (np A)).toInt64) hx hb dL_paper_8 rfl ?_
    refine z_last (i := 0) hC hM ho1 hfo1 (by decide) (by decide) dL_paper_9 (fun H locs hM => ?_)
    refine lv_goto (tgt := 21) hx hb dL_paper_10 (by decide) ?_
    refine lv_iconst (v := nI 0) hx hb dL_paper_21 (by decide) ?_
    rw [← hQ]
    refine vx_ret ?_
    exact z_iret hC hM hr hlk rfl (by decide) (by decide) ⟨congrArg nI hk0.symm, f1, va_up g 0 ((nI (np A)).toInt64), hCR, rfl, fun _ => (va_up_self _ _ _).trans rfl⟩ dL_paper_22
theorem zyH_withdraw : zYH yL_withdraw cL_withdraw 4 (some .int) [(0, 9, 12, 21), (0, 9, 15, 15)] 3 := ⟨⟨wa_in 688 (by decide +kernel) rfl, rfl⟩, wa_in 27 (by decide +kernel) rfl, by decide +kernel, by decide +kernel, by decide +kernel⟩
set_option maxHeartbeats 400000 in
set_option maxRecDepth 100000 in
theorem w_withdraw {l : Launch} {base : Nat} {K : zK} {L : List Nat} {f : Nat → va_E} (hst : l.stackTraces = false) {A : zA} {ad : Nat → Nat} (hI : CI K L f A ad) {oa : Nat} {g : Nat → Int64} (ho : oa ∈ L) (hfo : f oa = eJ K 1 g) (hno : ∀ t, live A t → ad t ≠ oa) (x : Int32) : vx_Met l yL_withdraw (wzH yL_withdraw cL_withdraw 4 (some .int) [(0, 9, 12, 21), (0, 9, 15, 15)]) (zr 8 2 12 126) (va_Pc [.ref ((ad 1)), .int x, .ref oa] (zPre base K L f)) (zQi base K (fun r L1 f1 => r = nI (k_withdraw A x) ∧ WR K A ad L f (a_withdraw A x) oa (k_withdraw A x) ((v_withdraw A x).toInt64) L1 f1)) (zX base K (fun _ _ _ => False)) ((zr 8 2 12 126)).cells ((zr 8 2 12 126)).slots (base ≤ ·) := by
  refine z_xmetH (by decide) (Nat.le_of_ble_eq_true rfl) (fun p e s m below meth c ls hC hM hr hlk htab hl => ?_)
  have hx := hC.1
  have hb := hC.2.1
  have hml := hC.2.2.1
  have hown := hC.2.2.2.1
  have hts := hC.2.2.2.2.1
  generalize hA : ([.ref ((ad 1)), .int x, .ref oa] : List Value).toArray = args at hC ⊢
  generalize hQ : vx_MQ _ _ _ _ _ _ _ _ = Q
  obtain ⟨locs, hlocs⟩ : ∃ z : List Loc, z = [] := ⟨_, rfl⟩
  obtain ⟨H, hH⟩ : ∃ z : Heap, z = s.heap := ⟨_, rfl⟩
  rw [← hlocs, ← hH] at hM ⊢
  have hfx : f (ad 1) = eS 7 [.ref (ad 6), .ref (ad 8), .ref (ad 10), .ref (ad 5), .int (nI (hN A 1000)), .ref (ad 2)] := hI.2.2.2.1
  have hLx := hI.2.1 1 (live_c (by omega))
  have hl : lv_has ls 4 [(0, .ref ((ad 1))), (1, .int x), (2, .ref oa)] := hl
  refine lv_aload_n hx hb dL_withdraw_0 rfl (lv_at hl 2 rfl) ?_
  refine lv_iconst (v := nI 0) hx hb dL_withdraw_1 (by decide) ?_
  refine lv_aload_n hx hb dL_withdraw_2 rfl (lv_at hl 0 rfl) ?_
  refine lv_iload_n hx hb dL_withdraw_3 rfl (lv_at hl 1 rfl) ?_
  refine z_xq (av := #[]) (val := fun r : Int32 => some (.int r)) (post := fun r u => k_withdraw A x = 0 ∧ r = v_withdraw A x ∧ CR K A ad L f (a_withdraw A x) u.1 u.2) (z_xrunV hC hM (p_withdraw hst hI x) zy_X6_withdraw zm_L_71 hLx hfx zcl_X6 rfl rfl rfl hl.1 (Nat.le_of_ble_eq_true rfl) ⟨by decide, by decide⟩ ⟨by decide, by decide⟩ dL_withdraw_4) (fun st o t ⟨⟨r, u, h1, h2, h3⟩, h4⟩ => ⟨r, u, h1, h2, h3, h4⟩) hM (fun E ce q9 L1 f1 H locs hp hM hcell hcv hcls => ?_) (fun r L1 f1 H locs hp hM => ?_)
  · obtain ⟨hE, hCR⟩ := hp
    obtain ⟨j, hj, hE⟩ := xE_cases hE
    match j, hj, hE with
    | 0, hj, hE =>
      obtain rfl : xIO = E := Option.some.inj hE
      refine z_catch (pre := []) (x := ⟨0, 9, 12, 21⟩) (suf := [⟨0, 9, 15, 15⟩]) hC (htab.trans rfl) (fun z hz => absurd hz List.not_mem_nil) (by decide) (by decide) zcl_IO zcx_IO hcell hcv hcls ?_
      refine lv_astore_n (lv' := [(3, .ref q9), (0, .ref ((ad 1))), (1, .int x), (2, .ref oa)]) hx hb dL_withdraw_12 rfl hl (by decide) rfl (fun ls hl => ?_)
      refine lv_iconst (v := nI 1) hx hb dL_withdraw_13 (by decide) ?_
      rw [← hQ]
      refine vx_ret ?_
      exact z_iret hC hM hr hlk rfl (by decide) (by decide) ⟨congrArg nI hj.symm, WR.x hCR ho hno hfo (by omega)⟩ dL_withdraw_14
    | 1, hj, hE =>
      obtain rfl : xIS = E := Option.some.inj hE
      refine z_catch (pre := [⟨0, 9, 12, 21⟩]) (x := ⟨0, 9, 15, 15⟩) (suf := []) hC (htab.trans rfl) (fun z hz => by rw [List.mem_singleton.mp hz]; exact ⟨by decide, xIO, zcl_IO, by decide⟩) (by decide) (by decide) zcl_IS zcx_IS hcell hcv hcls ?_
      refine lv_astore_n (lv' := [(3, .ref q9), (0, .ref ((ad 1))), (1, .int x), (2, .ref oa)]) hx hb dL_withdraw_15 rfl hl (by decide) rfl (fun ls hl => ?_)
      refine lv_iconst (v := nI 2) hx hb dL_withdraw_16 (by decide) ?_
      rw [← hQ]
      refine vx_ret ?_
      exact z_iret hC hM hr hlk rfl (by decide) (by decide) ⟨congrArg nI hj.symm, WR.x hCR ho hno hfo (by omega)⟩ dL_withdraw_17
    | j + 2, hj, hE => exact absurd hE (by simp)
  · obtain ⟨hk0, hv, hCR⟩ := hp
    subst hv
    obtain ⟨ho1, hfo1⟩ := hCR.out ho hno
    have hfo1 := hfo1.trans hfo
    refine lv_i2l (v := (v_withdraw A x).toInt64) hx hb dL_withdraw_7 rfl ?_
    refine z_last (i := 0) hC hM ho1 hfo1 (by decide) (by decide) dL_withdraw_8 (fun H locs hM => ?_)
    refine lv_goto (tgt := 18) hx hb dL_withdraw_9 (by decide) ?_
    refine lv_iconst (v := nI 0) hx hb dL_withdraw_18 (by decide) ?_
    rw [← hQ]
    refine vx_ret ?_
    exact z_iret hC hM hr hlk rfl (by decide) (by decide) ⟨congrArg nI hk0.symm, f1, va_up g 0 ((v_withdraw A x).toInt64), hCR, rfl, fun _ => (va_up_self _ _ _).trans rfl⟩ dL_withdraw_19
theorem zyH_hasFallen : zYH yL_hasFallen cL_hasFallen 4 (some .int) [(0, 16, 19, 21)] 3 := ⟨⟨wa_in 700 (by decide +kernel) rfl, rfl⟩, wa_in 27 (by decide +kernel) rfl, by decide +kernel, by decide +kernel, by decide +kernel⟩
set_option maxHeartbeats 400000 in
set_option maxRecDepth 100000 in
theorem w_hasFallen {l : Launch} {base : Nat} {K : zK} {L : List Nat} {f : Nat → va_E} (hst : l.stackTraces = false) {A : zA} {ad : Nat → Nat} (hI : CI K L f A ad) {oa : Nat} {g : Nat → Int64} (ho : oa ∈ L) (hfo : f oa = eJ K 1 g) (hno : ∀ t, live A t → ad t ≠ oa) (x : Int32) : vx_Met l yL_hasFallen (wzH yL_hasFallen cL_hasFallen 4 (some .int) [(0, 16, 19, 21)]) (zr 8 1 6 125) (va_Pc [.ref ((ad 1)), .int x, .ref oa] (zPre base K L f)) (zQi base K (fun r L1 f1 => r = nI (k_fallen A x) ∧ WR K A ad L f A oa (k_fallen A x) ((v_fallen A x).toInt64) L1 f1)) (zX base K (fun _ _ _ => False)) ((zr 8 1 6 125)).cells ((zr 8 1 6 125)).slots (base ≤ ·) := by
  refine z_xmetH (by decide) (Nat.le_of_ble_eq_true rfl) (fun p e s m below meth c ls hC hM hr hlk htab hl => ?_)
  have hx := hC.1
  have hb := hC.2.1
  have hml := hC.2.2.1
  have hown := hC.2.2.2.1
  have hts := hC.2.2.2.2.1
  generalize hA : ([.ref ((ad 1)), .int x, .ref oa] : List Value).toArray = args at hC ⊢
  generalize hQ : vx_MQ _ _ _ _ _ _ _ _ = Q
  obtain ⟨locs, hlocs⟩ : ∃ z : List Loc, z = [] := ⟨_, rfl⟩
  obtain ⟨H, hH⟩ : ∃ z : Heap, z = s.heap := ⟨_, rfl⟩
  rw [← hlocs, ← hH] at hM ⊢
  have hfx : f (ad 1) = eS 7 [.ref (ad 6), .ref (ad 8), .ref (ad 10), .ref (ad 5), .int (nI (hN A 1000)), .ref (ad 2)] := hI.2.2.2.1
  have hLx := hI.2.1 1 (live_c (by omega))
  have hl : lv_has ls 4 [(0, .ref ((ad 1))), (1, .int x), (2, .ref oa)] := hl
  refine lv_aload_n hx hb dL_hasFallen_0 rfl (lv_at hl 2 rfl) ?_
  refine lv_iconst (v := nI 0) hx hb dL_hasFallen_1 (by decide) ?_
  refine lv_aload_n hx hb dL_hasFallen_2 rfl (lv_at hl 0 rfl) ?_
  refine lv_iload_n hx hb dL_hasFallen_3 rfl (lv_at hl 1 rfl) ?_
  refine z_xq (av := #[]) (val := fun r : Int32 => some (.int r)) (post := fun r u => k_fallen A x = 0 ∧ r = v_fallen A x ∧ CR K A ad L f A u.1 u.2) (z_xrunV hC hM (p_fallen hst hI x) zy_X6_hasFallen zm_L_74 hLx hfx zcl_X6 rfl rfl rfl hl.1 (Nat.le_of_ble_eq_true rfl) ⟨by decide, by decide⟩ ⟨by decide, by decide⟩ dL_hasFallen_4) (fun st o t ⟨⟨r, u, h1, h2, h3⟩, h4⟩ => ⟨r, u, h1, h2, h3, h4⟩) hM (fun E ce q9 L1 f1 H locs hp hM hcell hcv hcls => ?_) (fun r L1 f1 H locs hp hM => ?_)
  · obtain ⟨hE, hCR⟩ := hp
    obtain ⟨j, hj, hE⟩ := xE_cases hE
    match j, hj, hE with
    | 0, hj, hE =>
      obtain rfl : xIO = E := Option.some.inj hE
      refine z_catch (pre := []) (x := ⟨0, 16, 19, 21⟩) (suf := []) hC (htab.trans rfl) (fun z hz => absurd hz List.not_mem_nil) (by decide) (by decide) zcl_IO zcx_IO hcell hcv hcls ?_
      refine lv_astore_n (lv' := [(3, .ref q9), (0, .ref ((ad 1))), (1, .int x), (2, .ref oa)]) hx hb dL_hasFallen_19 rfl hl (by decide) rfl (fun ls hl => ?_)
      refine lv_iconst (v := nI 1) hx hb dL_hasFallen_20 (by decide) ?_
      rw [← hQ]
      refine vx_ret ?_
      exact z_iret hC hM hr hlk rfl (by decide) (by decide) ⟨congrArg nI hj.symm, WR.x hCR ho hno hfo (by omega)⟩ dL_hasFallen_21
    | j + 1, hj, hE => exact absurd hE (by simp)
  · obtain ⟨hk0, hv, hCR⟩ := hp
    subst hv
    obtain ⟨ho1, hfo1⟩ := hCR.out ho hno
    have hfo1 := hfo1.trans hfo
    refine z_if_eq (tgt := 14) hx hb rfl dL_hasFallen_7 (by decide) (fun c_7 => ?_) (fun c_7 => ?_)
    · refine lv_lconst (v := 0) hx hb dL_hasFallen_14 (by decide) ?_
      refine z_last (i := 0) hC hM ho1 hfo1 (by decide) (by decide) dL_hasFallen_15 (fun H locs hM => ?_)
      refine lv_goto (tgt := 22) hx hb dL_hasFallen_16 (by decide) ?_
      refine lv_iconst (v := nI 0) hx hb dL_hasFallen_22 (by decide) ?_
      rw [← hQ]
      refine vx_ret ?_
      exact z_iret hC hM hr hlk rfl (by decide) (by decide) ⟨congrArg nI hk0.symm, f1, va_up g 0 0, hCR, rfl, fun _ => (va_up_self _ _ _).trans (fall_t c_7)⟩ dL_hasFallen_23
    · refine lv_lconst (v := 1) hx hb dL_hasFallen_10 (by decide) ?_
      refine lv_goto (tgt := 15) hx hb dL_hasFallen_11 (by decide) ?_
      refine z_last (i := 0) hC hM ho1 hfo1 (by decide) (by decide) dL_hasFallen_15 (fun H locs hM => ?_)
      refine lv_goto (tgt := 22) hx hb dL_hasFallen_16 (by decide) ?_
      refine lv_iconst (v := nI 0) hx hb dL_hasFallen_22 (by decide) ?_
      rw [← hQ]
      refine vx_ret ?_
      exact z_iret hC hM hr hlk rfl (by decide) (by decide) ⟨congrArg nI hk0.symm, f1, va_up g 0 1, hCR, rfl, fun _ => (va_up_self _ _ _).trans (fall_f c_7)⟩ dL_hasFallen_23
