/-! CONTRACTS of Transitry's own methods, fifth part: star, planet, world, paper (rows laid by wip/whole/pub5.py) -/
theorem ks0 {A : zA} {x : Int32} (h1 : iR x 1000 1000000) (h2 : ns A < 6) : k_star A x = 0 := by
  unfold k_star; exact (if_neg (fun z => z h1)).trans (if_neg (by omega))
theorem ks1 {A : zA} {x : Int32} (h1 : ¬ iR x 1000 1000000) : k_star A x = 0 + 1 := if_pos h1
theorem ks2 {A : zA} {x : Int32} (h1 : iR x 1000 1000000) (h2 : ns A = 6) : k_star A x = 1 + 1 := by
  unfold k_star; exact (if_neg (fun z => z h1)).trans (if_pos h2)
set_option maxHeartbeats 400000 in
set_option maxRecDepth 100000 in
theorem p_star {l : Launch} {base : Nat} {K : zK} {L : List Nat} {f : Nat → va_E} (hst : l.stackTraces = false) {A : zA} {ad : Nat → Nat} (hI : CI K L f A ad) (x : Int32) : zXMet l yX6_star cX6_star 2 (some .int) (zr 8 12 1200 200) base K L f [.ref ((ad 1)), .int x] (zQi base K (fun r L1 f1 => k_star A x = 0 ∧ r = nI (ns A) ∧ CR K A ad L f (a_star A x) L1 f1)) (fun E L1 f1 => xE [xIA, xIS] (k_star A x) E ∧ CR K A ad L f (a_star A x) L1 f1) := by
  have hI9 := hI
  obtain ⟨hV, hmem, hinj, hCX, hCF, hh5, hl6, hl8, hl10, hSt, hWo, hPa⟩ := hI9
  have hV9 := hV
  obtain ⟨hv1, hv2, hv3, hvS, -, -, -, -, hv11, hvW, hv23, -, hvP⟩ := hV9
  have hLo := hmem 1 (live_c (by omega))
  have hfo : f (ad 1) = eS 7 [.ref ((ad 6)), .ref ((ad 8)), .ref ((ad 10)), .ref ((ad 5)), .int (nI (hN A 1000)), .ref ((ad 2))] := hCX
  have hth : ∀ n E, k_star A x = n + 1 → [xIA, xIS][n]? = some E → (xE [xIA, xIS] (k_star A x) E ∧ CR K A ad L f (a_star A x) L f) := fun n E h1 h2 => ⟨⟨by omega, by rw [h1]; exact h2⟩, by rw [a_star, if_neg (by omega)]; exact CR.id hI⟩
  have hl69 := hl6
  obtain ⟨hm9, ⟨mc9, hf9⟩, -⟩ := hl69
  refine z_xmet (by decide) (Nat.le_of_ble_eq_true rfl) (fun p e s m below meth c ls hC hM hr hlk hxt hl => ?_)
  have hx := hC.1
  have hb := hC.2.1
  have hml := hC.2.2.1
  have hown := hC.2.2.2.1
  have hts := hC.2.2.2.2.1
  generalize hA : ([.ref ((ad 1)), .int x] : List Value).toArray = args at hC ⊢
  generalize hQ : vx_MQ _ _ _ _ _ _ _ _ = Q
  obtain ⟨locs, hlocs⟩ : ∃ z : List Loc, z = [] := ⟨_, rfl⟩
  obtain ⟨H, hH⟩ : ∃ z : Heap, z = s.heap := ⟨_, rfl⟩
  rw [← hlocs, ← hH] at hM ⊢
  have hl : lv_has ls 2 [(0, .ref ((ad 1))), (1, .int x)] := hl
  refine lv_iload_n hx hb dX6_star_0 rfl (lv_at hl 1 rfl) ?_
  refine lv_sipush (v := nI 1000) hx hb dX6_star_1 (by decide) ?_
  refine lv_ldc (v := nI 1000000) hx hb hown (hts _ zk_X6_37) dX6_star_4 ?_
  refine z_xpcallv hQ (z_xrunS hC hM (c_reqRange hst x 1000 1000000 (by decide) (by decide)) zy_X6_requireRange zm_X6_38 rfl rfl hl.1 (Nat.le_of_ble_eq_true rfl) ⟨by decide, by decide⟩ ⟨by decide, by decide⟩ dX6_star_6) hM hxt hlk (by decide) (by decide) (fun E hE => by obtain ⟨rfl, h9⟩ := hE; exact hth 0 _ (ks1 h9) rfl) (fun hp_6 H locs hM => ?_)
  obtain ⟨a, ha1, ha2, rfl⟩ := inR_nI (by decide) hp_6
  have hiva := iv_nI (i := a) (by omega)
  have hra : iR (nI a) 1000 1000000 := iR_nI (by omega) (by omega) (by omega)
  refine lv_aload_n hx hb dX6_star_9 rfl (lv_at hl 0 rfl) ?_
  refine z_get hC hM hLo hfo zcl_X6 (by decide) zl_X6_10 rfl dX6_star_10 ?_
  refine z_fcalli (z_runV hC hM (c_size hm9 hf9) zy_Jx4a65c_size_8abf5 zm_X6_42 hm9 hf9 zcl_Jx4a65c rfl rfl rfl hl.1 (Nat.le_of_ble_eq_true rfl) ⟨by decide, by decide⟩ ⟨by decide, by decide⟩ dX6_star_13) hM (fun H locs hM => ?_)
  refine lv_bipush (v := nI 6) hx hb dX6_star_16 (by decide) ?_
  refine z_icmp_lt (tgt := 31) hx hb (nI_toInt (by omega)) (nI_toInt (by decide)) dX6_star_18 (by decide) (fun c_18 => ?_) (fun c_18 => ?_)
  · refine lv_aload_n hx hb dX6_star_31 rfl (lv_at hl 0 rfl) ?_
    refine z_get hC hM hLo hfo zcl_X6 (by decide) zl_X6_10 rfl dX6_star_32 ?_
    refine z_new (fs := [.int (nI 0), .null, .int (nI 0), .int (nI 0), .int (nI 0), .null]) hC hM zcl_X4 zn_X6_53 (by decide) (by decide) (by decide) dX6_star_35 (fun q_35 H hq_35 hM => ?_)
    obtain ⟨f_1, ef_1⟩ : ∃ z9, z9 = va_up f q_35 (eS 5 [.int (nI 0), .null, .int (nI 0), .int (nI 0), .int (nI 0), .null]) := ⟨_, rfl⟩
    rw [← ef_1] at hM
    have hN_4 : ((ad 1)) ≠ q_35 := fun h => hq_35 (h ▸ hLo)
    have hL_2 : ((ad 1)) ∈ L ++ [q_35] := List.mem_append_left _ hLo
    have hF_3 : f_1 ((ad 1)) = eS 7 [.ref ((ad 6)), .ref ((ad 8)), .ref ((ad 10)), .ref ((ad 5)), .int (nI (hN A 1000)), .ref ((ad 2))] := by rw [ef_1]; exact (va_up_ne _ _ hN_4).trans hfo
    have hN_7 : ((ad 6)) ≠ q_35 := fun h => hq_35 (h ▸ hm9)
    have hL_5 : ((ad 6)) ∈ L ++ [q_35] := List.mem_append_left _ hm9
    have hF_6 : f_1 ((ad 6)) = eS 0 [.int mc9, .ref ((ad 7)), .int (nI (ns A))] := by rw [ef_1]; exact (va_up_ne _ _ hN_7).trans hf9
    have hL_8 : q_35 ∈ L ++ [q_35] := List.mem_append_right _ List.mem_cons_self
    have hF_9 : f_1 q_35 = eS 5 [.int (nI 0), .null, .int (nI 0), .int (nI 0), .int (nI 0), .null] := by rw [ef_1]; exact va_up_self _ _ _
    refine lv_dup hx hb dX6_star_38 rfl ?_
    refine lv_iload_n hx hb dX6_star_39 rfl (lv_at hl 1 rfl) ?_
    refine z_callv (z_runI hC hM (c_sinit (own := a) hL_8 hF_9) zy_X4_init zm_X6_55 rfl rfl hl.1 (Nat.le_of_ble_eq_true rfl) ⟨by decide, by decide⟩ ⟨by decide, by decide⟩ dX6_star_40) hM (fun L2 f2 H locs hp hM => ?_)
    obtain ⟨q1, q3, q4, ⟨hq1, hq3, hq4⟩, hL2, g0, g1, g3, g4, hfr2⟩ := hp
    obtain ⟨hq1b, hq1c⟩ := no_app hq1
    obtain ⟨hq3b, hq3c⟩ := no_app hq3
    obtain ⟨hq3d, hq3e⟩ := no_app hq3b
    obtain ⟨hq4b, hq4c⟩ := no_app hq4
    obtain ⟨hq4d, hq4e⟩ := no_app hq4b
    obtain ⟨hq4f, hq4g⟩ := no_app hq4d
    have hsub : ∀ x, x ∈ L → x ∈ L2 := fun x hx => by rw [hL2]; exact app_l _ (app_l _ (app_l _ (app_l _ hx)))
    have m0 : q_35 ∈ L2 := by rw [hL2]; exact app_l _ (app_l _ (app_l _ app_r))
    have m1 : q1 ∈ L2 := by rw [hL2]; exact app_l _ (app_l _ app_r)
    have m3 : q3 ∈ L2 := by rw [hL2]; exact app_l _ app_r
    have m4 : q4 ∈ L2 := by rw [hL2]; exact app_r
    have hfrL : ∀ x, x ∈ L → f2 x = f x := fun x hx => (hfr2 x (ne_of hx hq_35) (ne_of hx hq1b) (ne_of hx hq3d) (ne_of hx hq4f)).trans (eq_sub hq_35 ef_1 x hx)
    have hli2 : LI K L2 f2 (ad 6) (ad 7) (ns A) (fun i => ad (100 + 10 * i)) := hl6.mv hsub rfl rfl (hfrL _ hm9) (fun z => ⟨hfrL _ (hmem 7 (live_7 z)), rfl⟩) (fun _ => rfl) (fun _ _ => rfl)
    have hel9 : ∀ i, i < ns A → zAny L2 f2 (ad (100 + 10 * i)) := fun i hi => ⟨hsub _ (hmem _ (live_s hi (by omega))), 5, _, RX4, TX4, 6, tyX4, (hfrL _ (hmem _ (live_s hi (by omega)))).trans (hSt i hi).1, by decide, zcl_X4, zca_X4⟩
    have hm92 := hsub _ hm9
    have hf92 := (hfrL _ hm9).trans hf9
    have hz9 := z_zero hC hM
    refine z_calli (z_runV hC hM (c_addI (es := fun i => ad (100 + 10 * i)) hli2 (z_zero hC hM) (hli2.ne (z_zero hC hM) (fun z9 => ad_ne hinj (live_c (by omega)) (live_7 z9) (by omega))) (by omega) ⟨m0, 5, _, RX4, TX4, 6, tyX4, g0, by decide, zcl_X4, zca_X4⟩ hel9) zy_Jx4a65c_add_9ea2d zm_X6_58 hm92 hf92 zcl_Jx4a65c rfl rfl rfl hl.1 (Nat.le_of_ble_eq_true rfl) ⟨by decide, by decide⟩ ⟨by decide, by decide⟩ dX6_star_43) hM (fun r L1 f1 H locs hp hM => ?_)
    obtain ⟨rfl, hadd⟩ := hp
    have hCR := hI.addStar (own := a) (by omega) (by omega) (by omega) hz9 hq_35 hq1b hq3d hq4f (Ne.symm hq1c) (Ne.symm hq3e) (Ne.symm hq4g) (Ne.symm hq3c) (Ne.symm hq4e) (Ne.symm hq4c) hsub m0 m1 m3 m4 g0 g1 g3 g4 hfrL hadd
    have hCR9 := hCR
    obtain ⟨AD, hI2, had1, hsub2, -⟩ := hCR9
    obtain ⟨-, hmem2, -, hCX2, -, -, ⟨hm69, ⟨mc69, hf69⟩, -⟩, -⟩ := hI2
    unfold CX at hCX2
    rw [had1] at hCX2
    have hLo2 := hsub2 _ hLo
    refine lv_pop hx hb dX6_star_46 rfl ?_
    refine lv_aload_n hx hb dX6_star_47 rfl (lv_at hl 0 rfl) ?_
    refine z_get hC hM hLo2 hCX2 zcl_X6 (by decide) zl_X6_10 rfl dX6_star_48 ?_
    refine z_fcalli (z_runV hC hM (c_size hm69 hf69) zy_Jx4a65c_size_8abf5 zm_X6_42 hm69 hf69 zcl_Jx4a65c rfl rfl rfl hl.1 (Nat.le_of_ble_eq_true rfl) ⟨by decide, by decide⟩ ⟨by decide, by decide⟩ dX6_star_51) hM (fun H locs hM => ?_)
    rw [nsA_n]
    refine lv_iconst (v := nI 1) hx hb dX6_star_54 (by decide) ?_
    refine z_isub hx hb (by omega) dX6_star_55 ?_
    rw [← hQ]
    refine vx_ret ?_
    exact z_iret hC hM hr hlk rfl (by decide) (by decide) ⟨ks0 hra (by omega), rfl, by rw [a_star, if_pos (ks0 hra (by omega)), hiva]; exact hCR⟩ dX6_star_56
  · rw [← hQ]
    exact z_throw (is := 48) (text := "there are as many stars as there can be") hC hM hst hlk hxt hl.1 zth_IS (by decide) dX6_star_21 dX6_star_24 dX6_star_25 dX6_star_27 dX6_star_30 (by decide) (by decide) (by decide) (hth 1 _ (ks2 hra (by omega)) rfl)
theorem quo_n {d : Nat} (h : d ≤ 200) : vf_n64 (quo d) := d_quo_n h
theorem kl0 {A : zA} {x p ph len d : Int32} (h1 : isS A x) (h2 : plG p ph len d) (h3 : A.1 3 (iv x) ≠ 4) : k_planet A x p ph len d = 0 := by
  unfold k_planet; exact (if_neg (fun z => z h1)).trans ((if_neg (fun z => z h2)).trans (if_neg h3))
theorem kl1 {A : zA} {x p ph len d : Int32} (h1 : ¬ isS A x) : k_planet A x p ph len d = 0 + 1 := if_pos h1
theorem kl2 {A : zA} {x p ph len d : Int32} (h1 : isS A x) (h2 : ¬ plG p ph len d) : k_planet A x p ph len d = 1 + 1 := by
  unfold k_planet; exact (if_neg (fun z => z h1)).trans (if_pos h2)
theorem kl3 {A : zA} {x p ph len d : Int32} (h1 : isS A x) (h2 : plG p ph len d) (h3 : A.1 3 (iv x) = 4) : k_planet A x p ph len d = 2 + 1 := by
  unfold k_planet; exact (if_neg (fun z => z h1)).trans ((if_neg (fun z => z h2)).trans (if_pos h3))
set_option maxHeartbeats 400000 in
set_option maxRecDepth 100000 in
theorem p_planet {l : Launch} {base : Nat} {K : zK} {L : List Nat} {f : Nat → va_E} (hst : l.stackTraces = false) {A : zA} {ad : Nat → Nat} (hI : CI K L f A ad) (x y1 y2 y3 y4 : Int32) : zXMet l yX6_planet cX6_planet 7 (some .int) (zr 8 12 200 210) base K L f [.ref ((ad 1)), .int x, .int y1, .int y2, .int y3, .int y4] (zQi base K (fun r L1 f1 => k_planet A x y1 y2 y3 y4 = 0 ∧ r = nI (A.1 3 (iv x) + 1) ∧ CR K A ad L f (a_planet A x y1 y2 y3 y4) L1 f1)) (fun E L1 f1 => xE [xIO, xIA, xIS] (k_planet A x y1 y2 y3 y4) E ∧ CR K A ad L f (a_planet A x y1 y2 y3 y4) L1 f1) := by
  have hI9 := hI
  obtain ⟨hV, hmem, hinj, hCX, hCF, hh5, hl6, hl8, hl10, hSt, hWo, hPa⟩ := hI9
  have hV9 := hV
  obtain ⟨hv1, hv2, hv3, hvS, -, -, -, -, hv11, hvW, hv23, -, hvP⟩ := hV9
  have hLo := hmem 1 (live_c (by omega))
  have hfo : f (ad 1) = eS 7 [.ref ((ad 6)), .ref ((ad 8)), .ref ((ad 10)), .ref ((ad 5)), .int (nI (hN A 1000)), .ref ((ad 2))] := hCX
  have hth : ∀ n E, k_planet A x y1 y2 y3 y4 = n + 1 → [xIO, xIA, xIS][n]? = some E → (xE [xIO, xIA, xIS] (k_planet A x y1 y2 y3 y4) E ∧ CR K A ad L f (a_planet A x y1 y2 y3 y4) L f) := fun n E h1 h2 => ⟨⟨by omega, by rw [h1]; exact h2⟩, by rw [a_planet, if_neg (by omega)]; exact CR.id hI⟩
  refine z_xmet (by decide) (Nat.le_of_ble_eq_true rfl) (fun p e s m below meth c ls hC hM hr hlk hxt hl => ?_)
  have hx := hC.1
  have hb := hC.2.1
  have hml := hC.2.2.1
  have hown := hC.2.2.2.1
  have hts := hC.2.2.2.2.1
  generalize hA : ([.ref ((ad 1)), .int x, .int y1, .int y2, .int y3, .int y4] : List Value).toArray = args at hC ⊢
  generalize hQ : vx_MQ _ _ _ _ _ _ _ _ = Q
  obtain ⟨locs, hlocs⟩ : ∃ z : List Loc, z = [] := ⟨_, rfl⟩
  obtain ⟨H, hH⟩ : ∃ z : Heap, z = s.heap := ⟨_, rfl⟩
  rw [← hlocs, ← hH] at hM ⊢
  have hl : lv_has ls 7 [(0, .ref ((ad 1))), (1, .int x), (2, .int y1), (3, .int y2), (4, .int y3), (5, .int y4)] := hl
  refine lv_aload_n hx hb dX6_planet_0 rfl (lv_at hl 0 rfl) ?_
  refine lv_iload_n hx hb dX6_planet_1 rfl (lv_at hl 1 rfl) ?_
  refine z_xpcallq hQ (z_xrunV hC hM (c_starAt hst hLo hfo hl6 (by omega) (fs := fun i => [.int (nI (A.1 2 i)), .ref (ad (101 + 10 * i)), .int (nI (A.1 8 i)), .int (nI (A.1 9 i)), .int (nI (A.1 10 i)), .ref (ad (103 + 10 * i))]) (fun i hi => ⟨hmem _ (live_s hi (by omega)), (hSt i hi).1⟩) x) zy_X6_starAt zm_X6_62 hLo hfo zcl_X6 rfl rfl rfl hl.1 (Nat.le_of_ble_eq_true rfl) ⟨by decide, by decide⟩ ⟨by decide, by decide⟩ dX6_planet_2) hM hxt hlk (by decide) (by decide) (fun E hE => by obtain ⟨rfl, h9⟩ := hE; exact hth 0 _ (kl1 h9) rfl) (fun r_2 hp_2 H locs hM => ?_)
  obtain ⟨i, hi, hx9, rfl⟩ := hp_2
  subst hx9
  have hi60 : i < 60 := by omega
  have hs9 : isS A (nI i) := iR_nI (by omega) (by omega) (by omega)
  have hiv := iv_nI (i := i) (by omega)
  obtain ⟨hS1, hS2, hS3, hS4, hS5⟩ := hSt i hi
  obtain ⟨w1, w2, w3, w4, w5, w6, w7, w8⟩ := hvS i hi
  refine lv_astore (lv' := [(6, .ref ((ad (100 + 10 * i)))), (0, .ref ((ad 1))), (1, .int (nI i)), (2, .int y1), (3, .int y2), (4, .int y3), (5, .int y4)]) hx hb dX6_planet_5 hl (by decide) rfl (fun ls hl => ?_)
  have l102 : 0 < A.1 3 i → live A (102 + 10 * i) := fun z => live_sT hi (Or.inr (Or.inr (Or.inr (Or.inr (Or.inl ⟨rfl, z⟩)))))
  refine lv_iload_n hx hb dX6_planet_7 rfl (lv_at hl 3 rfl) ?_
  refine lv_iconst (v := nI 2) hx hb dX6_planet_8 (by decide) ?_
  refine lv_bipush (v := nI 60) hx hb dX6_planet_9 (by decide) ?_
  refine z_xpcallv hQ (z_xrunS hC hM (c_reqRange hst y1 2 60 (by decide) (by decide)) zy_X6_requireRange zm_X6_38 rfl rfl hl.1 (Nat.le_of_ble_eq_true rfl) ⟨by decide, by decide⟩ ⟨by decide, by decide⟩ dX6_planet_11) hM hxt hlk (by decide) (by decide) (fun E hE => by obtain ⟨rfl, h9⟩ := hE; exact hth 1 _ (kl2 hs9 (fun z => h9 z.1)) rfl) (fun hp_11 H locs hM => ?_)
  obtain ⟨a, ha1, ha2, rfl⟩ := inR_nI (by omega) hp_11
  have hiva := iv_nI (i := a) (by omega)
  have htoa := nI_toInt (n := a) (by omega)
  refine lv_iload_n hx hb dX6_planet_14 rfl (lv_at hl 4 rfl) ?_
  refine lv_iconst (v := nI 0) hx hb dX6_planet_15 (by decide) ?_
  refine lv_iload_n hx hb dX6_planet_16 rfl (lv_at hl 3 rfl) ?_
  refine lv_iconst (v := nI 1) hx hb dX6_planet_17 (by decide) ?_
  refine z_isub hx hb (by omega) dX6_planet_18 ?_
  refine z_xpcallv hQ (z_xrunS hC hM (c_reqRange hst y2 0 (a - 1) (by decide) (by omega)) zy_X6_requireRange zm_X6_38 rfl rfl hl.1 (Nat.le_of_ble_eq_true rfl) ⟨by decide, by decide⟩ ⟨by decide, by decide⟩ dX6_planet_19) hM hxt hlk (by decide) (by decide) (fun E hE => by obtain ⟨rfl, h9⟩ := hE; exact hth 1 _ (kl2 hs9 (fun z => h9 ⟨z.2.1.1, by have h8 := z.2.1.2; rw [htoa] at h8; omega⟩)) rfl) (fun hp_19 H locs hM => ?_)
  obtain ⟨b, hb1, hb2, rfl⟩ := inR_nI (by omega) hp_19
  have hivb := iv_nI (i := b) (by omega)
  have htob := nI_toInt (n := b) (by omega)
  refine lv_iload hx hb dX6_planet_22 (lv_at hl 5 rfl) ?_
  refine lv_iconst (v := nI 1) hx hb dX6_planet_24 (by decide) ?_
  refine lv_iconst (v := nI 4) hx hb dX6_planet_25 (by decide) ?_
  refine lv_iload_n hx hb dX6_planet_26 rfl (lv_at hl 3 rfl) ?_
  refine lv_iconst (v := nI 1) hx hb dX6_planet_27 (by decide) ?_
  refine z_isub hx hb (by omega) dX6_planet_28 ?_
  refine z_min hC hl.1 zm_X6_66.1 (by omega) (by omega) (by decide) (Nat.le_of_ble_eq_true rfl) ⟨by decide, by decide⟩ dX6_planet_29 ?_
  refine z_xpcallv hQ (z_xrunS hC hM (c_reqRange hst y3 1 (min 4 (a - 1)) (by decide) (by omega)) zy_X6_requireRange zm_X6_38 rfl rfl hl.1 (Nat.le_of_ble_eq_true rfl) ⟨by decide, by decide⟩ ⟨by decide, by decide⟩ dX6_planet_32) hM hxt hlk (by decide) (by decide) (fun E hE => by obtain ⟨rfl, h9⟩ := hE; exact hth 1 _ (kl2 hs9 (fun z => h9 ⟨z.2.2.1.1, by have h8 := z.2.2.2.1; have h7 := z.2.2.1.2; rw [htoa] at h8; omega⟩)) rfl) (fun hp_32 H locs hM => ?_)
  obtain ⟨d, hd1, hd2, rfl⟩ := inR_nI (by omega) hp_32
  have hivd := iv_nI (i := d) (by omega)
  have htod := nI_toInt (n := d) (by omega)
  refine lv_iload hx hb dX6_planet_35 (lv_at hl 6 rfl) ?_
  refine lv_iconst (v := nI 1) hx hb dX6_planet_37 (by decide) ?_
  refine lv_sipush (v := nI 200) hx hb dX6_planet_38 (by decide) ?_
  refine z_xpcallv hQ (z_xrunS hC hM (c_reqRange hst y4 1 200 (by decide) (by decide)) zy_X6_requireRange zm_X6_38 rfl rfl hl.1 (Nat.le_of_ble_eq_true rfl) ⟨by decide, by decide⟩ ⟨by decide, by decide⟩ dX6_planet_41) hM hxt hlk (by decide) (by decide) (fun E hE => by obtain ⟨rfl, h9⟩ := hE; exact hth 1 _ (kl2 hs9 (fun z => h9 z.2.2.2.2)) rfl) (fun hp_41 H locs hM => ?_)
  obtain ⟨k, hk1, hk2, rfl⟩ := inR_nI (by omega) hp_41
  have hivk := iv_nI (i := k) (by omega)
  have htok := nI_toInt (n := k) (by omega)
  have hpl9 : plG (nI a) (nI b) (nI d) (nI k) := ⟨iR_nI (by omega) (by omega) (by omega), iR_nI (by omega) (by omega) (by rw [htoa]; omega), iR_nI (by omega) (by omega) (by omega), by rw [htoa, htod]; omega, iR_nI (by omega) (by omega) (by omega)⟩
  obtain ⟨hm9, ⟨mc9, hf9⟩, -⟩ := id hS2
  refine lv_aload hx hb dX6_planet_44 (lv_at hl 0 rfl) ?_
  refine z_getN hC hM (hmem _ (live_s hi (by omega))) hS1 zcl_X4 (by decide) zl_X6_72 rfl dX6_planet_46 ?_
  refine z_fcalli (z_runV hC hM (c_size hm9 hf9) zy_Jx4a65c_size_8abf5 zm_X6_42 hm9 hf9 zcl_Jx4a65c rfl rfl rfl hl.1 (Nat.le_of_ble_eq_true rfl) ⟨by decide, by decide⟩ ⟨by decide, by decide⟩ dX6_planet_49) hM (fun H locs hM => ?_)
  refine lv_iconst (v := nI 4) hx hb dX6_planet_52 (by decide) ?_
  refine z_icmp_lt (tgt := 66) hx hb (nI_toInt (by omega)) (nI_toInt (by decide)) dX6_planet_53 (by decide) (fun c_53 => ?_) (fun c_53 => ?_)
  · refine lv_aload hx hb dX6_planet_66 (lv_at hl 0 rfl) ?_
    refine z_getN hC hM (hmem _ (live_s hi (by omega))) hS1 zcl_X4 (by decide) zl_X6_72 rfl dX6_planet_68 ?_
    refine z_new (fs := [.int (nI 0), .int (nI 0), .int (nI 0), .double 0]) hC hM zcl_X3 zn_X6_77 (by decide) (by decide) (by decide) dX6_planet_71 (fun q_71 H hq_71 hM => ?_)
    obtain ⟨f_1, ef_1⟩ : ∃ z9, z9 = va_up f q_71 (eS 4 [.int (nI 0), .int (nI 0), .int (nI 0), .double 0]) := ⟨_, rfl⟩
    rw [← ef_1] at hM
    have hN_4 : ((ad 1)) ≠ q_71 := fun h => hq_71 (h ▸ hLo)
    have hL_2 : ((ad 1)) ∈ L ++ [q_71] := List.mem_append_left _ hLo
    have hF_3 : f_1 ((ad 1)) = eS 7 [.ref ((ad 6)), .ref ((ad 8)), .ref ((ad 10)), .ref ((ad 5)), .int (nI (hN A 1000)), .ref ((ad 2))] := by rw [ef_1]; exact (va_up_ne _ _ hN_4).trans hfo
    have hN_7 : ((ad (100 + 10 * i))) ≠ q_71 := fun h => hq_71 (h ▸ (hmem _ (live_s hi (by omega))))
    have hL_5 : ((ad (100 + 10 * i))) ∈ L ++ [q_71] := List.mem_append_left _ (hmem _ (live_s hi (by omega)))
    have hF_6 : f_1 ((ad (100 + 10 * i))) = eS 5 [.int (nI (A.1 2 i)), .ref ((ad (101 + 10 * i))), .int (nI (A.1 8 i)), .int (nI (A.1 9 i)), .int (nI (A.1 10 i)), .ref ((ad (103 + 10 * i)))] := by rw [ef_1]; exact (va_up_ne _ _ hN_7).trans hS1
    have hN_10 : ((ad (103 + 10 * i))) ≠ q_71 := fun h => hq_71 (h ▸ (hmem _ (live_s hi (by omega))))
    have hL_8 : ((ad (103 + 10 * i))) ∈ L ++ [q_71] := List.mem_append_left _ (hmem _ (live_s hi (by omega)))
    have hF_9 : f_1 ((ad (103 + 10 * i))) = eS 2 [.ref ((ad (104 + 10 * i))), .int (nI (A.1 14 i))] := by rw [ef_1]; exact (va_up_ne _ _ hN_10).trans hS3
    have hN_13 : ((ad (104 + 10 * i))) ≠ q_71 := fun h => hq_71 (h ▸ (hmem _ (live_s hi (by omega))))
    have hL_11 : ((ad (104 + 10 * i))) ∈ L ++ [q_71] := List.mem_append_left _ (hmem _ (live_s hi (by omega)))
    have hF_12 : f_1 ((ad (104 + 10 * i))) = eD K 1000 (gk A i) := by rw [ef_1]; exact (va_up_ne _ _ hN_13).trans hS4
    have hN_16 : ((ad (101 + 10 * i))) ≠ q_71 := fun h => hq_71 (h ▸ hm9)
    have hL_14 : ((ad (101 + 10 * i))) ∈ L ++ [q_71] := List.mem_append_left _ hm9
    have hF_15 : f_1 ((ad (101 + 10 * i))) = eS 0 [.int mc9, .ref ((ad (102 + 10 * i))), .int (nI (A.1 3 i))] := by rw [ef_1]; exact (va_up_ne _ _ hN_16).trans hf9
    have hL_17 : q_71 ∈ L ++ [q_71] := List.mem_append_right _ List.mem_cons_self
    have hF_18 : f_1 q_71 = eS 4 [.int (nI 0), .int (nI 0), .int (nI 0), .double 0] := by rw [ef_1]; exact va_up_self _ _ _
    refine lv_dup hx hb dX6_planet_74 rfl ?_
    refine lv_iload_n hx hb dX6_planet_75 rfl (lv_at hl 3 rfl) ?_
    refine lv_iload_n hx hb dX6_planet_76 rfl (lv_at hl 4 rfl) ?_
    refine lv_iload hx hb dX6_planet_77 (lv_at hl 5 rfl) ?_
    refine lv_iload hx hb dX6_planet_79 (lv_at hl 6 rfl) ?_
    refine z_fcallv (z_runI hC hM (c_pinit hL_17 hF_18 (by omega) (quo_n (by omega))) zy_X3_init zm_X6_79 rfl rfl hl.1 (Nat.le_of_ble_eq_true rfl) ⟨by decide, by decide⟩ ⟨by decide, by decide⟩ dX6_planet_81) hM (fun H locs hM => ?_)
    obtain ⟨f_19, ef_19⟩ : ∃ z9, z9 = va_up f_1 q_71 (eS 4 [.int (nI a), .int (nI b), .int (nI d), .double (quo k)]) := ⟨_, rfl⟩
    rw [← ef_19] at hM
    have hF_20 : f_19 ((ad 1)) = eS 7 [.ref ((ad 6)), .ref ((ad 8)), .ref ((ad 10)), .ref ((ad 5)), .int (nI (hN A 1000)), .ref ((ad 2))] := by rw [ef_19]; exact (va_up_ne _ _ hN_4).trans hF_3
    have hF_21 : f_19 ((ad (100 + 10 * i))) = eS 5 [.int (nI (A.1 2 i)), .ref ((ad (101 + 10 * i))), .int (nI (A.1 8 i)), .int (nI (A.1 9 i)), .int (nI (A.1 10 i)), .ref ((ad (103 + 10 * i)))] := by rw [ef_19]; exact (va_up_ne _ _ hN_7).trans hF_6
    have hF_22 : f_19 ((ad (103 + 10 * i))) = eS 2 [.ref ((ad (104 + 10 * i))), .int (nI (A.1 14 i))] := by rw [ef_19]; exact (va_up_ne _ _ hN_10).trans hF_9
    have hF_23 : f_19 ((ad (104 + 10 * i))) = eD K 1000 (gk A i) := by rw [ef_19]; exact (va_up_ne _ _ hN_13).trans hF_12
    have hF_24 : f_19 ((ad (101 + 10 * i))) = eS 0 [.int mc9, .ref ((ad (102 + 10 * i))), .int (nI (A.1 3 i))] := by rw [ef_19]; exact (va_up_ne _ _ hN_16).trans hF_15
    have hF_25 : f_19 q_71 = eS 4 [.int (nI a), .int (nI b), .int (nI d), .double (quo k)] := by rw [ef_19]; exact va_up_self _ _ _
    have hfrL : ∀ x, x ∈ L → f_19 x = f x := fun x hx => by have n1 : x ≠ q_71 := ne_of hx hq_71; rw [ef_19, ef_1]; simp only [va_up, n1, if_false]
    have hli2 : LI K (L ++ [q_71]) f_19 (ad (101 + 10 * i)) (ad (102 + 10 * i)) (A.1 3 i) (fun k => ad (200 + 10 * i + k)) := hS2.mv app_l rfl rfl (hfrL _ hm9) (fun z => ⟨hfrL _ (hmem _ (l102 z)), rfl⟩) (fun _ => rfl) (fun _ _ => rfl)
    have hel9 := any_pl hI (app_l (q := q_71)) hfrL hi
    have hz9 := z_zero hC hM
    refine z_calli (z_runV hC hM (c_addI (es := fun k => ad (200 + 10 * i + k)) hli2 hz9 (hli2.ne hz9 (fun z9 => ad_ne hinj (live_s hi (by omega)) (l102 z9) (by omega))) (by omega) ⟨hL_17, 4, _, RX3, TX3, 4, tyX3, hF_25, by decide, zcl_X3, zca_X3⟩ hel9) zy_Jx4a65c_add_9ea2d zm_X6_58 hL_14 hF_24 zcl_Jx4a65c rfl rfl rfl hl.1 (Nat.le_of_ble_eq_true rfl) ⟨by decide, by decide⟩ ⟨by decide, by decide⟩ dX6_planet_84) hM (fun r L1 f1 H locs hp hM => ?_)
    obtain ⟨rfl, hadd⟩ := hp
    have hCR := hI.addPlanet hi (by omega) (p := a) (ph := b) (len := d) (d := k) (by omega) (by omega) (by omega) (by omega) (by omega) (by omega) (by omega) hz9 hq_71 app_l app_r hF_25 hfrL hadd
    obtain ⟨hfs, hms⟩ := hadd.fr (x := ad (100 + 10 * i)) (app_l _ (hmem _ (live_s hi (by omega)))) (ad_ne hinj (live_s hi (by omega)) (live_s hi (by omega)) (by omega)) (hli2.nx hz9 (app_l _ (hmem _ (live_s hi (by omega)))) (fun z9 => ad_ne hinj (live_s hi (by omega)) (l102 z9) (by omega)))
    have hfs9 := (hfs.trans (hfrL _ (hmem _ (live_s hi (by omega))))).trans hS1
    obtain ⟨e9, hli9⟩ := hadd.li hli2
    obtain ⟨hm99, ⟨mc99, hf99⟩, -⟩ := hli9
    refine lv_pop hx hb dX6_planet_87 rfl ?_
    refine lv_aload hx hb dX6_planet_88 (lv_at hl 0 rfl) ?_
    refine z_getN hC hM hms hfs9 zcl_X4 (by decide) zl_X6_72 rfl dX6_planet_90 ?_
    refine z_fcalli (z_runV hC hM (c_size hm99 hf99) zy_Jx4a65c_size_8abf5 zm_X6_42 hm99 hf99 zcl_Jx4a65c rfl rfl rfl hl.1 (Nat.le_of_ble_eq_true rfl) ⟨by decide, by decide⟩ ⟨by decide, by decide⟩ dX6_planet_93) hM (fun H locs hM => ?_)
    rw [← hQ]
    refine vx_ret ?_
    exact z_iret hC hM hr hlk rfl (by decide) (by decide) ⟨kl0 hs9 hpl9 (by rw [hiv]; omega), by rw [hiv], by rw [a_planet, if_pos (kl0 hs9 hpl9 (by rw [hiv]; omega)), hiv, hiva, hivb, hivd, hivk]; exact hCR⟩ dX6_planet_96
  · rw [← hQ]
    exact z_throw (is := 75) (text := "the star has as many planets as it can have") hC hM hst hlk hxt hl.1 zth_IS (by decide) dX6_planet_56 dX6_planet_59 dX6_planet_60 dX6_planet_62 dX6_planet_65 (by decide) (by decide) (by decide) (hth 2 _ (kl3 hs9 hpl9 (by rw [hiv]; omega)) rfl)
theorem kw0 {A : zA} {x t : Int32} (h1 : isS A x) (h2 : iR t 0 1000000) (h3 : ¬ (nw A = 12 ∨ pdT (gk A (iv x)) t = 0)) : k_world A x t = 0 := by
  unfold k_world; exact (if_neg (fun z => z h1)).trans ((if_neg (fun z => z h2)).trans (if_neg h3))
theorem kw1 {A : zA} {x t : Int32} (h1 : ¬ isS A x) : k_world A x t = 0 + 1 := if_pos h1
theorem kw2 {A : zA} {x t : Int32} (h1 : isS A x) (h2 : ¬ iR t 0 1000000) : k_world A x t = 1 + 1 := by
  unfold k_world; exact (if_neg (fun z => z h1)).trans (if_pos h2)
theorem kw3 {A : zA} {x t : Int32} (h1 : isS A x) (h2 : iR t 0 1000000) (h3 : nw A = 12 ∨ pdT (gk A (iv x)) t = 0) : k_world A x t = 2 + 1 := by
  unfold k_world; exact (if_neg (fun z => z h1)).trans ((if_neg (fun z => z h2)).trans (if_pos h3))
theorem xk {es : List String} {k n : Nat} {E : String} (h : k = n + 1) (h2 : es[n]? = some E) : xE es k E := by
  subst h; exact ⟨Nat.succ_pos n, h2⟩
set_option maxHeartbeats 400000 in
set_option maxRecDepth 100000 in
theorem p_world {l : Launch} {base : Nat} {K : zK} {L : List Nat} {f : Nat → va_E} (hst : l.stackTraces = false) {A : zA} {ad : Nat → Nat} (hI : CI K L f A ad) (x y1 : Int32) : zXMet l yX6_world cX6_world 5 (some .int) (zr 8 12 1200 200) base K L f [.ref ((ad 1)), .int x, .int y1] (zQi base K (fun r L1 f1 => k_world A x y1 = 0 ∧ r = nI (nw A) ∧ CR K A ad L f (a_world A x y1) L1 f1)) (fun E L1 f1 => xE [xIO, xIA, xIS] (k_world A x y1) E ∧ CR K A ad L f (a_world A x y1) L1 f1) := by
  have hI9 := hI
  obtain ⟨hV, hmem, hinj, hCX, hCF, hh5, hl6, hl8, hl10, hSt, hWo, hPa⟩ := hI9
  have hV9 := hV
  obtain ⟨hv1, hv2, hv3, hvS, -, -, -, -, hv11, hvW, hv23, -, hvP⟩ := hV9
  have hLo := hmem 1 (live_c (by omega))
  have hfo : f (ad 1) = eS 7 [.ref ((ad 6)), .ref ((ad 8)), .ref ((ad 10)), .ref ((ad 5)), .int (nI (hN A 1000)), .ref ((ad 2))] := hCX
  have hth : ∀ n E, k_world A x y1 = n + 1 → [xIO, xIA, xIS][n]? = some E → (xE [xIO, xIA, xIS] (k_world A x y1) E ∧ CR K A ad L f (a_world A x y1) L f) := fun n E h1 h2 => ⟨⟨by omega, by rw [h1]; exact h2⟩, by rw [a_world, if_neg (by omega)]; exact CR.id hI⟩
  refine z_xmet (by decide) (Nat.le_of_ble_eq_true rfl) (fun p e s m below meth c ls hC hM hr hlk hxt hl => ?_)
  have hx := hC.1
  have hb := hC.2.1
  have hml := hC.2.2.1
  have hown := hC.2.2.2.1
  have hts := hC.2.2.2.2.1
  generalize hA : ([.ref ((ad 1)), .int x, .int y1] : List Value).toArray = args at hC ⊢
  generalize hQ : vx_MQ _ _ _ _ _ _ _ _ = Q
  obtain ⟨locs, hlocs⟩ : ∃ z : List Loc, z = [] := ⟨_, rfl⟩
  obtain ⟨H, hH⟩ : ∃ z : Heap, z = s.heap := ⟨_, rfl⟩
  rw [← hlocs, ← hH] at hM ⊢
  have hl : lv_has ls 5 [(0, .ref ((ad 1))), (1, .int x), (2, .int y1)] := hl
  refine lv_aload_n hx hb dX6_world_0 rfl (lv_at hl 0 rfl) ?_
  refine lv_iload_n hx hb dX6_world_1 rfl (lv_at hl 1 rfl) ?_
  refine lv_iload_n hx hb dX6_world_2 rfl (lv_at hl 2 rfl) ?_
  refine z_xpcallq hQ (z_xrunV hC hM (c_nToSearch (nn := fun i => ad (103 + 10 * i)) (lo := fun i => ad (104 + 10 * i)) (kc := fun i => A.1 14 i) (v0 := fun i => nI (A.1 2 i)) (v1 := fun i => ad (101 + 10 * i)) (v2 := fun i => nI (A.1 8 i)) (v3 := fun i => nI (A.1 9 i)) (v4 := fun i => nI (A.1 10 i)) hst hLo hfo hl6 (by omega) (fun i hi => ⟨hmem _ (live_s hi (by omega)), (hSt i hi).1⟩) (fun i hi => ⟨hmem _ (live_s hi (by omega)), (hSt i hi).2.2.1⟩) x y1) zy_X6_nightsToSearch zm_X6_148 hLo hfo zcl_X6 rfl rfl rfl hl.1 (Nat.le_of_ble_eq_true rfl) ⟨by decide, by decide⟩ ⟨by decide, by decide⟩ dX6_world_3) hM hxt hlk (by decide) (by decide) (fun E hE => hE.elim (fun h => by obtain ⟨rfl, h9⟩ := h; exact hth 0 _ (kw1 h9) rfl) (fun ⟨i, hi, hx, h⟩ => by subst hx; have hs9 : isS A (nI i) := iR_nI (by omega) (by omega) (by omega); have hiv := iv_nI (i := i) (by omega); obtain ⟨rfl, h9⟩ := h; exact hth 1 _ (kw2 hs9 h9) rfl)) (fun r_3 hp_3 H locs hM => ?_)
  obtain ⟨i, hi, hx9, hy9, rfl⟩ := hp_3
  subst hx9
  have hiv := iv_nI (i := i) (by omega)
  have hs9 : isS A (nI i) := iR_nI (by omega) (by omega) (by omega)
  have hy8 : iR y1 0 1000000 := hy9
  obtain ⟨hS1, hS2, hS3, hS4, hS5⟩ := hSt i hi
  obtain ⟨w1, w2, w3, w4, w5, w6, w7, w8⟩ := hvS i hi
  have hGo := gk_ok hV i
  have hFP := fp_ok hGo
  have hkl := fN_le (gk A i) 1000
  refine lv_astore_n (lv' := [(3, .ref ((ad (103 + 10 * i)))), (0, .ref ((ad 1))), (1, .int (nI i)), (2, .int y1)]) hx hb dX6_world_6 rfl hl (by decide) rfl (fun ls hl => ?_)
  refine lv_aload_n hx hb dX6_world_7 rfl (lv_at hl 1 rfl) ?_
  refine lv_aload_n hx hb dX6_world_8 rfl (lv_at hl 0 rfl) ?_
  refine lv_iload_n hx hb dX6_world_9 rfl (lv_at hl 3 rfl) ?_
  refine z_xqcalli hQ (z_xrunV hC hM (c_periodToTell hst hLo hfo (hmem 2 (live_c (by omega))) (hmem 3 (live_c (by omega))) (hmem 4 (live_c (by omega))) hCF (hmem _ (live_s hi (by omega))) hS3 (hmem _ (live_s hi (by omega))) hS4 w7 hFP (ad_ne hinj (live_c (by omega)) (live_c (by omega)) (by omega)) (ad_ne hinj (live_c (by omega)) (live_c (by omega)) (by omega)) (ad_ne hinj (live_c (by omega)) (live_c (by omega)) (by omega)) (ad_ne hinj (live_c (by omega)) (live_s hi (by omega)) (by omega)) (ad_ne hinj (live_c (by omega)) (live_s hi (by omega)) (by omega)) (ad_ne hinj (live_c (by omega)) (live_c (by omega)) (by omega)) (ad_ne hinj (live_c (by omega)) (live_c (by omega)) (by omega)) (ad_ne hinj (live_c (by omega)) (live_s hi (by omega)) (by omega)) (ad_ne hinj (live_c (by omega)) (live_s hi (by omega)) (by omega)) (ad_ne hinj (live_c (by omega)) (live_c (by omega)) (by omega)) (ad_ne hinj (live_c (by omega)) (live_s hi (by omega)) (by omega)) (ad_ne hinj (live_c (by omega)) (live_s hi (by omega)) (by omega)) (ad_ne hinj (live_c (by omega)) (live_s hi (by omega)) (by omega)) (ad_ne hinj (live_c (by omega)) (live_s hi (by omega)) (by omega)) (ad_ne hinj (live_s hi (by omega)) (live_s hi (by omega)) (by omega)) y1) zy_X6_periodToTell zm_X6_151 hLo hfo zcl_X6 rfl rfl rfl hl.1 (Nat.le_of_ble_eq_true rfl) ⟨by decide, by decide⟩ ⟨by decide, by decide⟩ dX6_world_10) hM hxt hlk (by decide) (by decide) (fun E L1 f1 h9 => by obtain ⟨⟨rfl, h8⟩, e9, hcf, hfr⟩ := h9; have e9 := e9.symm; subst e9; have hk3 := kw3 hs9 hy8 (Or.inr (by rw [hiv]; exact bp_0 hGo hy8 h8)); exact ⟨⟨by rw [hk3]; decide, by rw [hk3]; rfl⟩, (by rw [a_world, if_neg (by rw [hk3]; decide)]; exact CR.scr hI hcf hfr)⟩) (fun r L1 f1 H locs hp hM => ?_)
  obtain ⟨⟨k, hk9, rfl⟩, e9, hcf, hfr⟩ := hp
  have e9 := e9.symm
  subst e9
  obtain ⟨hpd, hpd0⟩ := bp_1 hGo hy8 hk9
  obtain ⟨hkl, hkh⟩ := bpT_lt hk9
  have hfew := bpT_few hk9
  have hI1 := hI.scr hcf hfr
  obtain ⟨-, -, -, hCX1, hCF1, -, -, hl81, -, hSt1, hWo1, -⟩ := id hI1
  have hfo1 : f1 (ad 1) = eS 7 [.ref ((ad 6)), .ref ((ad 8)), .ref ((ad 10)), .ref ((ad 5)), .int (nI (hN A 1000)), .ref ((ad 2))] := hCX1
  obtain ⟨hm8, ⟨mc8, hf8⟩, -⟩ := id hl81
  obtain ⟨t1, t2, t3, t4, t5⟩ := hSt1 i hi
  obtain ⟨fl, mn, sg, cg, hffo, hfso, hfco, hz1, hz2, hz3⟩ := hCF1
  obtain ⟨tt, ht1, ht2, rfl⟩ := inR_nI (by decide) hy9
  have hivt := iv_nI (i := tt) (by omega)
  refine lv_istore (lv' := [(4, .int (nI k)), (3, .ref ((ad (103 + 10 * i)))), (0, .ref ((ad 1))), (1, .int (nI i)), (2, .int (nI tt))]) hx hb dX6_world_13 hl (by decide) rfl (fun ls hl => ?_)
  refine lv_aload_n hx hb dX6_world_15 rfl (lv_at hl 2 rfl) ?_
  refine z_get hC hM hLo hfo1 zcl_X6 (by decide) zl_X6_16 rfl dX6_world_16 ?_
  refine z_fcalli (z_runV hC hM (c_size hm8 hf8) zy_Jx4a65c_size_8abf5 zm_X6_42 hm8 hf8 zcl_Jx4a65c rfl rfl rfl hl.1 (Nat.le_of_ble_eq_true rfl) ⟨by decide, by decide⟩ ⟨by decide, by decide⟩ dX6_world_19) hM (fun H locs hM => ?_)
  refine lv_bipush (v := nI 12) hx hb dX6_world_22 (by decide) ?_
  refine z_icmp_lt (tgt := 37) hx hb (nI_toInt (by omega)) (nI_toInt (by decide)) dX6_world_24 (by decide) (fun c_24 => ?_) (fun c_24 => ?_)
  · refine lv_aload_n hx hb dX6_world_37 rfl (lv_at hl 2 rfl) ?_
    refine z_get hC hM hLo hfo1 zcl_X6 (by decide) zl_X6_33 rfl dX6_world_38 ?_
    refine lv_iload hx hb dX6_world_41 (lv_at hl 0 rfl) ?_
    refine lv_aload_n hx hb dX6_world_43 rfl (lv_at hl 1 rfl) ?_
    refine z_fcallv (z_runV hC hM (c_foldBy (hmem _ (live_c (by omega))) hffo (hmem _ (live_c (by omega))) hfso (hmem _ (live_c (by omega))) hfco hz1 (fun j hj => congrArg nI (hz2 j hj)) (hmem _ (live_s hi (by omega))) t3 (hmem _ (live_s hi (by omega))) t4 w7 hFP (ad_ne hinj (live_c (by omega)) (live_c (by omega)) (by omega)) (ad_ne hinj (live_c (by omega)) (live_c (by omega)) (by omega)) (ad_ne hinj (live_c (by omega)) (live_s hi (by omega)) (by omega)) (ad_ne hinj (live_c (by omega)) (live_s hi (by omega)) (by omega)) (ad_ne hinj (live_c (by omega)) (live_c (by omega)) (by omega)) (ad_ne hinj (live_c (by omega)) (live_s hi (by omega)) (by omega)) (ad_ne hinj (live_c (by omega)) (live_s hi (by omega)) (by omega)) (ad_ne hinj (live_c (by omega)) (live_s hi (by omega)) (by omega)) (ad_ne hinj (live_c (by omega)) (live_s hi (by omega)) (by omega)) (ad_ne hinj (live_s hi (by omega)) (live_s hi (by omega)) (by omega)) (by omega) (by omega)) zy_X0_foldBy zm_X6_138 (hmem 2 (live_c (by omega))) hffo zcl_X0 rfl rfl rfl hl.1 (Nat.le_of_ble_eq_true rfl) ⟨by decide, by decide⟩ ⟨by decide, by decide⟩ dX6_world_44) hM (fun H locs hM => ?_)
    obtain ⟨f_1, ef_1⟩ : ∃ z9, z9 = va_up f1 ((ad 3)) (eD K 120 (fS (gk A i) k 1000)) := ⟨_, rfl⟩
    rw [← ef_1] at hM
    have hF_2 : f_1 ((ad 1)) = eS 7 [.ref ((ad 6)), .ref ((ad 8)), .ref ((ad 10)), .ref ((ad 5)), .int (nI (hN A 1000)), .ref ((ad 2))] := by rw [ef_1]; exact (va_up_ne _ _ (ad_ne hinj (live_c (by omega)) (live_c (by omega)) (by omega))).trans hfo1
    have hF_3 : f_1 ((ad 8)) = eS 0 [.int mc8, .ref ((ad 9)), .int (nI (nw A))] := by rw [ef_1]; exact (va_up_ne _ _ (ad_ne hinj (live_c (by omega)) (live_c (by omega)) (by omega))).trans hf8
    have hF_4 : f_1 ((ad 2)) = eS 1 [.ref ((ad 3)), .ref ((ad 4)), .int (nI fl), .double mn] := by rw [ef_1]; exact (va_up_ne _ _ (ad_ne hinj (live_c (by omega)) (live_c (by omega)) (by omega))).trans hffo
    have hF_5 : f_1 ((ad 3)) = eD K 120 (fS (gk A i) k 1000) := by rw [ef_1]; exact va_up_self _ _ _
    have hF_6 : f_1 ((ad 4)) = eI K 120 (fun j => nI (cg j)) := by rw [ef_1]; exact (va_up_ne _ _ (ad_ne hinj (live_c (by omega)) (live_c (by omega)) (by omega))).trans hfco
    have hF_7 : f_1 ((ad (103 + 10 * i))) = eS 2 [.ref ((ad (104 + 10 * i))), .int (nI (A.1 14 i))] := by rw [ef_1]; exact (va_up_ne _ _ (ad_ne hinj (live_s hi (by omega)) (live_c (by omega)) (by omega))).trans t3
    have hF_8 : f_1 ((ad (104 + 10 * i))) = eD K 1000 (gk A i) := by rw [ef_1]; exact (va_up_ne _ _ (ad_ne hinj (live_s hi (by omega)) (live_c (by omega)) (by omega))).trans t4
    obtain ⟨f_9, ef_9⟩ : ∃ z9, z9 = va_up f_1 ((ad 4)) (eI K 120 (fun j => nI ((fC (gk A i) k 1000) j))) := ⟨_, rfl⟩
    rw [← ef_9] at hM
    have hF_10 : f_9 ((ad 1)) = eS 7 [.ref ((ad 6)), .ref ((ad 8)), .ref ((ad 10)), .ref ((ad 5)), .int (nI (hN A 1000)), .ref ((ad 2))] := by rw [ef_9]; exact (va_up_ne _ _ (ad_ne hinj (live_c (by omega)) (live_c (by omega)) (by omega))).trans hF_2
    have hF_11 : f_9 ((ad 8)) = eS 0 [.int mc8, .ref ((ad 9)), .int (nI (nw A))] := by rw [ef_9]; exact (va_up_ne _ _ (ad_ne hinj (live_c (by omega)) (live_c (by omega)) (by omega))).trans hF_3
    have hF_12 : f_9 ((ad 2)) = eS 1 [.ref ((ad 3)), .ref ((ad 4)), .int (nI fl), .double mn] := by rw [ef_9]; exact (va_up_ne _ _ (ad_ne hinj (live_c (by omega)) (live_c (by omega)) (by omega))).trans hF_4
    have hF_13 : f_9 ((ad 3)) = eD K 120 (fS (gk A i) k 1000) := by rw [ef_9]; exact (va_up_ne _ _ (ad_ne hinj (live_c (by omega)) (live_c (by omega)) (by omega))).trans hF_5
    have hF_14 : f_9 ((ad 4)) = eI K 120 (fun j => nI ((fC (gk A i) k 1000) j)) := by rw [ef_9]; exact va_up_self _ _ _
    have hF_15 : f_9 ((ad (103 + 10 * i))) = eS 2 [.ref ((ad (104 + 10 * i))), .int (nI (A.1 14 i))] := by rw [ef_9]; exact (va_up_ne _ _ (ad_ne hinj (live_s hi (by omega)) (live_c (by omega)) (by omega))).trans hF_7
    have hF_16 : f_9 ((ad (104 + 10 * i))) = eD K 1000 (gk A i) := by rw [ef_9]; exact (va_up_ne _ _ (ad_ne hinj (live_s hi (by omega)) (live_c (by omega)) (by omega))).trans hF_8
    obtain ⟨f_17, ef_17⟩ : ∃ z9, z9 = va_up f_9 ((ad 2)) (eS 1 [.ref ((ad 3)), .ref ((ad 4)), .int (nI k), .double (mnT (gk A i))]) := ⟨_, rfl⟩
    rw [← ef_17] at hM
    have hF_18 : f_17 ((ad 1)) = eS 7 [.ref ((ad 6)), .ref ((ad 8)), .ref ((ad 10)), .ref ((ad 5)), .int (nI (hN A 1000)), .ref ((ad 2))] := by rw [ef_17]; exact (va_up_ne _ _ (ad_ne hinj (live_c (by omega)) (live_c (by omega)) (by omega))).trans hF_10
    have hF_19 : f_17 ((ad 8)) = eS 0 [.int mc8, .ref ((ad 9)), .int (nI (nw A))] := by rw [ef_17]; exact (va_up_ne _ _ (ad_ne hinj (live_c (by omega)) (live_c (by omega)) (by omega))).trans hF_11
    have hF_20 : f_17 ((ad 2)) = eS 1 [.ref ((ad 3)), .ref ((ad 4)), .int (nI k), .double (mnT (gk A i))] := by rw [ef_17]; exact va_up_self _ _ _
    have hF_21 : f_17 ((ad 3)) = eD K 120 (fS (gk A i) k 1000) := by rw [ef_17]; exact (va_up_ne _ _ (ad_ne hinj (live_c (by omega)) (live_c (by omega)) (by omega))).trans hF_13
    have hF_22 : f_17 ((ad 4)) = eI K 120 (fun j => nI ((fC (gk A i) k 1000) j)) := by rw [ef_17]; exact (va_up_ne _ _ (ad_ne hinj (live_c (by omega)) (live_c (by omega)) (by omega))).trans hF_14
    have hF_23 : f_17 ((ad (103 + 10 * i))) = eS 2 [.ref ((ad (104 + 10 * i))), .int (nI (A.1 14 i))] := by rw [ef_17]; exact (va_up_ne _ _ (ad_ne hinj (live_s hi (by omega)) (live_c (by omega)) (by omega))).trans hF_15
    have hF_24 : f_17 ((ad (104 + 10 * i))) = eD K 1000 (gk A i) := by rw [ef_17]; exact (va_up_ne _ _ (ad_ne hinj (live_s hi (by omega)) (live_c (by omega)) (by omega))).trans hF_16
    refine lv_aload_n hx hb dX6_world_47 rfl (lv_at hl 2 rfl) ?_
    refine z_get hC hM hLo hF_18 zcl_X6 (by decide) zl_X6_16 rfl dX6_world_48 ?_
    have hfr2 : ∀ q, q ≠ ad 2 → q ≠ ad 3 → q ≠ ad 4 → f_17 q = f1 q := fun q h2 h3 h4 => by rw [ef_17, ef_9, ef_1]; simp only [va_up, h2, h3, h4, if_false]
    have hI2 : CI K L f_17 A ad := hI1.scr (CFx.of (p := k) (g := gk A i) (by omega) (by omega) hF_20 hF_21 hF_22) hfr2
    obtain ⟨-, -, -, -, -, -, -, hl82, -⟩ := id hI2
    refine z_new (fs := [.int (nI 0), .int (nI 0), .int (nI 0), .int (nI 0), .null, .int (nI 0)]) hC hM zcl_X5 zn_X6_166 (by decide) (by decide) (by decide) dX6_world_51 (fun q_51 H hq_51 hM => ?_)
    obtain ⟨f_25, ef_25⟩ : ∃ z9, z9 = va_up f_17 q_51 (eS 6 [.int (nI 0), .int (nI 0), .int (nI 0), .int (nI 0), .null, .int (nI 0)]) := ⟨_, rfl⟩
    rw [← ef_25] at hM
    have hN_28 : ((ad 1)) ≠ q_51 := fun h => hq_51 (h ▸ hLo)
    have hL_26 : ((ad 1)) ∈ L ++ [q_51] := List.mem_append_left _ hLo
    have hF_27 : f_25 ((ad 1)) = eS 7 [.ref ((ad 6)), .ref ((ad 8)), .ref ((ad 10)), .ref ((ad 5)), .int (nI (hN A 1000)), .ref ((ad 2))] := by rw [ef_25]; exact (va_up_ne _ _ hN_28).trans hF_18
    have hN_31 : ((ad 8)) ≠ q_51 := fun h => hq_51 (h ▸ hm8)
    have hL_29 : ((ad 8)) ∈ L ++ [q_51] := List.mem_append_left _ hm8
    have hF_30 : f_25 ((ad 8)) = eS 0 [.int mc8, .ref ((ad 9)), .int (nI (nw A))] := by rw [ef_25]; exact (va_up_ne _ _ hN_31).trans hF_19
    have hN_34 : ((ad 2)) ≠ q_51 := fun h => hq_51 (h ▸ (hmem 2 (live_c (by omega))))
    have hL_32 : ((ad 2)) ∈ L ++ [q_51] := List.mem_append_left _ (hmem 2 (live_c (by omega)))
    have hF_33 : f_25 ((ad 2)) = eS 1 [.ref ((ad 3)), .ref ((ad 4)), .int (nI k), .double (mnT (gk A i))] := by rw [ef_25]; exact (va_up_ne _ _ hN_34).trans hF_20
    have hN_37 : ((ad 3)) ≠ q_51 := fun h => hq_51 (h ▸ (hmem 3 (live_c (by omega))))
    have hL_35 : ((ad 3)) ∈ L ++ [q_51] := List.mem_append_left _ (hmem 3 (live_c (by omega)))
    have hF_36 : f_25 ((ad 3)) = eD K 120 (fS (gk A i) k 1000) := by rw [ef_25]; exact (va_up_ne _ _ hN_37).trans hF_21
    have hN_40 : ((ad 4)) ≠ q_51 := fun h => hq_51 (h ▸ (hmem 4 (live_c (by omega))))
    have hL_38 : ((ad 4)) ∈ L ++ [q_51] := List.mem_append_left _ (hmem 4 (live_c (by omega)))
    have hF_39 : f_25 ((ad 4)) = eI K 120 (fun j => nI ((fC (gk A i) k 1000) j)) := by rw [ef_25]; exact (va_up_ne _ _ hN_40).trans hF_22
    have hN_43 : ((ad (103 + 10 * i))) ≠ q_51 := fun h => hq_51 (h ▸ (hmem _ (live_s hi (by omega))))
    have hL_41 : ((ad (103 + 10 * i))) ∈ L ++ [q_51] := List.mem_append_left _ (hmem _ (live_s hi (by omega)))
    have hF_42 : f_25 ((ad (103 + 10 * i))) = eS 2 [.ref ((ad (104 + 10 * i))), .int (nI (A.1 14 i))] := by rw [ef_25]; exact (va_up_ne _ _ hN_43).trans hF_23
    have hN_46 : ((ad (104 + 10 * i))) ≠ q_51 := fun h => hq_51 (h ▸ (hmem _ (live_s hi (by omega))))
    have hL_44 : ((ad (104 + 10 * i))) ∈ L ++ [q_51] := List.mem_append_left _ (hmem _ (live_s hi (by omega)))
    have hF_45 : f_25 ((ad (104 + 10 * i))) = eD K 1000 (gk A i) := by rw [ef_25]; exact (va_up_ne _ _ hN_46).trans hF_24
    have hL_47 : q_51 ∈ L ++ [q_51] := List.mem_append_right _ List.mem_cons_self
    have hF_48 : f_25 q_51 = eS 6 [.int (nI 0), .int (nI 0), .int (nI 0), .int (nI 0), .null, .int (nI 0)] := by rw [ef_25]; exact va_up_self _ _ _
    refine lv_dup hx hb dX6_world_54 rfl ?_
    refine lv_iload_n hx hb dX6_world_55 rfl (lv_at hl 3 rfl) ?_
    refine lv_iload_n hx hb dX6_world_56 rfl (lv_at hl 4 rfl) ?_
    refine lv_iload hx hb dX6_world_57 (lv_at hl 0 rfl) ?_
    refine lv_aload_n hx hb dX6_world_59 rfl (lv_at hl 2 rfl) ?_
    refine z_get hC hM hL_26 hF_27 zcl_X6 (by decide) zl_X6_33 rfl dX6_world_60 ?_
    refine z_fcalli (z_runV hC hM (c_bestFold hL_32 hF_33 hL_35 hF_36 hL_38 hF_39 (fun j => by have := fC_le (gk A i) k 1000 j; omega) (by omega) (fun x hx9 h9 => FP_fold hFP (by omega) x h9)) zy_X0_bestFold zm_X6_142 hL_32 hF_33 zcl_X0 rfl rfl rfl hl.1 (Nat.le_of_ble_eq_true rfl) ⟨by decide, by decide⟩ ⟨by decide, by decide⟩ dX6_world_63) hM (fun H locs hM => ?_)
    obtain ⟨d, hd9, hdl, hdc⟩ := bFo_some (g := gk A i) (p := k) (by omega) (by omega)
    rw [hd9, show oN (some d) = nI d from rfl]
    have hph : phN (gk A i) k = d := by rw [phN, bFo, bfS, hd9]
    have hkw0 : k_world A (nI i) (nI tt) = 0 := kw0 hs9 hy8 (fun z => z.elim (fun z => by omega) (fun z => hpd0 (by rw [hiv] at z; exact z)))
    refine z_new (fs := [.null, .int (nI 0)]) hC hM zcl_X1 zn_X6_118 (by decide) (by decide) (by decide) dX6_world_66 (fun q_66 H hq_66 hM => ?_)
    obtain ⟨f_49, ef_49⟩ : ∃ z9, z9 = va_up f_25 q_66 (eS 2 [.null, .int (nI 0)]) := ⟨_, rfl⟩
    rw [← ef_49] at hM
    have hN_52 : ((ad 1)) ≠ q_66 := fun h => hq_66 (h ▸ hL_26)
    have hL_50 : ((ad 1)) ∈ L ++ [q_51] ++ [q_66] := List.mem_append_left _ hL_26
    have hF_51 : f_49 ((ad 1)) = eS 7 [.ref ((ad 6)), .ref ((ad 8)), .ref ((ad 10)), .ref ((ad 5)), .int (nI (hN A 1000)), .ref ((ad 2))] := by rw [ef_49]; exact (va_up_ne _ _ hN_52).trans hF_27
    have hN_55 : ((ad 8)) ≠ q_66 := fun h => hq_66 (h ▸ hL_29)
    have hL_53 : ((ad 8)) ∈ L ++ [q_51] ++ [q_66] := List.mem_append_left _ hL_29
    have hF_54 : f_49 ((ad 8)) = eS 0 [.int mc8, .ref ((ad 9)), .int (nI (nw A))] := by rw [ef_49]; exact (va_up_ne _ _ hN_55).trans hF_30
    have hN_58 : ((ad 2)) ≠ q_66 := fun h => hq_66 (h ▸ hL_32)
    have hL_56 : ((ad 2)) ∈ L ++ [q_51] ++ [q_66] := List.mem_append_left _ hL_32
    have hF_57 : f_49 ((ad 2)) = eS 1 [.ref ((ad 3)), .ref ((ad 4)), .int (nI k), .double (mnT (gk A i))] := by rw [ef_49]; exact (va_up_ne _ _ hN_58).trans hF_33
    have hN_61 : ((ad 3)) ≠ q_66 := fun h => hq_66 (h ▸ hL_35)
    have hL_59 : ((ad 3)) ∈ L ++ [q_51] ++ [q_66] := List.mem_append_left _ hL_35
    have hF_60 : f_49 ((ad 3)) = eD K 120 (fS (gk A i) k 1000) := by rw [ef_49]; exact (va_up_ne _ _ hN_61).trans hF_36
    have hN_64 : ((ad 4)) ≠ q_66 := fun h => hq_66 (h ▸ hL_38)
    have hL_62 : ((ad 4)) ∈ L ++ [q_51] ++ [q_66] := List.mem_append_left _ hL_38
    have hF_63 : f_49 ((ad 4)) = eI K 120 (fun j => nI ((fC (gk A i) k 1000) j)) := by rw [ef_49]; exact (va_up_ne _ _ hN_64).trans hF_39
    have hN_67 : ((ad (103 + 10 * i))) ≠ q_66 := fun h => hq_66 (h ▸ hL_41)
    have hL_65 : ((ad (103 + 10 * i))) ∈ L ++ [q_51] ++ [q_66] := List.mem_append_left _ hL_41
    have hF_66 : f_49 ((ad (103 + 10 * i))) = eS 2 [.ref ((ad (104 + 10 * i))), .int (nI (A.1 14 i))] := by rw [ef_49]; exact (va_up_ne _ _ hN_67).trans hF_42
    have hN_70 : ((ad (104 + 10 * i))) ≠ q_66 := fun h => hq_66 (h ▸ hL_44)
    have hL_68 : ((ad (104 + 10 * i))) ∈ L ++ [q_51] ++ [q_66] := List.mem_append_left _ hL_44
    have hF_69 : f_49 ((ad (104 + 10 * i))) = eD K 1000 (gk A i) := by rw [ef_49]; exact (va_up_ne _ _ hN_70).trans hF_45
    have hN_73 : q_51 ≠ q_66 := fun h => hq_66 (h ▸ hL_47)
    have hL_71 : q_51 ∈ L ++ [q_51] ++ [q_66] := List.mem_append_left _ hL_47
    have hF_72 : f_49 q_51 = eS 6 [.int (nI 0), .int (nI 0), .int (nI 0), .int (nI 0), .null, .int (nI 0)] := by rw [ef_49]; exact (va_up_ne _ _ hN_73).trans hF_48
    have hL_74 : q_66 ∈ L ++ [q_51] ++ [q_66] := List.mem_append_right _ List.mem_cons_self
    have hF_75 : f_49 q_66 = eS 2 [.null, .int (nI 0)] := by rw [ef_49]; exact va_up_self _ _ _
    refine lv_dup hx hb dX6_world_69 rfl ?_
    refine lv_aload_n hx hb dX6_world_70 rfl (lv_at hl 1 rfl) ?_
    refine z_callv (z_runI hC hM (c_ncopy hL_74 hF_75 hL_65 hF_66 hL_68 hF_69 (Ne.symm hN_67) (ad_ne hinj (live_s hi (by omega)) (live_s hi (by omega)) (by omega)) (Ne.symm hN_70)) zy_X1_init_ zm_X6_168 rfl rfl hl.1 (Nat.le_of_ble_eq_true rfl) ⟨by decide, by decide⟩ ⟨by decide, by decide⟩ dX6_world_71) hM (fun L1 f1 H locs hp hM => ?_)
    obtain ⟨q_71, hq_71, rfl, rfl⟩ := hp
    obtain ⟨f_76, ef_76⟩ : ∃ z9, z9 = va_up f_49 q_71 (eD K 1000 (gk A i)) := ⟨_, rfl⟩
    rw [← ef_76] at hM
    have hN_79 : ((ad 1)) ≠ q_71 := fun h => hq_71 (h ▸ hL_50)
    have hL_77 : ((ad 1)) ∈ L ++ [q_51] ++ [q_66] ++ [q_71] := List.mem_append_left _ hL_50
    have hF_78 : f_76 ((ad 1)) = eS 7 [.ref ((ad 6)), .ref ((ad 8)), .ref ((ad 10)), .ref ((ad 5)), .int (nI (hN A 1000)), .ref ((ad 2))] := by rw [ef_76]; exact (va_up_ne _ _ hN_79).trans hF_51
    have hN_82 : ((ad 8)) ≠ q_71 := fun h => hq_71 (h ▸ hL_53)
    have hL_80 : ((ad 8)) ∈ L ++ [q_51] ++ [q_66] ++ [q_71] := List.mem_append_left _ hL_53
    have hF_81 : f_76 ((ad 8)) = eS 0 [.int mc8, .ref ((ad 9)), .int (nI (nw A))] := by rw [ef_76]; exact (va_up_ne _ _ hN_82).trans hF_54
    have hN_85 : ((ad 2)) ≠ q_71 := fun h => hq_71 (h ▸ hL_56)
    have hL_83 : ((ad 2)) ∈ L ++ [q_51] ++ [q_66] ++ [q_71] := List.mem_append_left _ hL_56
    have hF_84 : f_76 ((ad 2)) = eS 1 [.ref ((ad 3)), .ref ((ad 4)), .int (nI k), .double (mnT (gk A i))] := by rw [ef_76]; exact (va_up_ne _ _ hN_85).trans hF_57
    have hN_88 : ((ad 3)) ≠ q_71 := fun h => hq_71 (h ▸ hL_59)
    have hL_86 : ((ad 3)) ∈ L ++ [q_51] ++ [q_66] ++ [q_71] := List.mem_append_left _ hL_59
    have hF_87 : f_76 ((ad 3)) = eD K 120 (fS (gk A i) k 1000) := by rw [ef_76]; exact (va_up_ne _ _ hN_88).trans hF_60
    have hN_91 : ((ad 4)) ≠ q_71 := fun h => hq_71 (h ▸ hL_62)
    have hL_89 : ((ad 4)) ∈ L ++ [q_51] ++ [q_66] ++ [q_71] := List.mem_append_left _ hL_62
    have hF_90 : f_76 ((ad 4)) = eI K 120 (fun j => nI ((fC (gk A i) k 1000) j)) := by rw [ef_76]; exact (va_up_ne _ _ hN_91).trans hF_63
    have hN_94 : ((ad (103 + 10 * i))) ≠ q_71 := fun h => hq_71 (h ▸ hL_65)
    have hL_92 : ((ad (103 + 10 * i))) ∈ L ++ [q_51] ++ [q_66] ++ [q_71] := List.mem_append_left _ hL_65
    have hF_93 : f_76 ((ad (103 + 10 * i))) = eS 2 [.ref ((ad (104 + 10 * i))), .int (nI (A.1 14 i))] := by rw [ef_76]; exact (va_up_ne _ _ hN_94).trans hF_66
    have hN_97 : ((ad (104 + 10 * i))) ≠ q_71 := fun h => hq_71 (h ▸ hL_68)
    have hL_95 : ((ad (104 + 10 * i))) ∈ L ++ [q_51] ++ [q_66] ++ [q_71] := List.mem_append_left _ hL_68
    have hF_96 : f_76 ((ad (104 + 10 * i))) = eD K 1000 (gk A i) := by rw [ef_76]; exact (va_up_ne _ _ hN_97).trans hF_69
    have hN_100 : q_51 ≠ q_71 := fun h => hq_71 (h ▸ hL_71)
    have hL_98 : q_51 ∈ L ++ [q_51] ++ [q_66] ++ [q_71] := List.mem_append_left _ hL_71
    have hF_99 : f_76 q_51 = eS 6 [.int (nI 0), .int (nI 0), .int (nI 0), .int (nI 0), .null, .int (nI 0)] := by rw [ef_76]; exact (va_up_ne _ _ hN_100).trans hF_72
    have hN_103 : q_66 ≠ q_71 := fun h => hq_71 (h ▸ hL_74)
    have hL_101 : q_66 ∈ L ++ [q_51] ++ [q_66] ++ [q_71] := List.mem_append_left _ hL_74
    have hF_102 : f_76 q_66 = eS 2 [.null, .int (nI 0)] := by rw [ef_76]; exact (va_up_ne _ _ hN_103).trans hF_75
    have hL_104 : q_71 ∈ L ++ [q_51] ++ [q_66] ++ [q_71] := List.mem_append_right _ List.mem_cons_self
    have hF_105 : f_76 q_71 = eD K 1000 (gk A i) := by rw [ef_76]; exact va_up_self _ _ _
    obtain ⟨f_106, ef_106⟩ : ∃ z9, z9 = va_up f_76 q_66 (eS 2 [.ref q_71, .int (nI (A.1 14 i))]) := ⟨_, rfl⟩
    rw [← ef_106] at hM
    have hF_107 : f_106 ((ad 1)) = eS 7 [.ref ((ad 6)), .ref ((ad 8)), .ref ((ad 10)), .ref ((ad 5)), .int (nI (hN A 1000)), .ref ((ad 2))] := by rw [ef_106]; exact (va_up_ne _ _ hN_52).trans hF_78
    have hF_108 : f_106 ((ad 8)) = eS 0 [.int mc8, .ref ((ad 9)), .int (nI (nw A))] := by rw [ef_106]; exact (va_up_ne _ _ hN_55).trans hF_81
    have hF_109 : f_106 ((ad 2)) = eS 1 [.ref ((ad 3)), .ref ((ad 4)), .int (nI k), .double (mnT (gk A i))] := by rw [ef_106]; exact (va_up_ne _ _ hN_58).trans hF_84
    have hF_110 : f_106 ((ad 3)) = eD K 120 (fS (gk A i) k 1000) := by rw [ef_106]; exact (va_up_ne _ _ hN_61).trans hF_87
    have hF_111 : f_106 ((ad 4)) = eI K 120 (fun j => nI ((fC (gk A i) k 1000) j)) := by rw [ef_106]; exact (va_up_ne _ _ hN_64).trans hF_90
    have hF_112 : f_106 ((ad (103 + 10 * i))) = eS 2 [.ref ((ad (104 + 10 * i))), .int (nI (A.1 14 i))] := by rw [ef_106]; exact (va_up_ne _ _ hN_67).trans hF_93
    have hF_113 : f_106 ((ad (104 + 10 * i))) = eD K 1000 (gk A i) := by rw [ef_106]; exact (va_up_ne _ _ hN_70).trans hF_96
    have hF_114 : f_106 q_51 = eS 6 [.int (nI 0), .int (nI 0), .int (nI 0), .int (nI 0), .null, .int (nI 0)] := by rw [ef_106]; exact (va_up_ne _ _ hN_73).trans hF_99
    have hF_115 : f_106 q_66 = eS 2 [.ref q_71, .int (nI (A.1 14 i))] := by rw [ef_106]; exact va_up_self _ _ _
    have hF_116 : f_106 q_71 = eD K 1000 (gk A i) := by rw [ef_106]; exact (va_up_ne _ _ (Ne.symm hN_103)).trans hF_105
    refine z_fcallv (z_runI hC hM (c_winit hL_98 hF_114) zy_X5_init zm_X6_171 rfl rfl hl.1 (Nat.le_of_ble_eq_true rfl) ⟨by decide, by decide⟩ ⟨by decide, by decide⟩ dX6_world_74) hM (fun H locs hM => ?_)
    obtain ⟨f_117, ef_117⟩ : ∃ z9, z9 = va_up f_106 q_51 (eS 6 [.int (nI i), .int (nI tt), .int (nI k), .int (nI d), .ref q_66, .int (nI 0)]) := ⟨_, rfl⟩
    rw [← ef_117] at hM
    have hF_118 : f_117 ((ad 1)) = eS 7 [.ref ((ad 6)), .ref ((ad 8)), .ref ((ad 10)), .ref ((ad 5)), .int (nI (hN A 1000)), .ref ((ad 2))] := by rw [ef_117]; exact (va_up_ne _ _ hN_28).trans hF_107
    have hF_119 : f_117 ((ad 8)) = eS 0 [.int mc8, .ref ((ad 9)), .int (nI (nw A))] := by rw [ef_117]; exact (va_up_ne _ _ hN_31).trans hF_108
    have hF_120 : f_117 ((ad 2)) = eS 1 [.ref ((ad 3)), .ref ((ad 4)), .int (nI k), .double (mnT (gk A i))] := by rw [ef_117]; exact (va_up_ne _ _ hN_34).trans hF_109
    have hF_121 : f_117 ((ad 3)) = eD K 120 (fS (gk A i) k 1000) := by rw [ef_117]; exact (va_up_ne _ _ hN_37).trans hF_110
    have hF_122 : f_117 ((ad 4)) = eI K 120 (fun j => nI ((fC (gk A i) k 1000) j)) := by rw [ef_117]; exact (va_up_ne _ _ hN_40).trans hF_111
    have hF_123 : f_117 ((ad (103 + 10 * i))) = eS 2 [.ref ((ad (104 + 10 * i))), .int (nI (A.1 14 i))] := by rw [ef_117]; exact (va_up_ne _ _ hN_43).trans hF_112
    have hF_124 : f_117 ((ad (104 + 10 * i))) = eD K 1000 (gk A i) := by rw [ef_117]; exact (va_up_ne _ _ hN_46).trans hF_113
    have hF_125 : f_117 q_51 = eS 6 [.int (nI i), .int (nI tt), .int (nI k), .int (nI d), .ref q_66, .int (nI 0)] := by rw [ef_117]; exact va_up_self _ _ _
    have hF_126 : f_117 q_66 = eS 2 [.ref q_71, .int (nI (A.1 14 i))] := by rw [ef_117]; exact (va_up_ne _ _ (Ne.symm hN_73)).trans hF_115
    have hF_127 : f_117 q_71 = eD K 1000 (gk A i) := by rw [ef_117]; exact (va_up_ne _ _ (Ne.symm hN_100)).trans hF_116
    have hsub : ∀ x, x ∈ L → x ∈ L ++ [q_51] ++ [q_66] ++ [q_71] := fun x hx => app_l _ (app_l _ (app_l _ hx))
    have hfrL : ∀ x, x ∈ L → f_117 x = f_17 x := fun x hx => by have n1 : x ≠ q_51 := ne_of hx hq_51; have n2 : x ≠ q_66 := ne_of (app_l _ hx) hq_66; have n3 : x ≠ q_71 := ne_of (app_l _ (app_l _ hx)) hq_71; rw [ef_117, ef_106, ef_76, ef_49, ef_25]; simp only [va_up, n1, n2, n3, if_false]
    have hli2 : LI K (L ++ [q_51] ++ [q_66] ++ [q_71]) f_117 (ad 8) (ad 9) (nw A) (fun w => ad (300 + 10 * w)) := hl82.mv hsub rfl rfl (hfrL _ hm8) (fun z => ⟨hfrL _ (hmem _ (live_9 z)), rfl⟩) (fun _ => rfl) (fun _ _ => rfl)
    have hel9 := any_w hI2 hsub hfrL
    have hz9 := z_zero hC hM
    obtain ⟨hq66b, hq66c⟩ := no_app hq_66
    obtain ⟨hq71b, hq71c⟩ := no_app hq_71
    obtain ⟨hq71d, hq71e⟩ := no_app hq71b
    refine z_calli (z_runV hC hM (c_addI (es := fun w => ad (300 + 10 * w)) hli2 hz9 (hli2.ne hz9 (fun z9 => ad_ne hinj (live_c (by omega)) (live_9 z9) (by omega))) (by omega) ⟨hL_98, 6, _, RX5, TX5, 6, tyX5, hF_125, by decide, zcl_X5, zca_X5⟩ hel9) zy_Jx4a65c_add_9ea2d zm_X6_58 hL_80 hF_119 zcl_Jx4a65c rfl rfl rfl hl.1 (Nat.le_of_ble_eq_true rfl) ⟨by decide, by decide⟩ ⟨by decide, by decide⟩ dX6_world_77) hM (fun r L3 f3 H locs hp hM => ?_)
    obtain ⟨rfl, hadd⟩ := hp
    have hCR := (hI2.addWorld (i := i) (t := tt) (p := k) (ph := d) (by omega) hi (by omega) (by omega) (by omega) (by omega) hpd hz9 hq_51 hq66b hq71d (Ne.symm hq66c) (Ne.symm hq71e) (Ne.symm hq71c) hsub hL_98 hL_101 hL_104 hF_125 hF_126 hF_127 hfrL hadd).pre (fun q hq => (hfr2 q (Ne.symm (hq 2 (live_c (by omega)))) (Ne.symm (hq 3 (live_c (by omega)))) (Ne.symm (hq 4 (live_c (by omega))))).trans (hfr q (Ne.symm (hq 2 (live_c (by omega)))) (Ne.symm (hq 3 (live_c (by omega)))) (Ne.symm (hq 4 (live_c (by omega))))))
    obtain ⟨hfs, hms⟩ := hadd.fr (x := ad 1) (hsub _ hLo) (ad_ne hinj (live_c (by omega)) (live_c (by omega)) (by omega)) (hli2.nx hz9 (hsub _ hLo) (fun z9 => ad_ne hinj (live_c (by omega)) (live_9 z9) (by omega)))
    have hfs9 := hfs.trans hF_118
    obtain ⟨e9, hli9⟩ := hadd.li hli2
    obtain ⟨hm99, ⟨mc99, hf99⟩, -⟩ := hli9
    refine lv_pop hx hb dX6_world_80 rfl ?_
    refine lv_aload_n hx hb dX6_world_81 rfl (lv_at hl 2 rfl) ?_
    refine z_get hC hM hms hfs9 zcl_X6 (by decide) zl_X6_16 rfl dX6_world_82 ?_
    refine z_fcalli (z_runV hC hM (c_size hm99 hf99) zy_Jx4a65c_size_8abf5 zm_X6_42 hm99 hf99 zcl_Jx4a65c rfl rfl rfl hl.1 (Nat.le_of_ble_eq_true rfl) ⟨by decide, by decide⟩ ⟨by decide, by decide⟩ dX6_world_85) hM (fun H locs hM => ?_)
    refine lv_iconst (v := nI 1) hx hb dX6_world_88 (by decide) ?_
    refine z_isub hx hb (by omega) dX6_world_89 ?_
    rw [← hQ]
    refine vx_ret ?_
    exact z_iret hC hM hr hlk rfl (by decide) (by decide) ⟨hkw0, rfl, by rw [a_world, if_pos hkw0, hiv, hpd, hph]; exact hCR⟩ dX6_world_90
  · rw [← hQ]
    exact z_throw (is := 164) (text := "there are as many worlds as there can be") hC hM hst hlk hxt hl.1 zth_IS (by decide) dX6_world_27 dX6_world_30 dX6_world_31 dX6_world_33 dX6_world_36 (by decide) (by decide) (by decide) ⟨xk (kw3 hs9 hy8 (Or.inl (by omega))) rfl, by rw [a_world, if_neg (by rw [kw3 hs9 hy8 (Or.inl (by omega))]; decide)]; exact CR.scr hI hcf hfr⟩
theorem kpa0 {A : zA} {w c : Int32} (h1 : isW A w ∧ (c = -1 ∨ isP A c)) (h2 : ¬ (A.1 23 (iv w) = 1 ∨ (c ≠ -1 ∧ fell A (iv c) = true) ∨ np A = 30)) : k_paper A w c = 0 := by
  unfold k_paper; exact (if_neg (fun z => z h1)).trans (if_neg h2)
theorem kpa1 {A : zA} {w c : Int32} (h1 : ¬ (isW A w ∧ (c = -1 ∨ isP A c))) : k_paper A w c = 0 + 1 := if_pos h1
theorem kpa2 {A : zA} {w c : Int32} (h1 : isW A w ∧ (c = -1 ∨ isP A c)) (h2 : A.1 23 (iv w) = 1 ∨ (c ≠ -1 ∧ fell A (iv c) = true) ∨ np A = 30) : k_paper A w c = 1 + 1 := by
  unfold k_paper; exact (if_neg (fun z => z h1)).trans (if_pos h2)
set_option maxHeartbeats 400000 in
set_option maxRecDepth 100000 in
theorem p_paper {l : Launch} {base : Nat} {K : zK} {L : List Nat} {f : Nat → va_E} (hst : l.stackTraces = false) {A : zA} {ad : Nat → Nat} (hI : CI K L f A ad) (x y1 : Int32) : zXMet l yX6_paper cX6_paper 6 (some .int) (zr 8 12 200 200) base K L f [.ref ((ad 1)), .int x, .int y1] (zQi base K (fun r L1 f1 => k_paper A x y1 = 0 ∧ r = nI (np A) ∧ CR K A ad L f (a_paper A x y1) L1 f1)) (fun E L1 f1 => xE [xIO, xIS] (k_paper A x y1) E ∧ CR K A ad L f (a_paper A x y1) L1 f1) := by
  have hI9 := hI
  obtain ⟨hV, hmem, hinj, hCX, hCF, hh5, hl6, hl8, hl10, hSt, hWo, hPa⟩ := hI9
  have hV9 := hV
  obtain ⟨hv1, hv2, hv3, hvS, -, -, -, -, hv11, hvW, hv23, -, hvP⟩ := hV9
  have hLo := hmem 1 (live_c (by omega))
  have hfo : f (ad 1) = eS 7 [.ref ((ad 6)), .ref ((ad 8)), .ref ((ad 10)), .ref ((ad 5)), .int (nI (hN A 1000)), .ref ((ad 2))] := hCX
  have hth : ∀ n E, k_paper A x y1 = n + 1 → [xIO, xIS][n]? = some E → (xE [xIO, xIS] (k_paper A x y1) E ∧ CR K A ad L f (a_paper A x y1) L f) := fun n E h1 h2 => ⟨⟨by omega, by rw [h1]; exact h2⟩, by rw [a_paper, if_neg (by omega)]; exact CR.id hI⟩
  refine z_xmet (by decide) (Nat.le_of_ble_eq_true rfl) (fun p e s m below meth c ls hC hM hr hlk hxt hl => ?_)
  have hx := hC.1
  have hb := hC.2.1
  have hml := hC.2.2.1
  have hown := hC.2.2.2.1
  have hts := hC.2.2.2.2.1
  generalize hA : ([.ref ((ad 1)), .int x, .int y1] : List Value).toArray = args at hC ⊢
  generalize hQ : vx_MQ _ _ _ _ _ _ _ _ = Q
  obtain ⟨locs, hlocs⟩ : ∃ z : List Loc, z = [] := ⟨_, rfl⟩
  obtain ⟨H, hH⟩ : ∃ z : Heap, z = s.heap := ⟨_, rfl⟩
  rw [← hlocs, ← hH] at hM ⊢
  have hl : lv_has ls 6 [(0, .ref ((ad 1))), (1, .int x), (2, .int y1)] := hl
  refine lv_aload_n hx hb dX6_paper_0 rfl (lv_at hl 0 rfl) ?_
  refine lv_iload_n hx hb dX6_paper_1 rfl (lv_at hl 1 rfl) ?_
  refine z_xpcallq hQ (z_xrunV hC hM (c_worldAt hst hLo hfo hl8 (by omega) (fs := fun w => fsOf (f (ad (300 + 10 * w)))) (fun w hw => ⟨hmem _ (live_w hw (by omega)), by obtain ⟨t9, g9, h9, -⟩ := hWo w hw; show f (ad (300 + 10 * w)) = eS 6 (fsOf (f (ad (300 + 10 * w)))); rw [h9]; rfl⟩) x) zy_X6_worldAt zm_X6_174 hLo hfo zcl_X6 rfl rfl rfl hl.1 (Nat.le_of_ble_eq_true rfl) ⟨by decide, by decide⟩ ⟨by decide, by decide⟩ dX6_paper_2) hM hxt hlk (by decide) (by decide) (fun E hE => by obtain ⟨rfl, h9⟩ := hE; exact hth 0 _ (kpa1 (fun z => h9 z.1)) rfl) (fun r_2 hp_2 H locs hM => ?_)
  obtain ⟨w, hw, hx9, rfl⟩ := hp_2
  subst hx9
  have hs9 : isW A (nI w) := iR_nI (by omega) (by omega) (by omega)
  have hiv := iv_nI (i := w) (by omega)
  obtain ⟨th, gw, hW1, hW2, hW3, hW4, hW5, hW6⟩ := hWo w hw
  obtain ⟨u1, u2, u3, u4⟩ := hvW w hw
  have u5 := hv23 w
  refine lv_astore_n (lv' := [(3, .ref ((ad (300 + 10 * w)))), (0, .ref ((ad 1))), (1, .int (nI w)), (2, .int y1)]) hx hb dX6_paper_5 rfl hl (by decide) rfl (fun ls hl => ?_)
  refine lv_iload_n hx hb dX6_paper_6 rfl (lv_at hl 3 rfl) ?_
  refine lv_iconst (v := (-1)) hx hb dX6_paper_7 (by decide) ?_
  refine z_icmp_ne (tgt := 15) hx hb rfl m1_toInt dX6_paper_8 (by decide) (fun c_8 => ?_) (fun c_8 => ?_)
  · refine lv_aload_n hx hb dX6_paper_15 rfl (lv_at hl 1 rfl) ?_
    refine lv_iload_n hx hb dX6_paper_16 rfl (lv_at hl 3 rfl) ?_
    refine z_xpcallq hQ (z_xrunV hC hM (c_paperAt hst hLo hfo hl10 (by omega) (fs := fun j => fsOf (f (ad (500 + j)))) (fun j hj => ⟨hmem _ (live_q hj), by have h9 := hPa j hj; unfold CP at h9; show f (ad (500 + j)) = eS 3 (fsOf (f (ad (500 + j)))); rw [h9]; rfl⟩) y1) zy_X6_paperAt zm_X6_195 hLo hfo zcl_X6 rfl rfl rfl hl.1 (Nat.le_of_ble_eq_true rfl) ⟨by decide, by decide⟩ ⟨by decide, by decide⟩ dX6_paper_17) hM hxt hlk (by decide) (by decide) (fun E hE => by obtain ⟨rfl, h9⟩ := hE; exact hth 0 _ (kpa1 (fun z => z.2.elim (fun y => c_8 (by rw [y]; exact m1_toInt)) h9)) rfl) (fun r_17 hp_17 H locs hM => ?_)
    obtain ⟨j, hj, hx9, rfl⟩ := hp_17
    subst hx9
    have hkk : isW A (nI w) ∧ (nI j = -1 ∨ isP A (nI j)) := ⟨hs9, Or.inr (iR_nI (by omega) (by omega) (by omega))⟩
    have hivj := iv_nI (i := j) (by omega)
    have hnj : nI j ≠ -1 := fun z => c_8 (by rw [z]; exact m1_toInt)
    have hP1 := hPa j hj
    unfold CP at hP1
    refine lv_astore (lv' := [(4, .ref ((ad (500 + j)))), (3, .ref ((ad (300 + 10 * w)))), (0, .ref ((ad 1))), (1, .int (nI w)), (2, .int (nI j))]) hx hb dX6_paper_20 hl (by decide) rfl (fun ls hl => ?_)
    refine z_new (fs := [.null, .null, .int (nI 0)]) hC hM zcl_X2 zn_X6_199 (by decide) (by decide) (by decide) dX6_paper_22 (fun q_22 H hq_22 hM => ?_)
    obtain ⟨f_1, ef_1⟩ : ∃ z9, z9 = va_up f q_22 (eS 3 [.null, .null, .int (nI 0)]) := ⟨_, rfl⟩
    rw [← ef_1] at hM
    have hN_4 : ((ad 1)) ≠ q_22 := fun h => hq_22 (h ▸ hLo)
    have hL_2 : ((ad 1)) ∈ L ++ [q_22] := List.mem_append_left _ hLo
    have hF_3 : f_1 ((ad 1)) = eS 7 [.ref ((ad 6)), .ref ((ad 8)), .ref ((ad 10)), .ref ((ad 5)), .int (nI (hN A 1000)), .ref ((ad 2))] := by rw [ef_1]; exact (va_up_ne _ _ hN_4).trans hfo
    have hN_7 : ((ad (300 + 10 * w))) ≠ q_22 := fun h => hq_22 (h ▸ (hmem _ (live_w hw (by omega))))
    have hL_5 : ((ad (300 + 10 * w))) ∈ L ++ [q_22] := List.mem_append_left _ (hmem _ (live_w hw (by omega)))
    have hF_6 : f_1 ((ad (300 + 10 * w))) = eS 6 [.int (nI (A.1 20 w)), .int (nI th), .int (nI (A.1 21 w)), .int (nI (A.1 22 w)), .ref ((ad (301 + 10 * w))), .int (nI (A.1 23 w))] := by rw [ef_1]; exact (va_up_ne _ _ hN_7).trans hW1
    have hN_10 : ((ad (500 + j))) ≠ q_22 := fun h => hq_22 (h ▸ (hmem _ (live_q hj)))
    have hL_8 : ((ad (500 + j))) ∈ L ++ [q_22] := List.mem_append_left _ (hmem _ (live_q hj))
    have hF_9 : f_1 ((ad (500 + j))) = eS 3 [.ref ((ad (300 + 10 * A.1 25 j))), va_rf ((if A.1 26 j = 0 then none else some (ad (500 + (A.1 26 j - 1))))), .int (nI (b2 (fell A j)))] := by rw [ef_1]; exact (va_up_ne _ _ hN_10).trans hP1
    have hL_11 : q_22 ∈ L ++ [q_22] := List.mem_append_right _ List.mem_cons_self
    have hF_12 : f_1 q_22 = eS 3 [.null, .null, .int (nI 0)] := by rw [ef_1]; exact va_up_self _ _ _
    refine lv_dup hx hb dX6_paper_25 rfl ?_
    refine lv_aload_n hx hb dX6_paper_26 rfl (lv_at hl 1 rfl) ?_
    refine lv_aload hx hb dX6_paper_27 (lv_at hl 0 rfl) ?_
    refine z_fcallv (z_runI hC hM (c_ppinit1 hL_11 hF_12) zy_X2_init zm_X6_201 rfl rfl hl.1 (Nat.le_of_ble_eq_true rfl) ⟨by decide, by decide⟩ ⟨by decide, by decide⟩ dX6_paper_29) hM (fun H locs hM => ?_)
    obtain ⟨f_13, ef_13⟩ : ∃ z9, z9 = va_up f_1 q_22 (eS 3 [.ref ((ad (300 + 10 * w))), .ref ((ad (500 + j))), .int (nI 0)]) := ⟨_, rfl⟩
    rw [← ef_13] at hM
    have hF_14 : f_13 ((ad 1)) = eS 7 [.ref ((ad 6)), .ref ((ad 8)), .ref ((ad 10)), .ref ((ad 5)), .int (nI (hN A 1000)), .ref ((ad 2))] := by rw [ef_13]; exact (va_up_ne _ _ hN_4).trans hF_3
    have hF_15 : f_13 ((ad (300 + 10 * w))) = eS 6 [.int (nI (A.1 20 w)), .int (nI th), .int (nI (A.1 21 w)), .int (nI (A.1 22 w)), .ref ((ad (301 + 10 * w))), .int (nI (A.1 23 w))] := by rw [ef_13]; exact (va_up_ne _ _ hN_7).trans hF_6
    have hF_16 : f_13 ((ad (500 + j))) = eS 3 [.ref ((ad (300 + 10 * A.1 25 j))), va_rf ((if A.1 26 j = 0 then none else some (ad (500 + (A.1 26 j - 1))))), .int (nI (b2 (fell A j)))] := by rw [ef_13]; exact (va_up_ne _ _ hN_10).trans hF_9
    have hF_17 : f_13 q_22 = eS 3 [.ref ((ad (300 + 10 * w))), .ref ((ad (500 + j))), .int (nI 0)] := by rw [ef_13]; exact va_up_self _ _ _
    have hfrL : ∀ x, x ∈ L → f_13 x = f x := fun x hx => by have n1 : x ≠ q_22 := ne_of hx hq_22; rw [ef_13, ef_1]; simp only [va_up, n1, if_false]
    have hli2 : LI K (L ++ [q_22]) f_13 (ad 10) (ad 11) (np A) (fun j => ad (500 + j)) := hl10.mv app_l rfl rfl (hfrL _ (hmem 10 (live_c (by omega)))) (fun z => ⟨hfrL _ (hmem _ (live_11 z)), rfl⟩) (fun _ => rfl) (fun _ _ => rfl)
    have hel9 := any_q hI (app_l (q := q_22)) hfrL
    have hz9 := z_zero hC hM
    obtain ⟨hm9, ⟨mc9, hf9⟩, -⟩ := id hli2
    refine lv_astore (lv' := [(5, .ref q_22), (4, .ref ((ad (500 + j)))), (3, .ref ((ad (300 + 10 * w)))), (0, .ref ((ad 1))), (1, .int (nI w)), (2, .int (nI j))]) hx hb dX6_paper_32 hl (by decide) rfl (fun ls hl => ?_)
    refine lv_aload hx hb dX6_paper_34 (lv_at hl 0 rfl) ?_
    refine z_fcalli (z_runV hC hM (c_must1 hL_11 hF_17 (by omega) (b2_lt _) hL_8 hF_16 hL_5 hF_15) zy_X2_mustFall zm_X6_204 hL_11 hF_17 zcl_X2 rfl rfl rfl hl.1 (Nat.le_of_ble_eq_true rfl) ⟨by decide, by decide⟩ ⟨by decide, by decide⟩ dX6_paper_36) hM (fun H locs hM => ?_)
    refine z_if_eqB (tgt := 52) hx hb dX6_paper_39 (by decide) (fun c_39 => ?_) (fun c_39 => ?_)
    · refine lv_aload_n hx hb dX6_paper_52 rfl (lv_at hl 3 rfl) ?_
      refine z_get hC hM hL_2 hF_14 zcl_X6 (by decide) zl_X6_19 rfl dX6_paper_53 ?_
      refine z_fcalli (z_runV hC hM (c_size hm9 hf9) zy_Jx4a65c_size_8abf5 zm_X6_42 hm9 hf9 zcl_Jx4a65c rfl rfl rfl hl.1 (Nat.le_of_ble_eq_true rfl) ⟨by decide, by decide⟩ ⟨by decide, by decide⟩ dX6_paper_56) hM (fun H locs hM => ?_)
      refine lv_bipush (v := nI 30) hx hb dX6_paper_59 (by decide) ?_
      refine z_icmp_lt (tgt := 74) hx hb (nI_toInt (by omega)) (nI_toInt (by decide)) dX6_paper_61 (by decide) (fun c_61 => ?_) (fun c_61 => ?_)
      · refine lv_aload_n hx hb dX6_paper_74 rfl (lv_at hl 3 rfl) ?_
        refine z_get hC hM hL_2 hF_14 zcl_X6 (by decide) zl_X6_19 rfl dX6_paper_75 ?_
        refine lv_aload hx hb dX6_paper_78 (lv_at hl 0 rfl) ?_
        refine z_calli (z_runV hC hM (c_addI (es := fun j => ad (500 + j)) hli2 hz9 (hli2.ne hz9 (fun z9 => ad_ne hinj (live_c (by omega)) (live_11 z9) (by omega))) (by omega) ⟨hL_11, 3, _, RX2, TX2, 3, tyX2, hF_17, by decide, zcl_X2, zca_X2⟩ hel9) zy_Jx4a65c_add_9ea2d zm_X6_58 hm9 hf9 zcl_Jx4a65c rfl rfl rfl hl.1 (Nat.le_of_ble_eq_true rfl) ⟨by decide, by decide⟩ ⟨by decide, by decide⟩ dX6_paper_80) hM (fun r L3 f3 H locs hp hM => ?_)
        obtain ⟨rfl, hadd⟩ := hp
        have hwd0 : A.1 23 w ≠ 1 := fun z => c_39 (Or.inl (by omega))
        have hfl0 : j + 1 ≠ 0 → fell A (j + 1 - 1) = false := fun _ => Bool.eq_false_iff.mpr (fun z => c_39 (Or.inr (b2_n.mpr z)))
        have hk0 := kpa0 hkk (by rw [hiv, hivj]; exact fun z => z.elim hwd0 (fun z => z.elim (fun z => c_39 (Or.inr (b2_n.mpr z.2))) (fun z => by omega)))
        have hCR := hI.addPaper (w := w) (c1 := j + 1) (by omega) hw (by omega) hwd0 hfl0 hz9 hq_22 app_l app_r (by rw [if_neg (Nat.succ_ne_zero j)]; exact hF_17) hfrL hadd
        obtain ⟨hfs, hms⟩ := hadd.fr (x := ad 1) (app_l _ hLo) (ad_ne hinj (live_c (by omega)) (live_c (by omega)) (by omega)) (hli2.nx hz9 (app_l _ hLo) (fun z9 => ad_ne hinj (live_c (by omega)) (live_11 z9) (by omega)))
        have hfs9 := hfs.trans hF_14
        obtain ⟨e9, hli9⟩ := hadd.li hli2
        obtain ⟨hm99, ⟨mc99, hf99⟩, -⟩ := hli9
        refine lv_pop hx hb dX6_paper_83 rfl ?_
        refine lv_aload_n hx hb dX6_paper_84 rfl (lv_at hl 3 rfl) ?_
        refine z_get hC hM hms hfs9 zcl_X6 (by decide) zl_X6_19 rfl dX6_paper_85 ?_
        refine z_fcalli (z_runV hC hM (c_size hm99 hf99) zy_Jx4a65c_size_8abf5 zm_X6_42 hm99 hf99 zcl_Jx4a65c rfl rfl rfl hl.1 (Nat.le_of_ble_eq_true rfl) ⟨by decide, by decide⟩ ⟨by decide, by decide⟩ dX6_paper_88) hM (fun H locs hM => ?_)
        refine lv_iconst (v := nI 1) hx hb dX6_paper_91 (by decide) ?_
        refine z_isub hx hb (by omega) dX6_paper_92 ?_
        rw [← hQ]
        refine vx_ret ?_
        exact z_iret hC hM hr hlk rfl (by decide) (by decide) ⟨hk0, rfl, by rw [a_paper, if_pos hk0, hiv, if_neg hnj, hivj]; exact hCR⟩ dX6_paper_93
      · rw [← hQ]
        exact z_throw (is := 210) (text := "there are as many papers as there can be") hC hM hst hlk hxt hl.1 zth_IS (by decide) dX6_paper_64 dX6_paper_67 dX6_paper_68 dX6_paper_70 dX6_paper_73 (by decide) (by decide) (by decide) (by have hk2 := kpa2 hkk (Or.inr (Or.inr (by omega))); exact ⟨xk hk2 rfl, by rw [a_paper, if_neg (by rw [hk2]; decide)]; exact hI.junk app_l hfrL⟩)
    · rw [← hQ]
      exact z_throw (is := 208) (text := "a paper cannot cite what was withdrawn or has fallen") hC hM hst hlk hxt hl.1 zth_IS (by decide) dX6_paper_42 dX6_paper_45 dX6_paper_46 dX6_paper_48 dX6_paper_51 (by decide) (by decide) (by decide) (by have hk2 := kpa2 hkk (by rw [hiv, hivj]; exact c_39.elim (fun z => Or.inl (by omega)) (fun z => Or.inr (Or.inl ⟨hnj, b2_n.mp z⟩))); exact ⟨xk hk2 rfl, by rw [a_paper, if_neg (by rw [hk2]; decide)]; exact hI.junk app_l hfrL⟩)
  · skip
    have hy1 : y1 = -1 := i32_eq.mpr (c_8.trans m1_toInt.symm)
    subst hy1
    have hkk : isW A (nI w) ∧ ((-1 : Int32) = -1 ∨ isP A (-1)) := ⟨hs9, Or.inl rfl⟩
    refine lv_null hx hb dX6_paper_11 ?_
    refine lv_goto (tgt := 20) hx hb dX6_paper_12 (by decide) ?_
    refine lv_astoreN (lv' := [(4, .null), (3, .ref ((ad (300 + 10 * w)))), (0, .ref ((ad 1))), (1, .int (nI w)), (2, .int ((-1)))]) hx hb dX6_paper_20 hl (by decide) rfl (fun ls hl => ?_)
    refine z_new (fs := [.null, .null, .int (nI 0)]) hC hM zcl_X2 zn_X6_199 (by decide) (by decide) (by decide) dX6_paper_22 (fun q_22 H hq_22 hM => ?_)
    obtain ⟨f_18, ef_18⟩ : ∃ z9, z9 = va_up f q_22 (eS 3 [.null, .null, .int (nI 0)]) := ⟨_, rfl⟩
    rw [← ef_18] at hM
    have hN_21 : ((ad 1)) ≠ q_22 := fun h => hq_22 (h ▸ hLo)
    have hL_19 : ((ad 1)) ∈ L ++ [q_22] := List.mem_append_left _ hLo
    have hF_20 : f_18 ((ad 1)) = eS 7 [.ref ((ad 6)), .ref ((ad 8)), .ref ((ad 10)), .ref ((ad 5)), .int (nI (hN A 1000)), .ref ((ad 2))] := by rw [ef_18]; exact (va_up_ne _ _ hN_21).trans hfo
    have hN_24 : ((ad (300 + 10 * w))) ≠ q_22 := fun h => hq_22 (h ▸ (hmem _ (live_w hw (by omega))))
    have hL_22 : ((ad (300 + 10 * w))) ∈ L ++ [q_22] := List.mem_append_left _ (hmem _ (live_w hw (by omega)))
    have hF_23 : f_18 ((ad (300 + 10 * w))) = eS 6 [.int (nI (A.1 20 w)), .int (nI th), .int (nI (A.1 21 w)), .int (nI (A.1 22 w)), .ref ((ad (301 + 10 * w))), .int (nI (A.1 23 w))] := by rw [ef_18]; exact (va_up_ne _ _ hN_24).trans hW1
    have hL_25 : q_22 ∈ L ++ [q_22] := List.mem_append_right _ List.mem_cons_self
    have hF_26 : f_18 q_22 = eS 3 [.null, .null, .int (nI 0)] := by rw [ef_18]; exact va_up_self _ _ _
    refine lv_dup hx hb dX6_paper_25 rfl ?_
    refine lv_aload_n hx hb dX6_paper_26 rfl (lv_at hl 1 rfl) ?_
    refine lv_aloadN hx hb dX6_paper_27 (lv_at hl 0 rfl) ?_
    refine z_fcallv (z_runI hC hM (c_ppinit0 hL_25 hF_26) zy_X2_init zm_X6_201 rfl rfl hl.1 (Nat.le_of_ble_eq_true rfl) ⟨by decide, by decide⟩ ⟨by decide, by decide⟩ dX6_paper_29) hM (fun H locs hM => ?_)
    obtain ⟨f_27, ef_27⟩ : ∃ z9, z9 = va_up f_18 q_22 (eS 3 [.ref ((ad (300 + 10 * w))), .null, .int (nI 0)]) := ⟨_, rfl⟩
    rw [← ef_27] at hM
    have hF_28 : f_27 ((ad 1)) = eS 7 [.ref ((ad 6)), .ref ((ad 8)), .ref ((ad 10)), .ref ((ad 5)), .int (nI (hN A 1000)), .ref ((ad 2))] := by rw [ef_27]; exact (va_up_ne _ _ hN_21).trans hF_20
    have hF_29 : f_27 ((ad (300 + 10 * w))) = eS 6 [.int (nI (A.1 20 w)), .int (nI th), .int (nI (A.1 21 w)), .int (nI (A.1 22 w)), .ref ((ad (301 + 10 * w))), .int (nI (A.1 23 w))] := by rw [ef_27]; exact (va_up_ne _ _ hN_24).trans hF_23
    have hF_30 : f_27 q_22 = eS 3 [.ref ((ad (300 + 10 * w))), .null, .int (nI 0)] := by rw [ef_27]; exact va_up_self _ _ _
    have hfrL : ∀ x, x ∈ L → f_27 x = f x := fun x hx => by have n1 : x ≠ q_22 := ne_of hx hq_22; rw [ef_27, ef_18]; simp only [va_up, n1, if_false]
    have hli2 : LI K (L ++ [q_22]) f_27 (ad 10) (ad 11) (np A) (fun j => ad (500 + j)) := hl10.mv app_l rfl rfl (hfrL _ (hmem 10 (live_c (by omega)))) (fun z => ⟨hfrL _ (hmem _ (live_11 z)), rfl⟩) (fun _ => rfl) (fun _ _ => rfl)
    have hel9 := any_q hI (app_l (q := q_22)) hfrL
    have hz9 := z_zero hC hM
    obtain ⟨hm9, ⟨mc9, hf9⟩, -⟩ := id hli2
    refine lv_astore (lv' := [(5, .ref q_22), (4, .null), (3, .ref ((ad (300 + 10 * w)))), (0, .ref ((ad 1))), (1, .int (nI w)), (2, .int ((-1)))]) hx hb dX6_paper_32 hl (by decide) rfl (fun ls hl => ?_)
    refine lv_aload hx hb dX6_paper_34 (lv_at hl 0 rfl) ?_
    refine z_fcalli (z_runV hC hM (c_must0 hL_25 hF_30 (by omega) hL_22 hF_29) zy_X2_mustFall zm_X6_204 hL_25 hF_30 zcl_X2 rfl rfl rfl hl.1 (Nat.le_of_ble_eq_true rfl) ⟨by decide, by decide⟩ ⟨by decide, by decide⟩ dX6_paper_36) hM (fun H locs hM => ?_)
    refine z_if_eqB (tgt := 52) hx hb dX6_paper_39 (by decide) (fun c_39 => ?_) (fun c_39 => ?_)
    · refine lv_aload_n hx hb dX6_paper_52 rfl (lv_at hl 3 rfl) ?_
      refine z_get hC hM hL_19 hF_28 zcl_X6 (by decide) zl_X6_19 rfl dX6_paper_53 ?_
      refine z_fcalli (z_runV hC hM (c_size hm9 hf9) zy_Jx4a65c_size_8abf5 zm_X6_42 hm9 hf9 zcl_Jx4a65c rfl rfl rfl hl.1 (Nat.le_of_ble_eq_true rfl) ⟨by decide, by decide⟩ ⟨by decide, by decide⟩ dX6_paper_56) hM (fun H locs hM => ?_)
      refine lv_bipush (v := nI 30) hx hb dX6_paper_59 (by decide) ?_
      refine z_icmp_lt (tgt := 74) hx hb (nI_toInt (by omega)) (nI_toInt (by decide)) dX6_paper_61 (by decide) (fun c_61 => ?_) (fun c_61 => ?_)
      · refine lv_aload_n hx hb dX6_paper_74 rfl (lv_at hl 3 rfl) ?_
        refine z_get hC hM hL_19 hF_28 zcl_X6 (by decide) zl_X6_19 rfl dX6_paper_75 ?_
        refine lv_aload hx hb dX6_paper_78 (lv_at hl 0 rfl) ?_
        refine z_calli (z_runV hC hM (c_addI (es := fun j => ad (500 + j)) hli2 hz9 (hli2.ne hz9 (fun z9 => ad_ne hinj (live_c (by omega)) (live_11 z9) (by omega))) (by omega) ⟨hL_25, 3, _, RX2, TX2, 3, tyX2, hF_30, by decide, zcl_X2, zca_X2⟩ hel9) zy_Jx4a65c_add_9ea2d zm_X6_58 hm9 hf9 zcl_Jx4a65c rfl rfl rfl hl.1 (Nat.le_of_ble_eq_true rfl) ⟨by decide, by decide⟩ ⟨by decide, by decide⟩ dX6_paper_80) hM (fun r L3 f3 H locs hp hM => ?_)
        obtain ⟨rfl, hadd⟩ := hp
        have hwd0 : A.1 23 w ≠ 1 := fun z => c_39 (by omega)
        have hfl0 : 0 ≠ 0 → fell A (0 - 1) = false := fun z => absurd rfl z
        have hk0 := kpa0 hkk (by rw [hiv]; exact fun z => z.elim hwd0 (fun z => z.elim (fun z => z.1 rfl) (fun z => by omega)))
        have hCR := hI.addPaper (w := w) (c1 := 0) (by omega) hw (by omega) hwd0 hfl0 hz9 hq_22 app_l app_r (by rw [if_pos rfl]; exact hF_30) hfrL hadd
        obtain ⟨hfs, hms⟩ := hadd.fr (x := ad 1) (app_l _ hLo) (ad_ne hinj (live_c (by omega)) (live_c (by omega)) (by omega)) (hli2.nx hz9 (app_l _ hLo) (fun z9 => ad_ne hinj (live_c (by omega)) (live_11 z9) (by omega)))
        have hfs9 := hfs.trans hF_28
        obtain ⟨e9, hli9⟩ := hadd.li hli2
        obtain ⟨hm99, ⟨mc99, hf99⟩, -⟩ := hli9
        refine lv_pop hx hb dX6_paper_83 rfl ?_
        refine lv_aload_n hx hb dX6_paper_84 rfl (lv_at hl 3 rfl) ?_
        refine z_get hC hM hms hfs9 zcl_X6 (by decide) zl_X6_19 rfl dX6_paper_85 ?_
        refine z_fcalli (z_runV hC hM (c_size hm99 hf99) zy_Jx4a65c_size_8abf5 zm_X6_42 hm99 hf99 zcl_Jx4a65c rfl rfl rfl hl.1 (Nat.le_of_ble_eq_true rfl) ⟨by decide, by decide⟩ ⟨by decide, by decide⟩ dX6_paper_88) hM (fun H locs hM => ?_)
        refine lv_iconst (v := nI 1) hx hb dX6_paper_91 (by decide) ?_
        refine z_isub hx hb (by omega) dX6_paper_92 ?_
        rw [← hQ]
        refine vx_ret ?_
        exact z_iret hC hM hr hlk rfl (by decide) (by decide) ⟨hk0, rfl, by rw [a_paper, if_pos hk0, hiv, if_pos rfl]; exact hCR⟩ dX6_paper_93
      · rw [← hQ]
        exact z_throw (is := 210) (text := "there are as many papers as there can be") hC hM hst hlk hxt hl.1 zth_IS (by decide) dX6_paper_64 dX6_paper_67 dX6_paper_68 dX6_paper_70 dX6_paper_73 (by decide) (by decide) (by decide) (by have hk2 := kpa2 hkk (Or.inr (Or.inr (by omega))); exact ⟨xk hk2 rfl, by rw [a_paper, if_neg (by rw [hk2]; decide)]; exact hI.junk app_l hfrL⟩)
    · rw [← hQ]
      exact z_throw (is := 208) (text := "a paper cannot cite what was withdrawn or has fallen") hC hM hst hlk hxt hl.1 zth_IS (by decide) dX6_paper_42 dX6_paper_45 dX6_paper_46 dX6_paper_48 dX6_paper_51 (by decide) (by decide) (by decide) (by have hk2 := kpa2 hkk (by rw [hiv]; exact Or.inl (by omega)); exact ⟨xk hk2 rfl, by rw [a_paper, if_neg (by rw [hk2]; decide)]; exact hI.junk app_l hfrL⟩)
