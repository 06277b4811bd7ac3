/-! CONTRACTS of Transitry: nights to fold, the best period (rows laid by wip/whole/best.py) -/
set_option maxHeartbeats 400000 in
set_option maxRecDepth 100000 in
theorem c_nToFold {l : Launch} {base : Nat} {K : zK} {L : List Nat} {f : Nat → va_E} (hst : l.stackTraces = false) {o sl wl pl hd hc fo : Nat} (ho : o ∈ L) (hfo : f o = eS 7 [.ref sl, .ref wl, .ref pl, .ref hd, .int (nI hc), .ref fo]) {ee n : Nat} {es nn lo kc : Nat → Nat} {v1 : Nat → Nat} {v0 v2 v3 v4 : Nat → Int32} (hLI : LI K L f sl ee n es) (hn : n ≤ 60) (hes : ∀ i, i < n → es i ∈ L ∧ f (es i) = eS 5 [.int (v0 i), .ref (v1 i), .int (v2 i), .int (v3 i), .int (v4 i), .ref (nn i)]) (hnn : ∀ i, i < n → nn i ∈ L ∧ f (nn i) = eS 2 [.ref (lo i), .int (nI (kc i))]) (hkc : ∀ i, i < n → kc i ≤ 1000) (x y : Int32) : zXMet l yX6_nightsToFold cX6_nightsToFold 4 (some (.object "Transitry$Nights")) (zr 7 3 18 104) base K L f [.ref o, .int x, .int y] (zPq base K (fun r => ∃ i, i < n ∧ x = nI i ∧ inR y 2 60 ∧ 20 ≤ kc i ∧ r = some (nn i)) L f) (zPx (fun E => (E = xIO ∧ ¬ inR x 0 ((n : Int) - 1)) ∨ (∃ i, i < n ∧ x = nI i ∧ ((E = xIA ∧ ¬ inR y 2 60) ∨ (E = xIS ∧ inR y 2 60 ∧ kc i < 20)))) L f) := by
  refine z_xmet (by decide) (Nat.le_of_ble_eq_true rfl) (fun p e s m below meth c ls hC hM hr hlk hxt hl => ?_)
  have hx := hC.1
  have hb := hC.2.1
  have hml := hC.2.2.1
  have hown := hC.2.2.2.1
  have hts := hC.2.2.2.2.1
  generalize hA : ([.ref o, .int x, .int y] : List Value).toArray = args at hC ⊢
  generalize hQ : vx_MQ _ _ _ _ _ _ _ _ = Q
  obtain ⟨locs, hlocs⟩ : ∃ z : List Loc, z = [] := ⟨_, rfl⟩
  obtain ⟨H, hH⟩ : ∃ z : Heap, z = s.heap := ⟨_, rfl⟩
  rw [← hlocs, ← hH] at hM ⊢
  have hl : lv_has ls 4 [(0, .ref o), (1, .int x), (2, .int y)] := hl
  refine lv_aload_n hx hb dX6_nightsToFold_0 rfl (lv_at hl 0 rfl) ?_
  refine lv_iload_n hx hb dX6_nightsToFold_1 rfl (lv_at hl 1 rfl) ?_
  refine z_xpcallq hQ (z_xrunV hC hM (c_starAt hst ho hfo hLI hn (fs := fun i => [.int (v0 i), .ref (v1 i), .int (v2 i), .int (v3 i), .int (v4 i), .ref (nn i)]) hes x) zy_X6_starAt zm_X6_62 ho hfo zcl_X6 rfl rfl rfl hl.1 (Nat.le_of_ble_eq_true rfl) ⟨by decide, by decide⟩ ⟨by decide, by decide⟩ dX6_nightsToFold_2) hM hxt hlk (by decide) (by decide) (fun E hE => ⟨Or.inl hE, rfl, rfl⟩) (fun r_2 hp_2 H locs hM => ?_)
  obtain ⟨i, hin, hxi, rfl⟩ := hp_2
  refine z_getN hC hM (hes i hin).1 (hes i hin).2 zcl_X4 (by decide) zl_X6_113 rfl dX6_nightsToFold_5 ?_
  refine lv_astore_n (lv' := [(3, .ref ((nn i))), (0, .ref o), (1, .int x), (2, .int y)]) hx hb dX6_nightsToFold_8 rfl hl (by decide) rfl (fun ls hl => ?_)
  refine lv_iload_n hx hb dX6_nightsToFold_9 rfl (lv_at hl 3 rfl) ?_
  refine lv_iconst (v := nI 2) hx hb dX6_nightsToFold_10 (by decide) ?_
  refine lv_bipush (v := nI 60) hx hb dX6_nightsToFold_11 (by decide) ?_
  refine z_xpcallv hQ (z_xrunS hC hM (c_reqRange hst y 2 60 (by decide) (by decide)) zy_X6_requireRange zm_X6_38 rfl rfl hl.1 (Nat.le_of_ble_eq_true rfl) ⟨by decide, by decide⟩ ⟨by decide, by decide⟩ dX6_nightsToFold_13) hM hxt hlk (by decide) (by decide) (fun E hE => ⟨Or.inr ⟨i, hin, hxi, Or.inl hE⟩, rfl, rfl⟩) (fun hp_13 H locs hM => ?_)
  have hk9 := hkc i hin
  refine lv_aload_n hx hb dX6_nightsToFold_16 rfl (lv_at hl 0 rfl) ?_
  refine z_getN hC hM (hnn i hin).1 (hnn i hin).2 zcl_X1 (by decide) zl_X6_117 rfl dX6_nightsToFold_17 ?_
  refine lv_bipush (v := nI 20) hx hb dX6_nightsToFold_20 (by decide) ?_
  refine z_icmp_ge (tgt := 35) hx hb (nI_toInt (by omega)) (nI_toInt (by decide)) dX6_nightsToFold_22 (by decide) (fun c_22 => ?_) (fun c_22 => ?_)
  · refine lv_aload_n hx hb dX6_nightsToFold_35 rfl (lv_at hl 0 rfl) ?_
    rw [← hQ]
    refine vx_ret ?_
    exact z_qret (v := (some ((nn i)))) hC hM hr (Or.inl ⟨_, rfl⟩) hlk (by decide) (by decide) ⟨⟨i, hin, hxi, hp_13, by omega, rfl⟩, rfl, rfl⟩ dX6_nightsToFold_36
  · rw [← hQ]
    exact z_throw (is := 242) (text := "too few hours were kept") hC hM hst hlk hxt hl.1 zth_IS (by decide) dX6_nightsToFold_25 dX6_nightsToFold_28 dX6_nightsToFold_29 dX6_nightsToFold_31 dX6_nightsToFold_34 (by decide) (by decide) (by decide) ⟨Or.inr ⟨i, hin, hxi, Or.inr ⟨rfl, hp_13, by omega⟩⟩, rfl, rfl⟩
set_option maxHeartbeats 400000 in
set_option maxRecDepth 100000 in
theorem c_nToSearch {l : Launch} {base : Nat} {K : zK} {L : List Nat} {f : Nat → va_E} (hst : l.stackTraces = false) {o sl wl pl hd hc fo : Nat} (ho : o ∈ L) (hfo : f o = eS 7 [.ref sl, .ref wl, .ref pl, .ref hd, .int (nI hc), .ref fo]) {ee n : Nat} {es nn lo kc : Nat → Nat} {v1 : Nat → Nat} {v0 v2 v3 v4 : Nat → Int32} (hLI : LI K L f sl ee n es) (hn : n ≤ 60) (hes : ∀ i, i < n → es i ∈ L ∧ f (es i) = eS 5 [.int (v0 i), .ref (v1 i), .int (v2 i), .int (v3 i), .int (v4 i), .ref (nn i)]) (hnn : ∀ i, i < n → nn i ∈ L ∧ f (nn i) = eS 2 [.ref (lo i), .int (nI (kc i))]) (x y : Int32) : zXMet l yX6_nightsToSearch cX6_nightsToSearch 4 (some (.object "Transitry$Nights")) (zr 7 2 12 104) base K L f [.ref o, .int x, .int y] (zPq base K (fun r => ∃ i, i < n ∧ x = nI i ∧ inR y 0 1000000 ∧ r = some (nn i)) L f) (zPx (fun E => (E = xIO ∧ ¬ inR x 0 ((n : Int) - 1)) ∨ (∃ i, i < n ∧ x = nI i ∧ E = xIA ∧ ¬ inR y 0 1000000)) L f) := by
  refine z_xmet (by decide) (Nat.le_of_ble_eq_true rfl) (fun p e s m below meth c ls hC hM hr hlk hxt hl => ?_)
  have hx := hC.1
  have hb := hC.2.1
  have hml := hC.2.2.1
  have hown := hC.2.2.2.1
  have hts := hC.2.2.2.2.1
  generalize hA : ([.ref o, .int x, .int y] : List Value).toArray = args at hC ⊢
  generalize hQ : vx_MQ _ _ _ _ _ _ _ _ = Q
  obtain ⟨locs, hlocs⟩ : ∃ z : List Loc, z = [] := ⟨_, rfl⟩
  obtain ⟨H, hH⟩ : ∃ z : Heap, z = s.heap := ⟨_, rfl⟩
  rw [← hlocs, ← hH] at hM ⊢
  have hl : lv_has ls 4 [(0, .ref o), (1, .int x), (2, .int y)] := hl
  refine lv_aload_n hx hb dX6_nightsToSearch_0 rfl (lv_at hl 0 rfl) ?_
  refine lv_iload_n hx hb dX6_nightsToSearch_1 rfl (lv_at hl 1 rfl) ?_
  refine z_xpcallq hQ (z_xrunV hC hM (c_starAt hst ho hfo hLI hn (fs := fun i => [.int (v0 i), .ref (v1 i), .int (v2 i), .int (v3 i), .int (v4 i), .ref (nn i)]) hes x) zy_X6_starAt zm_X6_62 ho hfo zcl_X6 rfl rfl rfl hl.1 (Nat.le_of_ble_eq_true rfl) ⟨by decide, by decide⟩ ⟨by decide, by decide⟩ dX6_nightsToSearch_2) hM hxt hlk (by decide) (by decide) (fun E hE => ⟨Or.inl hE, rfl, rfl⟩) (fun r_2 hp_2 H locs hM => ?_)
  obtain ⟨i, hin, hxi, rfl⟩ := hp_2
  refine z_getN hC hM (hes i hin).1 (hes i hin).2 zcl_X4 (by decide) zl_X6_113 rfl dX6_nightsToSearch_5 ?_
  refine lv_astore_n (lv' := [(3, .ref ((nn i))), (0, .ref o), (1, .int x), (2, .int y)]) hx hb dX6_nightsToSearch_8 rfl hl (by decide) rfl (fun ls hl => ?_)
  refine lv_iload_n hx hb dX6_nightsToSearch_9 rfl (lv_at hl 3 rfl) ?_
  refine lv_iconst (v := nI 0) hx hb dX6_nightsToSearch_10 (by decide) ?_
  refine lv_ldc (v := nI 1000000) hx hb hown (hts _ zk_X6_37) dX6_nightsToSearch_11 ?_
  refine z_xpcallv hQ (z_xrunS hC hM (c_reqRange hst y 0 1000000 (by decide) (by decide)) zy_X6_requireRange zm_X6_38 rfl rfl hl.1 (Nat.le_of_ble_eq_true rfl) ⟨by decide, by decide⟩ ⟨by decide, by decide⟩ dX6_nightsToSearch_13) hM hxt hlk (by decide) (by decide) (fun E hE => ⟨Or.inr ⟨i, hin, hxi, hE⟩, rfl, rfl⟩) (fun hp_13 H locs hM => ?_)
  refine lv_aload_n hx hb dX6_nightsToSearch_16 rfl (lv_at hl 0 rfl) ?_
  rw [← hQ]
  refine vx_ret ?_
  exact z_qret (v := (some ((nn i)))) hC hM hr (Or.inl ⟨_, rfl⟩) hlk (by decide) (by decide) ⟨⟨i, hin, hxi, hp_13, rfl⟩, rfl, rfl⟩ dX6_nightsToSearch_17
set_option maxHeartbeats 400000 in
set_option maxRecDepth 100000 in
theorem c_bestPeriod {l : Launch} {base : Nat} {K : zK} {L : List Nat} {f : Nat → va_E} {o sl wl pl hd hc fo : Nat} (ho : o ∈ L) (hfo : f o = eS 7 [.ref sl, .ref wl, .ref pl, .ref hd, .int (nI hc), .ref fo]) {so co nn lo kc : Nat} {g : Nat → UInt64} (hfol : fo ∈ L) (hsol : so ∈ L) (hcol : co ∈ L) (hCF : CFx K f fo so co) (hnn : nn ∈ L) (hfn : f nn = eS 2 [.ref lo, .int (nI kc)]) (hlo : lo ∈ L) (hfl : f lo = eD K 1000 g) (hkc : kc = fN g 1000) (hFP : FPok g) (n_o_fo : o ≠ fo) (n_o_so : o ≠ so) (n_o_co : o ≠ co) (n_o_nn : o ≠ nn) (n_o_lo : o ≠ lo) (n_fo_so : fo ≠ so) (n_fo_co : fo ≠ co) (n_fo_nn : fo ≠ nn) (n_fo_lo : fo ≠ lo) (n_so_co : so ≠ co) (n_so_nn : so ≠ nn) (n_so_lo : so ≠ lo) (n_co_nn : co ≠ nn) (n_co_lo : co ≠ lo) (n_nn_lo : nn ≠ lo) (t : Int32) : zMet l yX6_bestPeriod cX6_bestPeriod 9 (some .int) (zr 4 0 0 90) base K L f [.ref o, .ref nn, .int t] (zQi base K (fun r L1 f1 => r = oN (bpT g t) ∧ L1 = L ∧ CFx K f1 fo so co ∧ ∀ q, q ≠ fo → q ≠ so → q ≠ co → f1 q = f q)) := by
  have hkl := fN_le g 1000
  have hCF0 := hCF
  obtain ⟨fl, mn, sg, cg, hffo, hfso, hfco, hz1, hz2, hz3⟩ := hCF
  refine z_met (by decide) (Nat.le_of_ble_eq_true rfl) (fun p e s m below meth c ls hC hM hr hlk hnm hl => ?_)
  have hx := hC.1
  have hb := hC.2.1
  have hml := hC.2.2.1
  have hown := hC.2.2.2.1
  have hts := hC.2.2.2.2.1
  generalize hA : ([.ref o, .ref nn, .int t] : List Value).toArray = args at hC ⊢
  generalize hQ : MQ _ _ _ _ _ _ _ = Q
  obtain ⟨locs, hlocs⟩ : ∃ z : List Loc, z = [] := ⟨_, rfl⟩
  obtain ⟨H, hH⟩ : ∃ z : Heap, z = s.heap := ⟨_, rfl⟩
  rw [← hlocs, ← hH] at hM ⊢
  have hl : lv_has ls 9 [(0, .ref o), (1, .ref nn), (2, .int t)] := hl
  refine lv_iconst (v := (-1)) hx hb dX6_bestPeriod_0 (by decide) ?_
  refine lv_istore_n (lv' := [(3, .int ((-1))), (0, .ref o), (1, .ref nn), (2, .int t)]) hx hb dX6_bestPeriod_1 rfl hl (by decide) rfl (fun ls hl => ?_)
  refine lv_aload_n hx hb dX6_bestPeriod_2 rfl (lv_at hl 2 rfl) ?_
  refine z_getN hC hM hnn hfn zcl_X1 (by decide) zl_X6_117 rfl dX6_bestPeriod_3 ?_
  refine lv_bipush (v := nI 20) hx hb dX6_bestPeriod_6 (by decide) ?_
  refine z_icmp_ge (tgt := 13) hx hb (nI_toInt (by omega)) (nI_toInt (by decide)) dX6_bestPeriod_8 (by decide) (fun c_8 => ?_) (fun c_8 => ?_)
  · refine lv_iload_n hx hb dX6_bestPeriod_13 rfl (lv_at hl 3 rfl) ?_
    refine lv_i2d hx hb dX6_bestPeriod_14 ?_
    refine lv_dstore (lv' := [(4, .double (FP.i2d t)), (3, .int ((-1))), (0, .ref o), (1, .ref nn), (2, .int t)]) hx hb dX6_bestPeriod_15 hl (by decide) rfl (fun ls hl => ?_)
    refine lv_iconst (v := nI 2) hx hb dX6_bestPeriod_17 (by decide) ?_
    refine lv_istore (lv' := [(6, .int (nI 2)), (4, .double (FP.i2d t)), (3, .int ((-1))), (0, .ref o), (1, .ref nn), (2, .int t)]) hx hb dX6_bestPeriod_18 hl (by decide) rfl (fun ls hl => ?_)
    have LOOP20 : ∀ i, i ≤ 59 → ∀ (ls : Array Slot) (H : Heap) (locs : List Loc) (f1 : Nat → va_E) (fl : Nat) (mn : UInt64) (sg : Nat → UInt64) (cg : Nat → Nat), lv_has ls 9 [(6, .int (nI (i + 2))), (4, .double ((bpS g t i).2)), (3, .int (oN (bpS g t i).1)), (0, .ref o), (1, .ref nn), (2, .int t)] → zM base K L f1 s H locs → f1 o = eS 7 [.ref sl, .ref wl, .ref pl, .ref hd, .int (nI hc), .ref fo] → f1 fo = eS 1 [.ref so, .ref co, .int (nI fl), .double mn] → f1 so = eD K 120 sg → f1 co = eI K 120 (fun j => nI (cg j)) → f1 nn = eS 2 [.ref lo, .int (nI kc)] → f1 lo = eD K 1000 g → (∀ q, q ≠ fo → q ≠ so → q ≠ co → f1 q = f q) → (∀ j, 120 ≤ j → sg j = FP.dconst0) → (∀ j, 120 ≤ j → cg j = 0) → (∀ j, cg j < 2 ^ 31) → W p l e (zr 4 0 0 90) s m args below meth c H locs 0 0 Q (F0 m 20 ls []) := by
      refine z_down 59 ?_ ?_
      · intro ls H locs f1 fl mn sg cg hl hM hG0 hG1 hG2 hG3 hG4 hG5 hfr hz1 hz2 hz3
        refine lv_iload hx hb dX6_bestPeriod_20 (lv_at hl 0 rfl) ?_
        refine lv_bipush (v := nI 60) hx hb dX6_bestPeriod_22 (by decide) ?_
        refine z_icmp_gt (tgt := 74) hx hb (nI_toInt (by omega)) (nI_toInt (by decide)) dX6_bestPeriod_24 (by decide) (fun c_24 => ?_) (fun c_24 => ?_)
        · refine lv_iload_n hx hb dX6_bestPeriod_74 rfl (lv_at hl 2 rfl) ?_
          rw [← hQ]
          exact z_iret hC hM hr hlk rfl (by decide) (by decide) ⟨(by rw [bpT, if_neg (by omega)]), rfl, ⟨fl, mn, sg, cg, hG1, hG2, hG3, hz1, hz2, hz3⟩, hfr⟩ dX6_bestPeriod_75
        · exact absurd c_24 (by omega)
      · intro i hi ih ls H locs f1 fl mn sg cg hl hM hG0 hG1 hG2 hG3 hG4 hG5 hfr hz1 hz2 hz3
        refine lv_iload hx hb dX6_bestPeriod_20 (lv_at hl 0 rfl) ?_
        refine lv_bipush (v := nI 60) hx hb dX6_bestPeriod_22 (by decide) ?_
        refine z_icmp_gt (tgt := 74) hx hb (nI_toInt (by omega)) (nI_toInt (by decide)) dX6_bestPeriod_24 (by decide) (fun c_24 => ?_) (fun c_24 => ?_)
        · exact absurd c_24 (by omega)
        · refine lv_aload_n hx hb dX6_bestPeriod_27 rfl (lv_at hl 3 rfl) ?_
          refine z_get hC hM ho hG0 zcl_X6 (by decide) zl_X6_33 rfl dX6_bestPeriod_28 ?_
          refine lv_iload hx hb dX6_bestPeriod_31 (lv_at hl 0 rfl) ?_
          refine lv_aload_n hx hb dX6_bestPeriod_33 rfl (lv_at hl 4 rfl) ?_
          refine z_fcallv (z_runV hC hM (c_foldBy hfol hG1 hsol hG2 hcol hG3 hz1 (fun j hj => congrArg nI (hz2 j hj)) hnn hG4 hlo hG5 hkc hFP n_fo_so n_fo_co n_fo_nn n_fo_lo n_so_co n_so_nn n_so_lo n_co_nn n_co_lo n_nn_lo (by omega) (by omega)) zy_X0_foldBy zm_X6_138 hfol hG1 zcl_X0 rfl rfl rfl hl.1 (Nat.le_of_ble_eq_true rfl) ⟨by decide, by decide⟩ ⟨by decide, by decide⟩ dX6_bestPeriod_34) hM (fun H locs hM => ?_)
          obtain ⟨f_1, ef_1⟩ : ∃ z9, z9 = va_up f1 so (eD K 120 (fS g (i + 2) 1000)) := ⟨_, rfl⟩
          rw [← ef_1] at hM
          have hF_2 : f_1 o = eS 7 [.ref sl, .ref wl, .ref pl, .ref hd, .int (nI hc), .ref fo] := by rw [ef_1]; exact (va_up_ne _ _ n_o_so).trans hG0
          have hF_3 : f_1 fo = eS 1 [.ref so, .ref co, .int (nI fl), .double mn] := by rw [ef_1]; exact (va_up_ne _ _ n_fo_so).trans hG1
          have hF_4 : f_1 so = eD K 120 (fS g (i + 2) 1000) := by rw [ef_1]; exact va_up_self _ _ _
          have hF_5 : f_1 co = eI K 120 (fun j => nI (cg j)) := by rw [ef_1]; exact (va_up_ne _ _ (Ne.symm n_so_co)).trans hG3
          have hF_6 : f_1 nn = eS 2 [.ref lo, .int (nI kc)] := by rw [ef_1]; exact (va_up_ne _ _ (Ne.symm n_so_nn)).trans hG4
          have hF_7 : f_1 lo = eD K 1000 g := by rw [ef_1]; exact (va_up_ne _ _ (Ne.symm n_so_lo)).trans hG5
          obtain ⟨f_8, ef_8⟩ : ∃ z9, z9 = va_up f_1 co (eI K 120 (fun j => nI ((fC g (i + 2) 1000) j))) := ⟨_, rfl⟩
          rw [← ef_8] at hM
          have hF_9 : f_8 o = eS 7 [.ref sl, .ref wl, .ref pl, .ref hd, .int (nI hc), .ref fo] := by rw [ef_8]; exact (va_up_ne _ _ n_o_co).trans hF_2
          have hF_10 : f_8 fo = eS 1 [.ref so, .ref co, .int (nI fl), .double mn] := by rw [ef_8]; exact (va_up_ne _ _ n_fo_co).trans hF_3
          have hF_11 : f_8 so = eD K 120 (fS g (i + 2) 1000) := by rw [ef_8]; exact (va_up_ne _ _ n_so_co).trans hF_4
          have hF_12 : f_8 co = eI K 120 (fun j => nI ((fC g (i + 2) 1000) j)) := by rw [ef_8]; exact va_up_self _ _ _
          have hF_13 : f_8 nn = eS 2 [.ref lo, .int (nI kc)] := by rw [ef_8]; exact (va_up_ne _ _ (Ne.symm n_co_nn)).trans hF_6
          have hF_14 : f_8 lo = eD K 1000 g := by rw [ef_8]; exact (va_up_ne _ _ (Ne.symm n_co_lo)).trans hF_7
          obtain ⟨f_15, ef_15⟩ : ∃ z9, z9 = va_up f_8 fo (eS 1 [.ref so, .ref co, .int (nI (i + 2)), .double (mnT g)]) := ⟨_, rfl⟩
          rw [← ef_15] at hM
          have hF_16 : f_15 o = eS 7 [.ref sl, .ref wl, .ref pl, .ref hd, .int (nI hc), .ref fo] := by rw [ef_15]; exact (va_up_ne _ _ n_o_fo).trans hF_9
          have hF_17 : f_15 fo = eS 1 [.ref so, .ref co, .int (nI (i + 2)), .double (mnT g)] := by rw [ef_15]; exact va_up_self _ _ _
          have hF_18 : f_15 so = eD K 120 (fS g (i + 2) 1000) := by rw [ef_15]; exact (va_up_ne _ _ (Ne.symm n_fo_so)).trans hF_11
          have hF_19 : f_15 co = eI K 120 (fun j => nI ((fC g (i + 2) 1000) j)) := by rw [ef_15]; exact (va_up_ne _ _ (Ne.symm n_fo_co)).trans hF_12
          have hF_20 : f_15 nn = eS 2 [.ref lo, .int (nI kc)] := by rw [ef_15]; exact (va_up_ne _ _ (Ne.symm n_fo_nn)).trans hF_13
          have hF_21 : f_15 lo = eD K 1000 g := by rw [ef_15]; exact (va_up_ne _ _ (Ne.symm n_fo_lo)).trans hF_14
          refine lv_aload_n hx hb dX6_bestPeriod_37 rfl (lv_at hl 3 rfl) ?_
          refine z_get hC hM ho hF_16 zcl_X6 (by decide) zl_X6_33 rfl dX6_bestPeriod_38 ?_
          refine lv_aload_n hx hb dX6_bestPeriod_41 rfl (lv_at hl 3 rfl) ?_
          refine z_get hC hM ho hF_16 zcl_X6 (by decide) zl_X6_33 rfl dX6_bestPeriod_42 ?_
          refine z_fcalli (z_runV hC hM (c_bestFold hfol hF_17 hsol hF_18 hcol hF_19 (fun j => by have := fC_le g (i + 2) 1000 j; omega) (by omega) (fun x hx9 h9 => FP_fold hFP (by omega) x h9)) zy_X0_bestFold zm_X6_142 hfol hF_17 zcl_X0 rfl rfl rfl hl.1 (Nat.le_of_ble_eq_true rfl) ⟨by decide, by decide⟩ ⟨by decide, by decide⟩ dX6_bestPeriod_45) hM (fun H locs hM => ?_)
          obtain ⟨b, hb9, hbl, hbc⟩ := bFo_some (g := g) (p := i + 2) (by omega) (by omega)
          rw [hb9, show oN (some b) = nI b from rfl]
          refine z_fcalld (z_runV hC hM (c_scoreOf hfol hF_17 hsol hF_18 hcol hF_19 (fun j => by have := fC_le g (i + 2) 1000 j; omega) b (by omega) (fun h9 => FP_fold hFP (by omega) b h9)) zy_X0_scoreOf zm_X6_145 hfol hF_17 zcl_X0 rfl rfl rfl hl.1 (Nat.le_of_ble_eq_true rfl) ⟨by decide, by decide⟩ ⟨by decide, by decide⟩ dX6_bestPeriod_48) hM (fun H locs hM => ?_)
          rw [scB_at hb9]
          refine lv_dstore (lv' := [(7, .double (scB g (i + 2))), (6, .int (nI (i + 2))), (4, .double ((bpS g t i).2)), (3, .int (oN (bpS g t i).1)), (0, .ref o), (1, .ref nn), (2, .int t)]) hx hb dX6_bestPeriod_51 hl (by decide) rfl (fun ls hl => ?_)
          refine lv_dload hx hb dX6_bestPeriod_53 (lv_at hl 0 rfl) ?_
          refine lv_dload hx hb dX6_bestPeriod_55 (lv_at hl 2 rfl) ?_
          refine lv_dcmp hx hb dX6_bestPeriod_57 ?_
          refine z_if_le (tgt := 68) hx hb (dc_l _ _) dX6_bestPeriod_58 (by decide) (fun c_58 => ?_) (fun c_58 => ?_)
          · refine lv_iinc (v := nI ((i + 2) + 1)) (lv' := [(6, .int (nI ((i + 2) + 1))), (7, .double (scB g (i + 2))), (4, .double ((bpS g t i).2)), (3, .int (oN (bpS g t i).1)), (0, .ref o), (1, .ref nn), (2, .int t)]) hx hb dX6_bestPeriod_68 hl (k := 1) rfl (nI_add (i + 2) 1) (by decide) rfl (fun ls hl => ?_)
            refine lv_goto (tgt := 20) hx hb dX6_bestPeriod_71 (by decide) ?_
            rw [← bpS_0 c_58] at hl
            have hfr : ∀ q, q ≠ fo → q ≠ so → q ≠ co → f_15 q = f q := fun q hq0 hq1 hq2 => by
              rw [ef_15, ef_8, ef_1]
              simp only [va_up, hq0, hq1, hq2, if_false]
              exact hfr q hq0 hq1 hq2
            exact ih ls H locs f_15 (i + 2) (mnT g) (fS g (i + 2) 1000) (fC g (i + 2) 1000) (by rw [show i + 1 + 2 = i + 2 + 1 by omega]; exact lv_sub hl [0, 2, 3, 4, 5, 6] rfl) hM hF_16 hF_17 hF_18 hF_19 hF_20 hF_21 hfr (fun j hj => fS_out (by omega) 1000 j (by omega)) (fun j hj => fC_out (by omega) 1000 j (by omega)) (fun j => by have := fC_le g (i + 2) 1000 j; omega)
          · refine lv_dload hx hb dX6_bestPeriod_61 (lv_at hl 0 rfl) ?_
            refine lv_dstore (lv' := [(4, .double (scB g (i + 2))), (7, .double (scB g (i + 2))), (6, .int (nI (i + 2))), (3, .int (oN (bpS g t i).1)), (0, .ref o), (1, .ref nn), (2, .int t)]) hx hb dX6_bestPeriod_63 hl (by decide) rfl (fun ls hl => ?_)
            refine lv_iload hx hb dX6_bestPeriod_65 (lv_at hl 2 rfl) ?_
            refine lv_istore_n (lv' := [(3, .int (nI (i + 2))), (4, .double (scB g (i + 2))), (7, .double (scB g (i + 2))), (6, .int (nI (i + 2))), (0, .ref o), (1, .ref nn), (2, .int t)]) hx hb dX6_bestPeriod_67 rfl hl (by decide) rfl (fun ls hl => ?_)
            refine lv_iinc (v := nI ((i + 2) + 1)) (lv' := [(6, .int (nI ((i + 2) + 1))), (3, .int (nI (i + 2))), (4, .double (scB g (i + 2))), (7, .double (scB g (i + 2))), (0, .ref o), (1, .ref nn), (2, .int t)]) hx hb dX6_bestPeriod_68 hl (k := 3) rfl (nI_add (i + 2) 1) (by decide) rfl (fun ls hl => ?_)
            refine lv_goto (tgt := 20) hx hb dX6_bestPeriod_71 (by decide) ?_
            have e9 := bpS_1 c_58
            have hfr : ∀ q, q ≠ fo → q ≠ so → q ≠ co → f_15 q = f q := fun q hq0 hq1 hq2 => by
              rw [ef_15, ef_8, ef_1]
              simp only [va_up, hq0, hq1, hq2, if_false]
              exact hfr q hq0 hq1 hq2
            exact ih ls H locs f_15 (i + 2) (mnT g) (fS g (i + 2) 1000) (fC g (i + 2) 1000) (by rw [show i + 1 + 2 = i + 2 + 1 by omega, e9]; exact lv_sub hl [0, 2, 1, 4, 5, 6] rfl) hM hF_16 hF_17 hF_18 hF_19 hF_20 hF_21 hfr (fun j hj => fS_out (by omega) 1000 j (by omega)) (fun j hj => fC_out (by omega) 1000 j (by omega)) (fun j => by have := fC_le g (i + 2) 1000 j; omega)
    exact LOOP20 0 (Nat.zero_le _) ls H locs f fl mn sg cg (lv_sub hl [0, 1, 2, 3, 4, 5] rfl) hM hfo hffo hfso hfco hfn hfl (fun _ _ _ _ => rfl) hz1 hz2 hz3
  · refine lv_iload_n hx hb dX6_bestPeriod_11 rfl (lv_at hl 0 rfl) ?_
    rw [← hQ]
    exact z_iret hC hM hr hlk rfl (by decide) (by decide) ⟨(by rw [bpT, if_pos (by omega)]; rfl), rfl, hCF0, fun q _ _ _ => rfl⟩ dX6_bestPeriod_12
