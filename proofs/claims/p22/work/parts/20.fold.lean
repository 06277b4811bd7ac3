/-! CONTRACTS of Transitry$Folding (rows laid by wip/whole/fold.py) -/
set_option maxHeartbeats 400000 in
set_option maxRecDepth 100000 in
theorem c_hasHours {l : Launch} {base : Nat} {K : zK} {L : List Nat} {f : Nat → va_E} {o so co fl : Nat} {mn : UInt64} {sg : Nat → UInt64} {cg : Nat → Nat} (ho : o ∈ L) (hfo : f o = eS 1 [.ref so, .ref co, .int (nI fl), .double mn]) (hso : so ∈ L) (hfs : f so = eD K 120 sg) (hco : co ∈ L) (hfc : f co = eI K 120 (fun j => nI (cg j))) (hcg : ∀ j, cg j < 2 ^ 31) (x : Nat) (hx2 : x < 2 ^ 31) : zMet l yX0_hasHours cX0_hasHours 2 (some .boolean) (zr 0 0 0 0) base K L f [.ref o, .int (nI x)] (zFi base K (zb (x < 120 ∧ 0 < cg x)) L f) := by
  have hcx := hcg x
  refine z_met (by decide) (Nat.le_of_ble_eq_true rfl) (fun p e s m below meth c ls hC hM hr hlk hnm hl => ?_)
  have hx := hC.1
  have hb := hC.2.1
  have hml := hC.2.2.1
  have hown := hC.2.2.2.1
  have hts := hC.2.2.2.2.1
  generalize hA : ([.ref o, .int (nI x)] : List Value).toArray = args at hC ⊢
  generalize hQ : MQ _ _ _ _ _ _ _ = Q
  obtain ⟨locs, hlocs⟩ : ∃ z : List Loc, z = [] := ⟨_, rfl⟩
  obtain ⟨H, hH⟩ : ∃ z : Heap, z = s.heap := ⟨_, rfl⟩
  rw [← hlocs, ← hH] at hM ⊢
  have hl : lv_has ls 2 [(0, .ref o), (1, .int (nI x))] := hl
  refine lv_iload_n hx hb dX0_hasHours_0 rfl (lv_at hl 1 rfl) ?_
  refine z_if_lt (tgt := 26) hx hb (nI_toInt (by omega)) dX0_hasHours_1 (by decide) (fun c_1 => ?_) (fun c_1 => ?_)
  · exact absurd c_1 (by omega)
  · refine lv_iload_n hx hb dX0_hasHours_4 rfl (lv_at hl 1 rfl) ?_
    refine lv_aload_n hx hb dX0_hasHours_5 rfl (lv_at hl 0 rfl) ?_
    refine z_get hC hM ho hfo zcl_X0 (by decide) zl_X0_15 rfl dX0_hasHours_6 ?_
    refine z_alen (n := 120) 1 hC hM hco hfc rfl rfl dX0_hasHours_9 ?_
    refine z_icmp_ge (tgt := 26) hx hb (nI_toInt (by omega)) (nI_toInt (by decide)) dX0_hasHours_10 (by decide) (fun c_10 => ?_) (fun c_10 => ?_)
    · refine lv_iconst (v := nI 0) hx hb dX0_hasHours_26 (by decide) ?_
      rw [← hQ]
      exact z_iret hC hM hr hlk rfl (by decide) (by decide) ⟨(zb_f (fun h => by omega)), rfl, rfl⟩ dX0_hasHours_27
    · refine lv_aload_n hx hb dX0_hasHours_13 rfl (lv_at hl 0 rfl) ?_
      refine z_get hC hM ho hfo zcl_X0 (by decide) zl_X0_15 rfl dX0_hasHours_14 ?_
      refine lv_iload_n hx hb dX0_hasHours_17 rfl (lv_at hl 1 rfl) ?_
      refine z_iald hC hM hco hfc (by omega) (by omega) dX0_hasHours_18 ?_
      refine z_if_le (tgt := 26) hx hb (nI_toInt (by omega)) dX0_hasHours_19 (by decide) (fun c_19 => ?_) (fun c_19 => ?_)
      · refine lv_iconst (v := nI 0) hx hb dX0_hasHours_26 (by decide) ?_
        rw [← hQ]
        exact z_iret hC hM hr hlk rfl (by decide) (by decide) ⟨(zb_f (fun h => by omega)), rfl, rfl⟩ dX0_hasHours_27
      · refine lv_iconst (v := nI 1) hx hb dX0_hasHours_22 (by decide) ?_
        refine lv_goto (tgt := 27) hx hb dX0_hasHours_23 (by decide) ?_
        rw [← hQ]
        exact z_iret hC hM hr hlk rfl (by decide) (by decide) ⟨(zb_t ⟨by omega, by omega⟩), rfl, rfl⟩ dX0_hasHours_27
set_option maxHeartbeats 400000 in
set_option maxRecDepth 100000 in
theorem c_meanOf {l : Launch} {base : Nat} {K : zK} {L : List Nat} {f : Nat → va_E} {o so co fl : Nat} {mn : UInt64} {sg : Nat → UInt64} {cg : Nat → Nat} (ho : o ∈ L) (hfo : f o = eS 1 [.ref so, .ref co, .int (nI fl), .double mn]) (hso : so ∈ L) (hfs : f so = eD K 120 sg) (hco : co ∈ L) (hfc : f co = eI K 120 (fun j => nI (cg j))) (hcg : ∀ j, cg j < 2 ^ 31) (x : Nat) (hx1 : x < 120) (hd : 0 < cg x → vf_n64 (FP.ddiv (sg x) (nD (cg x)))) : zMet l yX0_meanOf cX0_meanOf 2 (some .double) (zr 1 0 0 21) base K L f [.ref o, .int (nI x)] (zFd base K (mf sg cg x) L f) := by
  refine z_met (by decide) (Nat.le_of_ble_eq_true rfl) (fun p e s m below meth c ls hC hM hr hlk hnm hl => ?_)
  have hx := hC.1
  have hb := hC.2.1
  have hml := hC.2.2.1
  have hown := hC.2.2.2.1
  have hts := hC.2.2.2.2.1
  generalize hA : ([.ref o, .int (nI x)] : List Value).toArray = args at hC ⊢
  generalize hQ : MQ _ _ _ _ _ _ _ = Q
  obtain ⟨locs, hlocs⟩ : ∃ z : List Loc, z = [] := ⟨_, rfl⟩
  obtain ⟨H, hH⟩ : ∃ z : Heap, z = s.heap := ⟨_, rfl⟩
  rw [← hlocs, ← hH] at hM ⊢
  have hl : lv_has ls 2 [(0, .ref o), (1, .int (nI x))] := hl
  refine lv_aload_n hx hb dX0_meanOf_0 rfl (lv_at hl 0 rfl) ?_
  refine lv_iload_n hx hb dX0_meanOf_1 rfl (lv_at hl 1 rfl) ?_
  refine z_fcalli (z_runV hC hM (c_hasHours ho hfo hso hfs hco hfc hcg x (by omega)) zy_X0_hasHours zm_X0_44 ho hfo zcl_X0 rfl rfl rfl hl.1 (Nat.le_of_ble_eq_true rfl) ⟨by decide, by decide⟩ ⟨by decide, by decide⟩ dX0_meanOf_2) hM (fun H locs hM => ?_)
  refine z_if_eqB (tgt := 34) hx hb dX0_meanOf_5 (by decide) (fun c_5 => ?_) (fun c_5 => ?_)
  · refine lv_dconst0 hx hb dX0_meanOf_34 ?_
    rw [← hQ]
    exact z_dret hC hM hr hlk (by decide) (by decide) ⟨by rw [mf, if_neg (fun h => c_5 ⟨hx1, h⟩)]; rfl, rfl, rfl⟩ dX0_meanOf_35
  · refine lv_iload_n hx hb dX0_meanOf_8 rfl (lv_at hl 1 rfl) ?_
    refine lv_aload_n hx hb dX0_meanOf_9 rfl (lv_at hl 0 rfl) ?_
    refine z_get hC hM ho hfo zcl_X0 (by decide) zl_X0_9 rfl dX0_meanOf_10 ?_
    refine z_alen (n := 120) 0 hC hM hso hfs rfl rfl dX0_meanOf_13 ?_
    refine z_icmp_ge (tgt := 34) hx hb (nI_toInt (by omega)) (nI_toInt (by decide)) dX0_meanOf_14 (by decide) (fun c_14 => ?_) (fun c_14 => ?_)
    · exact absurd c_14 (by omega)
    · refine lv_aload_n hx hb dX0_meanOf_17 rfl (lv_at hl 0 rfl) ?_
      refine z_get hC hM ho hfo zcl_X0 (by decide) zl_X0_9 rfl dX0_meanOf_18 ?_
      refine lv_iload_n hx hb dX0_meanOf_21 rfl (lv_at hl 1 rfl) ?_
      refine z_dald hC hM hso hfs (by omega) (by omega) dX0_meanOf_22 ?_
      refine lv_aload_n hx hb dX0_meanOf_23 rfl (lv_at hl 0 rfl) ?_
      refine z_get hC hM ho hfo zcl_X0 (by decide) zl_X0_15 rfl dX0_meanOf_24 ?_
      refine lv_iload_n hx hb dX0_meanOf_27 rfl (lv_at hl 1 rfl) ?_
      refine z_iald hC hM hco hfc (by omega) (by omega) dX0_meanOf_28 ?_
      refine lv_i2d hx hb dX0_meanOf_29 ?_
      refine lv_ddiv hx hb dX0_meanOf_30 (hd c_5.2) ?_
      refine lv_goto (tgt := 35) hx hb dX0_meanOf_31 (by decide) ?_
      rw [← hQ]
      exact z_dret hC hM hr hlk (by decide) (by decide) ⟨by rw [mf, if_pos c_5.2]; rfl, rfl, rfl⟩ dX0_meanOf_35
set_option maxHeartbeats 400000 in
set_option maxRecDepth 100000 in
theorem c_scoreOf {l : Launch} {base : Nat} {K : zK} {L : List Nat} {f : Nat → va_E} {o so co fl : Nat} {mn : UInt64} {sg : Nat → UInt64} {cg : Nat → Nat} (ho : o ∈ L) (hfo : f o = eS 1 [.ref so, .ref co, .int (nI fl), .double mn]) (hso : so ∈ L) (hfs : f so = eD K 120 sg) (hco : co ∈ L) (hfc : f co = eI K 120 (fun j => nI (cg j))) (hcg : ∀ j, cg j < 2 ^ 31) (x : Nat) (hx1 : x < 120) (hd : 0 < cg x → vf_n64 (FP.ddiv (sg x) (nD (cg x))) ∧ vf_n64 (FP.dsub mn (mf sg cg x)) ∧ vf_n64 (FP.dmul (FP.dsub mn (mf sg cg x)) (nD (cg x)))) : zMet l yX0_scoreOf cX0_scoreOf 2 (some .double) (zr 2 0 0 42) base K L f [.ref o, .int (nI x)] (zFd base K (sf mn sg cg x) L f) := by
  refine z_met (by decide) (Nat.le_of_ble_eq_true rfl) (fun p e s m below meth c ls hC hM hr hlk hnm hl => ?_)
  have hx := hC.1
  have hb := hC.2.1
  have hml := hC.2.2.1
  have hown := hC.2.2.2.1
  have hts := hC.2.2.2.2.1
  generalize hA : ([.ref o, .int (nI x)] : List Value).toArray = args at hC ⊢
  generalize hQ : MQ _ _ _ _ _ _ _ = Q
  obtain ⟨locs, hlocs⟩ : ∃ z : List Loc, z = [] := ⟨_, rfl⟩
  obtain ⟨H, hH⟩ : ∃ z : Heap, z = s.heap := ⟨_, rfl⟩
  rw [← hlocs, ← hH] at hM ⊢
  have hl : lv_has ls 2 [(0, .ref o), (1, .int (nI x))] := hl
  refine lv_aload_n hx hb dX0_scoreOf_0 rfl (lv_at hl 0 rfl) ?_
  refine lv_iload_n hx hb dX0_scoreOf_1 rfl (lv_at hl 1 rfl) ?_
  refine z_fcalli (z_runV hC hM (c_hasHours ho hfo hso hfs hco hfc hcg x (by omega)) zy_X0_hasHours zm_X0_44 ho hfo zcl_X0 rfl rfl rfl hl.1 (Nat.le_of_ble_eq_true rfl) ⟨by decide, by decide⟩ ⟨by decide, by decide⟩ dX0_scoreOf_2) hM (fun H locs hM => ?_)
  refine z_if_eqB (tgt := 29) hx hb dX0_scoreOf_5 (by decide) (fun c_5 => ?_) (fun c_5 => ?_)
  · refine lv_dconst0 hx hb dX0_scoreOf_29 ?_
    rw [← hQ]
    exact z_dret hC hM hr hlk (by decide) (by decide) ⟨by rw [sf, if_neg (fun h => c_5 ⟨hx1, h⟩)]; rfl, rfl, rfl⟩ dX0_scoreOf_30
  · refine lv_aload_n hx hb dX0_scoreOf_8 rfl (lv_at hl 0 rfl) ?_
    refine z_get hC hM ho hfo zcl_X0 (by decide) zl_X0_23 rfl dX0_scoreOf_9 ?_
    refine lv_aload_n hx hb dX0_scoreOf_12 rfl (lv_at hl 0 rfl) ?_
    refine lv_iload_n hx hb dX0_scoreOf_13 rfl (lv_at hl 1 rfl) ?_
    refine z_fcalld (z_runV hC hM (c_meanOf ho hfo hso hfs hco hfc hcg x hx1 (fun h => (hd h).1)) zy_X0_meanOf zm_X0_48 ho hfo zcl_X0 rfl rfl rfl hl.1 (Nat.le_of_ble_eq_true rfl) ⟨by decide, by decide⟩ ⟨by decide, by decide⟩ dX0_scoreOf_14) hM (fun H locs hM => ?_)
    refine lv_dsub hx hb dX0_scoreOf_17 (hd c_5.2).2.1 ?_
    refine lv_aload_n hx hb dX0_scoreOf_18 rfl (lv_at hl 0 rfl) ?_
    refine z_get hC hM ho hfo zcl_X0 (by decide) zl_X0_15 rfl dX0_scoreOf_19 ?_
    refine lv_iload_n hx hb dX0_scoreOf_22 rfl (lv_at hl 1 rfl) ?_
    refine z_iald hC hM hco hfc (by omega) (by omega) dX0_scoreOf_23 ?_
    refine lv_i2d hx hb dX0_scoreOf_24 ?_
    refine lv_dmul hx hb dX0_scoreOf_25 (hd c_5.2).2.2 ?_
    refine lv_goto (tgt := 30) hx hb dX0_scoreOf_26 (by decide) ?_
    rw [← hQ]
    exact z_dret hC hM hr hlk (by decide) (by decide) ⟨by rw [sf, if_pos c_5.2]; rfl, rfl, rfl⟩ dX0_scoreOf_30
set_option maxHeartbeats 400000 in
set_option maxRecDepth 100000 in
theorem c_bestFold {l : Launch} {base : Nat} {K : zK} {L : List Nat} {f : Nat → va_E} {o so co fl : Nat} {mn : UInt64} {sg : Nat → UInt64} {cg : Nat → Nat} (ho : o ∈ L) (hfo : f o = eS 1 [.ref so, .ref co, .int (nI fl), .double mn]) (hso : so ∈ L) (hfs : f so = eD K 120 sg) (hco : co ∈ L) (hfc : f co = eI K 120 (fun j => nI (cg j))) (hcg : ∀ j, cg j < 2 ^ 31) (hfl : fl ≤ 120) (hd : ∀ x, x < fl → 0 < cg x → vf_n64 (FP.ddiv (sg x) (nD (cg x))) ∧ vf_n64 (FP.dsub mn (mf sg cg x)) ∧ vf_n64 (FP.dmul (FP.dsub mn (mf sg cg x)) (nD (cg x)))) : zMet l yX0_bestFold cX0_bestFold 7 (some .int) (zr 3 0 0 63) base K L f [.ref o] (zFi base K (oN (bfG mn sg cg fl)) L f) := by
  refine z_met (by decide) (Nat.le_of_ble_eq_true rfl) (fun p e s m below meth c ls hC hM hr hlk hnm hl => ?_)
  have hx := hC.1
  have hb := hC.2.1
  have hml := hC.2.2.1
  have hown := hC.2.2.2.1
  have hts := hC.2.2.2.2.1
  generalize hA : ([.ref o] : List Value).toArray = args at hC ⊢
  generalize hQ : MQ _ _ _ _ _ _ _ = Q
  obtain ⟨locs, hlocs⟩ : ∃ z : List Loc, z = [] := ⟨_, rfl⟩
  obtain ⟨H, hH⟩ : ∃ z : Heap, z = s.heap := ⟨_, rfl⟩
  rw [← hlocs, ← hH] at hM ⊢
  have hl : lv_has ls 7 [(0, .ref o)] := hl
  refine lv_iconst (v := (-1)) hx hb dX0_bestFold_0 (by decide) ?_
  refine lv_istore_n (lv' := [(1, .int ((-1))), (0, .ref o)]) hx hb dX0_bestFold_1 rfl hl (by decide) rfl (fun ls hl => ?_)
  refine lv_dconst0 hx hb dX0_bestFold_2 ?_
  refine lv_dstore_n (lv' := [(2, .double FP.dconst0), (1, .int ((-1))), (0, .ref o)]) hx hb dX0_bestFold_3 rfl hl (by decide) rfl (fun ls hl => ?_)
  refine lv_iconst (v := nI 0) hx hb dX0_bestFold_4 (by decide) ?_
  refine lv_istore (lv' := [(4, .int (nI 0)), (2, .double FP.dconst0), (1, .int ((-1))), (0, .ref o)]) hx hb dX0_bestFold_5 hl (by decide) rfl (fun ls hl => ?_)
  have LOOP7 : ∀ i, i ≤ fl → ∀ (ls : Array Slot) (H : Heap) (locs : List Loc), lv_has ls 7 [(4, .int (nI i)), (2, .double (grG mn sg cg (bfG mn sg cg i))), (1, .int (oN (bfG mn sg cg i))), (0, .ref o)] → zM base K L f s H locs → W p l e (zr 3 0 0 63) s m args below meth c H locs 0 0 Q (F0 m 7 ls []) := by
    refine z_down fl ?_ ?_
    · intro ls H locs hl hM
      cases hbf : bfG mn sg cg fl with
      | none =>
        rw [hbf] at hl
        have hl : lv_has ls 7 [(4, .int (nI fl)), (2, .double 0), (1, .int ((-1))), (0, .ref o)] := hl
        refine lv_iload hx hb dX0_bestFold_7 (lv_at hl 0 rfl) ?_
        refine lv_aload_n hx hb dX0_bestFold_9 rfl (lv_at hl 3 rfl) ?_
        refine z_get hC hM ho hfo zcl_X0 (by decide) zl_X0_19 rfl dX0_bestFold_10 ?_
        refine z_icmp_ge (tgt := 57) hx hb (nI_toInt (by omega)) (nI_toInt (by omega)) dX0_bestFold_13 (by decide) (fun c_13 => ?_) (fun c_13 => ?_)
        · refine lv_iload_n hx hb dX0_bestFold_57 rfl (lv_at hl 2 rfl) ?_
          rw [← hQ]
          exact z_iret hC hM hr hlk rfl (by decide) (by decide) ⟨by rw [hbf]; rfl, rfl, rfl⟩ dX0_bestFold_58
        · exact absurd c_13 (by omega)
      | some b =>
        rw [hbf] at hl
        have hl : lv_has ls 7 [(4, .int (nI fl)), (2, .double (sf mn sg cg b)), (1, .int (nI b)), (0, .ref o)] := hl
        have hblt := (bfG_lt _ _ hbf).1
        refine lv_iload hx hb dX0_bestFold_7 (lv_at hl 0 rfl) ?_
        refine lv_aload_n hx hb dX0_bestFold_9 rfl (lv_at hl 3 rfl) ?_
        refine z_get hC hM ho hfo zcl_X0 (by decide) zl_X0_19 rfl dX0_bestFold_10 ?_
        refine z_icmp_ge (tgt := 57) hx hb (nI_toInt (by omega)) (nI_toInt (by omega)) dX0_bestFold_13 (by decide) (fun c_13 => ?_) (fun c_13 => ?_)
        · refine lv_iload_n hx hb dX0_bestFold_57 rfl (lv_at hl 2 rfl) ?_
          rw [← hQ]
          exact z_iret hC hM hr hlk rfl (by decide) (by decide) ⟨by rw [hbf]; rfl, rfl, rfl⟩ dX0_bestFold_58
        · exact absurd c_13 (by omega)
    · intro i hi ih ls H locs hl hM
      cases hbf : bfG mn sg cg i with
      | none =>
        rw [hbf] at hl
        have hl : lv_has ls 7 [(4, .int (nI i)), (2, .double 0), (1, .int ((-1))), (0, .ref o)] := hl
        refine lv_iload hx hb dX0_bestFold_7 (lv_at hl 0 rfl) ?_
        refine lv_aload_n hx hb dX0_bestFold_9 rfl (lv_at hl 3 rfl) ?_
        refine z_get hC hM ho hfo zcl_X0 (by decide) zl_X0_19 rfl dX0_bestFold_10 ?_
        refine z_icmp_ge (tgt := 57) hx hb (nI_toInt (by omega)) (nI_toInt (by omega)) dX0_bestFold_13 (by decide) (fun c_13 => ?_) (fun c_13 => ?_)
        · exact absurd c_13 (by omega)
        · refine lv_aload_n hx hb dX0_bestFold_16 rfl (lv_at hl 3 rfl) ?_
          refine lv_iload hx hb dX0_bestFold_17 (lv_at hl 0 rfl) ?_
          refine z_fcalli (z_runV hC hM (c_hasHours ho hfo hso hfs hco hfc hcg i (by omega)) zy_X0_hasHours zm_X0_44 ho hfo zcl_X0 rfl rfl rfl hl.1 (Nat.le_of_ble_eq_true rfl) ⟨by decide, by decide⟩ ⟨by decide, by decide⟩ dX0_bestFold_19) hM (fun H locs hM => ?_)
          refine z_if_eqB (tgt := 51) hx hb dX0_bestFold_22 (by decide) (fun c_22 => ?_) (fun c_22 => ?_)
          · refine lv_iinc (v := nI (i + 1)) (lv' := [(4, .int (nI (i + 1))), (2, .double 0), (1, .int ((-1))), (0, .ref o)]) hx hb dX0_bestFold_51 hl (k := 0) rfl (nI_add i 1) (by decide) rfl (fun ls hl => ?_)
            refine lv_goto (tgt := 7) hx hb dX0_bestFold_54 (by decide) ?_
            have e9 := (bfG_no (fun h => c_22 ⟨by omega, h⟩)).trans hbf
            exact ih ls H locs (by rw [e9]; exact lv_sub hl [0, 1, 2, 3] rfl) hM
          · refine lv_aload_n hx hb dX0_bestFold_25 rfl (lv_at hl 3 rfl) ?_
            refine lv_iload hx hb dX0_bestFold_26 (lv_at hl 0 rfl) ?_
            refine z_fcalld (z_runV hC hM (c_scoreOf ho hfo hso hfs hco hfc hcg i (by omega) (hd i hi)) zy_X0_scoreOf zm_X0_52 ho hfo zcl_X0 rfl rfl rfl hl.1 (Nat.le_of_ble_eq_true rfl) ⟨by decide, by decide⟩ ⟨by decide, by decide⟩ dX0_bestFold_28) hM (fun H locs hM => ?_)
            refine lv_dstore (lv' := [(5, .double (sf mn sg cg i)), (4, .int (nI i)), (2, .double 0), (1, .int ((-1))), (0, .ref o)]) hx hb dX0_bestFold_31 hl (by decide) rfl (fun ls hl => ?_)
            refine lv_iload_n hx hb dX0_bestFold_33 rfl (lv_at hl 3 rfl) ?_
            refine lv_iconst (v := (-1)) hx hb dX0_bestFold_34 (by decide) ?_
            refine z_icmp_eq (tgt := 45) hx hb m1_toInt m1_toInt dX0_bestFold_35 (by decide) (fun c_35 => ?_) (fun c_35 => ?_)
            · refine lv_dload hx hb dX0_bestFold_45 (lv_at hl 0 rfl) ?_
              refine lv_dstore_n (lv' := [(2, .double (sf mn sg cg i)), (5, .double (sf mn sg cg i)), (4, .int (nI i)), (1, .int ((-1))), (0, .ref o)]) hx hb dX0_bestFold_47 rfl hl (by decide) rfl (fun ls hl => ?_)
              refine lv_iload hx hb dX0_bestFold_48 (lv_at hl 2 rfl) ?_
              refine lv_istore_n (lv' := [(1, .int (nI i)), (2, .double (sf mn sg cg i)), (5, .double (sf mn sg cg i)), (4, .int (nI i)), (0, .ref o)]) hx hb dX0_bestFold_50 rfl hl (by decide) rfl (fun ls hl => ?_)
              refine lv_iinc (v := nI (i + 1)) (lv' := [(4, .int (nI (i + 1))), (1, .int (nI i)), (2, .double (sf mn sg cg i)), (5, .double (sf mn sg cg i)), (0, .ref o)]) hx hb dX0_bestFold_51 hl (k := 3) rfl (nI_add i 1) (by decide) rfl (fun ls hl => ?_)
              refine lv_goto (tgt := 7) hx hb dX0_bestFold_54 (by decide) ?_
              have e9 := bfG_1 c_22.2 hbf
              exact ih ls H locs (by rw [e9]; exact lv_sub hl [0, 2, 1, 4] rfl) hM
            · exact absurd rfl c_35
      | some b =>
        rw [hbf] at hl
        have hl : lv_has ls 7 [(4, .int (nI i)), (2, .double (sf mn sg cg b)), (1, .int (nI b)), (0, .ref o)] := hl
        have hblt := (bfG_lt _ _ hbf).1
        refine lv_iload hx hb dX0_bestFold_7 (lv_at hl 0 rfl) ?_
        refine lv_aload_n hx hb dX0_bestFold_9 rfl (lv_at hl 3 rfl) ?_
        refine z_get hC hM ho hfo zcl_X0 (by decide) zl_X0_19 rfl dX0_bestFold_10 ?_
        refine z_icmp_ge (tgt := 57) hx hb (nI_toInt (by omega)) (nI_toInt (by omega)) dX0_bestFold_13 (by decide) (fun c_13 => ?_) (fun c_13 => ?_)
        · exact absurd c_13 (by omega)
        · refine lv_aload_n hx hb dX0_bestFold_16 rfl (lv_at hl 3 rfl) ?_
          refine lv_iload hx hb dX0_bestFold_17 (lv_at hl 0 rfl) ?_
          refine z_fcalli (z_runV hC hM (c_hasHours ho hfo hso hfs hco hfc hcg i (by omega)) zy_X0_hasHours zm_X0_44 ho hfo zcl_X0 rfl rfl rfl hl.1 (Nat.le_of_ble_eq_true rfl) ⟨by decide, by decide⟩ ⟨by decide, by decide⟩ dX0_bestFold_19) hM (fun H locs hM => ?_)
          refine z_if_eqB (tgt := 51) hx hb dX0_bestFold_22 (by decide) (fun c_22 => ?_) (fun c_22 => ?_)
          · refine lv_iinc (v := nI (i + 1)) (lv' := [(4, .int (nI (i + 1))), (2, .double (sf mn sg cg b)), (1, .int (nI b)), (0, .ref o)]) hx hb dX0_bestFold_51 hl (k := 0) rfl (nI_add i 1) (by decide) rfl (fun ls hl => ?_)
            refine lv_goto (tgt := 7) hx hb dX0_bestFold_54 (by decide) ?_
            have e9 := (bfG_no (fun h => c_22 ⟨by omega, h⟩)).trans hbf
            exact ih ls H locs (by rw [e9]; exact lv_sub hl [0, 1, 2, 3] rfl) hM
          · refine lv_aload_n hx hb dX0_bestFold_25 rfl (lv_at hl 3 rfl) ?_
            refine lv_iload hx hb dX0_bestFold_26 (lv_at hl 0 rfl) ?_
            refine z_fcalld (z_runV hC hM (c_scoreOf ho hfo hso hfs hco hfc hcg i (by omega) (hd i hi)) zy_X0_scoreOf zm_X0_52 ho hfo zcl_X0 rfl rfl rfl hl.1 (Nat.le_of_ble_eq_true rfl) ⟨by decide, by decide⟩ ⟨by decide, by decide⟩ dX0_bestFold_28) hM (fun H locs hM => ?_)
            refine lv_dstore (lv' := [(5, .double (sf mn sg cg i)), (4, .int (nI i)), (2, .double (sf mn sg cg b)), (1, .int (nI b)), (0, .ref o)]) hx hb dX0_bestFold_31 hl (by decide) rfl (fun ls hl => ?_)
            refine lv_iload_n hx hb dX0_bestFold_33 rfl (lv_at hl 3 rfl) ?_
            refine lv_iconst (v := (-1)) hx hb dX0_bestFold_34 (by decide) ?_
            refine z_icmp_eq (tgt := 45) hx hb (nI_toInt (by omega)) m1_toInt dX0_bestFold_35 (by decide) (fun c_35 => ?_) (fun c_35 => ?_)
            · exact absurd c_35 (by omega)
            · refine lv_dload hx hb dX0_bestFold_38 (lv_at hl 0 rfl) ?_
              refine lv_dload_n hx hb dX0_bestFold_40 rfl (lv_at hl 2 rfl) ?_
              refine lv_dcmp hx hb dX0_bestFold_41 ?_
              refine z_if_le (tgt := 51) hx hb (dc_l _ _) dX0_bestFold_42 (by decide) (fun c_42 => ?_) (fun c_42 => ?_)
              · refine lv_iinc (v := nI (i + 1)) (lv' := [(4, .int (nI (i + 1))), (5, .double (sf mn sg cg i)), (2, .double (sf mn sg cg b)), (1, .int (nI b)), (0, .ref o)]) hx hb dX0_bestFold_51 hl (k := 1) rfl (nI_add i 1) (by decide) rfl (fun ls hl => ?_)
                refine lv_goto (tgt := 7) hx hb dX0_bestFold_54 (by decide) ?_
                have e9 := bfG_3 c_22.2 hbf c_42
                exact ih ls H locs (by rw [e9]; exact lv_sub hl [0, 2, 3, 4] rfl) hM
              · refine lv_dload hx hb dX0_bestFold_45 (lv_at hl 0 rfl) ?_
                refine lv_dstore_n (lv' := [(2, .double (sf mn sg cg i)), (5, .double (sf mn sg cg i)), (4, .int (nI i)), (1, .int (nI b)), (0, .ref o)]) hx hb dX0_bestFold_47 rfl hl (by decide) rfl (fun ls hl => ?_)
                refine lv_iload hx hb dX0_bestFold_48 (lv_at hl 2 rfl) ?_
                refine lv_istore_n (lv' := [(1, .int (nI i)), (2, .double (sf mn sg cg i)), (5, .double (sf mn sg cg i)), (4, .int (nI i)), (0, .ref o)]) hx hb dX0_bestFold_50 rfl hl (by decide) rfl (fun ls hl => ?_)
                refine lv_iinc (v := nI (i + 1)) (lv' := [(4, .int (nI (i + 1))), (1, .int (nI i)), (2, .double (sf mn sg cg i)), (5, .double (sf mn sg cg i)), (0, .ref o)]) hx hb dX0_bestFold_51 hl (k := 3) rfl (nI_add i 1) (by decide) rfl (fun ls hl => ?_)
                refine lv_goto (tgt := 7) hx hb dX0_bestFold_54 (by decide) ?_
                have e9 := bfG_2 c_22.2 hbf c_42
                exact ih ls H locs (by rw [e9]; exact lv_sub hl [0, 2, 1, 4] rfl) hM
  exact LOOP7 0 (Nat.zero_le _) ls H locs (lv_sub hl [0, 1, 2, 3] rfl) hM
theorem fill_0 {α : Type} (z : Nat → α) (v : α) : (fun j => if j < 0 then v else z j) = z := by funext j; simp
theorem fill_n {α : Type} {z : Nat → α} {v : α} (h : ∀ j, 120 ≤ j → z j = v) : (fun j => if j < 120 then v else z j) = fun _ => v := by
  funext j
  by_cases c : j < 120
  · simp [c]
  · simp [c, h j (by omega)]
theorem fill_up {α : Type} (z : Nat → α) (v : α) (i : Nat) : va_up (fun j => if j < i then v else z j) i v = (fun j => if j < i + 1 then v else z j) := by
  funext j
  unfold va_up
  by_cases h : j = i
  · subst h; simp
  · by_cases h2 : j < i
    · simp [h, h2, Nat.lt_succ_of_lt h2]
    · have h3 : ¬ j < i + 1 := by omega
      simp [h, h2, h3]
set_option maxHeartbeats 400000 in
set_option maxRecDepth 100000 in
theorem c_fillD {l : Launch} {base : Nat} {K : zK} {L : List Nat} {f : Nat → va_E} {a : Nat} {z : Nat → UInt64} (ha : a ∈ L) (hfa : f a = eD K 120 z) (hz : ∀ j, 120 ≤ j → z j = FP.dconst0) : zMet l yJ7_fill_7f8df cJ7_fill_7f8df 5 (none) (zr 0 0 0 0) base K L f [.ref a, .double FP.dconst0] (zFv base K L (va_up f a (eD K 120 (fun _ => FP.dconst0)))) := by
  refine z_met (by decide) (Nat.le_of_ble_eq_true rfl) (fun p e s m below meth c ls hC hM hr hlk hnm hl => ?_)
  have hx := hC.1
  have hb := hC.2.1
  have hml := hC.2.2.1
  have hown := hC.2.2.2.1
  have hts := hC.2.2.2.2.1
  generalize hA : ([.ref a, .double FP.dconst0] : List Value).toArray = args at hC ⊢
  generalize hQ : MQ _ _ _ _ _ _ _ = Q
  obtain ⟨locs, hlocs⟩ : ∃ z : List Loc, z = [] := ⟨_, rfl⟩
  obtain ⟨H, hH⟩ : ∃ z : Heap, z = s.heap := ⟨_, rfl⟩
  rw [← hlocs, ← hH] at hM ⊢
  have hl : lv_has ls 5 [(0, .ref a), (1, .double FP.dconst0)] := hl
  refine lv_iconst (v := nI 0) hx hb dJ7_fill_7f8df_0 (by decide) ?_
  refine lv_istore_n (lv' := [(3, .int (nI 0)), (0, .ref a), (1, .double FP.dconst0)]) hx hb dJ7_fill_7f8df_1 rfl hl (by decide) rfl (fun ls hl => ?_)
  refine lv_aload_n hx hb dJ7_fill_7f8df_2 rfl (lv_at hl 1 rfl) ?_
  refine z_alen (n := 120) 0 hC hM ha hfa rfl rfl dJ7_fill_7f8df_3 ?_
  refine lv_istore (lv' := [(4, .int (nI 120)), (3, .int (nI 0)), (0, .ref a), (1, .double FP.dconst0)]) hx hb dJ7_fill_7f8df_4 hl (by decide) rfl (fun ls hl => ?_)
  have LOOP6 : ∀ i, i ≤ 120 → ∀ (ls : Array Slot) (H : Heap) (locs : List Loc) (f1 : Nat → va_E), lv_has ls 5 [(4, .int (nI 120)), (3, .int (nI i)), (0, .ref a), (1, .double FP.dconst0)] → zM base K L f1 s H locs → f1 a = eD K 120 (fun j => if j < i then FP.dconst0 else z j) → (∀ q, q ≠ a → f1 q = f q) → W p l e (zr 0 0 0 0) s m args below meth c H locs 0 0 Q (F0 m 6 ls []) := by
    refine z_down 120 ?_ ?_
    · intro ls H locs f1 hl hM hG0 hfr
      refine lv_iload_n hx hb dJ7_fill_7f8df_6 rfl (lv_at hl 1 rfl) ?_
      refine lv_iload hx hb dJ7_fill_7f8df_7 (lv_at hl 0 rfl) ?_
      refine z_icmp_ge (tgt := 22) hx hb (nI_toInt (by decide)) (nI_toInt (by decide)) dJ7_fill_7f8df_9 (by decide) (fun c_9 => ?_) (fun c_9 => ?_)
      · rw [← hQ]
        exact z_vret hC hM hr hlk (by decide) (by decide) ⟨rfl, up1_ext (by rw [hG0, fill_n hz]) hfr⟩ dJ7_fill_7f8df_22
      · exact absurd c_9 (by omega)
    · intro i hi ih ls H locs f1 hl hM hG0 hfr
      refine lv_iload_n hx hb dJ7_fill_7f8df_6 rfl (lv_at hl 1 rfl) ?_
      refine lv_iload hx hb dJ7_fill_7f8df_7 (lv_at hl 0 rfl) ?_
      refine z_icmp_ge (tgt := 22) hx hb (nI_toInt (by omega)) (nI_toInt (by decide)) dJ7_fill_7f8df_9 (by decide) (fun c_9 => ?_) (fun c_9 => ?_)
      · exact absurd c_9 (by omega)
      · refine lv_aload_n hx hb dJ7_fill_7f8df_12 rfl (lv_at hl 2 rfl) ?_
        refine lv_iload_n hx hb dJ7_fill_7f8df_13 rfl (lv_at hl 1 rfl) ?_
        refine lv_dload_n hx hb dJ7_fill_7f8df_14 rfl (lv_at hl 3 rfl) ?_
        refine z_dast hC hM ha hG0 (by omega) (by omega) dJ7_fill_7f8df_15 (fun H locs hM => ?_)
        obtain ⟨f_1, ef_1⟩ : ∃ z9, z9 = va_up f1 a (eD K 120 (va_up (fun j => if j < i then FP.dconst0 else z j) i FP.dconst0)) := ⟨_, rfl⟩
        rw [← ef_1] at hM
        have hF_2 : f_1 a = eD K 120 (va_up (fun j => if j < i then FP.dconst0 else z j) i FP.dconst0) := by rw [ef_1]; exact va_up_self _ _ _
        refine lv_iinc (v := nI (i + 1)) (lv' := [(3, .int (nI (i + 1))), (4, .int (nI 120)), (0, .ref a), (1, .double FP.dconst0)]) hx hb dJ7_fill_7f8df_16 hl (k := 1) rfl (nI_add i 1) (by decide) rfl (fun ls hl => ?_)
        refine lv_goto (tgt := 6) hx hb dJ7_fill_7f8df_19 (by decide) ?_
        have e9 : f_1 a = eD K 120 (fun j => if j < i + 1 then FP.dconst0 else z j) := by
          rw [hF_2]
          rw [fill_up]
        have hfr : ∀ q, q ≠ a → f_1 q = f q := fun q hq0 => by
          rw [ef_1]
          simp only [va_up, hq0, if_false]
          exact hfr q hq0
        exact ih ls H locs f_1 (lv_sub hl [1, 0, 2, 3] rfl) hM e9 hfr
  exact LOOP6 0 (Nat.zero_le _) ls H locs f (lv_sub hl [0, 1, 2, 3] rfl) hM (by rw [hfa, fill_0]) (fun _ _ => rfl)
set_option maxHeartbeats 400000 in
set_option maxRecDepth 100000 in
theorem c_fillI {l : Launch} {base : Nat} {K : zK} {L : List Nat} {f : Nat → va_E} {a : Nat} {z : Nat → Int32} (ha : a ∈ L) (hfa : f a = eI K 120 z) (hz : ∀ j, 120 ≤ j → z j = nI 0) : zMet l yJ7_fill_53178 cJ7_fill_53178 4 (none) (zr 0 0 0 0) base K L f [.ref a, .int (nI 0)] (zFv base K L (va_up f a (eI K 120 (fun _ => nI 0)))) := by
  refine z_met (by decide) (Nat.le_of_ble_eq_true rfl) (fun p e s m below meth c ls hC hM hr hlk hnm hl => ?_)
  have hx := hC.1
  have hb := hC.2.1
  have hml := hC.2.2.1
  have hown := hC.2.2.2.1
  have hts := hC.2.2.2.2.1
  generalize hA : ([.ref a, .int (nI 0)] : List Value).toArray = args at hC ⊢
  generalize hQ : MQ _ _ _ _ _ _ _ = Q
  obtain ⟨locs, hlocs⟩ : ∃ z : List Loc, z = [] := ⟨_, rfl⟩
  obtain ⟨H, hH⟩ : ∃ z : Heap, z = s.heap := ⟨_, rfl⟩
  rw [← hlocs, ← hH] at hM ⊢
  have hl : lv_has ls 4 [(0, .ref a), (1, .int (nI 0))] := hl
  refine lv_iconst (v := nI 0) hx hb dJ7_fill_53178_0 (by decide) ?_
  refine lv_istore_n (lv' := [(2, .int (nI 0)), (0, .ref a), (1, .int (nI 0))]) hx hb dJ7_fill_53178_1 rfl hl (by decide) rfl (fun ls hl => ?_)
  refine lv_aload_n hx hb dJ7_fill_53178_2 rfl (lv_at hl 1 rfl) ?_
  refine z_alen (n := 120) 1 hC hM ha hfa rfl rfl dJ7_fill_53178_3 ?_
  refine lv_istore_n (lv' := [(3, .int (nI 120)), (2, .int (nI 0)), (0, .ref a), (1, .int (nI 0))]) hx hb dJ7_fill_53178_4 rfl hl (by decide) rfl (fun ls hl => ?_)
  have LOOP5 : ∀ i, i ≤ 120 → ∀ (ls : Array Slot) (H : Heap) (locs : List Loc) (f1 : Nat → va_E), lv_has ls 4 [(3, .int (nI 120)), (2, .int (nI i)), (0, .ref a), (1, .int (nI 0))] → zM base K L f1 s H locs → f1 a = eI K 120 (fun j => if j < i then nI 0 else z j) → (∀ q, q ≠ a → f1 q = f q) → W p l e (zr 0 0 0 0) s m args below meth c H locs 0 0 Q (F0 m 5 ls []) := by
    refine z_down 120 ?_ ?_
    · intro ls H locs f1 hl hM hG0 hfr
      refine lv_iload_n hx hb dJ7_fill_53178_5 rfl (lv_at hl 1 rfl) ?_
      refine lv_iload_n hx hb dJ7_fill_53178_6 rfl (lv_at hl 0 rfl) ?_
      refine z_icmp_ge (tgt := 20) hx hb (nI_toInt (by decide)) (nI_toInt (by decide)) dJ7_fill_53178_7 (by decide) (fun c_7 => ?_) (fun c_7 => ?_)
      · rw [← hQ]
        exact z_vret hC hM hr hlk (by decide) (by decide) ⟨rfl, up1_ext (by rw [hG0, fill_n hz]) hfr⟩ dJ7_fill_53178_20
      · exact absurd c_7 (by omega)
    · intro i hi ih ls H locs f1 hl hM hG0 hfr
      refine lv_iload_n hx hb dJ7_fill_53178_5 rfl (lv_at hl 1 rfl) ?_
      refine lv_iload_n hx hb dJ7_fill_53178_6 rfl (lv_at hl 0 rfl) ?_
      refine z_icmp_ge (tgt := 20) hx hb (nI_toInt (by omega)) (nI_toInt (by decide)) dJ7_fill_53178_7 (by decide) (fun c_7 => ?_) (fun c_7 => ?_)
      · exact absurd c_7 (by omega)
      · refine lv_aload_n hx hb dJ7_fill_53178_10 rfl (lv_at hl 2 rfl) ?_
        refine lv_iload_n hx hb dJ7_fill_53178_11 rfl (lv_at hl 1 rfl) ?_
        refine lv_iload_n hx hb dJ7_fill_53178_12 rfl (lv_at hl 3 rfl) ?_
        refine z_iast hC hM ha hG0 (by omega) (by omega) dJ7_fill_53178_13 (fun H locs hM => ?_)
        obtain ⟨f_1, ef_1⟩ : ∃ z9, z9 = va_up f1 a (eI K 120 (va_up (fun j => if j < i then nI 0 else z j) i (nI 0))) := ⟨_, rfl⟩
        rw [← ef_1] at hM
        have hF_2 : f_1 a = eI K 120 (va_up (fun j => if j < i then nI 0 else z j) i (nI 0)) := by rw [ef_1]; exact va_up_self _ _ _
        refine lv_iinc (v := nI (i + 1)) (lv' := [(2, .int (nI (i + 1))), (3, .int (nI 120)), (0, .ref a), (1, .int (nI 0))]) hx hb dJ7_fill_53178_14 hl (k := 1) rfl (nI_add i 1) (by decide) rfl (fun ls hl => ?_)
        refine lv_goto (tgt := 5) hx hb dJ7_fill_53178_17 (by decide) ?_
        have e9 : f_1 a = eI K 120 (fun j => if j < i + 1 then nI 0 else z j) := by
          rw [hF_2]
          rw [fill_up]
        have hfr : ∀ q, q ≠ a → f_1 q = f q := fun q hq0 => by
          rw [ef_1]
          simp only [va_up, hq0, if_false]
          exact hfr q hq0
        exact ih ls H locs f_1 (lv_sub hl [1, 0, 2, 3] rfl) hM e9 hfr
  exact LOOP5 0 (Nat.zero_le _) ls H locs f (lv_sub hl [0, 1, 2, 3] rfl) hM (by rw [hfa, fill_0]) (fun _ _ => rfl)
theorem fS_0 (g : Nat → UInt64) (p : Nat) : (fun _ : Nat => FP.dconst0) = fS g p 0 := by funext j; rfl
theorem fC_0 (g : Nat → UInt64) (p : Nat) : (fun _ : Nat => nI 0) = fun j => nI (fC g p 0 j) := by funext j; rfl
theorem fS_out {g : Nat → UInt64} {p : Nat} (hp : 0 < p) : ∀ h j, p ≤ j → fS g p h j = 0
  | 0, _, _ => rfl
  | h + 1, j, hj => by
    have := Nat.mod_lt h hp
    rw [fS, if_neg (fun q => by omega)]
    exact fS_out hp h j hj
theorem fC_out {g : Nat → UInt64} {p : Nat} (hp : 0 < p) : ∀ h j, p ≤ j → fC g p h j = 0
  | 0, _, _ => rfl
  | h + 1, j, hj => by
    have := Nat.mod_lt h hp
    rw [fC, if_neg (fun q => by omega)]
    exact fC_out hp h j hj
set_option maxHeartbeats 400000 in
set_option maxRecDepth 100000 in
theorem c_foldBy {l : Launch} {base : Nat} {K : zK} {L : List Nat} {f : Nat → va_E} {o so co fl nn lo kc : Nat} {mn : UInt64} {sg : Nat → UInt64} {cg : Nat → Nat} {g : Nat → UInt64} (ho : o ∈ L) (hfo : f o = eS 1 [.ref so, .ref co, .int (nI fl), .double mn]) (hso : so ∈ L) (hfs : f so = eD K 120 sg) (hco : co ∈ L) (hfc : f co = eI K 120 (fun j => nI (cg j))) (hz1 : ∀ j, 120 ≤ j → sg j = FP.dconst0) (hz2 : ∀ j, 120 ≤ j → nI (cg j) = nI 0) (hnn : nn ∈ L) (hfn : f nn = eS 2 [.ref lo, .int (nI kc)]) (hlo : lo ∈ L) (hfl : f lo = eD K 1000 g) (hkc : kc = fN g 1000) (hFP : FPok g) (n_o_so : o ≠ so) (n_o_co : o ≠ co) (n_o_nn : o ≠ nn) (n_o_lo : o ≠ lo) (n_so_co : so ≠ co) (n_so_nn : so ≠ nn) (n_so_lo : so ≠ lo) (n_co_nn : co ≠ nn) (n_co_lo : co ≠ lo) (n_nn_lo : nn ≠ lo) {pr : Nat} (hp : 0 < pr) (hp2 : pr ≤ 120) : zMet l yX0_foldBy cX0_foldBy 8 (none) (zr 1 0 0 24) base K L f [.ref o, .int (nI pr), .ref nn] (zFv base K L (va_up (va_up (va_up f so (eD K 120 (fS g pr 1000))) co (eI K 120 (fun j => nI (fC g pr 1000 j)))) o (eS 1 [.ref so, .ref co, .int (nI pr), .double (mnT g)]))) := by
  have hkl := fN_le g 1000
  refine z_met (by decide) (Nat.le_of_ble_eq_true rfl) (fun p e s m below meth c ls hC hM hr hlk hnm hl => ?_)
  have hx := hC.1
  have hb := hC.2.1
  have hml := hC.2.2.1
  have hown := hC.2.2.2.1
  have hts := hC.2.2.2.2.1
  generalize hA : ([.ref o, .int (nI pr), .ref nn] : List Value).toArray = args at hC ⊢
  generalize hQ : MQ _ _ _ _ _ _ _ = Q
  obtain ⟨locs, hlocs⟩ : ∃ z : List Loc, z = [] := ⟨_, rfl⟩
  obtain ⟨H, hH⟩ : ∃ z : Heap, z = s.heap := ⟨_, rfl⟩
  rw [← hlocs, ← hH] at hM ⊢
  have hl : lv_has ls 8 [(0, .ref o), (1, .int (nI pr)), (2, .ref nn)] := hl
  refine lv_aload_n hx hb dX0_foldBy_0 rfl (lv_at hl 0 rfl) ?_
  refine z_get hC hM ho hfo zcl_X0 (by decide) zl_X0_9 rfl dX0_foldBy_1 ?_
  refine lv_dconst0 hx hb dX0_foldBy_4 ?_
  refine z_fcallv (z_runS hC hM (c_fillD hso hfs hz1) zy_J7_fill_7f8df zm_X0_27 rfl rfl hl.1 (Nat.le_of_ble_eq_true rfl) ⟨by decide, by decide⟩ ⟨by decide, by decide⟩ dX0_foldBy_5) hM (fun H locs hM => ?_)
  obtain ⟨f_1, ef_1⟩ : ∃ z9, z9 = va_up f so (eD K 120 (fun _ => FP.dconst0)) := ⟨_, rfl⟩
  rw [← ef_1] at hM
  have hF_2 : f_1 o = eS 1 [.ref so, .ref co, .int (nI fl), .double mn] := by rw [ef_1]; exact (va_up_ne _ _ n_o_so).trans hfo
  have hF_3 : f_1 so = eD K 120 (fun _ => FP.dconst0) := by rw [ef_1]; exact va_up_self _ _ _
  have hF_4 : f_1 co = eI K 120 (fun j => nI (cg j)) := by rw [ef_1]; exact (va_up_ne _ _ (Ne.symm n_so_co)).trans hfc
  have hF_5 : f_1 nn = eS 2 [.ref lo, .int (nI kc)] := by rw [ef_1]; exact (va_up_ne _ _ (Ne.symm n_so_nn)).trans hfn
  have hF_6 : f_1 lo = eD K 1000 g := by rw [ef_1]; exact (va_up_ne _ _ (Ne.symm n_so_lo)).trans hfl
  refine lv_aload_n hx hb dX0_foldBy_8 rfl (lv_at hl 0 rfl) ?_
  refine z_get hC hM ho hF_2 zcl_X0 (by decide) zl_X0_15 rfl dX0_foldBy_9 ?_
  refine lv_iconst (v := nI 0) hx hb dX0_foldBy_12 (by decide) ?_
  refine z_fcallv (z_runS hC hM (c_fillI hco hF_4 hz2) zy_J7_fill_53178 zm_X0_33 rfl rfl hl.1 (Nat.le_of_ble_eq_true rfl) ⟨by decide, by decide⟩ ⟨by decide, by decide⟩ dX0_foldBy_13) hM (fun H locs hM => ?_)
  obtain ⟨f_7, ef_7⟩ : ∃ z9, z9 = va_up f_1 co (eI K 120 (fun _ => nI 0)) := ⟨_, rfl⟩
  rw [← ef_7] at hM
  have hF_8 : f_7 o = eS 1 [.ref so, .ref co, .int (nI fl), .double mn] := by rw [ef_7]; exact (va_up_ne _ _ n_o_co).trans hF_2
  have hF_9 : f_7 so = eD K 120 (fun _ => FP.dconst0) := by rw [ef_7]; exact (va_up_ne _ _ n_so_co).trans hF_3
  have hF_10 : f_7 co = eI K 120 (fun _ => nI 0) := by rw [ef_7]; exact va_up_self _ _ _
  have hF_11 : f_7 nn = eS 2 [.ref lo, .int (nI kc)] := by rw [ef_7]; exact (va_up_ne _ _ (Ne.symm n_co_nn)).trans hF_5
  have hF_12 : f_7 lo = eD K 1000 g := by rw [ef_7]; exact (va_up_ne _ _ (Ne.symm n_co_lo)).trans hF_6
  refine lv_aload_n hx hb dX0_foldBy_16 rfl (lv_at hl 0 rfl) ?_
  refine lv_iconst (v := nI 0) hx hb dX0_foldBy_17 (by decide) ?_
  refine z_put (fs' := [.ref so, .ref co, .int (nI 0), .double mn]) hC hM ho hF_8 zcl_X0 (by decide) zl_X0_19 rfl rfl (by rfl) (Nat.le_of_ble_eq_true rfl) rfl dX0_foldBy_18 (fun H locs hM => ?_)
  obtain ⟨f_13, ef_13⟩ : ∃ z9, z9 = va_up f_7 o (eS 1 [.ref so, .ref co, .int (nI 0), .double mn]) := ⟨_, rfl⟩
  rw [← ef_13] at hM
  have hF_14 : f_13 o = eS 1 [.ref so, .ref co, .int (nI 0), .double mn] := by rw [ef_13]; exact va_up_self _ _ _
  have hF_15 : f_13 so = eD K 120 (fun _ => FP.dconst0) := by rw [ef_13]; exact (va_up_ne _ _ (Ne.symm n_o_so)).trans hF_9
  have hF_16 : f_13 co = eI K 120 (fun _ => nI 0) := by rw [ef_13]; exact (va_up_ne _ _ (Ne.symm n_o_co)).trans hF_10
  have hF_17 : f_13 nn = eS 2 [.ref lo, .int (nI kc)] := by rw [ef_13]; exact (va_up_ne _ _ (Ne.symm n_o_nn)).trans hF_11
  have hF_18 : f_13 lo = eD K 1000 g := by rw [ef_13]; exact (va_up_ne _ _ (Ne.symm n_o_lo)).trans hF_12
  refine lv_aload_n hx hb dX0_foldBy_21 rfl (lv_at hl 0 rfl) ?_
  refine lv_dconst0 hx hb dX0_foldBy_22 ?_
  refine z_put (fs' := [.ref so, .ref co, .int (nI 0), .double FP.dconst0]) hC hM ho hF_14 zcl_X0 (by decide) zl_X0_23 rfl rfl (by rfl) (Nat.le_of_ble_eq_true rfl) rfl dX0_foldBy_23 (fun H locs hM => ?_)
  obtain ⟨f_19, ef_19⟩ : ∃ z9, z9 = va_up f_13 o (eS 1 [.ref so, .ref co, .int (nI 0), .double FP.dconst0]) := ⟨_, rfl⟩
  rw [← ef_19] at hM
  have hF_20 : f_19 o = eS 1 [.ref so, .ref co, .int (nI 0), .double FP.dconst0] := by rw [ef_19]; exact va_up_self _ _ _
  have hF_21 : f_19 so = eD K 120 (fun _ => FP.dconst0) := by rw [ef_19]; exact (va_up_ne _ _ (Ne.symm n_o_so)).trans hF_15
  have hF_22 : f_19 co = eI K 120 (fun _ => nI 0) := by rw [ef_19]; exact (va_up_ne _ _ (Ne.symm n_o_co)).trans hF_16
  have hF_23 : f_19 nn = eS 2 [.ref lo, .int (nI kc)] := by rw [ef_19]; exact (va_up_ne _ _ (Ne.symm n_o_nn)).trans hF_17
  have hF_24 : f_19 lo = eD K 1000 g := by rw [ef_19]; exact (va_up_ne _ _ (Ne.symm n_o_lo)).trans hF_18
  refine lv_iload_n hx hb dX0_foldBy_26 rfl (lv_at hl 1 rfl) ?_
  refine lv_iconst (v := nI 1) hx hb dX0_foldBy_27 (by decide) ?_
  refine z_icmp_lt (tgt := 49) hx hb (nI_toInt (by omega)) (nI_toInt (by decide)) dX0_foldBy_28 (by decide) (fun c_28 => ?_) (fun c_28 => ?_)
  · exact absurd c_28 (by omega)
  · refine lv_iload_n hx hb dX0_foldBy_31 rfl (lv_at hl 1 rfl) ?_
    refine lv_aload_n hx hb dX0_foldBy_32 rfl (lv_at hl 0 rfl) ?_
    refine z_get hC hM ho hF_20 zcl_X0 (by decide) zl_X0_9 rfl dX0_foldBy_33 ?_
    refine z_alen (n := 120) 0 hC hM hso hF_21 rfl rfl dX0_foldBy_36 ?_
    refine z_icmp_gt (tgt := 49) hx hb (nI_toInt (by omega)) (nI_toInt (by decide)) dX0_foldBy_37 (by decide) (fun c_37 => ?_) (fun c_37 => ?_)
    · exact absurd c_37 (by omega)
    · refine lv_iload_n hx hb dX0_foldBy_40 rfl (lv_at hl 1 rfl) ?_
      refine lv_aload_n hx hb dX0_foldBy_41 rfl (lv_at hl 0 rfl) ?_
      refine z_get hC hM ho hF_20 zcl_X0 (by decide) zl_X0_15 rfl dX0_foldBy_42 ?_
      refine z_alen (n := 120) 1 hC hM hco hF_22 rfl rfl dX0_foldBy_45 ?_
      refine z_icmp_le (tgt := 50) hx hb (nI_toInt (by omega)) (nI_toInt (by decide)) dX0_foldBy_46 (by decide) (fun c_46 => ?_) (fun c_46 => ?_)
      · refine lv_aload_n hx hb dX0_foldBy_50 rfl (lv_at hl 0 rfl) ?_
        refine lv_iload_n hx hb dX0_foldBy_51 rfl (lv_at hl 1 rfl) ?_
        refine z_put (fs' := [.ref so, .ref co, .int (nI pr), .double FP.dconst0]) hC hM ho hF_20 zcl_X0 (by decide) zl_X0_19 rfl rfl (by rfl) (Nat.le_of_ble_eq_true rfl) rfl dX0_foldBy_52 (fun H locs hM => ?_)
        obtain ⟨f_25, ef_25⟩ : ∃ z9, z9 = va_up f_19 o (eS 1 [.ref so, .ref co, .int (nI pr), .double FP.dconst0]) := ⟨_, rfl⟩
        rw [← ef_25] at hM
        have hF_26 : f_25 o = eS 1 [.ref so, .ref co, .int (nI pr), .double FP.dconst0] := by rw [ef_25]; exact va_up_self _ _ _
        have hF_27 : f_25 so = eD K 120 (fun _ => FP.dconst0) := by rw [ef_25]; exact (va_up_ne _ _ (Ne.symm n_o_so)).trans hF_21
        have hF_28 : f_25 co = eI K 120 (fun _ => nI 0) := by rw [ef_25]; exact (va_up_ne _ _ (Ne.symm n_o_co)).trans hF_22
        have hF_29 : f_25 nn = eS 2 [.ref lo, .int (nI kc)] := by rw [ef_25]; exact (va_up_ne _ _ (Ne.symm n_o_nn)).trans hF_23
        have hF_30 : f_25 lo = eD K 1000 g := by rw [ef_25]; exact (va_up_ne _ _ (Ne.symm n_o_lo)).trans hF_24
        refine lv_aload_n hx hb dX0_foldBy_55 rfl (lv_at hl 2 rfl) ?_
        refine z_getN hC hM hnn hF_29 zcl_X1 (by decide) zl_X0_36 rfl dX0_foldBy_56 ?_
        refine lv_astore_n (lv' := [(3, .ref lo), (0, .ref o), (1, .int (nI pr)), (2, .ref nn)]) hx hb dX0_foldBy_59 rfl hl (by decide) rfl (fun ls hl => ?_)
        refine lv_dconst0 hx hb dX0_foldBy_60 ?_
        refine lv_dstore (lv' := [(4, .double FP.dconst0), (3, .ref lo), (0, .ref o), (1, .int (nI pr)), (2, .ref nn)]) hx hb dX0_foldBy_61 hl (by decide) rfl (fun ls hl => ?_)
        refine lv_iconst (v := nI 0) hx hb dX0_foldBy_63 (by decide) ?_
        refine lv_istore (lv' := [(6, .int (nI 0)), (4, .double FP.dconst0), (3, .ref lo), (0, .ref o), (1, .int (nI pr)), (2, .ref nn)]) hx hb dX0_foldBy_64 hl (by decide) rfl (fun ls hl => ?_)
        have LOOP66 : ∀ i, i ≤ 1000 → ∀ (ls : Array Slot) (H : Heap) (locs : List Loc) (f1 : Nat → va_E), lv_has ls 8 [(6, .int (nI i)), (4, .double (fT g i)), (3, .ref lo), (0, .ref o), (1, .int (nI pr)), (2, .ref nn)] → zM base K L f1 s H locs → f1 o = eS 1 [.ref so, .ref co, .int (nI pr), .double FP.dconst0] → f1 so = eD K 120 (fS g pr i) → f1 co = eI K 120 (fun j => nI ((fC g pr i) j)) → f1 nn = eS 2 [.ref lo, .int (nI kc)] → f1 lo = eD K 1000 g → (∀ q, q ≠ so → q ≠ co → f1 q = f_25 q) → W p l e (zr 1 0 0 24) s m args below meth c H locs 0 0 Q (F0 m 66 ls []) := by
          refine z_down 1000 ?_ ?_
          · intro ls H locs f1 hl hM hG0 hG1 hG2 hG3 hG4 hfr
            refine lv_iload hx hb dX0_foldBy_66 (lv_at hl 0 rfl) ?_
            refine lv_aload_n hx hb dX0_foldBy_68 rfl (lv_at hl 2 rfl) ?_
            refine z_alen (n := 1000) 0 hC hM hlo hG4 rfl rfl dX0_foldBy_69 ?_
            refine z_icmp_ge (tgt := 133) hx hb (nI_toInt (by decide)) (nI_toInt (by decide)) dX0_foldBy_70 (by decide) (fun c_70 => ?_) (fun c_70 => ?_)
            · refine lv_aload_n hx hb dX0_foldBy_133 rfl (lv_at hl 5 rfl) ?_
              refine z_getN hC hM hnn hG3 zcl_X1 (by decide) zl_X0_41 rfl dX0_foldBy_134 ?_
              refine z_if_le (tgt := 152) hx hb (nI_toInt (by omega)) dX0_foldBy_137 (by decide) (fun c_137 => ?_) (fun c_137 => ?_)
              · skip
                have hmn : mnT g = FP.dconst0 := by rw [mnT, if_neg (by omega)]; exact rfl
                rw [← hQ]
                exact z_vret hC hM hr hlk (by decide) (by decide) ⟨rfl, up3_ext (Ne.symm n_o_so) (Ne.symm n_o_co) n_so_co hG1 hG2 (by rw [hG0, hmn]) (fun q h1 h2 h3 => by rw [hfr q h1 h2, ef_25, ef_19, ef_13, ef_7, ef_1]; simp only [va_up, h1, h2, h3, if_false])⟩ dX0_foldBy_152
              · skip
                have hmn : mnT g = FP.ddiv (fT g 1000) (FP.i2d (nI kc)) := by rw [mnT, if_pos (by omega), ← hkc]; exact rfl
                refine lv_aload_n hx hb dX0_foldBy_140 rfl (lv_at hl 3 rfl) ?_
                refine lv_dload hx hb dX0_foldBy_141 (lv_at hl 1 rfl) ?_
                refine lv_aload_n hx hb dX0_foldBy_143 rfl (lv_at hl 5 rfl) ?_
                refine z_getN hC hM hnn hG3 zcl_X1 (by decide) zl_X0_41 rfl dX0_foldBy_144 ?_
                refine lv_i2d hx hb dX0_foldBy_147 ?_
                refine lv_ddiv hx hb dX0_foldBy_148 (by rw [hkc]; exact hFP.2.2.2.2.1 (by omega)) ?_
                refine z_put (fs' := [.ref so, .ref co, .int (nI pr), .double (FP.ddiv (fT g 1000) (FP.i2d (nI kc)))]) hC hM ho hG0 zcl_X0 (by decide) zl_X0_23 rfl rfl (by rfl) (Nat.le_of_ble_eq_true rfl) rfl dX0_foldBy_149 (fun H locs hM => ?_)
                obtain ⟨f_31, ef_31⟩ : ∃ z9, z9 = va_up f1 o (eS 1 [.ref so, .ref co, .int (nI pr), .double (FP.ddiv (fT g 1000) (FP.i2d (nI kc)))]) := ⟨_, rfl⟩
                rw [← ef_31] at hM
                have hF_32 : f_31 o = eS 1 [.ref so, .ref co, .int (nI pr), .double (FP.ddiv (fT g 1000) (FP.i2d (nI kc)))] := by rw [ef_31]; exact va_up_self _ _ _
                have hF_33 : f_31 so = eD K 120 (fS g pr 1000) := by rw [ef_31]; exact (va_up_ne _ _ (Ne.symm n_o_so)).trans hG1
                have hF_34 : f_31 co = eI K 120 (fun j => nI ((fC g pr 1000) j)) := by rw [ef_31]; exact (va_up_ne _ _ (Ne.symm n_o_co)).trans hG2
                have hF_35 : f_31 nn = eS 2 [.ref lo, .int (nI kc)] := by rw [ef_31]; exact (va_up_ne _ _ (Ne.symm n_o_nn)).trans hG3
                have hF_36 : f_31 lo = eD K 1000 g := by rw [ef_31]; exact (va_up_ne _ _ (Ne.symm n_o_lo)).trans hG4
                rw [← hQ]
                exact z_vret hC hM hr hlk (by decide) (by decide) ⟨rfl, up3_ext (Ne.symm n_o_so) (Ne.symm n_o_co) n_so_co hF_33 hF_34 (by rw [hF_32, hmn]) (fun q h1 h2 h3 => by rw [ef_31]; simp only [va_up, h1, h2, h3, if_false]; rw [hfr q h1 h2, ef_25, ef_19, ef_13, ef_7, ef_1]; simp only [va_up, h1, h2, h3, if_false])⟩ dX0_foldBy_152
            · exact absurd c_70 (by omega)
          · intro i hi ih ls H locs f1 hl hM hG0 hG1 hG2 hG3 hG4 hfr
            refine lv_iload hx hb dX0_foldBy_66 (lv_at hl 0 rfl) ?_
            refine lv_aload_n hx hb dX0_foldBy_68 rfl (lv_at hl 2 rfl) ?_
            refine z_alen (n := 1000) 0 hC hM hlo hG4 rfl rfl dX0_foldBy_69 ?_
            refine z_icmp_ge (tgt := 133) hx hb (nI_toInt (by omega)) (nI_toInt (by decide)) dX0_foldBy_70 (by decide) (fun c_70 => ?_) (fun c_70 => ?_)
            · exact absurd c_70 (by omega)
            · refine lv_aload_n hx hb dX0_foldBy_73 rfl (lv_at hl 2 rfl) ?_
              refine lv_iload hx hb dX0_foldBy_74 (lv_at hl 0 rfl) ?_
              refine z_dald hC hM hlo hG4 (by omega) (by omega) dX0_foldBy_76 ?_
              refine lv_dconst0 hx hb dX0_foldBy_77 ?_
              refine lv_dcmp hx hb dX0_foldBy_78 ?_
              refine z_if_le (tgt := 127) hx hb (dc_l _ _) dX0_foldBy_79 (by decide) (fun c_79 => ?_) (fun c_79 => ?_)
              · skip
                have hk : ¬ g i ≠ 0 := fun q => absurd ((hFP.1 i hi).mpr q) (by omega)
                refine lv_iinc (v := nI (i + 1)) (lv' := [(6, .int (nI (i + 1))), (4, .double (fT g i)), (3, .ref lo), (0, .ref o), (1, .int (nI pr)), (2, .ref nn)]) hx hb dX0_foldBy_127 hl (k := 0) rfl (nI_add i 1) (by decide) rfl (fun ls hl => ?_)
                refine lv_goto (tgt := 66) hx hb dX0_foldBy_130 (by decide) ?_
                have e1 : f1 so = eD K 120 (fS g pr (i + 1)) := by rw [hG1, ← fS_no hk]
                have e2 : f1 co = eI K 120 (fun j => nI (fC g pr (i + 1) j)) := by rw [hG2, ← fC_no hk]
                rw [fT_no hk] at hl
                exact ih ls H locs f1 (lv_sub hl [0, 1, 2, 3, 4, 5] rfl) hM hG0 e1 e2 hG3 hG4 hfr
              · skip
                have hk : g i ≠ 0 := (hFP.1 i hi).mp c_79
                have hmod : i % pr < pr := Nat.mod_lt _ hp
                refine lv_iload hx hb dX0_foldBy_82 (lv_at hl 0 rfl) ?_
                refine lv_iload_n hx hb dX0_foldBy_84 rfl (lv_at hl 4 rfl) ?_
                refine z_irem hx hb (by omega) (by omega) (by omega) dX0_foldBy_85 ?_
                refine lv_istore (lv' := [(7, .int (nI (i % pr))), (6, .int (nI i)), (4, .double (fT g i)), (3, .ref lo), (0, .ref o), (1, .int (nI pr)), (2, .ref nn)]) hx hb dX0_foldBy_86 hl (by decide) rfl (fun ls hl => ?_)
                refine lv_aload_n hx hb dX0_foldBy_88 rfl (lv_at hl 4 rfl) ?_
                refine z_get hC hM ho hG0 zcl_X0 (by decide) zl_X0_9 rfl dX0_foldBy_89 ?_
                refine lv_iload hx hb dX0_foldBy_92 (lv_at hl 0 rfl) ?_
                refine lv_aload_n hx hb dX0_foldBy_94 rfl (lv_at hl 4 rfl) ?_
                refine z_get hC hM ho hG0 zcl_X0 (by decide) zl_X0_9 rfl dX0_foldBy_95 ?_
                refine lv_iload hx hb dX0_foldBy_98 (lv_at hl 0 rfl) ?_
                refine z_dald hC hM hso hG1 (by omega) (by omega) dX0_foldBy_100 ?_
                refine lv_aload_n hx hb dX0_foldBy_101 rfl (lv_at hl 3 rfl) ?_
                refine lv_iload hx hb dX0_foldBy_102 (lv_at hl 1 rfl) ?_
                refine z_dald hC hM hlo hG4 (by omega) (by omega) dX0_foldBy_104 ?_
                refine lv_dadd hx hb dX0_foldBy_105 (hFP.2.1 pr i (i % pr) hi hk) ?_
                refine z_dast hC hM hso hG1 (by omega) (by omega) dX0_foldBy_106 (fun H locs hM => ?_)
                obtain ⟨f_37, ef_37⟩ : ∃ z9, z9 = va_up f1 so (eD K 120 (va_up (fS g pr i) (i % pr) (FP.dadd ((fS g pr i) (i % pr)) (g i)))) := ⟨_, rfl⟩
                rw [← ef_37] at hM
                have hF_38 : f_37 o = eS 1 [.ref so, .ref co, .int (nI pr), .double FP.dconst0] := by rw [ef_37]; exact (va_up_ne _ _ n_o_so).trans hG0
                have hF_39 : f_37 so = eD K 120 (va_up (fS g pr i) (i % pr) (FP.dadd ((fS g pr i) (i % pr)) (g i))) := by rw [ef_37]; exact va_up_self _ _ _
                have hF_40 : f_37 co = eI K 120 (fun j => nI ((fC g pr i) j)) := by rw [ef_37]; exact (va_up_ne _ _ (Ne.symm n_so_co)).trans hG2
                have hF_41 : f_37 nn = eS 2 [.ref lo, .int (nI kc)] := by rw [ef_37]; exact (va_up_ne _ _ (Ne.symm n_so_nn)).trans hG3
                have hF_42 : f_37 lo = eD K 1000 g := by rw [ef_37]; exact (va_up_ne _ _ (Ne.symm n_so_lo)).trans hG4
                refine lv_aload_n hx hb dX0_foldBy_107 rfl (lv_at hl 4 rfl) ?_
                refine z_get hC hM ho hF_38 zcl_X0 (by decide) zl_X0_15 rfl dX0_foldBy_108 ?_
                refine lv_iload hx hb dX0_foldBy_111 (lv_at hl 0 rfl) ?_
                refine lv_dup2_11 hx hb dX0_foldBy_113 rfl rfl ?_
                refine z_iald hC hM hco hF_40 (by omega) (by omega) dX0_foldBy_114 ?_
                refine lv_iconst (v := nI 1) hx hb dX0_foldBy_115 (by decide) ?_
                refine z_iadd hx hb dX0_foldBy_116 ?_
                refine z_iast hC hM hco hF_40 (by omega) (by omega) dX0_foldBy_117 (fun H locs hM => ?_)
                obtain ⟨f_43, ef_43⟩ : ∃ z9, z9 = va_up f_37 co (eI K 120 (va_up (fun j => nI ((fC g pr i) j)) (i % pr) (nI (((fC g pr i) (i % pr)) + 1)))) := ⟨_, rfl⟩
                rw [← ef_43] at hM
                have hF_44 : f_43 o = eS 1 [.ref so, .ref co, .int (nI pr), .double FP.dconst0] := by rw [ef_43]; exact (va_up_ne _ _ n_o_co).trans hF_38
                have hF_45 : f_43 so = eD K 120 (va_up (fS g pr i) (i % pr) (FP.dadd ((fS g pr i) (i % pr)) (g i))) := by rw [ef_43]; exact (va_up_ne _ _ n_so_co).trans hF_39
                have hF_46 : f_43 co = eI K 120 (va_up (fun j => nI ((fC g pr i) j)) (i % pr) (nI (((fC g pr i) (i % pr)) + 1))) := by rw [ef_43]; exact va_up_self _ _ _
                have hF_47 : f_43 nn = eS 2 [.ref lo, .int (nI kc)] := by rw [ef_43]; exact (va_up_ne _ _ (Ne.symm n_co_nn)).trans hF_41
                have hF_48 : f_43 lo = eD K 1000 g := by rw [ef_43]; exact (va_up_ne _ _ (Ne.symm n_co_lo)).trans hF_42
                refine lv_dload hx hb dX0_foldBy_118 (lv_at hl 2 rfl) ?_
                refine lv_aload_n hx hb dX0_foldBy_120 rfl (lv_at hl 3 rfl) ?_
                refine lv_iload hx hb dX0_foldBy_121 (lv_at hl 1 rfl) ?_
                refine z_dald hC hM hlo hF_48 (by omega) (by omega) dX0_foldBy_123 ?_
                refine lv_dadd hx hb dX0_foldBy_124 (hFP.2.2.1 i hi hk) ?_
                refine lv_dstore (lv' := [(4, .double (FP.dadd (fT g i) (g i))), (7, .int (nI (i % pr))), (6, .int (nI i)), (3, .ref lo), (0, .ref o), (1, .int (nI pr)), (2, .ref nn)]) hx hb dX0_foldBy_125 hl (by decide) rfl (fun ls hl => ?_)
                refine lv_iinc (v := nI (i + 1)) (lv' := [(6, .int (nI (i + 1))), (4, .double (FP.dadd (fT g i) (g i))), (7, .int (nI (i % pr))), (3, .ref lo), (0, .ref o), (1, .int (nI pr)), (2, .ref nn)]) hx hb dX0_foldBy_127 hl (k := 2) rfl (nI_add i 1) (by decide) rfl (fun ls hl => ?_)
                refine lv_goto (tgt := 66) hx hb dX0_foldBy_130 (by decide) ?_
                have e1 : f_43 so = eD K 120 (fS g pr (i + 1)) := by rw [hF_45, fS_up hk]
                have e2 : f_43 co = eI K 120 (fun j => nI (fC g pr (i + 1) j)) := by rw [hF_46, fC_up hk]
                have e3 : FP.dadd (fT g i) (g i) = fT g (i + 1) := fT_up hk
                rw [e3] at hl
                have hfr : ∀ q, q ≠ so → q ≠ co → f_43 q = f_25 q := fun q hq0 hq1 => by
                  rw [ef_43, ef_37]
                  simp only [va_up, hq0, hq1, if_false]
                  exact hfr q hq0 hq1
                exact ih ls H locs f_43 (lv_sub hl [0, 1, 3, 4, 5, 6] rfl) hM hF_44 e1 e2 hF_47 hF_48 hfr
        exact LOOP66 0 (Nat.zero_le _) ls H locs f_25 (lv_sub hl [0, 1, 2, 3, 4, 5] rfl) hM hF_26 (by rw [hF_27, fS_0]) (by rw [hF_28, fC_0 g pr]) hF_29 hF_30 (fun _ _ _ => rfl)
      · exact absurd c_46 (by omega)
