/-! CONTRACTS of TransitryModel: light, folds, scores, periods, fallen papers (rows laid by wip/whole/ref2.py) -/
set_option maxHeartbeats 400000 in
set_option maxRecDepth 100000 in
theorem m_lightOf {l : Launch} {base : Nat} {K : zK} {L : List Nat} {f : Nat → va_E} {A : zA} {ma : Nat → Nat} {t : Int32} (hV : VA A) (hMI : MIL K L f A ma t) {i h : Nat} (hi : i < ns A) (hh : h < 1000) : zMet l yX7_lightOf cX7_lightOf 6 (some .double) (zr 1 0 0 22) base K L f [.ref ((ma 0)), .int (nI i), .int (nI h)] (zFd base K (ltV A i h) L f) := by
  have hMI9 := hMI
  obtain ⟨hmm, ⟨sg, cg, bb, bf⟩, op, hmc⟩ := hMI9
  have hV9 := hV
  obtain ⟨hv1, hv2, hv3, hvS, hvO, hvK, hvK1, hvL, hv11, hvW, hv23, hvW0, hvP⟩ := hV9
  have hg0 : f (ma 0) = eS 8 [.int t, .int (nI (ns A)), .ref ((ma 2)), .ref ((ma 3)), .ref ((ma 4)), .ref ((ma 5)), .ref ((ma 6)), .ref ((ma 7)), .ref ((ma 8)), .ref ((ma 9)), .ref ((ma 10)), .ref ((ma 11)), .ref ((ma 12)), .ref ((ma 13)), .ref ((ma 14)), .ref ((ma 15)), .ref ((ma 16)), .double bb, .int bf, .int (nI (nw A)), .ref ((ma 20)), .ref ((ma 21)), .ref ((ma 22)), .ref ((ma 23)), .int (nI (np A)), .ref ((ma 25)), .ref ((ma 26))] := hmc 0 (by decide) (by decide)
  have hg2 : f (ma 2) = eI K 6 (fun j => nI ((A.1 2) j)) := hmc 2 (by decide) (by decide)
  have hg3 : f (ma 3) = eI K 6 (fun j => nI ((A.1 3) j)) := hmc 3 (by decide) (by decide)
  have hg4 : f (ma 4) = eI K 24 (fun j => nI ((A.1 4) j)) := hmc 4 (by decide) (by decide)
  have hg5 : f (ma 5) = eI K 24 (fun j => nI ((A.1 5) j)) := hmc 5 (by decide) (by decide)
  have hg6 : f (ma 6) = eI K 24 (fun j => nI ((A.1 6) j)) := hmc 6 (by decide) (by decide)
  have hg7 : f (ma 7) = eI K 24 (fun j => nI ((A.1 7) j)) := hmc 7 (by decide) (by decide)
  have hg8 : f (ma 8) = eI K 6 (fun j => nI ((A.1 8) j)) := hmc 8 (by decide) (by decide)
  have hg9 : f (ma 9) = eI K 6 (fun j => nI ((A.1 9) j)) := hmc 9 (by decide) (by decide)
  have hg10 : f (ma 10) = eI K 6 (fun j => nI ((A.1 10) j)) := hmc 10 (by decide) (by decide)
  obtain ⟨w1, w2, w3, w4, w5, w6, w7, w8⟩ := hvS i hi
  have hok := (lt_ok hV hi h).1
  refine z_met (by decide) (Nat.le_of_ble_eq_true rfl) (fun p e s m below meth c ls hC hM hr hlk hnm hl => ?_)
  have hx := hC.1
  have hb := hC.2.1
  have hml := hC.2.2.1
  have hown := hC.2.2.2.1
  have hts := hC.2.2.2.2.1
  generalize hA : ([.ref ((ma 0)), .int (nI i), .int (nI h)] : List Value).toArray = args at hC ⊢
  generalize hQ : MQ _ _ _ _ _ _ _ = Q
  obtain ⟨locs, hlocs⟩ : ∃ z : List Loc, z = [] := ⟨_, rfl⟩
  obtain ⟨H, hH⟩ : ∃ z : Heap, z = s.heap := ⟨_, rfl⟩
  rw [← hlocs, ← hH] at hM ⊢
  have hl : lv_has ls 6 [(0, .ref ((ma 0))), (1, .int (nI i)), (2, .int (nI h))] := hl
  refine lv_aload_n hx hb dX7_lightOf_0 rfl (lv_at hl 0 rfl) ?_
  refine z_get hC hM (hmm 0 (by decide)) hg0 zcl_X7 (by decide) zl_X7_7 rfl dX7_lightOf_1 ?_
  refine lv_iload_n hx hb dX7_lightOf_4 rfl (lv_at hl 1 rfl) ?_
  refine z_iald hC hM (hmm 2 (by decide)) hg2 (by omega) (by omega) dX7_lightOf_5 ?_
  refine lv_i2d hx hb dX7_lightOf_6 ?_
  refine lv_dstore_n (lv' := [(3, .double (FP.i2d (nI ((A.1 2) i)))), (0, .ref ((ma 0))), (1, .int (nI i)), (2, .int (nI h))]) hx hb dX7_lightOf_7 rfl hl (by decide) rfl (fun ls hl => ?_)
  refine lv_iconst (v := nI 4) hx hb dX7_lightOf_8 (by decide) ?_
  refine lv_iload_n hx hb dX7_lightOf_9 rfl (lv_at hl 2 rfl) ?_
  refine z_imul hx hb dX7_lightOf_10 ?_
  refine lv_istore (lv' := [(5, .int (nI (4 * i))), (3, .double (FP.i2d (nI ((A.1 2) i)))), (0, .ref ((ma 0))), (1, .int (nI i)), (2, .int (nI h))]) hx hb dX7_lightOf_11 hl (by decide) rfl (fun ls hl => ?_)
  have LOOP13 : ∀ k, k ≤ (A.1 3 i) → ∀ (ls : Array Slot) (H : Heap) (locs : List Loc), lv_has ls 6 [(5, .int (nI (4 * i + k))), (3, .double (lF (A.1 2 i) h (fun k => A.1 4 (4 * i + k)) (fun k => A.1 5 (4 * i + k)) (fun k => A.1 6 (4 * i + k)) (fun k => A.1 7 (4 * i + k)) k)), (0, .ref ((ma 0))), (1, .int (nI i)), (2, .int (nI h))] → zM base K L f s H locs → W p l e (zr 1 0 0 22) s m args below meth c H locs 0 0 Q (F0 m 13 ls []) := by
    refine z_down ((A.1 3 i)) ?_ ?_
    · intro ls H locs hl hM
      refine lv_iload hx hb dX7_lightOf_13 (lv_at hl 0 rfl) ?_
      refine lv_iconst (v := nI 4) hx hb dX7_lightOf_15 (by decide) ?_
      refine lv_iload_n hx hb dX7_lightOf_16 rfl (lv_at hl 3 rfl) ?_
      refine z_imul hx hb dX7_lightOf_17 ?_
      refine lv_aload_n hx hb dX7_lightOf_18 rfl (lv_at hl 2 rfl) ?_
      refine z_get hC hM (hmm 0 (by decide)) hg0 zcl_X7 (by decide) zl_X7_13 rfl dX7_lightOf_19 ?_
      refine lv_iload_n hx hb dX7_lightOf_22 rfl (lv_at hl 3 rfl) ?_
      refine z_iald hC hM (hmm 3 (by decide)) hg3 (by omega) (by omega) dX7_lightOf_23 ?_
      refine z_iadd hx hb dX7_lightOf_24 ?_
      refine z_icmp_ge (tgt := 82) hx hb (nI_toInt (by omega)) (nI_toInt (by omega)) dX7_lightOf_25 (by decide) (fun c_25 => ?_) (fun c_25 => ?_)
      · refine lv_aload_n hx hb dX7_lightOf_82 rfl (lv_at hl 2 rfl) ?_
        refine z_get hC hM (hmm 0 (by decide)) hg0 zcl_X7 (by decide) zl_X7_28 rfl dX7_lightOf_83 ?_
        refine lv_iload_n hx hb dX7_lightOf_86 rfl (lv_at hl 3 rfl) ?_
        refine z_iald hC hM (hmm 8 (by decide)) hg8 (by omega) (by omega) dX7_lightOf_87 ?_
        refine z_if_le (tgt := 128) hx hb (nI_toInt (by omega)) dX7_lightOf_88 (by decide) (fun c_88 => ?_) (fun c_88 => ?_)
        · refine lv_dload_n hx hb dX7_lightOf_128 rfl (lv_at hl 1 rfl) ?_
          refine lv_aload_n hx hb dX7_lightOf_129 rfl (lv_at hl 2 rfl) ?_
          refine z_get hC hM (hmm 0 (by decide)) hg0 zcl_X7 (by decide) zl_X7_34 rfl dX7_lightOf_130 ?_
          refine lv_iload_n hx hb dX7_lightOf_133 rfl (lv_at hl 3 rfl) ?_
          refine z_iald hC hM (hmm 10 (by decide)) hg10 (by omega) (by omega) dX7_lightOf_134 ?_
          refine lv_i2d hx hb dX7_lightOf_135 ?_
          refine lv_dadd hx hb dX7_lightOf_136 (by have q9 := hok.2.2.2; rw [lS, if_neg (fun z => by first | (have z1 := z.1; omega) | exact absurd (Int.ofNat_lt.mpr z.2) (Int.not_lt.mpr c_107))] at q9; exact q9) ?_
          rw [← hQ]
          exact z_dret hC hM hr hlk (by decide) (by decide) ⟨(by rw [ltV, lV, lS, if_neg (fun z => by have z1 := z.1; omega)]; rfl), rfl, rfl⟩ dX7_lightOf_137
        · have hm9 := Nat.mod_lt h (show 0 < A.1 8 i by omega)
          refine lv_iload_n hx hb dX7_lightOf_91 rfl (lv_at hl 4 rfl) ?_
          refine lv_aload_n hx hb dX7_lightOf_92 rfl (lv_at hl 2 rfl) ?_
          refine z_get hC hM (hmm 0 (by decide)) hg0 zcl_X7 (by decide) zl_X7_28 rfl dX7_lightOf_93 ?_
          refine lv_iload_n hx hb dX7_lightOf_96 rfl (lv_at hl 3 rfl) ?_
          refine z_iald hC hM (hmm 8 (by decide)) hg8 (by omega) (by omega) dX7_lightOf_97 ?_
          refine z_irem hx hb (by omega) (by omega) (by omega) dX7_lightOf_98 ?_
          refine lv_aload_n hx hb dX7_lightOf_99 rfl (lv_at hl 2 rfl) ?_
          refine z_get hC hM (hmm 0 (by decide)) hg0 zcl_X7 (by decide) zl_X7_28 rfl dX7_lightOf_100 ?_
          refine lv_iload_n hx hb dX7_lightOf_103 rfl (lv_at hl 3 rfl) ?_
          refine z_iald hC hM (hmm 8 (by decide)) hg8 (by omega) (by omega) dX7_lightOf_104 ?_
          refine lv_iconst (v := nI 4) hx hb dX7_lightOf_105 (by decide) ?_
          refine z_idiv hx hb (by omega) (by omega) (by omega) dX7_lightOf_106 ?_
          refine z_icmp_ge (tgt := 128) hx hb (nI_toInt (by omega)) (nI_toInt (by omega)) dX7_lightOf_107 (by decide) (fun c_107 => ?_) (fun c_107 => ?_)
          · refine lv_dload_n hx hb dX7_lightOf_128 rfl (lv_at hl 1 rfl) ?_
            refine lv_aload_n hx hb dX7_lightOf_129 rfl (lv_at hl 2 rfl) ?_
            refine z_get hC hM (hmm 0 (by decide)) hg0 zcl_X7 (by decide) zl_X7_34 rfl dX7_lightOf_130 ?_
            refine lv_iload_n hx hb dX7_lightOf_133 rfl (lv_at hl 3 rfl) ?_
            refine z_iald hC hM (hmm 10 (by decide)) hg10 (by omega) (by omega) dX7_lightOf_134 ?_
            refine lv_i2d hx hb dX7_lightOf_135 ?_
            refine lv_dadd hx hb dX7_lightOf_136 (by have q9 := hok.2.2.2; rw [lS, if_neg (fun z => by first | (have z1 := z.1; omega) | exact absurd (Int.ofNat_lt.mpr z.2) (Int.not_lt.mpr c_107))] at q9; exact q9) ?_
            rw [← hQ]
            exact z_dret hC hM hr hlk (by decide) (by decide) ⟨(by rw [ltV, lV, lS, if_neg (fun z => absurd (Int.ofNat_lt.mpr z.2) (Int.not_lt.mpr c_107))]; rfl), rfl, rfl⟩ dX7_lightOf_137
          · refine lv_dload_n hx hb dX7_lightOf_110 rfl (lv_at hl 1 rfl) ?_
            refine lv_sipush (v := nI 1000) hx hb dX7_lightOf_111 (by decide) ?_
            refine lv_aload_n hx hb dX7_lightOf_114 rfl (lv_at hl 2 rfl) ?_
            refine z_get hC hM (hmm 0 (by decide)) hg0 zcl_X7 (by decide) zl_X7_31 rfl dX7_lightOf_115 ?_
            refine lv_iload_n hx hb dX7_lightOf_118 rfl (lv_at hl 3 rfl) ?_
            refine z_iald hC hM (hmm 9 (by decide)) hg9 (by omega) (by omega) dX7_lightOf_119 ?_
            refine z_isub hx hb (by omega) dX7_lightOf_120 ?_
            refine lv_i2d hx hb dX7_lightOf_121 ?_
            refine lv_ldc2d (v := 4652007308841189376) hx hb hown (hts _ zk_X7_95) dX7_lightOf_122 ?_
            refine lv_ddiv hx hb dX7_lightOf_125 hok.2.1 ?_
            refine lv_dmul hx hb dX7_lightOf_126 hok.2.2.1 ?_
            refine lv_dstore_n (lv' := [(3, .double (FP.dmul (lF (A.1 2 i) h (fun k => A.1 4 (4 * i + k)) (fun k => A.1 5 (4 * i + k)) (fun k => A.1 6 (4 * i + k)) (fun k => A.1 7 (4 * i + k)) ((A.1 3 i))) (FP.ddiv (FP.i2d (nI (1000 - ((A.1 9) i)))) 4652007308841189376))), (5, .int (nI (4 * i + ((A.1 3 i))))), (0, .ref ((ma 0))), (1, .int (nI i)), (2, .int (nI h))]) hx hb dX7_lightOf_127 rfl hl (by decide) rfl (fun ls hl => ?_)
            refine lv_dload_n hx hb dX7_lightOf_128 rfl (lv_at hl 0 rfl) ?_
            refine lv_aload_n hx hb dX7_lightOf_129 rfl (lv_at hl 2 rfl) ?_
            refine z_get hC hM (hmm 0 (by decide)) hg0 zcl_X7 (by decide) zl_X7_34 rfl dX7_lightOf_130 ?_
            refine lv_iload_n hx hb dX7_lightOf_133 rfl (lv_at hl 3 rfl) ?_
            refine z_iald hC hM (hmm 10 (by decide)) hg10 (by omega) (by omega) dX7_lightOf_134 ?_
            refine lv_i2d hx hb dX7_lightOf_135 ?_
            refine lv_dadd hx hb dX7_lightOf_136 (by have q9 := hok.2.2.2; rw [lS, if_pos ⟨by omega, Int.ofNat_lt.mp c_107⟩] at q9; exact q9) ?_
            rw [← hQ]
            exact z_dret hC hM hr hlk (by decide) (by decide) ⟨(by rw [ltV, lV, lS, if_pos ⟨by omega, Int.ofNat_lt.mp c_107⟩]; rfl), rfl, rfl⟩ dX7_lightOf_137
      · exact absurd c_25 (by omega)
    · intro k hk ih ls H locs hl hM
      refine lv_iload hx hb dX7_lightOf_13 (lv_at hl 0 rfl) ?_
      refine lv_iconst (v := nI 4) hx hb dX7_lightOf_15 (by decide) ?_
      refine lv_iload_n hx hb dX7_lightOf_16 rfl (lv_at hl 3 rfl) ?_
      refine z_imul hx hb dX7_lightOf_17 ?_
      refine lv_aload_n hx hb dX7_lightOf_18 rfl (lv_at hl 2 rfl) ?_
      refine z_get hC hM (hmm 0 (by decide)) hg0 zcl_X7 (by decide) zl_X7_13 rfl dX7_lightOf_19 ?_
      refine lv_iload_n hx hb dX7_lightOf_22 rfl (lv_at hl 3 rfl) ?_
      refine z_iald hC hM (hmm 3 (by decide)) hg3 (by omega) (by omega) dX7_lightOf_23 ?_
      refine z_iadd hx hb dX7_lightOf_24 ?_
      refine z_icmp_ge (tgt := 82) hx hb (nI_toInt (by omega)) (nI_toInt (by omega)) dX7_lightOf_25 (by decide) (fun c_25 => ?_) (fun c_25 => ?_)
      · exact absurd c_25 (by omega)
      · obtain ⟨u1, u2, u3, u4, u5, u6, u7⟩ := w8 k hk
        have hm8 := Nat.mod_lt (h + A.1 4 (4 * i + k) - A.1 5 (4 * i + k)) (show 0 < A.1 4 (4 * i + k) by omega)
        refine lv_iload_n hx hb dX7_lightOf_28 rfl (lv_at hl 4 rfl) ?_
        refine lv_aload_n hx hb dX7_lightOf_29 rfl (lv_at hl 2 rfl) ?_
        refine z_get hC hM (hmm 0 (by decide)) hg0 zcl_X7 (by decide) zl_X7_19 rfl dX7_lightOf_30 ?_
        refine lv_iload hx hb dX7_lightOf_33 (lv_at hl 0 rfl) ?_
        refine z_iald hC hM (hmm 5 (by decide)) hg5 (by omega) (by omega) dX7_lightOf_35 ?_
        refine lv_isub hx hb dX7_lightOf_36 ?_
        refine lv_aload_n hx hb dX7_lightOf_37 rfl (lv_at hl 2 rfl) ?_
        refine z_get hC hM (hmm 0 (by decide)) hg0 zcl_X7 (by decide) zl_X7_16 rfl dX7_lightOf_38 ?_
        refine lv_iload hx hb dX7_lightOf_41 (lv_at hl 0 rfl) ?_
        refine z_iald hC hM (hmm 4 (by decide)) hg4 (by omega) (by omega) dX7_lightOf_43 ?_
        refine z_fcalli (z_runS hC hM (c_rem (h := h) (ph := A.1 5 (4 * i + k)) (per := A.1 4 (4 * i + k)) hh u3 u2) zy_X7_remainder zm_X7_91 rfl rfl hl.1 (Nat.le_of_ble_eq_true rfl) ⟨by decide, by decide⟩ ⟨by decide, by decide⟩ dX7_lightOf_44) hM (fun H locs hM => ?_)
        refine lv_aload_n hx hb dX7_lightOf_47 rfl (lv_at hl 2 rfl) ?_
        refine z_get hC hM (hmm 0 (by decide)) hg0 zcl_X7 (by decide) zl_X7_22 rfl dX7_lightOf_48 ?_
        refine lv_iload hx hb dX7_lightOf_51 (lv_at hl 0 rfl) ?_
        refine z_iald hC hM (hmm 6 (by decide)) hg6 (by omega) (by omega) dX7_lightOf_53 ?_
        refine z_icmp_ge (tgt := 76) hx hb (nI_toInt (by omega)) (nI_toInt (by omega)) dX7_lightOf_54 (by decide) (fun c_54 => ?_) (fun c_54 => ?_)
        · refine lv_iinc (v := nI ((4 * i + k) + 1)) (lv' := [(5, .int (nI ((4 * i + k) + 1))), (3, .double (lF (A.1 2 i) h (fun k => A.1 4 (4 * i + k)) (fun k => A.1 5 (4 * i + k)) (fun k => A.1 6 (4 * i + k)) (fun k => A.1 7 (4 * i + k)) k)), (0, .ref ((ma 0))), (1, .int (nI i)), (2, .int (nI h))]) hx hb dX7_lightOf_76 hl (k := 0) rfl (nI_add (4 * i + k) 1) (by decide) rfl (fun ls hl => ?_)
          refine lv_goto (tgt := 13) hx hb dX7_lightOf_79 (by decide) ?_
          have e9 : lF (A.1 2 i) h (fun k => A.1 4 (4 * i + k)) (fun k => A.1 5 (4 * i + k)) (fun k => A.1 6 (4 * i + k)) (fun k => A.1 7 (4 * i + k)) k = lF (A.1 2 i) h (fun k => A.1 4 (4 * i + k)) (fun k => A.1 5 (4 * i + k)) (fun k => A.1 6 (4 * i + k)) (fun k => A.1 7 (4 * i + k)) (k + 1) := lF_0 (fun z => absurd (Int.ofNat_lt.mpr z) (Int.not_lt.mpr c_54))
          rw [e9] at hl
          exact ih ls H locs (lv_sub hl [0, 1, 2, 3, 4] rfl) hM
        · refine lv_dload_n hx hb dX7_lightOf_57 rfl (lv_at hl 1 rfl) ?_
          refine lv_sipush (v := nI 1000) hx hb dX7_lightOf_58 (by decide) ?_
          refine lv_aload_n hx hb dX7_lightOf_61 rfl (lv_at hl 2 rfl) ?_
          refine z_get hC hM (hmm 0 (by decide)) hg0 zcl_X7 (by decide) zl_X7_25 rfl dX7_lightOf_62 ?_
          refine lv_iload hx hb dX7_lightOf_65 (lv_at hl 0 rfl) ?_
          refine z_iald hC hM (hmm 7 (by decide)) hg7 (by omega) (by omega) dX7_lightOf_67 ?_
          refine z_isub hx hb (by omega) dX7_lightOf_68 ?_
          refine lv_i2d hx hb dX7_lightOf_69 ?_
          refine lv_ldc2d (v := 4652007308841189376) hx hb hown (hts _ zk_X7_95) dX7_lightOf_70 ?_
          refine lv_ddiv hx hb dX7_lightOf_73 (hok.1 k hk).1 ?_
          refine lv_dmul hx hb dX7_lightOf_74 (hok.1 k hk).2 ?_
          refine lv_dstore_n (lv' := [(3, .double (FP.dmul (lF (A.1 2 i) h (fun k => A.1 4 (4 * i + k)) (fun k => A.1 5 (4 * i + k)) (fun k => A.1 6 (4 * i + k)) (fun k => A.1 7 (4 * i + k)) k) (FP.ddiv (FP.i2d (nI (1000 - ((A.1 7) (4 * i + k))))) 4652007308841189376))), (5, .int (nI (4 * i + k))), (0, .ref ((ma 0))), (1, .int (nI i)), (2, .int (nI h))]) hx hb dX7_lightOf_75 rfl hl (by decide) rfl (fun ls hl => ?_)
          refine lv_iinc (v := nI ((4 * i + k) + 1)) (lv' := [(5, .int (nI ((4 * i + k) + 1))), (3, .double (FP.dmul (lF (A.1 2 i) h (fun k => A.1 4 (4 * i + k)) (fun k => A.1 5 (4 * i + k)) (fun k => A.1 6 (4 * i + k)) (fun k => A.1 7 (4 * i + k)) k) (FP.ddiv (FP.i2d (nI (1000 - ((A.1 7) (4 * i + k))))) 4652007308841189376))), (0, .ref ((ma 0))), (1, .int (nI i)), (2, .int (nI h))]) hx hb dX7_lightOf_76 hl (k := 1) rfl (nI_add (4 * i + k) 1) (by decide) rfl (fun ls hl => ?_)
          refine lv_goto (tgt := 13) hx hb dX7_lightOf_79 (by decide) ?_
          have e9 : FP.dmul (lF (A.1 2 i) h (fun k => A.1 4 (4 * i + k)) (fun k => A.1 5 (4 * i + k)) (fun k => A.1 6 (4 * i + k)) (fun k => A.1 7 (4 * i + k)) k) (FP.ddiv (FP.i2d (nI (1000 - ((A.1 7) (4 * i + k))))) 4652007308841189376) = lF (A.1 2 i) h (fun k => A.1 4 (4 * i + k)) (fun k => A.1 5 (4 * i + k)) (fun k => A.1 6 (4 * i + k)) (fun k => A.1 7 (4 * i + k)) (k + 1) := lF_1 (Int.ofNat_lt.mp c_54)
          rw [e9] at hl
          exact ih ls H locs (lv_sub hl [0, 1, 2, 3, 4] rfl) hM
  exact LOOP13 0 (Nat.zero_le _) ls H locs (lv_sub hl [0, 1, 2, 3, 4] rfl) hM
set_option maxHeartbeats 400000 in
set_option maxRecDepth 100000 in
theorem m_meanOf {l : Launch} {base : Nat} {K : zK} {L : List Nat} {f : Nat → va_E} {A : zA} {ma : Nat → Nat} {t : Int32} (hV : VA A) (hMI : MI K L f A ma t) {i : Nat} (hi : i < ns A) (hn : 0 < A.1 14 i) : zMet l yX7_meanOf cX7_meanOf 5 (some .double) (zr 0 0 0 0) base K L f [.ref ((ma 0)), .int (nI i)] (zFd base K (mnT (gk A i)) L f) := by
  have hMI9 := hMI
  obtain ⟨hmm, hmi, ⟨sg, cg, bb, bf⟩, op, hop, hmc⟩ := hMI9
  have hV9 := hV
  obtain ⟨hv1, hv2, hv3, hvS, hvO, hvK, hvK1, hvL, hv11, hvW, hv23, hvW0, hvP⟩ := hV9
  have hg0 : f (ma 0) = eS 8 [.int t, .int (nI (ns A)), .ref ((ma 2)), .ref ((ma 3)), .ref ((ma 4)), .ref ((ma 5)), .ref ((ma 6)), .ref ((ma 7)), .ref ((ma 8)), .ref ((ma 9)), .ref ((ma 10)), .ref ((ma 11)), .ref ((ma 12)), .ref ((ma 13)), .ref ((ma 14)), .ref ((ma 15)), .ref ((ma 16)), .double bb, .int bf, .int (nI (nw A)), .ref ((ma 20)), .ref ((ma 21)), .ref ((ma 22)), .ref ((ma 23)), .int (nI (np A)), .ref ((ma 25)), .ref ((ma 26))] := hmc 0 (by decide)
  have hg12 : f (ma 12) = eZ K 6000 (fun j => nI ((A.1 12) j)) := hmc 12 (by decide)
  have hg13 : f (ma 13) = eD K 6000 A.2 := hmc 13 (by decide)
  have hg14 : f (ma 14) = eI K 6 (fun j => nI ((A.1 14) j)) := hmc 14 (by decide)
  obtain ⟨w1, w2, w3, w4, w5, w6, w7, w8⟩ := hvS i hi
  have hFP := fp_ok (gk_ok hV i)
  refine z_met (by decide) (Nat.le_of_ble_eq_true rfl) (fun p e s m below meth c ls hC hM hr hlk hnm hl => ?_)
  have hx := hC.1
  have hb := hC.2.1
  have hml := hC.2.2.1
  have hown := hC.2.2.2.1
  have hts := hC.2.2.2.2.1
  generalize hA : ([.ref ((ma 0)), .int (nI i)] : List Value).toArray = args at hC ⊢
  generalize hQ : MQ _ _ _ _ _ _ _ = Q
  obtain ⟨locs, hlocs⟩ : ∃ z : List Loc, z = [] := ⟨_, rfl⟩
  obtain ⟨H, hH⟩ : ∃ z : Heap, z = s.heap := ⟨_, rfl⟩
  rw [← hlocs, ← hH] at hM ⊢
  have hl : lv_has ls 5 [(0, .ref ((ma 0))), (1, .int (nI i))] := hl
  refine lv_dconst0 hx hb dX7_meanOf_0 ?_
  refine lv_dstore_n (lv' := [(2, .double FP.dconst0), (0, .ref ((ma 0))), (1, .int (nI i))]) hx hb dX7_meanOf_1 rfl hl (by decide) rfl (fun ls hl => ?_)
  refine lv_iconst (v := nI 0) hx hb dX7_meanOf_2 (by decide) ?_
  refine lv_istore (lv' := [(4, .int (nI 0)), (2, .double FP.dconst0), (0, .ref ((ma 0))), (1, .int (nI i))]) hx hb dX7_meanOf_3 hl (by decide) rfl (fun ls hl => ?_)
  have LOOP5 : ∀ h, h ≤ 1000 → ∀ (ls : Array Slot) (H : Heap) (locs : List Loc), lv_has ls 5 [(4, .int (nI h)), (2, .double (fT (gk A i) h)), (0, .ref ((ma 0))), (1, .int (nI i))] → zM base K L f s H locs → W p l e (zr 0 0 0 0) s m args below meth c H locs 0 0 Q (F0 m 5 ls []) := by
    refine z_down 1000 ?_ ?_
    · intro ls H locs hl hM
      refine lv_iload hx hb dX7_meanOf_5 (lv_at hl 0 rfl) ?_
      refine lv_sipush (v := nI 1000) hx hb dX7_meanOf_7 (by decide) ?_
      refine z_icmp_ge (tgt := 55) hx hb (nI_toInt (by decide)) (nI_toInt (by decide)) dX7_meanOf_10 (by decide) (fun c_10 => ?_) (fun c_10 => ?_)
      · refine lv_dload_n hx hb dX7_meanOf_55 rfl (lv_at hl 1 rfl) ?_
        refine lv_aload_n hx hb dX7_meanOf_56 rfl (lv_at hl 2 rfl) ?_
        refine z_get hC hM (hmm 0 (by decide)) hg0 zcl_X7 (by decide) zl_X7_48 rfl dX7_meanOf_57 ?_
        refine lv_iload_n hx hb dX7_meanOf_60 rfl (lv_at hl 3 rfl) ?_
        refine z_iald hC hM (hmm 14 (by decide)) hg14 (by omega) (by omega) dX7_meanOf_61 ?_
        refine lv_i2d hx hb dX7_meanOf_62 ?_
        refine lv_ddiv hx hb dX7_meanOf_63 (by rw [w7]; exact hFP.2.2.2.2.1 (by omega)) ?_
        rw [← hQ]
        exact z_dret hC hM hr hlk (by decide) (by decide) ⟨(by rw [mnT, if_pos (by omega), ← w7]; rfl), rfl, rfl⟩ dX7_meanOf_64
      · exact absurd c_10 (by omega)
    · intro h hh ih ls H locs hl hM
      refine lv_iload hx hb dX7_meanOf_5 (lv_at hl 0 rfl) ?_
      refine lv_sipush (v := nI 1000) hx hb dX7_meanOf_7 (by decide) ?_
      refine z_icmp_ge (tgt := 55) hx hb (nI_toInt (by omega)) (nI_toInt (by decide)) dX7_meanOf_10 (by decide) (fun c_10 => ?_) (fun c_10 => ?_)
      · exact absurd c_10 (by omega)
      · refine lv_dload_n hx hb dX7_meanOf_13 rfl (lv_at hl 1 rfl) ?_
        refine lv_aload_n hx hb dX7_meanOf_14 rfl (lv_at hl 2 rfl) ?_
        refine z_get hC hM (hmm 0 (by decide)) hg0 zcl_X7 (by decide) zl_X7_41 rfl dX7_meanOf_15 ?_
        refine lv_sipush (v := nI 1000) hx hb dX7_meanOf_18 (by decide) ?_
        refine lv_iload_n hx hb dX7_meanOf_21 rfl (lv_at hl 3 rfl) ?_
        refine z_imul hx hb dX7_meanOf_22 ?_
        refine lv_iload hx hb dX7_meanOf_23 (lv_at hl 0 rfl) ?_
        refine z_iadd hx hb dX7_meanOf_25 ?_
        refine z_zald hC hM (hmm 12 (by decide)) hg12 (by omega) (by omega) dX7_meanOf_26 ?_
        have hk1 := hvK1 (1000 * i + h)
        refine z_if_eq (tgt := 46) hx hb (nI_toInt (by omega)) dX7_meanOf_27 (by decide) (fun c_27 => ?_) (fun c_27 => ?_)
        · skip
          have hz9 : ¬ gk A i h ≠ 0 := gk_z (fun z => by omega)
          refine lv_dconst0 hx hb dX7_meanOf_46 ?_
          refine lv_dadd hx hb dX7_meanOf_47 (hFP.2.2.2.1 h hh).2 ?_
          refine lv_dstore_n (lv' := [(2, .double (FP.dadd (fT (gk A i) h) FP.dconst0)), (4, .int (nI h)), (0, .ref ((ma 0))), (1, .int (nI i))]) hx hb dX7_meanOf_48 rfl hl (by decide) rfl (fun ls hl => ?_)
          refine lv_iinc (v := nI (h + 1)) (lv' := [(4, .int (nI (h + 1))), (2, .double (FP.dadd (fT (gk A i) h) FP.dconst0)), (0, .ref ((ma 0))), (1, .int (nI i))]) hx hb dX7_meanOf_49 hl (k := 1) rfl (nI_add h 1) (by decide) rfl (fun ls hl => ?_)
          refine lv_goto (tgt := 5) hx hb dX7_meanOf_52 (by decide) ?_
          have e9 : FP.dadd (fT (gk A i) h) FP.dconst0 = fT (gk A i) (h + 1) := (hFP.2.2.2.1 h hh).1.trans (fT_no hz9)
          rw [e9] at hl
          exact ih ls H locs (lv_sub hl [0, 1, 2, 3] rfl) hM
        · skip
          have hk2 : A.1 12 (1000 * i + h) = 1 := by omega
          have eg := gk_1 (i := i) hh hk2
          have hnz : gk A i h ≠ 0 := by rw [eg]; exact Lb_ne (hvL _ hk2)
          refine lv_aload_n hx hb dX7_meanOf_30 rfl (lv_at hl 2 rfl) ?_
          refine z_get hC hM (hmm 0 (by decide)) hg0 zcl_X7 (by decide) zl_X7_44 rfl dX7_meanOf_31 ?_
          refine lv_sipush (v := nI 1000) hx hb dX7_meanOf_34 (by decide) ?_
          refine lv_iload_n hx hb dX7_meanOf_37 rfl (lv_at hl 3 rfl) ?_
          refine z_imul hx hb dX7_meanOf_38 ?_
          refine lv_iload hx hb dX7_meanOf_39 (lv_at hl 0 rfl) ?_
          refine z_iadd hx hb dX7_meanOf_41 ?_
          refine z_dald hC hM (hmm 13 (by decide)) hg13 (by omega) (by omega) dX7_meanOf_42 ?_
          refine lv_goto (tgt := 47) hx hb dX7_meanOf_43 (by decide) ?_
          refine lv_dadd hx hb dX7_meanOf_47 (by rw [← eg]; exact hFP.2.2.1 h hh hnz) ?_
          refine lv_dstore_n (lv' := [(2, .double (FP.dadd (fT (gk A i) h) (A.2 ((1000 * i) + h)))), (4, .int (nI h)), (0, .ref ((ma 0))), (1, .int (nI i))]) hx hb dX7_meanOf_48 rfl hl (by decide) rfl (fun ls hl => ?_)
          refine lv_iinc (v := nI (h + 1)) (lv' := [(4, .int (nI (h + 1))), (2, .double (FP.dadd (fT (gk A i) h) (A.2 ((1000 * i) + h)))), (0, .ref ((ma 0))), (1, .int (nI i))]) hx hb dX7_meanOf_49 hl (k := 1) rfl (nI_add h 1) (by decide) rfl (fun ls hl => ?_)
          refine lv_goto (tgt := 5) hx hb dX7_meanOf_52 (by decide) ?_
          have e9 : FP.dadd (fT (gk A i) h) (A.2 ((1000 * i) + h)) = fT (gk A i) (h + 1) := by rw [← eg]; exact fT_up hnz
          rw [e9] at hl
          exact ih ls H locs (lv_sub hl [0, 1, 2, 3] rfl) hM
  exact LOOP5 0 (Nat.zero_le _) ls H locs (lv_sub hl [0, 1, 2, 3] rfl) hM
set_option maxHeartbeats 400000 in
set_option maxRecDepth 100000 in
theorem m_folds {l : Launch} {base : Nat} {K : zK} {L : List Nat} {f : Nat → va_E} {A : zA} {ma : Nat → Nat} {t : Int32} (hV : VA A) (hMI : MI K L f A ma t) {i p9 : Nat} (hi : i < ns A) (hp0 : 0 < p9) (hp1 : p9 ≤ 120) : zMet l yX7_folds cX7_folds 4 (none) (zr 0 0 0 0) base K L f [.ref ((ma 0)), .int (nI i), .int (nI p9)] (zQv base K (fun L1 f1 => L1 = L ∧ ∃ (sg1 : Nat → UInt64) (cg1 : Nat → Nat), (∀ j, j < p9 → sg1 j = fS (gk A i) p9 1000 j ∧ cg1 j = fC (gk A i) p9 1000 j) ∧ f1 = va_up (va_up f (ma 15) (eD K 120 sg1)) (ma 16) (eI K 120 (fun j => nI (cg1 j))))) := by
  have hMI9 := hMI
  obtain ⟨hmm, hmi, ⟨sg, cg, bb, bf⟩, op, hop, hmc⟩ := hMI9
  have hV9 := hV
  obtain ⟨hv1, hv2, hv3, hvS, hvO, hvK, hvK1, hvL, hv11, hvW, hv23, hvW0, hvP⟩ := hV9
  have hg0 : f (ma 0) = eS 8 [.int t, .int (nI (ns A)), .ref ((ma 2)), .ref ((ma 3)), .ref ((ma 4)), .ref ((ma 5)), .ref ((ma 6)), .ref ((ma 7)), .ref ((ma 8)), .ref ((ma 9)), .ref ((ma 10)), .ref ((ma 11)), .ref ((ma 12)), .ref ((ma 13)), .ref ((ma 14)), .ref ((ma 15)), .ref ((ma 16)), .double bb, .int bf, .int (nI (nw A)), .ref ((ma 20)), .ref ((ma 21)), .ref ((ma 22)), .ref ((ma 23)), .int (nI (np A)), .ref ((ma 25)), .ref ((ma 26))] := hmc 0 (by decide)
  have hg12 : f (ma 12) = eZ K 6000 (fun j => nI ((A.1 12) j)) := hmc 12 (by decide)
  have hg13 : f (ma 13) = eD K 6000 A.2 := hmc 13 (by decide)
  have hg15 : f (ma 15) = eD K 120 sg := hmc 15 (by decide)
  have hg16 : f (ma 16) = eI K 120 (fun j => nI (cg j)) := hmc 16 (by decide)
  have hFP := fp_ok (gk_ok hV i)
  refine z_met (by decide) (Nat.le_of_ble_eq_true rfl) (fun p e s m below meth c ls hC hM hr hlk hnm hl => ?_)
  have hx := hC.1
  have hb := hC.2.1
  have hml := hC.2.2.1
  have hown := hC.2.2.2.1
  have hts := hC.2.2.2.2.1
  generalize hA : ([.ref ((ma 0)), .int (nI i), .int (nI p9)] : List Value).toArray = args at hC ⊢
  generalize hQ : MQ _ _ _ _ _ _ _ = Q
  obtain ⟨locs, hlocs⟩ : ∃ z : List Loc, z = [] := ⟨_, rfl⟩
  obtain ⟨H, hH⟩ : ∃ z : Heap, z = s.heap := ⟨_, rfl⟩
  rw [← hlocs, ← hH] at hM ⊢
  have hl : lv_has ls 4 [(0, .ref ((ma 0))), (1, .int (nI i)), (2, .int (nI p9))] := hl
  refine lv_iconst (v := nI 0) hx hb dX7_folds_0 (by decide) ?_
  refine lv_istore_n (lv' := [(3, .int (nI 0)), (0, .ref ((ma 0))), (1, .int (nI i)), (2, .int (nI p9))]) hx hb dX7_folds_1 rfl hl (by decide) rfl (fun ls hl => ?_)
  have LOOP2 : ∀ k, k ≤ p9 → ∀ (ls : Array Slot) (H : Heap) (locs : List Loc) (f1 : Nat → va_E), lv_has ls 4 [(3, .int (nI k)), (0, .ref ((ma 0))), (1, .int (nI i)), (2, .int (nI p9))] → zM base K L f1 s H locs → f1 ((ma 0)) = eS 8 [.int t, .int (nI (ns A)), .ref ((ma 2)), .ref ((ma 3)), .ref ((ma 4)), .ref ((ma 5)), .ref ((ma 6)), .ref ((ma 7)), .ref ((ma 8)), .ref ((ma 9)), .ref ((ma 10)), .ref ((ma 11)), .ref ((ma 12)), .ref ((ma 13)), .ref ((ma 14)), .ref ((ma 15)), .ref ((ma 16)), .double bb, .int bf, .int (nI (nw A)), .ref ((ma 20)), .ref ((ma 21)), .ref ((ma 22)), .ref ((ma 23)), .int (nI (np A)), .ref ((ma 25)), .ref ((ma 26))] → f1 ((ma 12)) = eZ K 6000 (fun j => nI ((A.1 12) j)) → f1 ((ma 13)) = eD K 6000 A.2 → f1 ((ma 15)) = eD K 120 (fun j => if j < k then FP.dconst0 else sg j) → f1 ((ma 16)) = eI K 120 (fun j => nI ((fun j => if j < k then 0 else cg j) j)) → (∀ q, q ≠ ((ma 15)) → q ≠ ((ma 16)) → f1 q = f q) → W p l e (zr 0 0 0 0) s m args below meth c H locs 0 0 Q (F0 m 2 ls []) := by
    refine z_down p9 ?_ ?_
    · intro ls H locs f1 hl hM hG0 hG1 hG2 hG3 hG4 hfr
      refine lv_iload_n hx hb dX7_folds_2 rfl (lv_at hl 0 rfl) ?_
      refine lv_iload_n hx hb dX7_folds_3 rfl (lv_at hl 3 rfl) ?_
      refine z_icmp_ge (tgt := 27) hx hb (nI_toInt (by omega)) (nI_toInt (by omega)) dX7_folds_4 (by decide) (fun c_4 => ?_) (fun c_4 => ?_)
      · refine lv_iconst (v := nI 0) hx hb dX7_folds_27 (by decide) ?_
        refine lv_istore_n (lv' := [(3, .int (nI 0)), (0, .ref ((ma 0))), (1, .int (nI i)), (2, .int (nI p9))]) hx hb dX7_folds_28 rfl hl (by decide) rfl (fun ls hl => ?_)
        have LOOP29 : ∀ h, h ≤ 1000 → ∀ (ls : Array Slot) (H : Heap) (locs : List Loc) (f1 : Nat → va_E), lv_has ls 4 [(3, .int (nI h)), (0, .ref ((ma 0))), (1, .int (nI i)), (2, .int (nI p9))] → zM base K L f1 s H locs → f1 ((ma 0)) = eS 8 [.int t, .int (nI (ns A)), .ref ((ma 2)), .ref ((ma 3)), .ref ((ma 4)), .ref ((ma 5)), .ref ((ma 6)), .ref ((ma 7)), .ref ((ma 8)), .ref ((ma 9)), .ref ((ma 10)), .ref ((ma 11)), .ref ((ma 12)), .ref ((ma 13)), .ref ((ma 14)), .ref ((ma 15)), .ref ((ma 16)), .double bb, .int bf, .int (nI (nw A)), .ref ((ma 20)), .ref ((ma 21)), .ref ((ma 22)), .ref ((ma 23)), .int (nI (np A)), .ref ((ma 25)), .ref ((ma 26))] → f1 ((ma 12)) = eZ K 6000 (fun j => nI ((A.1 12) j)) → f1 ((ma 13)) = eD K 6000 A.2 → f1 ((ma 15)) = eD K 120 (fun j => if j < p9 then fS (gk A i) p9 h j else sg j) → f1 ((ma 16)) = eI K 120 (fun j => nI ((fun j => if j < p9 then fC (gk A i) p9 h j else cg j) j)) → (∀ q, q ≠ ((ma 15)) → q ≠ ((ma 16)) → f1 q = f q) → W p l e (zr 0 0 0 0) s m args below meth c H locs 0 0 Q (F0 m 29 ls []) := by
          refine z_down 1000 ?_ ?_
          · intro ls H locs f1 hl hM hG0 hG1 hG2 hG3 hG4 hfr
            refine lv_iload_n hx hb dX7_folds_29 rfl (lv_at hl 0 rfl) ?_
            refine lv_sipush (v := nI 1000) hx hb dX7_folds_30 (by decide) ?_
            refine z_icmp_ge (tgt := 92) hx hb (nI_toInt (by decide)) (nI_toInt (by decide)) dX7_folds_33 (by decide) (fun c_33 => ?_) (fun c_33 => ?_)
            · rw [← hQ]
              exact z_vret hC hM hr hlk (by decide) (by decide) ⟨rfl, _, _, fun j hj => ⟨if_pos hj, if_pos hj⟩, up2_ext (mne hmi (by decide) (by decide) (by decide)) hG3 hG4 (fun q h1 h2 => hfr q h1 h2)⟩ dX7_folds_92
            · exact absurd c_33 (by omega)
          · intro h hh ih ls H locs f1 hl hM hG0 hG1 hG2 hG3 hG4 hfr
            refine lv_iload_n hx hb dX7_folds_29 rfl (lv_at hl 0 rfl) ?_
            refine lv_sipush (v := nI 1000) hx hb dX7_folds_30 (by decide) ?_
            refine z_icmp_ge (tgt := 92) hx hb (nI_toInt (by omega)) (nI_toInt (by decide)) dX7_folds_33 (by decide) (fun c_33 => ?_) (fun c_33 => ?_)
            · exact absurd c_33 (by omega)
            · refine lv_aload_n hx hb dX7_folds_36 rfl (lv_at hl 1 rfl) ?_
              refine z_get hC hM (hmm 0 (by decide)) hG0 zcl_X7 (by decide) zl_X7_41 rfl dX7_folds_37 ?_
              refine lv_sipush (v := nI 1000) hx hb dX7_folds_40 (by decide) ?_
              refine lv_iload_n hx hb dX7_folds_43 rfl (lv_at hl 2 rfl) ?_
              refine z_imul hx hb dX7_folds_44 ?_
              refine lv_iload_n hx hb dX7_folds_45 rfl (lv_at hl 0 rfl) ?_
              refine z_iadd hx hb dX7_folds_46 ?_
              refine z_zald hC hM (hmm 12 (by decide)) hG1 (by omega) (by omega) dX7_folds_47 ?_
              have hk1 := hvK1 (1000 * i + h)
              refine z_if_eq (tgt := 86) hx hb (nI_toInt (by omega)) dX7_folds_48 (by decide) (fun c_48 => ?_) (fun c_48 => ?_)
              · skip
                have hz9 : ¬ gk A i h ≠ 0 := gk_z (fun z => by omega)
                refine lv_iinc (v := nI (h + 1)) (lv' := [(3, .int (nI (h + 1))), (0, .ref ((ma 0))), (1, .int (nI i)), (2, .int (nI p9))]) hx hb dX7_folds_86 hl (k := 0) rfl (nI_add h 1) (by decide) rfl (fun ls hl => ?_)
                refine lv_goto (tgt := 29) hx hb dX7_folds_89 (by decide) ?_
                exact ih ls H locs f1 (lv_sub hl [0, 1, 2, 3] rfl) hM hG0 hG1 hG2 (hG3.trans (by rw [fSp_no hz9])) (hG4.trans (congrArg (fun z => eI K 120 (fun j => nI (z j))) (fCp_no hz9))) hfr
              · skip
                have hk2 : A.1 12 (1000 * i + h) = 1 := by omega
                have eg := gk_1 (i := i) hh hk2
                have hnz : gk A i h ≠ 0 := by rw [eg]; exact Lb_ne (hvL _ hk2)
                have hm9 := Nat.mod_lt h hp0
                refine lv_aload_n hx hb dX7_folds_51 rfl (lv_at hl 1 rfl) ?_
                refine z_get hC hM (hmm 0 (by decide)) hG0 zcl_X7 (by decide) zl_X7_51 rfl dX7_folds_52 ?_
                refine lv_iload_n hx hb dX7_folds_55 rfl (lv_at hl 0 rfl) ?_
                refine lv_iload_n hx hb dX7_folds_56 rfl (lv_at hl 3 rfl) ?_
                refine z_irem hx hb (by omega) (by omega) (by omega) dX7_folds_57 ?_
                refine lv_dup2_11 hx hb dX7_folds_58 rfl rfl ?_
                refine z_dald hC hM (hmm 15 (by decide)) hG3 (by omega) (by omega) dX7_folds_59 ?_
                refine lv_aload_n hx hb dX7_folds_60 rfl (lv_at hl 1 rfl) ?_
                refine z_get hC hM (hmm 0 (by decide)) hG0 zcl_X7 (by decide) zl_X7_44 rfl dX7_folds_61 ?_
                refine lv_sipush (v := nI 1000) hx hb dX7_folds_64 (by decide) ?_
                refine lv_iload_n hx hb dX7_folds_67 rfl (lv_at hl 2 rfl) ?_
                refine z_imul hx hb dX7_folds_68 ?_
                refine lv_iload_n hx hb dX7_folds_69 rfl (lv_at hl 0 rfl) ?_
                refine z_iadd hx hb dX7_folds_70 ?_
                refine z_dald hC hM (hmm 13 (by decide)) hG2 (by omega) (by omega) dX7_folds_71 ?_
                refine lv_dadd hx hb dX7_folds_72 (by show vf_n64 (FP.dadd (if h % p9 < p9 then fS (gk A i) p9 h (h % p9) else sg (h % p9)) _); rw [if_pos hm9, ← eg]; exact hFP.2.1 p9 h (h % p9) hh hnz) ?_
                refine z_dast hC hM (hmm 15 (by decide)) hG3 (by omega) (by omega) dX7_folds_73 (fun H locs hM => ?_)
                obtain ⟨f_1, ef_1⟩ : ∃ z9, z9 = va_up f1 ((ma 15)) (eD K 120 (va_up (fun j => if j < p9 then fS (gk A i) p9 h j else sg j) (h % p9) (FP.dadd ((fun j => if j < p9 then fS (gk A i) p9 h j else sg j) (h % p9)) (A.2 ((1000 * i) + h))))) := ⟨_, rfl⟩
                rw [← ef_1] at hM
                have hF_2 : f_1 ((ma 0)) = eS 8 [.int t, .int (nI (ns A)), .ref ((ma 2)), .ref ((ma 3)), .ref ((ma 4)), .ref ((ma 5)), .ref ((ma 6)), .ref ((ma 7)), .ref ((ma 8)), .ref ((ma 9)), .ref ((ma 10)), .ref ((ma 11)), .ref ((ma 12)), .ref ((ma 13)), .ref ((ma 14)), .ref ((ma 15)), .ref ((ma 16)), .double bb, .int bf, .int (nI (nw A)), .ref ((ma 20)), .ref ((ma 21)), .ref ((ma 22)), .ref ((ma 23)), .int (nI (np A)), .ref ((ma 25)), .ref ((ma 26))] := by rw [ef_1]; exact (va_up_ne _ _ (mne hmi (by decide) (by decide) (show 0 ≠ 15 by decide))).trans hG0
                have hF_3 : f_1 ((ma 12)) = eZ K 6000 (fun j => nI ((A.1 12) j)) := by rw [ef_1]; exact (va_up_ne _ _ (mne hmi (by decide) (by decide) (show 12 ≠ 15 by decide))).trans hG1
                have hF_4 : f_1 ((ma 13)) = eD K 6000 A.2 := by rw [ef_1]; exact (va_up_ne _ _ (mne hmi (by decide) (by decide) (show 13 ≠ 15 by decide))).trans hG2
                have hF_5 : f_1 ((ma 15)) = eD K 120 (va_up (fun j => if j < p9 then fS (gk A i) p9 h j else sg j) (h % p9) (FP.dadd ((fun j => if j < p9 then fS (gk A i) p9 h j else sg j) (h % p9)) (A.2 ((1000 * i) + h)))) := by rw [ef_1]; exact va_up_self _ _ _
                have hF_6 : f_1 ((ma 16)) = eI K 120 (fun j => nI ((fun j => if j < p9 then fC (gk A i) p9 h j else cg j) j)) := by rw [ef_1]; exact (va_up_ne _ _ (mne hmi (by decide) (by decide) (show 16 ≠ 15 by decide))).trans hG4
                refine lv_aload_n hx hb dX7_folds_74 rfl (lv_at hl 1 rfl) ?_
                refine z_get hC hM (hmm 0 (by decide)) hF_2 zcl_X7 (by decide) zl_X7_54 rfl dX7_folds_75 ?_
                refine lv_iload_n hx hb dX7_folds_78 rfl (lv_at hl 0 rfl) ?_
                refine lv_iload_n hx hb dX7_folds_79 rfl (lv_at hl 3 rfl) ?_
                refine z_irem hx hb (by omega) (by omega) (by omega) dX7_folds_80 ?_
                refine lv_dup2_11 hx hb dX7_folds_81 rfl rfl ?_
                refine z_iald hC hM (hmm 16 (by decide)) hF_6 (by omega) (by omega) dX7_folds_82 ?_
                refine lv_iconst (v := nI 1) hx hb dX7_folds_83 (by decide) ?_
                refine z_iadd hx hb dX7_folds_84 ?_
                refine z_iast hC hM (hmm 16 (by decide)) hF_6 (by omega) (by omega) dX7_folds_85 (fun H locs hM => ?_)
                rw [up_nI] at hM
                obtain ⟨f_7, ef_7⟩ : ∃ z9, z9 = va_up f_1 ((ma 16)) (eI K 120 (fun j => nI ((va_up (fun j => if j < p9 then fC (gk A i) p9 h j else cg j) (h % p9) (((fun j => if j < p9 then fC (gk A i) p9 h j else cg j) (h % p9)) + 1)) j))) := ⟨_, rfl⟩
                rw [← ef_7] at hM
                have hF_8 : f_7 ((ma 0)) = eS 8 [.int t, .int (nI (ns A)), .ref ((ma 2)), .ref ((ma 3)), .ref ((ma 4)), .ref ((ma 5)), .ref ((ma 6)), .ref ((ma 7)), .ref ((ma 8)), .ref ((ma 9)), .ref ((ma 10)), .ref ((ma 11)), .ref ((ma 12)), .ref ((ma 13)), .ref ((ma 14)), .ref ((ma 15)), .ref ((ma 16)), .double bb, .int bf, .int (nI (nw A)), .ref ((ma 20)), .ref ((ma 21)), .ref ((ma 22)), .ref ((ma 23)), .int (nI (np A)), .ref ((ma 25)), .ref ((ma 26))] := by rw [ef_7]; exact (va_up_ne _ _ (mne hmi (by decide) (by decide) (show 0 ≠ 16 by decide))).trans hF_2
                have hF_9 : f_7 ((ma 12)) = eZ K 6000 (fun j => nI ((A.1 12) j)) := by rw [ef_7]; exact (va_up_ne _ _ (mne hmi (by decide) (by decide) (show 12 ≠ 16 by decide))).trans hF_3
                have hF_10 : f_7 ((ma 13)) = eD K 6000 A.2 := by rw [ef_7]; exact (va_up_ne _ _ (mne hmi (by decide) (by decide) (show 13 ≠ 16 by decide))).trans hF_4
                have hF_11 : f_7 ((ma 15)) = eD K 120 (va_up (fun j => if j < p9 then fS (gk A i) p9 h j else sg j) (h % p9) (FP.dadd ((fun j => if j < p9 then fS (gk A i) p9 h j else sg j) (h % p9)) (A.2 ((1000 * i) + h)))) := by rw [ef_7]; exact (va_up_ne _ _ (mne hmi (by decide) (by decide) (show 15 ≠ 16 by decide))).trans hF_5
                have hF_12 : f_7 ((ma 16)) = eI K 120 (fun j => nI ((va_up (fun j => if j < p9 then fC (gk A i) p9 h j else cg j) (h % p9) (((fun j => if j < p9 then fC (gk A i) p9 h j else cg j) (h % p9)) + 1)) j)) := by rw [ef_7]; exact va_up_self _ _ _
                refine lv_iinc (v := nI (h + 1)) (lv' := [(3, .int (nI (h + 1))), (0, .ref ((ma 0))), (1, .int (nI i)), (2, .int (nI p9))]) hx hb dX7_folds_86 hl (k := 0) rfl (nI_add h 1) (by decide) rfl (fun ls hl => ?_)
                refine lv_goto (tgt := 29) hx hb dX7_folds_89 (by decide) ?_
                have hfr : ∀ q, q ≠ ((ma 15)) → q ≠ ((ma 16)) → f_7 q = f q := fun q hq0 hq1 => by
                  rw [ef_7, ef_1]
                  simp only [va_up, hq0, hq1, if_false]
                  exact hfr q hq0 hq1
                exact ih ls H locs f_7 (lv_sub hl [0, 1, 2, 3] rfl) hM hF_8 hF_9 hF_10 (hF_11.trans (by rw [fSp_up hp0 hnz eg])) (hF_12.trans (congrArg (fun z => eI K 120 (fun j => nI (z j))) (fCp_up hp0 hnz))) hfr
        exact LOOP29 0 (Nat.zero_le _) ls H locs f1 (lv_sub hl [0, 1, 2, 3] rfl) hM hG0 hG1 hG2 hG3 hG4 hfr
      · exact absurd c_4 (by omega)
    · intro k hk ih ls H locs f1 hl hM hG0 hG1 hG2 hG3 hG4 hfr
      refine lv_iload_n hx hb dX7_folds_2 rfl (lv_at hl 0 rfl) ?_
      refine lv_iload_n hx hb dX7_folds_3 rfl (lv_at hl 3 rfl) ?_
      refine z_icmp_ge (tgt := 27) hx hb (nI_toInt (by omega)) (nI_toInt (by omega)) dX7_folds_4 (by decide) (fun c_4 => ?_) (fun c_4 => ?_)
      · exact absurd c_4 (by omega)
      · refine lv_aload_n hx hb dX7_folds_7 rfl (lv_at hl 1 rfl) ?_
        refine z_get hC hM (hmm 0 (by decide)) hG0 zcl_X7 (by decide) zl_X7_51 rfl dX7_folds_8 ?_
        refine lv_iload_n hx hb dX7_folds_11 rfl (lv_at hl 0 rfl) ?_
        refine lv_dconst0 hx hb dX7_folds_12 ?_
        refine z_dast hC hM (hmm 15 (by decide)) hG3 (by omega) (by omega) dX7_folds_13 (fun H locs hM => ?_)
        obtain ⟨f_13, ef_13⟩ : ∃ z9, z9 = va_up f1 ((ma 15)) (eD K 120 (va_up (fun j => if j < k then FP.dconst0 else sg j) k FP.dconst0)) := ⟨_, rfl⟩
        rw [← ef_13] at hM
        have hF_14 : f_13 ((ma 0)) = eS 8 [.int t, .int (nI (ns A)), .ref ((ma 2)), .ref ((ma 3)), .ref ((ma 4)), .ref ((ma 5)), .ref ((ma 6)), .ref ((ma 7)), .ref ((ma 8)), .ref ((ma 9)), .ref ((ma 10)), .ref ((ma 11)), .ref ((ma 12)), .ref ((ma 13)), .ref ((ma 14)), .ref ((ma 15)), .ref ((ma 16)), .double bb, .int bf, .int (nI (nw A)), .ref ((ma 20)), .ref ((ma 21)), .ref ((ma 22)), .ref ((ma 23)), .int (nI (np A)), .ref ((ma 25)), .ref ((ma 26))] := by rw [ef_13]; exact (va_up_ne _ _ (mne hmi (by decide) (by decide) (show 0 ≠ 15 by decide))).trans hG0
        have hF_15 : f_13 ((ma 12)) = eZ K 6000 (fun j => nI ((A.1 12) j)) := by rw [ef_13]; exact (va_up_ne _ _ (mne hmi (by decide) (by decide) (show 12 ≠ 15 by decide))).trans hG1
        have hF_16 : f_13 ((ma 13)) = eD K 6000 A.2 := by rw [ef_13]; exact (va_up_ne _ _ (mne hmi (by decide) (by decide) (show 13 ≠ 15 by decide))).trans hG2
        have hF_17 : f_13 ((ma 15)) = eD K 120 (va_up (fun j => if j < k then FP.dconst0 else sg j) k FP.dconst0) := by rw [ef_13]; exact va_up_self _ _ _
        have hF_18 : f_13 ((ma 16)) = eI K 120 (fun j => nI ((fun j => if j < k then 0 else cg j) j)) := by rw [ef_13]; exact (va_up_ne _ _ (mne hmi (by decide) (by decide) (show 16 ≠ 15 by decide))).trans hG4
        refine lv_aload_n hx hb dX7_folds_14 rfl (lv_at hl 1 rfl) ?_
        refine z_get hC hM (hmm 0 (by decide)) hF_14 zcl_X7 (by decide) zl_X7_54 rfl dX7_folds_15 ?_
        refine lv_iload_n hx hb dX7_folds_18 rfl (lv_at hl 0 rfl) ?_
        refine lv_iconst (v := nI 0) hx hb dX7_folds_19 (by decide) ?_
        refine z_iast hC hM (hmm 16 (by decide)) hF_18 (by omega) (by omega) dX7_folds_20 (fun H locs hM => ?_)
        rw [up_nI] at hM
        obtain ⟨f_19, ef_19⟩ : ∃ z9, z9 = va_up f_13 ((ma 16)) (eI K 120 (fun j => nI ((va_up (fun j => if j < k then 0 else cg j) k 0) j))) := ⟨_, rfl⟩
        rw [← ef_19] at hM
        have hF_20 : f_19 ((ma 0)) = eS 8 [.int t, .int (nI (ns A)), .ref ((ma 2)), .ref ((ma 3)), .ref ((ma 4)), .ref ((ma 5)), .ref ((ma 6)), .ref ((ma 7)), .ref ((ma 8)), .ref ((ma 9)), .ref ((ma 10)), .ref ((ma 11)), .ref ((ma 12)), .ref ((ma 13)), .ref ((ma 14)), .ref ((ma 15)), .ref ((ma 16)), .double bb, .int bf, .int (nI (nw A)), .ref ((ma 20)), .ref ((ma 21)), .ref ((ma 22)), .ref ((ma 23)), .int (nI (np A)), .ref ((ma 25)), .ref ((ma 26))] := by rw [ef_19]; exact (va_up_ne _ _ (mne hmi (by decide) (by decide) (show 0 ≠ 16 by decide))).trans hF_14
        have hF_21 : f_19 ((ma 12)) = eZ K 6000 (fun j => nI ((A.1 12) j)) := by rw [ef_19]; exact (va_up_ne _ _ (mne hmi (by decide) (by decide) (show 12 ≠ 16 by decide))).trans hF_15
        have hF_22 : f_19 ((ma 13)) = eD K 6000 A.2 := by rw [ef_19]; exact (va_up_ne _ _ (mne hmi (by decide) (by decide) (show 13 ≠ 16 by decide))).trans hF_16
        have hF_23 : f_19 ((ma 15)) = eD K 120 (va_up (fun j => if j < k then FP.dconst0 else sg j) k FP.dconst0) := by rw [ef_19]; exact (va_up_ne _ _ (mne hmi (by decide) (by decide) (show 15 ≠ 16 by decide))).trans hF_17
        have hF_24 : f_19 ((ma 16)) = eI K 120 (fun j => nI ((va_up (fun j => if j < k then 0 else cg j) k 0) j)) := by rw [ef_19]; exact va_up_self _ _ _
        refine lv_iinc (v := nI (k + 1)) (lv' := [(3, .int (nI (k + 1))), (0, .ref ((ma 0))), (1, .int (nI i)), (2, .int (nI p9))]) hx hb dX7_folds_21 hl (k := 0) rfl (nI_add k 1) (by decide) rfl (fun ls hl => ?_)
        refine lv_goto (tgt := 2) hx hb dX7_folds_24 (by decide) ?_
        have hfr : ∀ q, q ≠ ((ma 15)) → q ≠ ((ma 16)) → f_19 q = f q := fun q hq0 hq1 => by
          rw [ef_19, ef_13]
          simp only [va_up, hq0, hq1, if_false]
          exact hfr q hq0 hq1
        exact ih ls H locs f_19 (lv_sub hl [0, 1, 2, 3] rfl) hM hF_20 hF_21 hF_22 (hF_23.trans (by rw [fill_up])) (hF_24.trans (by rw [fill_up])) hfr
  exact LOOP2 0 (Nat.zero_le _) ls H locs f (lv_sub hl [0, 1, 2, 3] rfl) hM hg0 hg12 hg13 (hg15.trans (by rw [fill_0])) (hg16.trans (by rw [fill_0])) (fun _ _ _ => rfl)
