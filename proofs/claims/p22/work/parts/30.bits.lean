/-! CONTRACTS of Transitry: the bits of a double (rows laid by wip/whole/bits.py) -/
theorem half_ok {k m : Nat} (h1 : 2 ≤ k) (h : k ≤ 2046) (hm : m < 2 ^ 52) : FP.ddiv (nx k m) 4611686018427387904 = nx (k - 1) m := by
  have := nx_half (k := k - 1) (m := m) (by omega) (by omega) hm
  rwa [show k - 1 + 1 = k by omega] at this
theorem half_n {k m : Nat} (h1 : 2 ≤ k) (h : k ≤ 2046) (hm : m < 2 ^ 52) : vf_n64 (FP.ddiv (nx k m) 4611686018427387904) := by
  rw [half_ok h1 h hm]; exact (n64_iff _).mpr (nx_nan (by omega) (by omega) hm)
theorem twice_ok {k m : Nat} (h1 : 1 ≤ k) (h : k ≤ 2045) (hm : m < 2 ^ 52) : FP.dmul (nx k m) 4611686018427387904 = nx (k + 1) m := nx_twice h1 h hm
theorem twice_n {k m : Nat} (h1 : 1 ≤ k) (h : k ≤ 2045) (hm : m < 2 ^ 52) : vf_n64 (FP.dmul (nx k m) 4611686018427387904) := by
  rw [twice_ok h1 h hm]; exact (n64_iff _).mpr (nx_nan (by omega) (by omega) hm)
theorem two_c {k m : Nat} (h1 : 1 ≤ k) (h : k ≤ 2046) (hm : m < 2 ^ 52) : dc (nx k m) 4611686018427387904 < 0 ↔ k < 1024 := nx_dc2 h1 h hm
set_option maxHeartbeats 400000 in
set_option maxRecDepth 100000 in
theorem c_bits_0 {l : Launch} {base : Nat} {K : zK} {L : List Nat} {f : Nat → va_E}  : zMet l yX6_bitsOf cX6_bitsOf 10 (some .long) (zr 0 0 0 0) base K L f [.double 0] (zFl base K 0 L f) := by
  refine z_met (by decide) (Nat.le_of_ble_eq_true rfl) (fun p e s m below meth c ls hC hM hr hlk hnm hl => ?_)
  have hx := hC.1
  have hb := hC.2.1
  have hml := hC.2.2.1
  have hown := hC.2.2.2.1
  have hts := hC.2.2.2.2.1
  generalize hA : ([.double 0] : List Value).toArray = args at hC ⊢
  generalize hQ : MQ _ _ _ _ _ _ _ = Q
  obtain ⟨locs, hlocs⟩ : ∃ z : List Loc, z = [] := ⟨_, rfl⟩
  obtain ⟨H, hH⟩ : ∃ z : Heap, z = s.heap := ⟨_, rfl⟩
  rw [← hlocs, ← hH] at hM ⊢
  have hl : lv_has ls 10 [(0, .double 0)] := hl
  refine lv_dload_n hx hb dX6_bitsOf_0 rfl (lv_at hl 0 rfl) ?_
  refine lv_dconst0 hx hb dX6_bitsOf_1 ?_
  refine lv_dcmp hx hb dX6_bitsOf_2 ?_
  refine z_if_ne (tgt := 8) hx hb (dc_l _ _) dX6_bitsOf_3 (by decide) (fun c_3 => ?_) (fun c_3 => ?_)
  · exact absurd (show dc 0 FP.dconst0 = 0 by decide +kernel) c_3
  · refine lv_lconst (v := 0) hx hb dX6_bitsOf_6 (by decide) ?_
    rw [← hQ]
    exact z_lret hC hM hr hlk (by decide) (by decide) ⟨rfl, rfl, rfl⟩ dX6_bitsOf_7
set_option maxHeartbeats 400000 in
set_option maxRecDepth 100000 in
theorem c_bits_p {l : Launch} {base : Nat} {K : zK} {L : List Nat} {f : Nat → va_E} {k fr : Nat} (hk1 : 1 ≤ k) (hk2 : k ≤ 2046) (hm : fr < 2 ^ 52) : zMet l yX6_bitsOf cX6_bitsOf 10 (some .long) (zr 0 0 0 0) base K L f [.double (nx k fr)] (zFl base K (nx k fr).toInt64 L f) := by
  refine z_met (by decide) (Nat.le_of_ble_eq_true rfl) (fun p e s m below meth c ls hC hM hr hlk hnm hl => ?_)
  have hx := hC.1
  have hb := hC.2.1
  have hml := hC.2.2.1
  have hown := hC.2.2.2.1
  have hts := hC.2.2.2.2.1
  generalize hA : ([.double (nx k fr)] : List Value).toArray = args at hC ⊢
  generalize hQ : MQ _ _ _ _ _ _ _ = Q
  obtain ⟨locs, hlocs⟩ : ∃ z : List Loc, z = [] := ⟨_, rfl⟩
  obtain ⟨H, hH⟩ : ∃ z : Heap, z = s.heap := ⟨_, rfl⟩
  rw [← hlocs, ← hH] at hM ⊢
  have hl : lv_has ls 10 [(0, .double (nx k fr))] := hl
  refine lv_dload_n hx hb dX6_bitsOf_0 rfl (lv_at hl 0 rfl) ?_
  refine lv_dconst0 hx hb dX6_bitsOf_1 ?_
  refine lv_dcmp hx hb dX6_bitsOf_2 ?_
  refine z_if_ne (tgt := 8) hx hb (dc_l _ _) dX6_bitsOf_3 (by decide) (fun c_3 => ?_) (fun c_3 => ?_)
  · refine lv_dload_n hx hb dX6_bitsOf_8 rfl (lv_at hl 0 rfl) ?_
    refine lv_dconst0 hx hb dX6_bitsOf_9 ?_
    refine lv_dcmp hx hb dX6_bitsOf_10 ?_
    refine z_if_ge (tgt := 20) hx hb (dc_g (dc_some (nx_nan hk1 hk2 hm) zero_nan)) dX6_bitsOf_11 (by decide) (fun c_11 => ?_) (fun c_11 => ?_)
    · refine lv_lconst (v := 0) hx hb dX6_bitsOf_20 (by decide) ?_
      refine lv_lstore_n (lv' := [(2, .long 0), (0, .double (nx k fr))]) hx hb dX6_bitsOf_21 rfl hl (by decide) rfl (fun ls hl => ?_)
      refine lv_dload_n hx hb dX6_bitsOf_22 rfl (lv_at hl 1 rfl) ?_
      refine lv_dconst0 hx hb dX6_bitsOf_23 ?_
      refine lv_dcmp hx hb dX6_bitsOf_24 ?_
      refine z_if_ge (tgt := 33) hx hb (dc_g (dc_some (nx_nan hk1 hk2 hm) zero_nan)) dX6_bitsOf_25 (by decide) (fun c_25 => ?_) (fun c_25 => ?_)
      · refine lv_dload_n hx hb dX6_bitsOf_33 rfl (lv_at hl 1 rfl) ?_
        refine lv_dstore (lv' := [(4, .double (nx k fr)), (2, .long 0), (0, .double (nx k fr))]) hx hb dX6_bitsOf_34 hl (by decide) rfl (fun ls hl => ?_)
        refine lv_ldc2 (v := (1023)) hx hb hown (hts _ zk_X6_250) dX6_bitsOf_36 ?_
        rw [show (1023 : Int64) = Int64.ofNat (1023 + 0) from rfl]
        refine lv_lstore (lv' := [(6, .long (Int64.ofNat (1023 + 0))), (4, .double (nx k fr)), (2, .long 0), (0, .double (nx k fr))]) hx hb dX6_bitsOf_39 hl (by decide) rfl (fun ls hl => ?_)
        refine lv_iconst (v := nI 0) hx hb dX6_bitsOf_41 (by decide) ?_
        refine lv_istore (lv' := [(8, .int (nI 0)), (6, .long (Int64.ofNat (1023 + 0))), (4, .double (nx k fr)), (2, .long 0), (0, .double (nx k fr))]) hx hb dX6_bitsOf_42 hl (by decide) rfl (fun ls hl => ?_)
        have h0 : True := trivial
        have LOOP84 : ∀ i, i ≤ 1022 → ∀ (ls : Array Slot) (H : Heap) (locs : List Loc) (q : Nat), lv_has ls 10 [(8, .int (nI i)), (6, .long (Int64.ofNat (1023 + k - q - i))), (4, .double (nx (q + i) fr)), (2, .long 0), (0, .double (nx k fr))] → zM base K L f s H locs → (q + i ≤ 1023) → (1 ≤ q ∧ q ≤ k) → W p l e (zr 0 0 0 0) s m args below meth c H locs 0 0 Q (F0 m 84 ls []) := by
          refine z_down 1022 ?_ ?_
          · intro ls H locs q hl hM hq1 hq2
            have hqe : q + 1022 = 1023 := by omega
            refine lv_iload hx hb dX6_bitsOf_84 (lv_at hl 0 rfl) ?_
            refine lv_sipush (v := nI 1022) hx hb dX6_bitsOf_86 (by decide) ?_
            refine z_icmp_ge (tgt := 119) hx hb (nI_toInt (by decide)) (nI_toInt (by decide)) dX6_bitsOf_89 (by decide) (fun c_89 => ?_) (fun c_89 => ?_)
            · have hqe : q + 1022 = 1023 := by omega
              rw [show 1023 + k - q - 1022 = k by omega, show q + 1022 = 1023 by omega] at hl
              refine lv_dload hx hb dX6_bitsOf_119 (lv_at hl 2 rfl) ?_
              refine lv_dconst1 hx hb dX6_bitsOf_121 ?_
              refine lv_dsub hx hb dX6_bitsOf_122 (nx_last hm).2.2 ?_
              refine lv_ldc2d (v := 4841369599423283200) hx hb hown (hts _ zk_X6_254) dX6_bitsOf_123 ?_
              refine lv_dmul hx hb dX6_bitsOf_126 (nx_last hm).2.1 ?_
              refine lv_d2l hx hb dX6_bitsOf_127 ?_
              rw [show FP.dmul (FP.dsub (nx 1023 fr) FP.dconst1) 4841369599423283200 = FP.dmul (FP.dsub (nx 1023 fr) FP.dconst1) big52 from rfl, (nx_last hm).1]
              refine lv_lstore (lv' := [(8, .long (Int64.ofNat fr)), (6, .long (Int64.ofNat k)), (4, .double (nx 1023 fr)), (2, .long 0), (0, .double (nx k fr))]) hx hb dX6_bitsOf_128 hl (by decide) rfl (fun ls hl => ?_)
              refine lv_lload_n hx hb dX6_bitsOf_130 rfl (lv_at hl 3 rfl) ?_
              refine lv_lload hx hb dX6_bitsOf_131 (lv_at hl 1 rfl) ?_
              refine lv_bipush (v := nI 52) hx hb dX6_bitsOf_133 (by decide) ?_
              refine lv_lshl (v := Int64.ofNat (k * 2 ^ 52)) hx hb dX6_bitsOf_135 (shl_nat hk2) ?_
              refine lv_lor hx hb dX6_bitsOf_136 ?_
              refine lv_lload hx hb dX6_bitsOf_137 (lv_at hl 0 rfl) ?_
              refine lv_lor hx hb dX6_bitsOf_139 ?_
              rw [← hQ]
              exact z_lret hC hM hr hlk (by decide) (by decide) ⟨bits_pos hk2 hm, rfl, rfl⟩ dX6_bitsOf_140
            · exact absurd c_89 (by omega)
          · intro i hi ih ls H locs q hl hM hq1 hq2
            refine lv_iload hx hb dX6_bitsOf_84 (lv_at hl 0 rfl) ?_
            refine lv_sipush (v := nI 1022) hx hb dX6_bitsOf_86 (by decide) ?_
            refine z_icmp_ge (tgt := 119) hx hb (nI_toInt (by omega)) (nI_toInt (by decide)) dX6_bitsOf_89 (by decide) (fun c_89 => ?_) (fun c_89 => ?_)
            · exact absurd c_89 (by omega)
            · refine lv_dload hx hb dX6_bitsOf_92 (lv_at hl 2 rfl) ?_
              refine lv_dconst1 hx hb dX6_bitsOf_94 ?_
              refine lv_dcmp hx hb dX6_bitsOf_95 ?_
              refine z_if_ge (tgt := 119) hx hb (dc_g (dc_some (nx_nan (by omega) (by omega) hm) one_nan)) dX6_bitsOf_96 (by decide) (fun c_96 => ?_) (fun c_96 => ?_)
              · have hqe : q + i = 1023 := by have := mt (nx_dc1 (k := q + i) (by omega) (by omega) hm).mpr (by omega); omega
                rw [show 1023 + k - q - i = k by omega, show q + i = 1023 by omega] at hl
                refine lv_dload hx hb dX6_bitsOf_119 (lv_at hl 2 rfl) ?_
                refine lv_dconst1 hx hb dX6_bitsOf_121 ?_
                refine lv_dsub hx hb dX6_bitsOf_122 (nx_last hm).2.2 ?_
                refine lv_ldc2d (v := 4841369599423283200) hx hb hown (hts _ zk_X6_254) dX6_bitsOf_123 ?_
                refine lv_dmul hx hb dX6_bitsOf_126 (nx_last hm).2.1 ?_
                refine lv_d2l hx hb dX6_bitsOf_127 ?_
                rw [show FP.dmul (FP.dsub (nx 1023 fr) FP.dconst1) 4841369599423283200 = FP.dmul (FP.dsub (nx 1023 fr) FP.dconst1) big52 from rfl, (nx_last hm).1]
                refine lv_lstore (lv' := [(8, .long (Int64.ofNat fr)), (6, .long (Int64.ofNat k)), (4, .double (nx 1023 fr)), (2, .long 0), (0, .double (nx k fr))]) hx hb dX6_bitsOf_128 hl (by decide) rfl (fun ls hl => ?_)
                refine lv_lload_n hx hb dX6_bitsOf_130 rfl (lv_at hl 3 rfl) ?_
                refine lv_lload hx hb dX6_bitsOf_131 (lv_at hl 1 rfl) ?_
                refine lv_bipush (v := nI 52) hx hb dX6_bitsOf_133 (by decide) ?_
                refine lv_lshl (v := Int64.ofNat (k * 2 ^ 52)) hx hb dX6_bitsOf_135 (shl_nat hk2) ?_
                refine lv_lor hx hb dX6_bitsOf_136 ?_
                refine lv_lload hx hb dX6_bitsOf_137 (lv_at hl 0 rfl) ?_
                refine lv_lor hx hb dX6_bitsOf_139 ?_
                rw [← hQ]
                exact z_lret hC hM hr hlk (by decide) (by decide) ⟨bits_pos hk2 hm, rfl, rfl⟩ dX6_bitsOf_140
              · have hq9 : q + i < 1023 := (nx_dc1 (k := q + i) (by omega) (by omega) hm).mp c_96
                refine lv_dload hx hb dX6_bitsOf_99 (lv_at hl 2 rfl) ?_
                refine lv_ldc2d (v := 4611686018427387904) hx hb hown (hts _ zk_X6_252) dX6_bitsOf_101 ?_
                refine lv_dmul hx hb dX6_bitsOf_104 (twice_n (by omega) (by omega) hm) ?_
                rw [twice_ok (by omega) (by omega) hm, show q + i + 1 = q + (i + 1) by omega]
                refine lv_dstore (lv' := [(4, .double (nx (q + (i + 1)) fr)), (8, .int (nI i)), (6, .long (Int64.ofNat (1023 + k - q - i))), (2, .long 0), (0, .double (nx k fr))]) hx hb dX6_bitsOf_105 hl (by decide) rfl (fun ls hl => ?_)
                refine lv_lload hx hb dX6_bitsOf_107 (lv_at hl 2 rfl) ?_
                refine lv_lconst (v := 1) hx hb dX6_bitsOf_109 (by decide) ?_
                refine lv_lsub hx hb dX6_bitsOf_110 ?_
                rw [show 1023 + k - q - i = (1023 + k - q - (i + 1)) + 1 by omega, j_sub]
                refine lv_lstore (lv' := [(6, .long (Int64.ofNat (1023 + k - q - (i + 1)))), (4, .double (nx (q + (i + 1)) fr)), (8, .int (nI i)), (2, .long 0), (0, .double (nx k fr))]) hx hb dX6_bitsOf_111 hl (by decide) rfl (fun ls hl => ?_)
                refine lv_iinc (v := nI (i + 1)) (lv' := [(8, .int (nI (i + 1))), (6, .long (Int64.ofNat (1023 + k - q - (i + 1)))), (4, .double (nx (q + (i + 1)) fr)), (2, .long 0), (0, .double (nx k fr))]) hx hb dX6_bitsOf_113 hl (k := 2) rfl (nI_add i 1) (by decide) rfl (fun ls hl => ?_)
                refine lv_goto (tgt := 84) hx hb dX6_bitsOf_116 (by decide) ?_
                exact ih ls H locs q (lv_sub hl [0, 1, 2, 3, 4] rfl) hM (by have := (nx_dc1 (k := q + i) (by omega) (by omega) hm).mp c_96; omega) hq2
        have LOOP44 : ∀ i, i ≤ 1023 → ∀ (ls : Array Slot) (H : Heap) (locs : List Loc), lv_has ls 10 [(8, .int (nI i)), (6, .long (Int64.ofNat (1023 + i))), (4, .double (nx (k - i) fr)), (2, .long 0), (0, .double (nx k fr))] → zM base K L f s H locs → (i = 0 ∨ 1023 + i ≤ k) → W p l e (zr 0 0 0 0) s m args below meth c H locs 0 0 Q (F0 m 44 ls []) := by
          refine z_down 1023 ?_ ?_
          · intro ls H locs hl hM hi1
            refine lv_iload hx hb dX6_bitsOf_44 (lv_at hl 0 rfl) ?_
            refine lv_sipush (v := nI 1023) hx hb dX6_bitsOf_46 (by decide) ?_
            refine z_icmp_ge (tgt := 81) hx hb (nI_toInt (by decide)) (nI_toInt (by decide)) dX6_bitsOf_49 (by decide) (fun c_49 => ?_) (fun c_49 => ?_)
            · have hq9 : k - 1023 ≤ 1023 := by omega
              refine lv_iconst (v := nI 0) hx hb dX6_bitsOf_81 (by decide) ?_
              refine lv_istore (lv' := [(8, .int (nI 0)), (6, .long (Int64.ofNat (1023 + 1023))), (4, .double (nx (k - 1023) fr)), (2, .long 0), (0, .double (nx k fr))]) hx hb dX6_bitsOf_82 hl (by decide) rfl (fun ls hl => ?_)
              exact LOOP84 0 (Nat.zero_le _) ls H locs (k - 1023) (by rw [show 1023 + k - (k - 1023) - 0 = 1023 + 1023 by omega, show (k - 1023) + 0 = k - 1023 from rfl]; exact lv_sub hl [0, 1, 2, 3, 4] rfl) hM (by omega) (by omega)
            · exact absurd c_49 (by omega)
          · intro i hi ih ls H locs hl hM hi1
            refine lv_iload hx hb dX6_bitsOf_44 (lv_at hl 0 rfl) ?_
            refine lv_sipush (v := nI 1023) hx hb dX6_bitsOf_46 (by decide) ?_
            refine z_icmp_ge (tgt := 81) hx hb (nI_toInt (by omega)) (nI_toInt (by decide)) dX6_bitsOf_49 (by decide) (fun c_49 => ?_) (fun c_49 => ?_)
            · exact absurd c_49 (by omega)
            · refine lv_dload hx hb dX6_bitsOf_52 (lv_at hl 2 rfl) ?_
              refine lv_ldc2d (v := 4611686018427387904) hx hb hown (hts _ zk_X6_252) dX6_bitsOf_54 ?_
              refine lv_dcmp hx hb dX6_bitsOf_57 ?_
              refine z_if_lt (tgt := 81) hx hb (dc_l _ _) dX6_bitsOf_58 (by decide) (fun c_58 => ?_) (fun c_58 => ?_)
              · have hq9 : k - i ≤ 1023 := by have := (two_c (k := k - i) (m := fr) (by omega) (by omega) hm).mp c_58; omega
                refine lv_iconst (v := nI 0) hx hb dX6_bitsOf_81 (by decide) ?_
                refine lv_istore (lv' := [(8, .int (nI 0)), (6, .long (Int64.ofNat (1023 + i))), (4, .double (nx (k - i) fr)), (2, .long 0), (0, .double (nx k fr))]) hx hb dX6_bitsOf_82 hl (by decide) rfl (fun ls hl => ?_)
                exact LOOP84 0 (Nat.zero_le _) ls H locs (k - i) (by rw [show 1023 + k - (k - i) - 0 = 1023 + i by omega, show (k - i) + 0 = k - i from rfl]; exact lv_sub hl [0, 1, 2, 3, 4] rfl) hM (by omega) (by omega)
              · have hk9 : 1024 ≤ k - i := by have := mt (two_c (k := k - i) (m := fr) (by omega) (by omega) hm).mpr (by omega); omega
                refine lv_dload hx hb dX6_bitsOf_61 (lv_at hl 2 rfl) ?_
                refine lv_ldc2d (v := 4611686018427387904) hx hb hown (hts _ zk_X6_252) dX6_bitsOf_63 ?_
                refine lv_ddiv hx hb dX6_bitsOf_66 (half_n (by omega) (by omega) hm) ?_
                rw [half_ok (by omega) (by omega) hm, show k - i - 1 = k - (i + 1) by omega]
                refine lv_dstore (lv' := [(4, .double (nx (k - (i + 1)) fr)), (8, .int (nI i)), (6, .long (Int64.ofNat (1023 + i))), (2, .long 0), (0, .double (nx k fr))]) hx hb dX6_bitsOf_67 hl (by decide) rfl (fun ls hl => ?_)
                refine lv_lload hx hb dX6_bitsOf_69 (lv_at hl 2 rfl) ?_
                refine lv_lconst (v := 1) hx hb dX6_bitsOf_71 (by decide) ?_
                refine lv_ladd hx hb dX6_bitsOf_72 ?_
                rw [j_add, show 1023 + i + 1 = 1023 + (i + 1) by omega]
                refine lv_lstore (lv' := [(6, .long (Int64.ofNat (1023 + (i + 1)))), (4, .double (nx (k - (i + 1)) fr)), (8, .int (nI i)), (2, .long 0), (0, .double (nx k fr))]) hx hb dX6_bitsOf_73 hl (by decide) rfl (fun ls hl => ?_)
                refine lv_iinc (v := nI (i + 1)) (lv' := [(8, .int (nI (i + 1))), (6, .long (Int64.ofNat (1023 + (i + 1)))), (4, .double (nx (k - (i + 1)) fr)), (2, .long 0), (0, .double (nx k fr))]) hx hb dX6_bitsOf_75 hl (k := 2) rfl (nI_add i 1) (by decide) rfl (fun ls hl => ?_)
                refine lv_goto (tgt := 44) hx hb dX6_bitsOf_78 (by decide) ?_
                exact ih ls H locs (lv_sub hl [0, 1, 2, 3, 4] rfl) hM (by have := mt (two_c (k := k - i) (m := fr) (by omega) (by omega) hm).mpr (by omega); omega)
        exact LOOP44 0 (Nat.zero_le _) ls H locs (lv_sub hl [0, 1, 2, 3, 4] rfl) hM (Or.inl rfl)
      · exact absurd c_25 (by have := nx_dc0 hk1 hk2 hm; omega)
    · exact absurd c_11 (by have := nx_dc0 hk1 hk2 hm; omega)
  · exact absurd c_3 (by have := nx_dc0 hk1 hk2 hm; omega)
set_option maxHeartbeats 400000 in
set_option maxRecDepth 100000 in
theorem c_bits_n {l : Launch} {base : Nat} {K : zK} {L : List Nat} {f : Nat → va_E} {k fr : Nat} (hk1 : 1 ≤ k) (hk2 : k ≤ 2046) (hm : fr < 2 ^ 52) : zMet l yX6_bitsOf cX6_bitsOf 10 (some .long) (zr 0 0 0 0) base K L f [.double (FP.dneg (nx k fr))] (zFl base K (FP.dneg (nx k fr)).toInt64 L f) := by
  refine z_met (by decide) (Nat.le_of_ble_eq_true rfl) (fun p e s m below meth c ls hC hM hr hlk hnm hl => ?_)
  have hx := hC.1
  have hb := hC.2.1
  have hml := hC.2.2.1
  have hown := hC.2.2.2.1
  have hts := hC.2.2.2.2.1
  generalize hA : ([.double (FP.dneg (nx k fr))] : List Value).toArray = args at hC ⊢
  generalize hQ : MQ _ _ _ _ _ _ _ = Q
  obtain ⟨locs, hlocs⟩ : ∃ z : List Loc, z = [] := ⟨_, rfl⟩
  obtain ⟨H, hH⟩ : ∃ z : Heap, z = s.heap := ⟨_, rfl⟩
  rw [← hlocs, ← hH] at hM ⊢
  have hl : lv_has ls 10 [(0, .double (FP.dneg (nx k fr)))] := hl
  refine lv_dload_n hx hb dX6_bitsOf_0 rfl (lv_at hl 0 rfl) ?_
  refine lv_dconst0 hx hb dX6_bitsOf_1 ?_
  refine lv_dcmp hx hb dX6_bitsOf_2 ?_
  refine z_if_ne (tgt := 8) hx hb (dc_l _ _) dX6_bitsOf_3 (by decide) (fun c_3 => ?_) (fun c_3 => ?_)
  · refine lv_dload_n hx hb dX6_bitsOf_8 rfl (lv_at hl 0 rfl) ?_
    refine lv_dconst0 hx hb dX6_bitsOf_9 ?_
    refine lv_dcmp hx hb dX6_bitsOf_10 ?_
    refine z_if_ge (tgt := 20) hx hb (dc_g (dc_some (dneg_nan hk1 hk2 hm) zero_nan)) dX6_bitsOf_11 (by decide) (fun c_11 => ?_) (fun c_11 => ?_)
    · exact absurd c_11 (by have := dneg_dc0 hk1 hk2 hm; omega)
    · refine lv_ldc2 (v := (-9223372036854775808)) hx hb hown (hts _ zk_X6_248) dX6_bitsOf_14 ?_
      refine lv_goto (tgt := 21) hx hb dX6_bitsOf_17 (by decide) ?_
      refine lv_lstore_n (lv' := [(2, .long ((-9223372036854775808))), (0, .double (FP.dneg (nx k fr)))]) hx hb dX6_bitsOf_21 rfl hl (by decide) rfl (fun ls hl => ?_)
      refine lv_dload_n hx hb dX6_bitsOf_22 rfl (lv_at hl 1 rfl) ?_
      refine lv_dconst0 hx hb dX6_bitsOf_23 ?_
      refine lv_dcmp hx hb dX6_bitsOf_24 ?_
      refine z_if_ge (tgt := 33) hx hb (dc_g (dc_some (dneg_nan hk1 hk2 hm) zero_nan)) dX6_bitsOf_25 (by decide) (fun c_25 => ?_) (fun c_25 => ?_)
      · exact absurd c_25 (by have := dneg_dc0 hk1 hk2 hm; omega)
      · refine lv_dload_n hx hb dX6_bitsOf_28 rfl (lv_at hl 1 rfl) ?_
        refine lv_dneg hx hb dX6_bitsOf_29 ?_
        refine lv_goto (tgt := 34) hx hb dX6_bitsOf_30 (by decide) ?_
        rw [dneg2 hk1 hk2 hm]
        refine lv_dstore (lv' := [(4, .double (nx k fr)), (2, .long ((-9223372036854775808))), (0, .double (FP.dneg (nx k fr)))]) hx hb dX6_bitsOf_34 hl (by decide) rfl (fun ls hl => ?_)
        refine lv_ldc2 (v := (1023)) hx hb hown (hts _ zk_X6_250) dX6_bitsOf_36 ?_
        rw [show (1023 : Int64) = Int64.ofNat (1023 + 0) from rfl]
        refine lv_lstore (lv' := [(6, .long (Int64.ofNat (1023 + 0))), (4, .double (nx k fr)), (2, .long ((-9223372036854775808))), (0, .double (FP.dneg (nx k fr)))]) hx hb dX6_bitsOf_39 hl (by decide) rfl (fun ls hl => ?_)
        refine lv_iconst (v := nI 0) hx hb dX6_bitsOf_41 (by decide) ?_
        refine lv_istore (lv' := [(8, .int (nI 0)), (6, .long (Int64.ofNat (1023 + 0))), (4, .double (nx k fr)), (2, .long ((-9223372036854775808))), (0, .double (FP.dneg (nx k fr)))]) hx hb dX6_bitsOf_42 hl (by decide) rfl (fun ls hl => ?_)
        have h0 : True := trivial
        have LOOP84 : ∀ i, i ≤ 1022 → ∀ (ls : Array Slot) (H : Heap) (locs : List Loc) (q : Nat), lv_has ls 10 [(8, .int (nI i)), (6, .long (Int64.ofNat (1023 + k - q - i))), (4, .double (nx (q + i) fr)), (2, .long ((-9223372036854775808))), (0, .double (FP.dneg (nx k fr)))] → zM base K L f s H locs → (q + i ≤ 1023) → (1 ≤ q ∧ q ≤ k) → W p l e (zr 0 0 0 0) s m args below meth c H locs 0 0 Q (F0 m 84 ls []) := by
          refine z_down 1022 ?_ ?_
          · intro ls H locs q hl hM hq1 hq2
            have hqe : q + 1022 = 1023 := by omega
            refine lv_iload hx hb dX6_bitsOf_84 (lv_at hl 0 rfl) ?_
            refine lv_sipush (v := nI 1022) hx hb dX6_bitsOf_86 (by decide) ?_
            refine z_icmp_ge (tgt := 119) hx hb (nI_toInt (by decide)) (nI_toInt (by decide)) dX6_bitsOf_89 (by decide) (fun c_89 => ?_) (fun c_89 => ?_)
            · have hqe : q + 1022 = 1023 := by omega
              rw [show 1023 + k - q - 1022 = k by omega, show q + 1022 = 1023 by omega] at hl
              refine lv_dload hx hb dX6_bitsOf_119 (lv_at hl 2 rfl) ?_
              refine lv_dconst1 hx hb dX6_bitsOf_121 ?_
              refine lv_dsub hx hb dX6_bitsOf_122 (nx_last hm).2.2 ?_
              refine lv_ldc2d (v := 4841369599423283200) hx hb hown (hts _ zk_X6_254) dX6_bitsOf_123 ?_
              refine lv_dmul hx hb dX6_bitsOf_126 (nx_last hm).2.1 ?_
              refine lv_d2l hx hb dX6_bitsOf_127 ?_
              rw [show FP.dmul (FP.dsub (nx 1023 fr) FP.dconst1) 4841369599423283200 = FP.dmul (FP.dsub (nx 1023 fr) FP.dconst1) big52 from rfl, (nx_last hm).1]
              refine lv_lstore (lv' := [(8, .long (Int64.ofNat fr)), (6, .long (Int64.ofNat k)), (4, .double (nx 1023 fr)), (2, .long ((-9223372036854775808))), (0, .double (FP.dneg (nx k fr)))]) hx hb dX6_bitsOf_128 hl (by decide) rfl (fun ls hl => ?_)
              refine lv_lload_n hx hb dX6_bitsOf_130 rfl (lv_at hl 3 rfl) ?_
              refine lv_lload hx hb dX6_bitsOf_131 (lv_at hl 1 rfl) ?_
              refine lv_bipush (v := nI 52) hx hb dX6_bitsOf_133 (by decide) ?_
              refine lv_lshl (v := Int64.ofNat (k * 2 ^ 52)) hx hb dX6_bitsOf_135 (shl_nat hk2) ?_
              refine lv_lor hx hb dX6_bitsOf_136 ?_
              refine lv_lload hx hb dX6_bitsOf_137 (lv_at hl 0 rfl) ?_
              refine lv_lor hx hb dX6_bitsOf_139 ?_
              rw [← hQ]
              exact z_lret hC hM hr hlk (by decide) (by decide) ⟨bits_neg hk1 hk2 hm, rfl, rfl⟩ dX6_bitsOf_140
            · exact absurd c_89 (by omega)
          · intro i hi ih ls H locs q hl hM hq1 hq2
            refine lv_iload hx hb dX6_bitsOf_84 (lv_at hl 0 rfl) ?_
            refine lv_sipush (v := nI 1022) hx hb dX6_bitsOf_86 (by decide) ?_
            refine z_icmp_ge (tgt := 119) hx hb (nI_toInt (by omega)) (nI_toInt (by decide)) dX6_bitsOf_89 (by decide) (fun c_89 => ?_) (fun c_89 => ?_)
            · exact absurd c_89 (by omega)
            · refine lv_dload hx hb dX6_bitsOf_92 (lv_at hl 2 rfl) ?_
              refine lv_dconst1 hx hb dX6_bitsOf_94 ?_
              refine lv_dcmp hx hb dX6_bitsOf_95 ?_
              refine z_if_ge (tgt := 119) hx hb (dc_g (dc_some (nx_nan (by omega) (by omega) hm) one_nan)) dX6_bitsOf_96 (by decide) (fun c_96 => ?_) (fun c_96 => ?_)
              · have hqe : q + i = 1023 := by have := mt (nx_dc1 (k := q + i) (by omega) (by omega) hm).mpr (by omega); omega
                rw [show 1023 + k - q - i = k by omega, show q + i = 1023 by omega] at hl
                refine lv_dload hx hb dX6_bitsOf_119 (lv_at hl 2 rfl) ?_
                refine lv_dconst1 hx hb dX6_bitsOf_121 ?_
                refine lv_dsub hx hb dX6_bitsOf_122 (nx_last hm).2.2 ?_
                refine lv_ldc2d (v := 4841369599423283200) hx hb hown (hts _ zk_X6_254) dX6_bitsOf_123 ?_
                refine lv_dmul hx hb dX6_bitsOf_126 (nx_last hm).2.1 ?_
                refine lv_d2l hx hb dX6_bitsOf_127 ?_
                rw [show FP.dmul (FP.dsub (nx 1023 fr) FP.dconst1) 4841369599423283200 = FP.dmul (FP.dsub (nx 1023 fr) FP.dconst1) big52 from rfl, (nx_last hm).1]
                refine lv_lstore (lv' := [(8, .long (Int64.ofNat fr)), (6, .long (Int64.ofNat k)), (4, .double (nx 1023 fr)), (2, .long ((-9223372036854775808))), (0, .double (FP.dneg (nx k fr)))]) hx hb dX6_bitsOf_128 hl (by decide) rfl (fun ls hl => ?_)
                refine lv_lload_n hx hb dX6_bitsOf_130 rfl (lv_at hl 3 rfl) ?_
                refine lv_lload hx hb dX6_bitsOf_131 (lv_at hl 1 rfl) ?_
                refine lv_bipush (v := nI 52) hx hb dX6_bitsOf_133 (by decide) ?_
                refine lv_lshl (v := Int64.ofNat (k * 2 ^ 52)) hx hb dX6_bitsOf_135 (shl_nat hk2) ?_
                refine lv_lor hx hb dX6_bitsOf_136 ?_
                refine lv_lload hx hb dX6_bitsOf_137 (lv_at hl 0 rfl) ?_
                refine lv_lor hx hb dX6_bitsOf_139 ?_
                rw [← hQ]
                exact z_lret hC hM hr hlk (by decide) (by decide) ⟨bits_neg hk1 hk2 hm, rfl, rfl⟩ dX6_bitsOf_140
              · have hq9 : q + i < 1023 := (nx_dc1 (k := q + i) (by omega) (by omega) hm).mp c_96
                refine lv_dload hx hb dX6_bitsOf_99 (lv_at hl 2 rfl) ?_
                refine lv_ldc2d (v := 4611686018427387904) hx hb hown (hts _ zk_X6_252) dX6_bitsOf_101 ?_
                refine lv_dmul hx hb dX6_bitsOf_104 (twice_n (by omega) (by omega) hm) ?_
                rw [twice_ok (by omega) (by omega) hm, show q + i + 1 = q + (i + 1) by omega]
                refine lv_dstore (lv' := [(4, .double (nx (q + (i + 1)) fr)), (8, .int (nI i)), (6, .long (Int64.ofNat (1023 + k - q - i))), (2, .long ((-9223372036854775808))), (0, .double (FP.dneg (nx k fr)))]) hx hb dX6_bitsOf_105 hl (by decide) rfl (fun ls hl => ?_)
                refine lv_lload hx hb dX6_bitsOf_107 (lv_at hl 2 rfl) ?_
                refine lv_lconst (v := 1) hx hb dX6_bitsOf_109 (by decide) ?_
                refine lv_lsub hx hb dX6_bitsOf_110 ?_
                rw [show 1023 + k - q - i = (1023 + k - q - (i + 1)) + 1 by omega, j_sub]
                refine lv_lstore (lv' := [(6, .long (Int64.ofNat (1023 + k - q - (i + 1)))), (4, .double (nx (q + (i + 1)) fr)), (8, .int (nI i)), (2, .long ((-9223372036854775808))), (0, .double (FP.dneg (nx k fr)))]) hx hb dX6_bitsOf_111 hl (by decide) rfl (fun ls hl => ?_)
                refine lv_iinc (v := nI (i + 1)) (lv' := [(8, .int (nI (i + 1))), (6, .long (Int64.ofNat (1023 + k - q - (i + 1)))), (4, .double (nx (q + (i + 1)) fr)), (2, .long ((-9223372036854775808))), (0, .double (FP.dneg (nx k fr)))]) hx hb dX6_bitsOf_113 hl (k := 2) rfl (nI_add i 1) (by decide) rfl (fun ls hl => ?_)
                refine lv_goto (tgt := 84) hx hb dX6_bitsOf_116 (by decide) ?_
                exact ih ls H locs q (lv_sub hl [0, 1, 2, 3, 4] rfl) hM (by have := (nx_dc1 (k := q + i) (by omega) (by omega) hm).mp c_96; omega) hq2
        have LOOP44 : ∀ i, i ≤ 1023 → ∀ (ls : Array Slot) (H : Heap) (locs : List Loc), lv_has ls 10 [(8, .int (nI i)), (6, .long (Int64.ofNat (1023 + i))), (4, .double (nx (k - i) fr)), (2, .long ((-9223372036854775808))), (0, .double (FP.dneg (nx k fr)))] → zM base K L f s H locs → (i = 0 ∨ 1023 + i ≤ k) → W p l e (zr 0 0 0 0) s m args below meth c H locs 0 0 Q (F0 m 44 ls []) := by
          refine z_down 1023 ?_ ?_
          · intro ls H locs hl hM hi1
            refine lv_iload hx hb dX6_bitsOf_44 (lv_at hl 0 rfl) ?_
            refine lv_sipush (v := nI 1023) hx hb dX6_bitsOf_46 (by decide) ?_
            refine z_icmp_ge (tgt := 81) hx hb (nI_toInt (by decide)) (nI_toInt (by decide)) dX6_bitsOf_49 (by decide) (fun c_49 => ?_) (fun c_49 => ?_)
            · have hq9 : k - 1023 ≤ 1023 := by omega
              refine lv_iconst (v := nI 0) hx hb dX6_bitsOf_81 (by decide) ?_
              refine lv_istore (lv' := [(8, .int (nI 0)), (6, .long (Int64.ofNat (1023 + 1023))), (4, .double (nx (k - 1023) fr)), (2, .long ((-9223372036854775808))), (0, .double (FP.dneg (nx k fr)))]) hx hb dX6_bitsOf_82 hl (by decide) rfl (fun ls hl => ?_)
              exact LOOP84 0 (Nat.zero_le _) ls H locs (k - 1023) (by rw [show 1023 + k - (k - 1023) - 0 = 1023 + 1023 by omega, show (k - 1023) + 0 = k - 1023 from rfl]; exact lv_sub hl [0, 1, 2, 3, 4] rfl) hM (by omega) (by omega)
            · exact absurd c_49 (by omega)
          · intro i hi ih ls H locs hl hM hi1
            refine lv_iload hx hb dX6_bitsOf_44 (lv_at hl 0 rfl) ?_
            refine lv_sipush (v := nI 1023) hx hb dX6_bitsOf_46 (by decide) ?_
            refine z_icmp_ge (tgt := 81) hx hb (nI_toInt (by omega)) (nI_toInt (by decide)) dX6_bitsOf_49 (by decide) (fun c_49 => ?_) (fun c_49 => ?_)
            · exact absurd c_49 (by omega)
            · refine lv_dload hx hb dX6_bitsOf_52 (lv_at hl 2 rfl) ?_
              refine lv_ldc2d (v := 4611686018427387904) hx hb hown (hts _ zk_X6_252) dX6_bitsOf_54 ?_
              refine lv_dcmp hx hb dX6_bitsOf_57 ?_
              refine z_if_lt (tgt := 81) hx hb (dc_l _ _) dX6_bitsOf_58 (by decide) (fun c_58 => ?_) (fun c_58 => ?_)
              · have hq9 : k - i ≤ 1023 := by have := (two_c (k := k - i) (m := fr) (by omega) (by omega) hm).mp c_58; omega
                refine lv_iconst (v := nI 0) hx hb dX6_bitsOf_81 (by decide) ?_
                refine lv_istore (lv' := [(8, .int (nI 0)), (6, .long (Int64.ofNat (1023 + i))), (4, .double (nx (k - i) fr)), (2, .long ((-9223372036854775808))), (0, .double (FP.dneg (nx k fr)))]) hx hb dX6_bitsOf_82 hl (by decide) rfl (fun ls hl => ?_)
                exact LOOP84 0 (Nat.zero_le _) ls H locs (k - i) (by rw [show 1023 + k - (k - i) - 0 = 1023 + i by omega, show (k - i) + 0 = k - i from rfl]; exact lv_sub hl [0, 1, 2, 3, 4] rfl) hM (by omega) (by omega)
              · have hk9 : 1024 ≤ k - i := by have := mt (two_c (k := k - i) (m := fr) (by omega) (by omega) hm).mpr (by omega); omega
                refine lv_dload hx hb dX6_bitsOf_61 (lv_at hl 2 rfl) ?_
                refine lv_ldc2d (v := 4611686018427387904) hx hb hown (hts _ zk_X6_252) dX6_bitsOf_63 ?_
                refine lv_ddiv hx hb dX6_bitsOf_66 (half_n (by omega) (by omega) hm) ?_
                rw [half_ok (by omega) (by omega) hm, show k - i - 1 = k - (i + 1) by omega]
                refine lv_dstore (lv' := [(4, .double (nx (k - (i + 1)) fr)), (8, .int (nI i)), (6, .long (Int64.ofNat (1023 + i))), (2, .long ((-9223372036854775808))), (0, .double (FP.dneg (nx k fr)))]) hx hb dX6_bitsOf_67 hl (by decide) rfl (fun ls hl => ?_)
                refine lv_lload hx hb dX6_bitsOf_69 (lv_at hl 2 rfl) ?_
                refine lv_lconst (v := 1) hx hb dX6_bitsOf_71 (by decide) ?_
                refine lv_ladd hx hb dX6_bitsOf_72 ?_
                rw [j_add, show 1023 + i + 1 = 1023 + (i + 1) by omega]
                refine lv_lstore (lv' := [(6, .long (Int64.ofNat (1023 + (i + 1)))), (4, .double (nx (k - (i + 1)) fr)), (8, .int (nI i)), (2, .long ((-9223372036854775808))), (0, .double (FP.dneg (nx k fr)))]) hx hb dX6_bitsOf_73 hl (by decide) rfl (fun ls hl => ?_)
                refine lv_iinc (v := nI (i + 1)) (lv' := [(8, .int (nI (i + 1))), (6, .long (Int64.ofNat (1023 + (i + 1)))), (4, .double (nx (k - (i + 1)) fr)), (2, .long ((-9223372036854775808))), (0, .double (FP.dneg (nx k fr)))]) hx hb dX6_bitsOf_75 hl (k := 2) rfl (nI_add i 1) (by decide) rfl (fun ls hl => ?_)
                refine lv_goto (tgt := 44) hx hb dX6_bitsOf_78 (by decide) ?_
                exact ih ls H locs (lv_sub hl [0, 1, 2, 3, 4] rfl) hM (by have := mt (two_c (k := k - i) (m := fr) (by omega) (by omega) hm).mpr (by omega); omega)
        exact LOOP44 0 (Nat.zero_le _) ls H locs (lv_sub hl [0, 1, 2, 3, 4] rfl) hM (Or.inl rfl)
  · exact absurd c_3 (by have := dneg_dc0 hk1 hk2 hm; omega)
