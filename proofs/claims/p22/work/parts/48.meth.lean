/-! CONTRACTS of the law's own methods (rows laid by wip/p22/lawm.py) -/
theorem jB_tst (x : Int64) {k : Nat} (hk : k < 64) : x >>> ((nI k).toInt64 &&& 63) &&& lN 1 = lN (jB x k).toNat := jB_test x hk
theorem jB_st (x : Int64) {k j : Nat} (hk : k < 64) (hj : j < 64) : jB (x ||| lN 1 <<< ((nI k).toInt64 &&& 63)) j = (jB x j || decide (j = k)) := jB_set x hk hj
theorem low_and2 (v : Int32) : v &&& nI 2147483647 = nI (v.toBitVec.toNat % 2 ^ 31) := low_and v
theorem sh1 (n : Nat) : lN n <<< ((nI 1).toInt64 &&& 63) = lN (n * 2) := by
  apply Int64.toBitVec_inj.mp
  rw [lw_c 1 (by decide), Int64.toBitVec_shiftLeft, lw_sm 1 (by decide)]
  apply BitVec.eq_of_toNat_eq
  show (BitVec.ofNat 64 n <<< BitVec.ofNat 64 1).toNat = (BitVec.ofNat 64 (n * 2)).toNat
  rw [BitVec.shiftLeft_eq', BitVec.toNat_shiftLeft, BitVec.toNat_ofNat, BitVec.toNat_ofNat, BitVec.toNat_ofNat, Nat.shiftLeft_eq, show (1 : Nat) % 2 ^ 64 = 1 from rfl]
  omega
theorem sh1_0 {n : Nat} (hn : n < 2 ^ 64) : (lN (n * 2)).toInt = 0 ↔ n % 2 ^ 63 = 0 := by
  rw [show (lN (n * 2)).toInt = ((n * 2 : Nat) : Int).bmod (2 ^ 64) from Int64.toInt_ofNat', ← Int.dvd_iff_bmod_eq_zero]
  omega
theorem ma52 {n : Nat} (hn : n < 2 ^ 64) : lN n &&& lN 4503599627370495 = lN (n % 2 ^ 52) := by
  apply Int64.toBitVec_inj.mp
  rw [Int64.toBitVec_and]
  apply BitVec.eq_of_toNat_eq
  show (BitVec.ofNat 64 n &&& BitVec.ofNat 64 (2 ^ 52 - 1)).toNat = (BitVec.ofNat 64 (n % 2 ^ 52)).toNat
  rw [BitVec.toNat_and, BitVec.toNat_ofNat, BitVec.toNat_ofNat, BitVec.toNat_ofNat, Nat.mod_eq_of_lt hn, show (2 ^ 52 - 1) % 2 ^ 64 = 2 ^ 52 - 1 from rfl, Nat.and_two_pow_sub_one_eq_mod]
  omega
theorem or52 {n : Nat} (hn : n < 2 ^ 52) : lN n ||| lN 4503599627370496 = lN (2 ^ 52 + n) := by
  apply Int64.toBitVec_inj.mp
  rw [Int64.toBitVec_or]
  apply BitVec.eq_of_toNat_eq
  show (BitVec.ofNat 64 n ||| BitVec.ofNat 64 (2 ^ 52)).toNat = (BitVec.ofNat 64 (2 ^ 52 + n)).toNat
  rw [BitVec.toNat_or, BitVec.toNat_ofNat, BitVec.toNat_ofNat, BitVec.toNat_ofNat, Nat.mod_eq_of_lt (show n < 2 ^ 64 by omega), show 2 ^ 52 % 2 ^ 64 = 1 <<< 52 from rfl, Nat.or_comm, ← Nat.shiftLeft_add_eq_or_of_lt hn, show 1 <<< 52 = 2 ^ 52 from rfl]
  omega
theorem ex52 {n : Nat} (hn : n < 2 ^ 64) : lN n >>> ((nI 52).toInt64 &&& 63) &&& lN 2047 = lN (n / 2 ^ 52 % 2048) := by
  apply Int64.toBitVec_inj.mp
  rw [Int64.toBitVec_and, lw_ssh _ (by decide)]
  apply BitVec.eq_of_getLsbD_eq
  intro i hi
  have e1 : (lN 2047).toBitVec = BitVec.ofNat 64 (2 ^ 11 - 1) := rfl
  have e2 : (lN n).toBitVec = BitVec.ofNat 64 n := rfl
  have e3 : (lN (n / 2 ^ 52 % 2048)).toBitVec = BitVec.ofNat 64 (n / 2 ^ 52 % 2 ^ 11) := rfl
  rw [BitVec.getLsbD_and, BitVec.getLsbD_sshiftRight, e1, e2, e3, BitVec.getLsbD_ofNat, BitVec.getLsbD_ofNat, BitVec.getLsbD_ofNat, Nat.testBit_two_pow_sub_one, Nat.testBit_mod_two_pow, Nat.testBit_div_two_pow]
  by_cases c : i < 11
  · rw [decide_eq_true c, if_pos (by omega), decide_eq_false (by omega : ¬ 64 ≤ i), decide_eq_true hi, decide_eq_true (by omega : 52 + i < 64), Nat.add_comm i 52]
    simp
  · rw [decide_eq_false c]
    simp
theorem shr_L {n k : Nat} (hn : n < 2 ^ 62) (hk : k < 64) : lN n >>> ((nI k).toInt64 &&& 63) = lN (n / 2 ^ k) := by
  have hd : n / 2 ^ k ≤ n := Nat.div_le_self _ _
  apply Int64.toInt_inj.mp
  have e : (lN n >>> ((nI k).toInt64 &&& 63)).toInt = (lN n).toInt >>> k := by
    show (lN n >>> ((nI k).toInt64 &&& 63)).toBitVec.toInt = _
    rw [lw_ssh _ hk]
    exact BitVec.toInt_sshiftRight ..
  rw [e, Int.shiftRight_eq_div_pow, jN_toInt (by omega), jN_toInt (by omega)]
  rfl
theorem shl_1 {k : Nat} (hk : k < 64) : lN 1 <<< ((nI k).toInt64 &&& 63) = lN (2 ^ k) := by
  apply Int64.toBitVec_inj.mp
  refine (one_shl k hk).trans ?_
  show _ = BitVec.ofNat 64 (2 ^ k)
  apply BitVec.eq_of_toNat_eq
  rw [BitVec.toNat_twoPow, BitVec.toNat_ofNat]
theorem sub_L {a : Nat} (h : 1 ≤ a) : lN a - lN 1 = lN (a - 1) := (Int64.ofNat_sub a 1 h).symm
theorem ma_k {n k : Nat} (hn : n < 2 ^ 64) (hk : k < 64) : lN n &&& lN (2 ^ k - 1) = lN (n % 2 ^ k) := by
  have hp : 2 ^ k < 2 ^ 64 := Nat.pow_lt_pow_right (by decide) hk
  apply Int64.toBitVec_inj.mp
  rw [Int64.toBitVec_and]
  apply BitVec.eq_of_toNat_eq
  show (BitVec.ofNat 64 n &&& BitVec.ofNat 64 (2 ^ k - 1)).toNat = (BitVec.ofNat 64 (n % 2 ^ k)).toNat
  rw [BitVec.toNat_and, BitVec.toNat_ofNat, BitVec.toNat_ofNat, BitVec.toNat_ofNat, Nat.mod_eq_of_lt hn, Nat.mod_eq_of_lt (show 2 ^ k - 1 < 2 ^ 64 by omega), Nat.and_two_pow_sub_one_eq_mod, Nat.mod_eq_of_lt (Nat.lt_of_le_of_lt (Nat.mod_le _ _) hn)]
theorem whole_of {n v b : Nat} (hn : n < 2 ^ 63) (b1 : 21 ≤ b) (b2 : b ≤ 52) (hE : n / 2 ^ 52 + b = 1075) (hF : 2 ^ 52 + n % 2 ^ 52 = v * 2 ^ b) : wholeN n = v ∧ n % 2 ^ b = 0 ∧ n / 2 ^ 52 % 2048 = 1075 - b := by
  have e : n / 2 ^ 52 % 2048 = 1075 - b := by omega
  refine ⟨?_, ?_, e⟩
  · unfold wholeN
    rw [e, if_neg (by omega), if_neg (by omega), show 1075 - (1075 - b) = b by omega, hF]
    exact Nat.mul_div_cancel _ (Nat.two_pow_pos b)
  · have h1 : n = n / 2 ^ 52 * 2 ^ 52 + n % 2 ^ 52 := by omega
    have h2 : n + 2 ^ 52 = n / 2 ^ 52 * 2 ^ 52 + v * 2 ^ b := by omega
    have h3 : 2 ^ b ∣ 2 ^ 52 := Nat.pow_dvd_pow 2 b2
    have h4 : 2 ^ b ∣ n + 2 ^ 52 := by
      rw [h2]
      exact Nat.dvd_add (Nat.dvd_mul_left_of_dvd h3 _) (Nat.dvd_mul_left _ _)
    exact Nat.mod_eq_zero_of_dvd ((Nat.dvd_add_left h3).mp h4)
set_option maxHeartbeats 400000 in
set_option maxRecDepth 100000 in
theorem c_low {l : Launch} {base : Nat} {K : zK} {L : List Nat} {f : Nat → va_E} (v : Int32) (n : Nat) (h0 : 0 < n) (hn : n < 2 ^ 31) : zMet l yL_low cL_low 2 (some .int) (zr 0 0 0 0) base K L f [.int v, .int (nI n)] (zFi base K (nI (lowN v n)) L f) := by
  refine z_met (by decide) (Nat.le_of_ble_eq_true rfl) (fun p e s m below meth c ls hC hM hr hlk hnm hl => ?_)
  have hx := hC.1
  have hb := hC.2.1
  have hml := hC.2.2.1
  have hown := hC.2.2.2.1
  have hts := hC.2.2.2.2.1
  generalize hA : ([.int v, .int (nI n)] : List Value).toArray = args at hC ⊢
  generalize hQ : MQ _ _ _ _ _ _ _ = Q
  obtain ⟨locs, hlocs⟩ : ∃ z : List Loc, z = [] := ⟨_, rfl⟩
  obtain ⟨H, hH⟩ : ∃ z : Heap, z = s.heap := ⟨_, rfl⟩
  rw [← hlocs, ← hH] at hM ⊢
  have hl : lv_has ls 2 [(0, .int v), (1, .int (nI n))] := hl
  refine lv_iload_n hx hb dL_low_0 rfl (lv_at hl 0 rfl) ?_
  refine lv_ldc (v := nI 2147483647) hx hb hown (hts _ zk_L_9) dL_low_1 ?_
  refine lv_iand hx hb dL_low_3 ?_
  rw [low_and2]
  refine lv_iload_n hx hb dL_low_4 rfl (lv_at hl 1 rfl) ?_
  refine z_irem hx hb (by omega) h0 hn dL_low_5 ?_
  rw [← hQ]
  exact z_iret hC hM hr hlk rfl (by decide) (by decide) ⟨rfl, rfl, rfl⟩ dL_low_6
set_option maxHeartbeats 400000 in
set_option maxRecDepth 100000 in
theorem c_whole {l : Launch} {base : Nat} {K : zK} {L : List Nat} {f : Nat → va_E} (n : Nat) (hn : n < 2 ^ 64) (hE : n / 2 ^ 52 % 2048 ≤ 1075) : zMet l yL_whole cL_whole 5 (some .long) (zr 0 0 0 0) base K L f [.long (lN n)] (zFl base K (lN (wholeN n)) L f) := by
  refine z_met (by decide) (Nat.le_of_ble_eq_true rfl) (fun p e s m below meth c ls hC hM hr hlk hnm hl => ?_)
  have hx := hC.1
  have hb := hC.2.1
  have hml := hC.2.2.1
  have hown := hC.2.2.2.1
  have hts := hC.2.2.2.2.1
  generalize hA : ([.long (lN n)] : List Value).toArray = args at hC ⊢
  generalize hQ : MQ _ _ _ _ _ _ _ = Q
  obtain ⟨locs, hlocs⟩ : ∃ z : List Loc, z = [] := ⟨_, rfl⟩
  obtain ⟨H, hH⟩ : ∃ z : Heap, z = s.heap := ⟨_, rfl⟩
  rw [← hlocs, ← hH] at hM ⊢
  have hl : lv_has ls 5 [(0, .long (lN n))] := hl
  refine lv_lload_n hx hb dL_whole_0 rfl (lv_at hl 0 rfl) ?_
  refine lv_iconst (v := nI 1) hx hb dL_whole_1 (by decide) ?_
  refine lv_lshl hx hb dL_whole_2 rfl ?_
  rw [sh1]
  refine lv_lconst (v := lN 0) hx hb dL_whole_3 (by decide) ?_
  refine z_lif_ne (tgt := 10) hx hb rfl (jN_toInt (by decide)) dL_whole_4 dL_whole_5 (by decide) (fun c_4 => ?_) (fun c_4 => ?_)
  · skip
    have d0 : ¬ n % 2 ^ 63 = 0 := fun h9 => c_4 ((sh1_0 hn).mpr h9)
    refine lv_lload_n hx hb dL_whole_10 rfl (lv_at hl 0 rfl) ?_
    refine lv_ldc2 (v := lN 4503599627370495) hx hb hown (hts _ zk_L_24) dL_whole_11 ?_
    refine lv_land hx hb dL_whole_14 ?_
    rw [ma52 hn]
    refine lv_ldc2 (v := lN 4503599627370496) hx hb hown (hts _ zk_L_26) dL_whole_15 ?_
    refine lv_lor hx hb dL_whole_18 ?_
    rw [or52 (by omega)]
    refine lv_lstore_n (lv' := [(2, .long (lN (2 ^ 52 + n % 2 ^ 52))), (0, .long (lN n))]) hx hb dL_whole_19 rfl hl (by decide) rfl (fun ls hl => ?_)
    refine lv_sipush (v := nI 1075) hx hb dL_whole_20 (by decide) ?_
    refine lv_lload_n hx hb dL_whole_23 rfl (lv_at hl 1 rfl) ?_
    refine lv_bipush (v := nI 52) hx hb dL_whole_24 (by decide) ?_
    refine lv_lshr hx hb dL_whole_26 rfl ?_
    refine lv_ldc2 (v := lN 2047) hx hb hown (hts _ zk_L_28) dL_whole_27 ?_
    refine lv_land hx hb dL_whole_30 ?_
    rw [ex52 hn]
    refine lv_l2i (v := nI (n / 2 ^ 52 % 2048)) hx hb dL_whole_31 lN_int ?_
    refine z_isub hx hb (by omega) dL_whole_32 ?_
    refine lv_istore (lv' := [(4, .int (nI (1075 - (n / 2 ^ 52 % 2048)))), (2, .long (lN (2 ^ 52 + n % 2 ^ 52))), (0, .long (lN n))]) hx hb dL_whole_33 hl (by decide) rfl (fun ls hl => ?_)
    refine lv_iload hx hb dL_whole_35 (lv_at hl 0 rfl) ?_
    refine z_if_ge (tgt := 48) hx hb (nI_toInt (by omega)) dL_whole_37 (by decide) (fun c_37 => ?_) (fun c_37 => ?_)
    · refine lv_iload hx hb dL_whole_48 (lv_at hl 0 rfl) ?_
      refine lv_bipush (v := nI 60) hx hb dL_whole_50 (by decide) ?_
      refine z_icmp_le (tgt := 59) hx hb (nI_toInt (by omega)) (nI_toInt (by decide)) dL_whole_52 (by decide) (fun c_52 => ?_) (fun c_52 => ?_)
      · refine lv_lload_n hx hb dL_whole_59 rfl (lv_at hl 1 rfl) ?_
        refine lv_iload hx hb dL_whole_60 (lv_at hl 0 rfl) ?_
        refine lv_lshr hx hb dL_whole_62 rfl ?_
        rw [shr_L (by omega) (by omega)]
        rw [← hQ]
        exact z_lret hC hM hr hlk (by decide) (by decide) ⟨by unfold wholeN; rw [if_neg d0, if_neg (show ¬ 60 < 1075 - n / 2 ^ 52 % 2048 by omega)], rfl, rfl⟩ dL_whole_63
      · refine lv_lconst (v := lN 0) hx hb dL_whole_55 (by decide) ?_
        refine lv_goto (tgt := 63) hx hb dL_whole_56 (by decide) ?_
        rw [← hQ]
        exact z_lret hC hM hr hlk (by decide) (by decide) ⟨by unfold wholeN; rw [if_neg d0, if_pos (show 60 < 1075 - n / 2 ^ 52 % 2048 by omega)], rfl, rfl⟩ dL_whole_63
    · exact absurd c_37 (by omega)
  · skip
    have d0 := (sh1_0 hn).mp c_4
    refine lv_lconst (v := lN 0) hx hb dL_whole_8 (by decide) ?_
    rw [← hQ]
    exact z_lret hC hM hr hlk (by decide) (by decide) ⟨by unfold wholeN; rw [if_pos d0], rfl, rfl⟩ dL_whole_9
set_option maxHeartbeats 400000 in
set_option maxRecDepth 100000 in
theorem c_isWhole {l : Launch} {base : Nat} {K : zK} {L : List Nat} {f : Nat → va_E} (n v b : Nat) (hn : n < 2 ^ 63) (hv : v < 2 ^ 63) (b1 : 21 ≤ b) (b2 : b ≤ 52) (hE : n / 2 ^ 52 + b = 1075) (hF : 2 ^ 52 + n % 2 ^ 52 = v * 2 ^ b) : zMet l yL_isWhole cL_isWhole 5 (some .boolean) (zr 1 0 0 24) base K L f [.long (lN n), .long (lN v)] (zFi base K (nI 1) L f) := by
  obtain ⟨hw1, hw2, hw3⟩ := whole_of hn b1 b2 hE hF
  have hp1 : 1 ≤ 2 ^ b := Nat.two_pow_pos b
  refine z_met (by decide) (Nat.le_of_ble_eq_true rfl) (fun p e s m below meth c ls hC hM hr hlk hnm hl => ?_)
  have hx := hC.1
  have hb := hC.2.1
  have hml := hC.2.2.1
  have hown := hC.2.2.2.1
  have hts := hC.2.2.2.2.1
  generalize hA : ([.long (lN n), .long (lN v)] : List Value).toArray = args at hC ⊢
  generalize hQ : MQ _ _ _ _ _ _ _ = Q
  obtain ⟨locs, hlocs⟩ : ∃ z : List Loc, z = [] := ⟨_, rfl⟩
  obtain ⟨H, hH⟩ : ∃ z : Heap, z = s.heap := ⟨_, rfl⟩
  rw [← hlocs, ← hH] at hM ⊢
  have hl : lv_has ls 5 [(0, .long (lN n)), (2, .long (lN v))] := hl
  refine lv_sipush (v := nI 1075) hx hb dL_isWhole_0 (by decide) ?_
  refine lv_lload_n hx hb dL_isWhole_3 rfl (lv_at hl 0 rfl) ?_
  refine lv_bipush (v := nI 52) hx hb dL_isWhole_4 (by decide) ?_
  refine lv_lshr hx hb dL_isWhole_6 rfl ?_
  refine lv_ldc2 (v := lN 2047) hx hb hown (hts _ zk_L_28) dL_isWhole_7 ?_
  refine lv_land hx hb dL_isWhole_10 ?_
  rw [ex52 (show n < 2 ^ 64 by omega), hw3]
  refine lv_l2i (v := nI ((1075 - b))) hx hb dL_isWhole_11 lN_int ?_
  refine z_isub hx hb (by omega) dL_isWhole_12 ?_
  rw [show 1075 - (1075 - b) = b by omega]
  refine lv_istore (lv' := [(4, .int (nI b)), (0, .long (lN n)), (2, .long (lN v))]) hx hb dL_isWhole_13 hl (by decide) rfl (fun ls hl => ?_)
  refine lv_lload_n hx hb dL_isWhole_15 rfl (lv_at hl 1 rfl) ?_
  refine lv_lconst (v := lN 0) hx hb dL_isWhole_16 (by decide) ?_
  refine z_lif_le (tgt := 59) hx hb (jN_toInt (by omega)) (jN_toInt (by decide)) dL_isWhole_17 dL_isWhole_18 (by decide) (fun c_17 => ?_) (fun c_17 => ?_)
  · exact absurd c_17 (by omega)
  · refine lv_iload hx hb dL_isWhole_21 (lv_at hl 0 rfl) ?_
    refine z_if_lt (tgt := 59) hx hb (nI_toInt (by omega)) dL_isWhole_23 (by decide) (fun c_23 => ?_) (fun c_23 => ?_)
    · exact absurd c_23 (by omega)
    · refine lv_iload hx hb dL_isWhole_26 (lv_at hl 0 rfl) ?_
      refine lv_bipush (v := nI 53) hx hb dL_isWhole_28 (by decide) ?_
      refine z_icmp_ge (tgt := 59) hx hb (nI_toInt (by omega)) (nI_toInt (by decide)) dL_isWhole_30 (by decide) (fun c_30 => ?_) (fun c_30 => ?_)
      · exact absurd c_30 (by omega)
      · refine lv_lload_n hx hb dL_isWhole_33 rfl (lv_at hl 1 rfl) ?_
        refine lv_lconst (v := lN 1) hx hb dL_isWhole_34 (by decide) ?_
        refine lv_iload hx hb dL_isWhole_35 (lv_at hl 0 rfl) ?_
        refine lv_lshl hx hb dL_isWhole_37 rfl ?_
        rw [shl_1 (by omega)]
        refine lv_lconst (v := lN 1) hx hb dL_isWhole_38 (by decide) ?_
        refine lv_lsub hx hb dL_isWhole_39 ?_
        rw [sub_L hp1]
        refine lv_land hx hb dL_isWhole_40 ?_
        rw [ma_k (show n < 2 ^ 64 by omega) (by omega), hw2]
        refine lv_lconst (v := lN 0) hx hb dL_isWhole_41 (by decide) ?_
        refine z_lif_ne (tgt := 59) hx hb (jN_toInt (by decide)) (jN_toInt (by decide)) dL_isWhole_42 dL_isWhole_43 (by decide) (fun c_42 => ?_) (fun c_42 => ?_)
        · exact absurd rfl c_42
        · refine lv_lload_n hx hb dL_isWhole_46 rfl (lv_at hl 1 rfl) ?_
          refine z_fcalll (z_runS hC hM (c_whole n (by omega) (by omega)) zy_L_whole zm_L_30 rfl rfl hl.1 (Nat.le_of_ble_eq_true rfl) ⟨by decide, by decide⟩ ⟨by decide, by decide⟩ dL_isWhole_47) hM (fun H locs hM => ?_)
          refine lv_lload_n hx hb dL_isWhole_50 rfl (lv_at hl 2 rfl) ?_
          refine z_lif_ne (tgt := 59) hx hb (jN_toInt (by first | omega | (rw [hw1]; omega))) (jN_toInt (by first | omega | (rw [hw1]; omega))) dL_isWhole_51 dL_isWhole_52 (by decide) (fun c_51 => ?_) (fun c_51 => ?_)
          · exact absurd c_51 (by rw [hw1]; exact fun h9 => h9 rfl)
          · refine lv_iconst (v := nI 1) hx hb dL_isWhole_55 (by decide) ?_
            refine lv_goto (tgt := 60) hx hb dL_isWhole_56 (by decide) ?_
            rw [← hQ]
            exact z_iret hC hM hr hlk rfl (by decide) (by decide) ⟨rfl, rfl, rfl⟩ dL_isWhole_60
