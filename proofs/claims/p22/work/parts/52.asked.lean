/-! ASKED: the scores, the phase, odd dips, the period, beside the law's products (rows laid by wip/p22/asked.py) -/
theorem m_many {l : Launch} {base : Nat} {K : zK} {L : List Nat} {f : Nat → va_E} {a2 a3 a4 : Nat} {pv bl kt : Nat → Nat} {kb : Nat → Int64} (hw : LW K L f a2 a3 a4 pv bl kb kt) (j q : Nat) (hj : j < q) (hq2 : q ≤ 1000) : zMet l yL_many cL_many 5 (some .int) (zr 1 0 0 24) base K L f [.ref a4, .int (nI j), .int (nI q)] (zFi base K (nI (cN kt q 1000 j)) L f) := c_many hw.2.2.2.2.1 hw.2.2.2.2.2.1 hw.2.2.2.2.2.2.2.1 hw.2.2.2.2.2.2.2.2.1 j q hj hq2
/-- what odd dips beside even ones show: by their bits, parts and products -/
def OEh (n z : Nat) (y : Int) : Prop := n / 2 ^ 52 % 2048 ≤ 1075 ∧ wholeN n * z ≤ y.natAbs + z ∧ y.natAbs ≤ (wholeN n + 2) * z ∧ ((z : Int) < y → n < 2 ^ 63) ∧ (y < -(z : Int) → 2 ^ 63 ≤ n) ∧ z ≤ 1000000 ∧ -2 ^ 60 < y ∧ y < 2 ^ 60
theorem OEh_z {G t : Nat → Nat} (h : GT G t) {q b : Nat} (hb : bFo (gD G) q = some b) (h1 : cN t (2 * q) 1000 b = 0 ∨ cN t (2 * q) 1000 (b + q) = 0) : OEh (oeF (gD G) q).toNat 1 0 := by
  rw [oe_zero h hb h1]
  exact ⟨by decide, by decide, by decide, fun z => by omega, fun z => by omega, by decide, by decide, by decide⟩
theorem OEh_n {G t : Nat → Nat} (h : GT G t) {q b : Nat} (hb : bFo (gD G) q = some b) (h1 : 0 < cN t (2 * q) 1000 b) (h2 : 0 < cN t (2 * q) 1000 (b + q)) : OEh (oeF (gD G) q).toNat (cN t (2 * q) 1000 b * cN t (2 * q) 1000 (b + q)) (((sN G (2 * q) 1000 b * cN t (2 * q) 1000 (b + q) : Nat) : Int) - ((sN G (2 * q) 1000 (b + q) * cN t (2 * q) 1000 b : Nat) : Int)) := by
  obtain ⟨f1, n1, b1⟩ := oe_near h hb h1 h2
  rw [← Int.natCast_mul, ← Int.natCast_mul] at n1
  obtain ⟨w1, w2, w3, w4⟩ := wh_near f1 n1 b1
  obtain ⟨g1, g2⟩ := sg_near f1 n1
  have k1 := cN_le t (2 * q) 1000 b
  have k2 := cN_le t (2 * q) 1000 (b + q)
  have s1 := sN_le h.1 (2 * q) 1000 b
  have s2 := sN_le h.1 (2 * q) 1000 (b + q)
  have m1 := Nat.mul_le_mul k1 k2
  have m2 := Nat.mul_le_mul s1 k2
  have m3 := Nat.mul_le_mul s2 k1
  refine ⟨w1, w3, w4, fun z => g1 (by omega), fun z => g2 (by omega), by omega, by omega, by omega⟩
theorem near_b {w q : Nat} {y : Int} (h : w * q ≤ y.natAbs + q) (h1 : -2 ^ 60 < y) (h2 : y < 2 ^ 60) (h3 : q ≤ 1000000) : (w + 2) * q < 2 ^ 62 := by
  rw [Nat.add_mul]
  omega
theorem moP_b {G t : Nat → Nat} (h : GT G t) (q : Nat) : -2 ^ 60 ≤ moP G t q ∧ moP G t q < 2 ^ 60 := moN_b h q q
set_option maxHeartbeats 400000 in
set_option maxRecDepth 100000 in
theorem c_asked {l : Launch} {base : Nat} {K : zK} {L : List Nat} {f : Nat → va_E} (hst : l.stackTraces = false) {A : zA} {ad : Nat → Nat} (hI0 : CI K L f A ad) {tm : Nat} {bl kt pv : Nat → Nat} (hP : PG A tm bl kt) (hpa : PVA A pv) {kb : Nat → Int64} {a2 a3 a4 : Nat} (hw : LW K L f a2 a3 a4 pv bl kb kt) (hno : ∀ t, live A t → ad t ≠ a2 ∧ ad t ≠ a3 ∧ ad t ≠ a4) (v : Int32) : zMet l yL_asked cL_asked 28 (some .boolean) (zr 10 24 160 200) base K L f [.ref ((ad 1)), .ref a2, .ref a3, .ref a4, .int v] (zQi base K (fun r L1 f1 => r = nI 1 ∧ CR K A ad L f A L1 f1)) := by
  have hS : AS K A a2 a3 a4 pv bl kb kt ad L f L f ad := ⟨hI0, hw, hno, rfl, fun _ h => h, fun q _ h => ⟨rfl, h⟩⟩
  have hV : VA A := hI0.1
  have hgt : GT (GL pv bl kt) kt := hw.2.2.2.2.2.2.2.2.2.2
  have hgk : gk A 0 = gD (GL pv bl kt) := by rw [GL_eq hpa]; exact gk_GA hP
  have hh9 : hG kt ≤ 1000 := cN_le kt 1 1000 0
  refine z_met (by decide) (Nat.le_of_ble_eq_true rfl) (fun p e s m below meth c ls hC hM hr hlk hnm hl => ?_)
  have hx := hC.1
  have hb := hC.2.1
  have hml := hC.2.2.1
  have hown := hC.2.2.2.1
  have hts := hC.2.2.2.2.1
  generalize hA : ([.ref ((ad 1)), .ref a2, .ref a3, .ref a4, .int v] : List Value).toArray = args at hC ⊢
  generalize hQ : MQ _ _ _ _ _ _ _ = Q
  obtain ⟨locs, hlocs⟩ : ∃ z : List Loc, z = [] := ⟨_, rfl⟩
  obtain ⟨H, hH⟩ : ∃ z : Heap, z = s.heap := ⟨_, rfl⟩
  rw [← hlocs, ← hH] at hM ⊢
  have hl : lv_has ls 28 [(0, .ref ((ad 1))), (1, .ref a2), (2, .ref a3), (3, .ref a4), (4, .int v)] := hl
  refine lv_aload_n hx hb dL_asked_0 rfl (lv_at hl 3 rfl) ?_
  refine lv_iconst (v := nI 0) hx hb dL_asked_1 (by decide) ?_
  refine lv_iconst (v := nI 1) hx hb dL_asked_2 (by decide) ?_
  refine z_fcalli (z_runS hC hM (m_many hS.2.1 0 1 (by decide) (by decide)) zy_L_many zm_L_48 rfl rfl hl.1 (Nat.le_of_ble_eq_true rfl) ⟨by decide, by decide⟩ ⟨by decide, by decide⟩ dL_asked_3) hM (fun H locs hM => ?_)
  refine lv_istore (lv' := [(5, .int (nI (hG kt))), (0, .ref ((ad 1))), (1, .ref a2), (2, .ref a3), (3, .ref a4), (4, .int v)]) hx hb dL_asked_6 hl (by decide) rfl (fun ls hl => ?_)
  refine lv_iconst (v := nI 2) hx hb dL_asked_8 (by decide) ?_
  refine lv_iload hx hb dL_asked_9 (lv_at hl 5 rfl) ?_
  refine lv_bipush (v := nI 59) hx hb dL_asked_11 (by decide) ?_
  refine z_fcalli (z_runS hC hM (c_low v 59 (by decide) (by decide)) zy_L_low zm_L_64 rfl rfl hl.1 (Nat.le_of_ble_eq_true rfl) ⟨by decide, by decide⟩ ⟨by decide, by decide⟩ dL_asked_13) hM (fun H locs hM => ?_)
  have hlo1 := lowN_lt (v := v) (n := 59) (by decide)
  refine z_iadd hx hb dL_asked_16 ?_
  obtain ⟨q, hq9⟩ : ∃ q, q = 2 + lowN v 59 := ⟨_, rfl⟩
  rw [← hq9]
  have hq1 : 2 ≤ q ∧ q ≤ 60 := by omega
  have JOIN54 : ∀ (x : Nat) (ls : Array Slot) (H : Heap) (locs : List Loc), x ≤ 1000000 → lv_has ls 28 [(0, .ref ((ad 1))), (1, .ref a2), (2, .ref a3), (3, .ref a4), (4, .int v), (5, .int (nI (hG kt))), (6, .int (nI q))] → zM base K L f s H locs → W p l e (zr 10 24 160 200) s m args below meth c H locs 0 0 Q (F0 m 54 ls [.int (nI x)]) := by
    intro x ls H locs hx9 hl hM
    refine lv_istore (lv' := [(7, .int (nI x)), (0, .ref ((ad 1))), (1, .ref a2), (2, .ref a3), (3, .ref a4), (4, .int v), (5, .int (nI (hG kt))), (6, .int (nI q))]) hx hb dL_asked_54 hl (by decide) rfl (fun ls hl => ?_)
    refine lv_iload hx hb dL_asked_56 (lv_at hl 6 rfl) ?_
    refine lv_bipush (v := nI 20) hx hb dL_asked_58 (by decide) ?_
    refine z_icmp_ge (tgt := 89) hx hb (nI_toInt (by omega)) (nI_toInt (by decide)) dL_asked_60 (by decide) (fun c_60 => ?_) (fun c_60 => ?_)
    · skip
      have h20 : 20 ≤ A.1 14 0 := by rw [hG_A hV hP]; omega
      have hh0 : 0 < hG kt := by omega
      obtain ⟨b, hb1, hb2, hb3, hb4, hb5⟩ := bf_facts hgt hh0 (show 0 < q by omega)
      have hk1 := kf_0 hP.1 hq1.1 hq1.2 h20
      have hvp : v_phase A (nI 0) (nI q) = nI b := by
        unfold v_phase
        rw [iv_0, iv_n (by omega), hgk, hb1]
        rfl
      have hvs : v_score A (nI 0) (nI q) = lN (scB (gD (GL pv bl kt)) q).toNat := by
        unfold v_score
        rw [iv_0, iv_n (by omega), hgk]
        exact u_long _
      have hvo : v_oddEven A (nI 0) (nI q) = lN (oeF (gD (GL pv bl kt)) q).toNat := by
        unfold v_oddEven
        rw [iv_0, iv_n (by omega), hgk]
        exact u_long _
      have hmo := moP_at hgt hh0 (show 0 < q by omega) hb1
      obtain ⟨n1, n2, n3⟩ := scB_near hgt hh0 (show 0 < q by omega)
      rw [hmo] at n2
      obtain ⟨hE1, hW1, hN1, hN2⟩ := wh_near n1 n2 n3
      have hsb := scN_b hgt q b
      have hmb := moP_b hgt q
      have hcb := cN_le kt q 1000 b
      have hcc := cN_le kt (2 * q) 1000 b
      have hcd := cN_le kt (2 * q) 1000 (b + q)
      refine lv_aload_n hx hb dL_asked_89 rfl (lv_at hl 2 rfl) ?_
      refine lv_aload_n hx hb dL_asked_90 rfl (lv_at hl 3 rfl) ?_
      refine lv_aload_n hx hb dL_asked_91 rfl (lv_at hl 4 rfl) ?_
      refine lv_iconst (v := nI 0) hx hb dL_asked_92 (by decide) ?_
      refine lv_iconst (v := nI 1) hx hb dL_asked_93 (by decide) ?_
      refine z_fcalll (z_runS hC hM (c_sum hS.2.1 0 1 (by decide) (by decide)) zy_L_sum zm_L_52 rfl rfl hl.1 (Nat.le_of_ble_eq_true rfl) ⟨by decide, by decide⟩ ⟨by decide, by decide⟩ dL_asked_94) hM (fun H locs hM => ?_)
      refine lv_lstore (lv' := [(8, .long (lN (tG (GL pv bl kt)))), (7, .int (nI x)), (0, .ref ((ad 1))), (1, .ref a2), (2, .ref a3), (3, .ref a4), (4, .int v), (5, .int (nI (hG kt))), (6, .int (nI q))]) hx hb dL_asked_97 hl (by decide) rfl (fun ls hl => ?_)
      refine lv_aload_n hx hb dL_asked_99 rfl (lv_at hl 2 rfl) ?_
      refine lv_iconst (v := nI 0) hx hb dL_asked_100 (by decide) ?_
      refine lv_iload hx hb dL_asked_101 (lv_at hl 8 rfl) ?_
      refine z_xq (av := #[]) (val := fun r : Int32 => some (.int r)) (post := fun r u => k_fold A (nI 0) (nI q) = 0 ∧ r = v_phase A (nI 0) (nI q) ∧ CR K A ad L f A u.1 u.2) (z_xrunV hC hM (p_phase hst hS.1 (nI 0) (nI q)) zy_X6_phase zm_L_76 (ci_1 hS.1) (cx_at hS.1) zcl_X6 rfl rfl rfl hl.1 (Nat.le_of_ble_eq_true rfl) ⟨by decide, by decide⟩ ⟨by decide, by decide⟩ dL_asked_103) (fun st o t ⟨⟨r, u, h1, h2, h3⟩, h4⟩ => ⟨r, u, h1, h2, h3, h4⟩) hM (fun E ce q9 L1 f1 H locs hp hM _ _ _ => absurd hp.1.1 (by omega)) (fun r L f H locs hp hM => ?_)
      obtain ⟨-, hv9, hCR⟩ := hp
      obtain ⟨ad, had, hS⟩ := hS.step hCR
      rw [← had] at hl
      rw [hv9, hvp]
      refine lv_istore (lv' := [(10, .int (nI b)), (8, .long (lN (tG (GL pv bl kt)))), (7, .int (nI x)), (0, .ref ((ad 1))), (1, .ref a2), (2, .ref a3), (3, .ref a4), (4, .int v), (5, .int (nI (hG kt))), (6, .int (nI q))]) hx hb dL_asked_106 hl (by decide) rfl (fun ls hl => ?_)
      refine lv_iload hx hb dL_asked_108 (lv_at hl 0 rfl) ?_
      refine z_if_lt (tgt := 131) hx hb (nI_toInt (by omega)) dL_asked_110 (by decide) (fun c_110 => ?_) (fun c_110 => ?_)
      · exact absurd c_110 (by omega)
      · refine lv_iload hx hb dL_asked_113 (lv_at hl 0 rfl) ?_
        refine lv_iload hx hb dL_asked_115 (lv_at hl 9 rfl) ?_
        refine z_icmp_ge (tgt := 131) hx hb (nI_toInt (by omega)) (nI_toInt (by omega)) dL_asked_117 (by decide) (fun c_117 => ?_) (fun c_117 => ?_)
        · exact absurd c_117 (by omega)
        · refine lv_aload_n hx hb dL_asked_120 rfl (lv_at hl 6 rfl) ?_
          refine lv_iload hx hb dL_asked_121 (lv_at hl 0 rfl) ?_
          refine lv_iload hx hb dL_asked_123 (lv_at hl 9 rfl) ?_
          refine z_fcalli (z_runS hC hM (m_many hS.2.1 b q (by omega) (by omega)) zy_L_many zm_L_48 rfl rfl hl.1 (Nat.le_of_ble_eq_true rfl) ⟨by decide, by decide⟩ ⟨by decide, by decide⟩ dL_asked_125) hM (fun H locs hM => ?_)
          refine z_if_ne (tgt := 133) hx hb (nI_toInt (by omega)) dL_asked_128 (by decide) (fun c_128 => ?_) (fun c_128 => ?_)
          · refine lv_aload_n hx hb dL_asked_133 rfl (lv_at hl 4 rfl) ?_
            refine lv_aload_n hx hb dL_asked_134 rfl (lv_at hl 5 rfl) ?_
            refine lv_aload_n hx hb dL_asked_135 rfl (lv_at hl 6 rfl) ?_
            refine lv_iload hx hb dL_asked_136 (lv_at hl 0 rfl) ?_
            refine lv_iload hx hb dL_asked_138 (lv_at hl 9 rfl) ?_
            refine lv_lload hx hb dL_asked_140 (lv_at hl 1 rfl) ?_
            refine lv_iload hx hb dL_asked_142 (lv_at hl 8 rfl) ?_
            refine z_fcalll (z_runS hC hM (c_score hS.2.1 b q (tG (GL pv bl kt)) (hG kt) hb2 (by omega) (by omega)) zy_L_score zm_L_58 rfl rfl hl.1 (Nat.le_of_ble_eq_true rfl) ⟨by decide, by decide⟩ ⟨by decide, by decide⟩ dL_asked_144) hM (fun H locs hM => ?_)
            rw [scN_eq]
            refine lv_lstore (lv' := [(11, .long (iJ (scN (GL pv bl kt) kt q b))), (10, .int (nI b)), (8, .long (lN (tG (GL pv bl kt)))), (7, .int (nI x)), (0, .ref ((ad 1))), (1, .ref a2), (2, .ref a3), (3, .ref a4), (4, .int v), (5, .int (nI (hG kt))), (6, .int (nI q))]) hx hb dL_asked_147 hl (by decide) rfl (fun ls hl => ?_)
            refine lv_lload hx hb dL_asked_149 (lv_at hl 0 rfl) ?_
            refine lv_aload_n hx hb dL_asked_151 rfl (lv_at hl 5 rfl) ?_
            refine lv_aload_n hx hb dL_asked_152 rfl (lv_at hl 6 rfl) ?_
            refine lv_aload_n hx hb dL_asked_153 rfl (lv_at hl 7 rfl) ?_
            refine lv_iload hx hb dL_asked_154 (lv_at hl 10 rfl) ?_
            refine lv_lload hx hb dL_asked_156 (lv_at hl 2 rfl) ?_
            refine lv_iload hx hb dL_asked_158 (lv_at hl 9 rfl) ?_
            refine z_fcalll (z_runS hC hM (c_most hS.2.1 q (by omega)) zy_L_most zm_L_79 rfl rfl hl.1 (Nat.le_of_ble_eq_true rfl) ⟨by decide, by decide⟩ ⟨by decide, by decide⟩ dL_asked_160) hM (fun H locs hM => ?_)
            refine z_lif_ne (tgt := 188) hx hb (iJ_toInt (by omega) (by omega)) (iJ_toInt (by omega) (by omega)) dL_asked_163 dL_asked_164 (by decide) (fun c_163 => ?_) (fun c_163 => ?_)
            · exact absurd hmo.symm c_163
            · refine lv_aload_n hx hb dL_asked_167 rfl (lv_at hl 4 rfl) ?_
              refine lv_iconst (v := nI 0) hx hb dL_asked_168 (by decide) ?_
              refine lv_iload hx hb dL_asked_169 (lv_at hl 10 rfl) ?_
              refine z_xq (av := #[]) (val := fun r : Int64 => some (.long r)) (post := fun r u => k_fold A (nI 0) (nI q) = 0 ∧ r = v_score A (nI 0) (nI q) ∧ CR K A ad L f A u.1 u.2) (z_xrunV hC hM (p_score hst hS.1 (nI 0) (nI q)) zy_X6_score zm_L_83 (ci_1 hS.1) (cx_at hS.1) zcl_X6 rfl rfl rfl hl.1 (Nat.le_of_ble_eq_true rfl) ⟨by decide, by decide⟩ ⟨by decide, by decide⟩ dL_asked_171) (fun st o t ⟨⟨r, u, h1, h2, h3⟩, h4⟩ => ⟨r, u, h1, h2, h3, h4⟩) hM (fun E ce q9 L1 f1 H locs hp hM _ _ _ => absurd hp.1.1 (by omega)) (fun r L f H locs hp hM => ?_)
              obtain ⟨-, hv9, hCR⟩ := hp
              obtain ⟨ad, had, hS⟩ := hS.step hCR
              rw [← had] at hl
              rw [hv9, hvs]
              refine z_fcalll (z_runS hC hM (c_whole (scB (gD (GL pv bl kt)) q).toNat (UInt64.toNat_lt _) hE1) zy_L_whole zm_L_30 rfl rfl hl.1 (Nat.le_of_ble_eq_true rfl) ⟨by decide, by decide⟩ ⟨by decide, by decide⟩ dL_asked_174) hM (fun H locs hM => ?_)
              refine lv_lload hx hb dL_asked_177 (lv_at hl 0 rfl) ?_
              refine lv_iload hx hb dL_asked_179 (lv_at hl 9 rfl) ?_
              refine lv_i2l (v := lN (hG kt)) hx hb dL_asked_181 (nI_long (by omega)) ?_
              refine z_fcalli (z_runS hC hM (c_isNear (wholeN (scB (gD (GL pv bl kt)) q).toNat) (scN (GL pv bl kt) kt q b) (hG kt) hN1 hN2 (near_b hN1 hsb.1 hsb.2 (by omega)) (by omega)) zy_L_isNear zm_L_86 rfl rfl hl.1 (Nat.le_of_ble_eq_true rfl) ⟨by decide, by decide⟩ ⟨by decide, by decide⟩ dL_asked_182) hM (fun H locs hM => ?_)
              refine z_if_ne (tgt := 190) hx hb (nI_toInt (by decide)) dL_asked_185 (by decide) (fun c_185 => ?_) (fun c_185 => ?_)
              · have JOIN298 : ∀ (y9 : Int) (z9 : Nat) (ls : Array Slot) (H : Heap) (locs : List Loc), OEh (oeF (gD (GL pv bl kt)) q).toNat z9 y9 → lv_has ls 28 [(0, .ref ((ad 1))), (1, .ref a2), (2, .ref a3), (3, .ref a4), (4, .int v), (5, .int (nI (hG kt))), (6, .int (nI q)), (7, .int (nI x)), (8, .long (lN (tG (GL pv bl kt)))), (17, .long (iJ y9)), (19, .long (lN z9))] → zM base K L f s H locs → W p l e (zr 10 24 160 200) s m args below meth c H locs 6 36 Q (F0 m 298 ls []) := by
                  intro y9 z9 ls H locs hoe hl hM
                  refine lv_aload_n hx hb dL_asked_298 rfl (lv_at hl 0 rfl) ?_
                  refine lv_iconst (v := nI 0) hx hb dL_asked_299 (by decide) ?_
                  refine lv_iload hx hb dL_asked_300 (lv_at hl 6 rfl) ?_
                  refine z_xq (av := #[]) (val := fun r : Int64 => some (.long r)) (post := fun r u => k_fold A (nI 0) (nI q) = 0 ∧ r = v_oddEven A (nI 0) (nI q) ∧ CR K A ad L f A u.1 u.2) (z_xrunV hC hM (p_oddEven hst hS.1 (nI 0) (nI q)) zy_X6_oddEven zm_L_90 (ci_1 hS.1) (cx_at hS.1) zcl_X6 rfl rfl rfl hl.1 (Nat.le_of_ble_eq_true rfl) ⟨by decide, by decide⟩ ⟨by decide, by decide⟩ dL_asked_302) (fun st o t ⟨⟨r, u, h1, h2, h3⟩, h4⟩ => ⟨r, u, h1, h2, h3, h4⟩) hM (fun E ce q9 L1 f1 H locs hp hM _ _ _ => absurd hp.1.1 (by omega)) (fun r L f H locs hp hM => ?_)
                  obtain ⟨-, hv9, hCR⟩ := hp
                  obtain ⟨ad, had, hS⟩ := hS.step hCR
                  rw [← had] at hl
                  rw [hv9, hvo]
                  obtain ⟨ho1, ho2, ho3, ho4, ho5, ho6, ho7, ho8⟩ := hoe
                  have JOIN368 : ∀  (ls : Array Slot) (H : Heap) (locs : List Loc), lv_has ls 28 [(0, .ref ((ad 1))), (1, .ref a2), (2, .ref a3), (3, .ref a4), (4, .int v), (5, .int (nI (hG kt))), (6, .int (nI q)), (7, .int (nI x)), (8, .long (lN (tG (GL pv bl kt))))] → zM base K L f s H locs → W p l e (zr 10 24 160 200) s m args below meth c H locs 9 54 Q (F0 m 368 ls []) := by
                    intro ls H locs hl hM
                    refine lv_iload hx hb dL_asked_368 (lv_at hl 4 rfl) ?_
                    refine lv_bipush (v := nI 20) hx hb dL_asked_370 (by decide) ?_
                    refine lv_ishr hx hb dL_asked_372 ?_
                    refine lv_iconst (v := nI 3) hx hb dL_asked_373 (by decide) ?_
                    refine z_fcalli (z_runS hC hM (c_low (v >>> (nI 20 &&& 31)) 3 (by decide) (by decide)) zy_L_low zm_L_64 rfl rfl hl.1 (Nat.le_of_ble_eq_true rfl) ⟨by decide, by decide⟩ ⟨by decide, by decide⟩ dL_asked_374) hM (fun H locs hM => ?_)
                    have hlo4 := lowN_lt (v := (v >>> (nI 20 &&& 31))) (n := 3) (by decide)
                    refine z_if_le (tgt := 382) hx hb (nI_toInt (by omega)) dL_asked_377 (by decide) (fun c_377 => ?_) (fun c_377 => ?_)
                    · refine lv_ldc2 (v := (-1152921504606846976)) hx hb hown (hts _ zk_L_56) dL_asked_382 ?_
                      rw [show ((-1152921504606846976) : Int64) = iJ (moA (GL pv bl kt) kt 0) from (by decide : ((-1152921504606846976) : Int64) = iJ (-2 ^ 60))]
                      refine lv_lstore (lv' := [(23, .long (iJ (moA (GL pv bl kt) kt 0))), (0, .ref ((ad 1))), (1, .ref a2), (2, .ref a3), (3, .ref a4), (4, .int v), (5, .int (nI (hG kt))), (6, .int (nI q)), (7, .int (nI x)), (8, .long (lN (tG (GL pv bl kt))))]) hx hb dL_asked_385 hl (by decide) rfl (fun ls hl => ?_)
                      refine lv_iconst (v := nI 2) hx hb dL_asked_387 (by decide) ?_
                      refine lv_istore (lv' := [(25, .int (nI 2)), (23, .long (iJ (moA (GL pv bl kt) kt 0))), (0, .ref ((ad 1))), (1, .ref a2), (2, .ref a3), (3, .ref a4), (4, .int v), (5, .int (nI (hG kt))), (6, .int (nI q)), (7, .int (nI x)), (8, .long (lN (tG (GL pv bl kt))))]) hx hb dL_asked_388 hl (by decide) rfl (fun ls hl => ?_)
                      have LOOP390 : ∀ i : Nat, ∀ (ls : Array Slot) (H : Heap) (locs : List Loc), lv_has ls 28 [(25, .int (nI (i + 2))), (23, .long (iJ (moA (GL pv bl kt) kt i))), (0, .ref ((ad 1))), (1, .ref a2), (2, .ref a3), (3, .ref a4), (4, .int v), (5, .int (nI (hG kt))), (6, .int (nI q)), (7, .int (nI x)), (8, .long (lN (tG (GL pv bl kt))))] → zM base K L f s H locs → (i ≤ 59) → W p l e (zr 10 24 160 200) s m args below meth c H locs 9 54 Q (F0 m 390 ls []) := by
                        refine z_lp 59 1 (by decide) (fun i ih => ?_)
                        intro ls H locs hl hM hi9
                        have hb8 := moA_b hgt i
                        have hb9 := moP_b hgt (i + 2)
                        refine lv_iload hx hb dL_asked_390 (lv_at hl 0 rfl) ?_
                        refine lv_bipush (v := nI 61) hx hb dL_asked_392 (by decide) ?_
                        refine z_icmp_ge (tgt := 434) hx hb (nI_toInt (by omega)) (nI_toInt (by decide)) dL_asked_394 (by decide) (fun c_394 => ?_) (fun c_394 => ?_)
                        · skip
                          obtain rfl : i = 59 := by omega
                          have hl : lv_has ls 28 [(23, .long (iJ (moA (GL pv bl kt) kt 59))), (0, .ref ((ad 1))), (1, .ref a2), (2, .ref a3), (3, .ref a4), (4, .int v), (5, .int (nI (hG kt))), (6, .int (nI q)), (7, .int (nI x)), (8, .long (lN (tG (GL pv bl kt))))] := lv_sub hl [1, 2, 3, 4, 5, 6, 7, 8, 9, 10] rfl
                          have hxh := Nat.mul_le_mul hx9 hh9
                          have hpc := pd_case hgt (show 20 ≤ hG kt by omega) hx9
                          rw [← hgk] at hpc
                          obtain ⟨d9, hd9⟩ : ∃ d, d = pdT (gk A 0) (nI x) := ⟨_, rfl⟩
                          rw [← hd9] at hpc
                          have hk2 := kw_0 (A := A) hP.1 hx9
                          refine lv_aload_n hx hb dL_asked_434 rfl (lv_at hl 1 rfl) ?_
                          refine lv_iload hx hb dL_asked_435 (lv_at hl 8 rfl) ?_
                          refine z_xq (av := #[]) (val := fun r : Int32 => some (.int r)) (post := fun r u => r = (if k_period A (nI 0) (nI x) = 0 then v_period A (nI 0) (nI x) else nI 0) ∧ CR K A ad L f A u.1 u.2) (z_xrunSH hC hM (w_found hst hS.1 (nI x) (kp_E hP.1 hx9)) zyH_found zm_L_72 rfl rfl hl.1 (Nat.le_of_ble_eq_true rfl) ⟨by decide, by decide⟩ ⟨by decide, by decide⟩ dL_asked_437) (fun st o t ⟨⟨r, u, h1, h2, h3⟩, h4⟩ => ⟨r, u, h1, h2, h3, h4⟩) hM (fun E ce q9 L1 f1 H locs hp hM _ _ _ => hp.elim) (fun r L f H locs hp hM => ?_)
                          obtain ⟨hv9, hCR⟩ := hp
                          obtain ⟨ad, had, hS⟩ := hS.step hCR
                          rw [← had] at hl
                          rw [hv9, kp_v hP.1 hx9, ← hd9]
                          refine lv_istore (lv' := [(25, .int (nI d9)), (23, .long (iJ (moA (GL pv bl kt) kt 59))), (0, .ref ((ad 1))), (1, .ref a2), (2, .ref a3), (3, .ref a4), (4, .int v), (5, .int (nI (hG kt))), (6, .int (nI q)), (7, .int (nI x)), (8, .long (lN (tG (GL pv bl kt))))]) hx hb dL_asked_440 hl (by decide) rfl (fun ls hl => ?_)
                          refine lv_lload hx hb dL_asked_442 (lv_at hl 1 rfl) ?_
                          refine lv_iload hx hb dL_asked_444 (lv_at hl 9 rfl) ?_
                          refine lv_i2l (v := lN x) hx hb dL_asked_446 (nI_long (by omega)) ?_
                          refine lv_iload hx hb dL_asked_447 (lv_at hl 7 rfl) ?_
                          refine lv_i2l (v := lN (hG kt)) hx hb dL_asked_449 (nI_long (by omega)) ?_
                          refine lv_lmul hx hb dL_asked_450 ?_
                          rw [lN_mul]
                          refine z_lif_ne (tgt := 457) hx hb (iJ_toInt (by omega) (by omega)) (jN_toInt (by omega)) dL_asked_451 dL_asked_452 (by decide) (fun c_451 => ?_) (fun c_451 => ?_)
                          · refine lv_lload hx hb dL_asked_457 (lv_at hl 1 rfl) ?_
                            refine lv_iload hx hb dL_asked_459 (lv_at hl 9 rfl) ?_
                            refine lv_i2l (v := lN x) hx hb dL_asked_461 (nI_long (by omega)) ?_
                            refine lv_iload hx hb dL_asked_462 (lv_at hl 7 rfl) ?_
                            refine lv_i2l (v := lN (hG kt)) hx hb dL_asked_464 (nI_long (by omega)) ?_
                            refine lv_lmul hx hb dL_asked_465 ?_
                            rw [lN_mul]
                            refine z_lif_le (tgt := 519) hx hb (iJ_toInt (by omega) (by omega)) (jN_toInt (by omega)) dL_asked_466 dL_asked_467 (by decide) (fun c_466 => ?_) (fun c_466 => ?_)
                            · skip
                              have hd1 : d9 = 0 := hpc.2 (by omega)
                              have hvw : v_whyNot A (nI 0) (nI x) = nI 2 := by rw [vw_v, if_neg (by omega), ← hd9, if_pos hd1]; rfl
                              refine lv_iload hx hb dL_asked_519 (lv_at hl 0 rfl) ?_
                              refine z_if_ne (tgt := 539) hx hb (nI_toInt (by omega)) dL_asked_521 (by decide) (fun c_521 => ?_) (fun c_521 => ?_)
                              · exact absurd c_521 (by omega)
                              · refine lv_aload_n hx hb dL_asked_524 rfl (lv_at hl 2 rfl) ?_
                                refine lv_iconst (v := nI 0) hx hb dL_asked_525 (by decide) ?_
                                refine lv_iload hx hb dL_asked_526 (lv_at hl 9 rfl) ?_
                                refine z_xq (av := #[]) (val := fun r : Int32 => some (.int r)) (post := fun r u => k_whyNot A (nI 0) (nI x) = 0 ∧ r = v_whyNot A (nI 0) (nI x) ∧ CR K A ad L f A u.1 u.2) (z_xrunV hC hM (p_whyNot hst hS.1 (nI 0) (nI x)) zy_X6_whyNot zm_L_69 (ci_1 hS.1) (cx_at hS.1) zcl_X6 rfl rfl rfl hl.1 (Nat.le_of_ble_eq_true rfl) ⟨by decide, by decide⟩ ⟨by decide, by decide⟩ dL_asked_528) (fun st o t ⟨⟨r, u, h1, h2, h3⟩, h4⟩ => ⟨r, u, h1, h2, h3, h4⟩) hM (fun E ce q9 L1 f1 H locs hp hM _ _ _ => absurd hp.1.1 (by omega)) (fun r L f H locs hp hM => ?_)
                                obtain ⟨-, hv9, hCR⟩ := hp
                                obtain ⟨ad, had, hS⟩ := hS.step hCR
                                rw [← had] at hl
                                rw [hv9, hvw]
                                refine lv_iconst (v := nI 2) hx hb dL_asked_531 (by decide) ?_
                                refine z_icmp_ne (tgt := 539) hx hb (nI_toInt (by decide)) (nI_toInt (by decide)) dL_asked_532 (by decide) (fun c_532 => ?_) (fun c_532 => ?_)
                                · exact absurd rfl c_532
                                · refine lv_iconst (v := nI 1) hx hb dL_asked_535 (by decide) ?_
                                  refine lv_goto (tgt := 540) hx hb dL_asked_536 (by decide) ?_
                                  rw [← hQ]
                                  exact z_iret hC hM hr hlk rfl (by decide) (by decide) ⟨rfl, hS.cr⟩ dL_asked_540
                            · skip
                              have hd1 : 2 ≤ d9 ∧ d9 ≤ 60 ∧ moP (GL pv bl kt) kt d9 = moA (GL pv bl kt) kt 59 := by
                                obtain ⟨q2, e1, e2, e3, e4⟩ := hpc.1 c_466
                                rw [e1]
                                exact ⟨e2, e3, e4⟩
                              have hvw : v_whyNot A (nI 0) (nI x) = nI 0 := by rw [vw_v, if_neg (by omega), ← hd9, if_neg (by omega)]; rfl
                              refine lv_iload hx hb dL_asked_470 (lv_at hl 0 rfl) ?_
                              refine lv_iconst (v := nI 2) hx hb dL_asked_472 (by decide) ?_
                              refine z_icmp_lt (tgt := 515) hx hb (nI_toInt (by omega)) (nI_toInt (by decide)) dL_asked_473 (by decide) (fun c_473 => ?_) (fun c_473 => ?_)
                              · exact absurd c_473 (by omega)
                              · refine lv_iload hx hb dL_asked_476 (lv_at hl 0 rfl) ?_
                                refine lv_bipush (v := nI 60) hx hb dL_asked_478 (by decide) ?_
                                refine z_icmp_gt (tgt := 515) hx hb (nI_toInt (by omega)) (nI_toInt (by decide)) dL_asked_480 (by decide) (fun c_480 => ?_) (fun c_480 => ?_)
                                · exact absurd c_480 (by omega)
                                · refine lv_aload_n hx hb dL_asked_483 rfl (lv_at hl 3 rfl) ?_
                                  refine lv_aload_n hx hb dL_asked_484 rfl (lv_at hl 4 rfl) ?_
                                  refine lv_aload_n hx hb dL_asked_485 rfl (lv_at hl 5 rfl) ?_
                                  refine lv_iload hx hb dL_asked_486 (lv_at hl 0 rfl) ?_
                                  refine lv_lload hx hb dL_asked_488 (lv_at hl 10 rfl) ?_
                                  refine lv_iload hx hb dL_asked_490 (lv_at hl 7 rfl) ?_
                                  refine z_fcalll (z_runS hC hM (c_most hS.2.1 d9 (by omega)) zy_L_most zm_L_79 rfl rfl hl.1 (Nat.le_of_ble_eq_true rfl) ⟨by decide, by decide⟩ ⟨by decide, by decide⟩ dL_asked_492) hM (fun H locs hM => ?_)
                                  refine lv_lload hx hb dL_asked_495 (lv_at hl 1 rfl) ?_
                                  refine z_lif_ne (tgt := 515) hx hb (iJ_toInt (by omega) (by omega)) (iJ_toInt (by omega) (by omega)) dL_asked_497 dL_asked_498 (by decide) (fun c_497 => ?_) (fun c_497 => ?_)
                                  · exact absurd hd1.2.2 c_497
                                  · refine lv_aload_n hx hb dL_asked_501 rfl (lv_at hl 2 rfl) ?_
                                    refine lv_iconst (v := nI 0) hx hb dL_asked_502 (by decide) ?_
                                    refine lv_iload hx hb dL_asked_503 (lv_at hl 9 rfl) ?_
                                    refine z_xq (av := #[]) (val := fun r : Int32 => some (.int r)) (post := fun r u => k_whyNot A (nI 0) (nI x) = 0 ∧ r = v_whyNot A (nI 0) (nI x) ∧ CR K A ad L f A u.1 u.2) (z_xrunV hC hM (p_whyNot hst hS.1 (nI 0) (nI x)) zy_X6_whyNot zm_L_69 (ci_1 hS.1) (cx_at hS.1) zcl_X6 rfl rfl rfl hl.1 (Nat.le_of_ble_eq_true rfl) ⟨by decide, by decide⟩ ⟨by decide, by decide⟩ dL_asked_505) (fun st o t ⟨⟨r, u, h1, h2, h3⟩, h4⟩ => ⟨r, u, h1, h2, h3, h4⟩) hM (fun E ce q9 L1 f1 H locs hp hM _ _ _ => absurd hp.1.1 (by omega)) (fun r L f H locs hp hM => ?_)
                                    obtain ⟨-, hv9, hCR⟩ := hp
                                    obtain ⟨ad, had, hS⟩ := hS.step hCR
                                    rw [← had] at hl
                                    rw [hv9, hvw]
                                    refine z_if_ne (tgt := 515) hx hb (nI_toInt (by decide)) dL_asked_508 (by decide) (fun c_508 => ?_) (fun c_508 => ?_)
                                    · exact absurd c_508 (by omega)
                                    · refine lv_iconst (v := nI 1) hx hb dL_asked_511 (by decide) ?_
                                      refine lv_goto (tgt := 540) hx hb dL_asked_512 (by decide) ?_
                                      rw [← hQ]
                                      exact z_iret hC hM hr hlk rfl (by decide) (by decide) ⟨rfl, hS.cr⟩ dL_asked_540
                          · refine lv_iconst (v := nI 1) hx hb dL_asked_455 (by decide) ?_
                            rw [← hQ]
                            exact z_iret hC hM hr hlk rfl (by decide) (by decide) ⟨rfl, hS.cr⟩ dL_asked_456
                        · refine lv_aload_n hx hb dL_asked_397 rfl (lv_at hl 3 rfl) ?_
                          refine lv_aload_n hx hb dL_asked_398 rfl (lv_at hl 4 rfl) ?_
                          refine lv_aload_n hx hb dL_asked_399 rfl (lv_at hl 5 rfl) ?_
                          refine lv_iload hx hb dL_asked_400 (lv_at hl 0 rfl) ?_
                          refine lv_lload hx hb dL_asked_402 (lv_at hl 10 rfl) ?_
                          refine lv_iload hx hb dL_asked_404 (lv_at hl 7 rfl) ?_
                          refine z_fcalll (z_runS hC hM (c_most hS.2.1 (i + 2) (by omega)) zy_L_most zm_L_79 rfl rfl hl.1 (Nat.le_of_ble_eq_true rfl) ⟨by decide, by decide⟩ ⟨by decide, by decide⟩ dL_asked_406) hM (fun H locs hM => ?_)
                          refine lv_lstore (lv' := [(26, .long (iJ (moP (GL pv bl kt) kt (i + 2)))), (25, .int (nI (i + 2))), (23, .long (iJ (moA (GL pv bl kt) kt i))), (0, .ref ((ad 1))), (1, .ref a2), (2, .ref a3), (3, .ref a4), (4, .int v), (5, .int (nI (hG kt))), (6, .int (nI q)), (7, .int (nI x)), (8, .long (lN (tG (GL pv bl kt))))]) hx hb dL_asked_409 hl (by decide) rfl (fun ls hl => ?_)
                          refine lv_lload hx hb dL_asked_411 (lv_at hl 0 rfl) ?_
                          refine lv_lload hx hb dL_asked_413 (lv_at hl 2 rfl) ?_
                          refine z_lif_le (tgt := 424) hx hb (iJ_toInt (by omega) (by omega)) (iJ_toInt (by omega) (by omega)) dL_asked_415 dL_asked_416 (by decide) (fun c_415 => ?_) (fun c_415 => ?_)
                          · refine lv_lload hx hb dL_asked_424 (lv_at hl 2 rfl) ?_
                            refine lv_lstore (lv' := [(23, .long (iJ (moA (GL pv bl kt) kt i))), (26, .long (iJ (moP (GL pv bl kt) kt (i + 2)))), (25, .int (nI (i + 2))), (0, .ref ((ad 1))), (1, .ref a2), (2, .ref a3), (3, .ref a4), (4, .int v), (5, .int (nI (hG kt))), (6, .int (nI q)), (7, .int (nI x)), (8, .long (lN (tG (GL pv bl kt))))]) hx hb dL_asked_426 hl (by decide) rfl (fun ls hl => ?_)
                            refine lv_iinc (v := nI ((i + 2) + 1)) (lv' := [(25, .int (nI ((i + 2) + 1))), (23, .long (iJ (moA (GL pv bl kt) kt i))), (26, .long (iJ (moP (GL pv bl kt) kt (i + 2)))), (0, .ref ((ad 1))), (1, .ref a2), (2, .ref a3), (3, .ref a4), (4, .int v), (5, .int (nI (hG kt))), (6, .int (nI q)), (7, .int (nI x)), (8, .long (lN (tG (GL pv bl kt))))]) hx hb dL_asked_428 hl (k := 2) rfl (nI_add (i + 2) 1) (by decide) rfl (fun ls hl => ?_)
                            refine lv_goto (tgt := 390) hx hb dL_asked_431 (by decide) ?_
                            have e9 : moA (GL pv bl kt) kt (i + 1) = moA (GL pv bl kt) kt i := by rw [moA, if_neg (by omega)]
                            exact ih (by omega) ls H locs (by rw [e9]; exact lv_sub hl [0, 1, 3, 4, 5, 6, 7, 8, 9, 10, 11] rfl) hM (by omega)
                          · refine lv_lload hx hb dL_asked_419 (lv_at hl 0 rfl) ?_
                            refine lv_goto (tgt := 426) hx hb dL_asked_421 (by decide) ?_
                            refine lv_lstore (lv' := [(23, .long (iJ (moP (GL pv bl kt) kt (i + 2)))), (26, .long (iJ (moP (GL pv bl kt) kt (i + 2)))), (25, .int (nI (i + 2))), (0, .ref ((ad 1))), (1, .ref a2), (2, .ref a3), (3, .ref a4), (4, .int v), (5, .int (nI (hG kt))), (6, .int (nI q)), (7, .int (nI x)), (8, .long (lN (tG (GL pv bl kt))))]) hx hb dL_asked_426 hl (by decide) rfl (fun ls hl => ?_)
                            refine lv_iinc (v := nI ((i + 2) + 1)) (lv' := [(25, .int (nI ((i + 2) + 1))), (23, .long (iJ (moP (GL pv bl kt) kt (i + 2)))), (26, .long (iJ (moP (GL pv bl kt) kt (i + 2)))), (0, .ref ((ad 1))), (1, .ref a2), (2, .ref a3), (3, .ref a4), (4, .int v), (5, .int (nI (hG kt))), (6, .int (nI q)), (7, .int (nI x)), (8, .long (lN (tG (GL pv bl kt))))]) hx hb dL_asked_428 hl (k := 2) rfl (nI_add (i + 2) 1) (by decide) rfl (fun ls hl => ?_)
                            refine lv_goto (tgt := 390) hx hb dL_asked_431 (by decide) ?_
                            have e9 : moA (GL pv bl kt) kt (i + 1) = moP (GL pv bl kt) kt (i + 2) := by rw [moA, if_pos (by omega)]
                            exact ih (by omega) ls H locs (by rw [e9]; exact lv_sub hl [0, 1, 3, 4, 5, 6, 7, 8, 9, 10, 11] rfl) hM (by omega)
                      exact LOOP390 0 ls H locs (lv_sub hl [0, 1, 2, 3, 4, 5, 6, 7, 8, 9, 10] rfl) hM (by omega)
                    · refine lv_iconst (v := nI 1) hx hb dL_asked_380 (by decide) ?_
                      rw [← hQ]
                      exact z_iret hC hM hr hlk rfl (by decide) (by decide) ⟨rfl, hS.cr⟩ dL_asked_381
                  refine lv_lstore (lv' := [(21, .long (lN ((oeF (gD (GL pv bl kt)) q).toNat))), (0, .ref ((ad 1))), (1, .ref a2), (2, .ref a3), (3, .ref a4), (4, .int v), (5, .int (nI (hG kt))), (6, .int (nI q)), (7, .int (nI x)), (8, .long (lN (tG (GL pv bl kt)))), (17, .long (iJ y9)), (19, .long (lN z9))]) hx hb dL_asked_305 hl (by decide) rfl (fun ls hl => ?_)
                  refine lv_lload hx hb dL_asked_307 (lv_at hl 0 rfl) ?_
                  refine z_fcalll (z_runS hC hM (c_whole (oeF (gD (GL pv bl kt)) q).toNat (UInt64.toNat_lt _) ho1) zy_L_whole zm_L_30 rfl rfl hl.1 (Nat.le_of_ble_eq_true rfl) ⟨by decide, by decide⟩ ⟨by decide, by decide⟩ dL_asked_309) hM (fun H locs hM => ?_)
                  refine lv_lload hx hb dL_asked_312 (lv_at hl 10 rfl) ?_
                  refine lv_lload hx hb dL_asked_314 (lv_at hl 11 rfl) ?_
                  refine z_fcalli (z_runS hC hM (c_isNear (wholeN (oeF (gD (GL pv bl kt)) q).toNat) y9 z9 ho2 ho3 (near_b ho2 ho7 ho8 ho6) (by omega)) zy_L_isNear zm_L_86 rfl rfl hl.1 (Nat.le_of_ble_eq_true rfl) ⟨by decide, by decide⟩ ⟨by decide, by decide⟩ dL_asked_316) hM (fun H locs hM => ?_)
                  refine z_if_eq (tgt := 366) hx hb (nI_toInt (by decide)) dL_asked_319 (by decide) (fun c_319 => ?_) (fun c_319 => ?_)
                  · exact absurd c_319 (by omega)
                  · refine lv_lload hx hb dL_asked_322 (lv_at hl 10 rfl) ?_
                    refine lv_lload hx hb dL_asked_324 (lv_at hl 11 rfl) ?_
                    refine z_lif_gt (tgt := 339) hx hb (iJ_toInt (by omega) (by omega)) (jN_toInt (by omega)) dL_asked_326 dL_asked_327 (by decide) (fun c_326 => ?_) (fun c_326 => ?_)
                    · skip
                      refine lv_lload hx hb dL_asked_339 (lv_at hl 0 rfl) ?_
                      refine lv_lconst (v := lN 0) hx hb dL_asked_341 (by decide) ?_
                      refine z_lif_ge (tgt := 350) hx hb rfl (jN_toInt (by decide)) dL_asked_342 dL_asked_343 (by decide) (fun c_342 => ?_) (fun c_342 => ?_)
                      · refine lv_iconst (v := nI 0) hx hb dL_asked_350 (by decide) ?_
                        refine lv_lload hx hb dL_asked_351 (lv_at hl 10 rfl) ?_
                        refine lv_lconst (v := lN 0) hx hb dL_asked_353 (by decide) ?_
                        refine z_lif_ge (tgt := 362) hx hb (iJ_toInt (by omega) (by omega)) (jN_toInt (by decide)) dL_asked_354 dL_asked_355 (by decide) (fun c_354 => ?_) (fun c_354 => ?_)
                        · refine lv_iconst (v := nI 0) hx hb dL_asked_362 (by decide) ?_
                          refine z_icmp_eq (tgt := 368) hx hb (nI_toInt (by decide)) (nI_toInt (by decide)) dL_asked_363 (by decide) (fun c_363 => ?_) (fun c_363 => ?_)
                          · exact JOIN368  ls H locs (lv_sub hl [1, 2, 3, 4, 5, 6, 7, 8, 9] rfl) hM
                          · exact absurd rfl c_363
                        · exact absurd c_354 (by omega)
                      · exact absurd c_342 (by have := pos_L (ho4 (by omega)); omega)
                    · refine lv_lload hx hb dL_asked_330 (lv_at hl 10 rfl) ?_
                      refine lv_lload hx hb dL_asked_332 (lv_at hl 11 rfl) ?_
                      refine lv_lneg hx hb dL_asked_334 ?_
                      rw [lN_z (z9), iJ_neg]
                      refine z_lif_ge (tgt := 368) hx hb (iJ_toInt (by omega) (by omega)) (iJ_toInt (by omega) (by omega)) dL_asked_335 dL_asked_336 (by decide) (fun c_335 => ?_) (fun c_335 => ?_)
                      · exact JOIN368  ls H locs (lv_sub hl [1, 2, 3, 4, 5, 6, 7, 8, 9] rfl) hM
                      · skip
                        refine lv_lload hx hb dL_asked_339 (lv_at hl 0 rfl) ?_
                        refine lv_lconst (v := lN 0) hx hb dL_asked_341 (by decide) ?_
                        refine z_lif_ge (tgt := 350) hx hb rfl (jN_toInt (by decide)) dL_asked_342 dL_asked_343 (by decide) (fun c_342 => ?_) (fun c_342 => ?_)
                        · exact absurd c_342 (by have := neg_L (ho5 (by omega)) (UInt64.toNat_lt _); omega)
                        · refine lv_iconst (v := nI 1) hx hb dL_asked_346 (by decide) ?_
                          refine lv_goto (tgt := 351) hx hb dL_asked_347 (by decide) ?_
                          refine lv_lload hx hb dL_asked_351 (lv_at hl 10 rfl) ?_
                          refine lv_lconst (v := lN 0) hx hb dL_asked_353 (by decide) ?_
                          refine z_lif_ge (tgt := 362) hx hb (iJ_toInt (by omega) (by omega)) (jN_toInt (by decide)) dL_asked_354 dL_asked_355 (by decide) (fun c_354 => ?_) (fun c_354 => ?_)
                          · exact absurd c_354 (by omega)
                          · refine lv_iconst (v := nI 1) hx hb dL_asked_358 (by decide) ?_
                            refine lv_goto (tgt := 363) hx hb dL_asked_359 (by decide) ?_
                            refine z_icmp_eq (tgt := 368) hx hb (nI_toInt (by decide)) (nI_toInt (by decide)) dL_asked_363 (by decide) (fun c_363 => ?_) (fun c_363 => ?_)
                            · exact JOIN368  ls H locs (lv_sub hl [1, 2, 3, 4, 5, 6, 7, 8, 9] rfl) hM
                            · exact absurd rfl c_363
                refine lv_aload_n hx hb dL_asked_190 rfl (lv_at hl 7 rfl) ?_
                refine lv_iload hx hb dL_asked_191 (lv_at hl 1 rfl) ?_
                refine lv_iconst (v := nI 2) hx hb dL_asked_193 (by decide) ?_
                refine lv_iload hx hb dL_asked_194 (lv_at hl 10 rfl) ?_
                refine z_imul hx hb dL_asked_196 ?_
                refine z_fcalli (z_runS hC hM (m_many hS.2.1 b (2 * q) (by omega) (by omega)) zy_L_many zm_L_48 rfl rfl hl.1 (Nat.le_of_ble_eq_true rfl) ⟨by decide, by decide⟩ ⟨by decide, by decide⟩ dL_asked_197) hM (fun H locs hM => ?_)
                refine lv_i2l (v := lN (cN kt (2 * q) 1000 b)) hx hb dL_asked_200 (nI_long (by omega)) ?_
                refine lv_lstore (lv' := [(13, .long (lN (cN kt (2 * q) 1000 b))), (11, .long (iJ (scN (GL pv bl kt) kt q b))), (10, .int (nI b)), (8, .long (lN (tG (GL pv bl kt)))), (7, .int (nI x)), (0, .ref ((ad 1))), (1, .ref a2), (2, .ref a3), (3, .ref a4), (4, .int v), (5, .int (nI (hG kt))), (6, .int (nI q))]) hx hb dL_asked_201 hl (by decide) rfl (fun ls hl => ?_)
                refine lv_aload_n hx hb dL_asked_203 rfl (lv_at hl 8 rfl) ?_
                refine lv_iload hx hb dL_asked_204 (lv_at hl 2 rfl) ?_
                refine lv_iload hx hb dL_asked_206 (lv_at hl 11 rfl) ?_
                refine z_iadd hx hb dL_asked_208 ?_
                refine lv_iconst (v := nI 2) hx hb dL_asked_209 (by decide) ?_
                refine lv_iload hx hb dL_asked_210 (lv_at hl 11 rfl) ?_
                refine z_imul hx hb dL_asked_212 ?_
                refine z_fcalli (z_runS hC hM (m_many hS.2.1 (b + q) (2 * q) (by omega) (by omega)) zy_L_many zm_L_48 rfl rfl hl.1 (Nat.le_of_ble_eq_true rfl) ⟨by decide, by decide⟩ ⟨by decide, by decide⟩ dL_asked_213) hM (fun H locs hM => ?_)
                refine lv_i2l (v := lN (cN kt (2 * q) 1000 (b + q))) hx hb dL_asked_216 (nI_long (by omega)) ?_
                refine lv_lstore (lv' := [(15, .long (lN (cN kt (2 * q) 1000 (b + q)))), (13, .long (lN (cN kt (2 * q) 1000 b))), (11, .long (iJ (scN (GL pv bl kt) kt q b))), (10, .int (nI b)), (8, .long (lN (tG (GL pv bl kt)))), (7, .int (nI x)), (0, .ref ((ad 1))), (1, .ref a2), (2, .ref a3), (3, .ref a4), (4, .int v), (5, .int (nI (hG kt))), (6, .int (nI q))]) hx hb dL_asked_217 hl (by decide) rfl (fun ls hl => ?_)
                refine lv_lload hx hb dL_asked_219 (lv_at hl 1 rfl) ?_
                refine lv_lconst (v := lN 0) hx hb dL_asked_221 (by decide) ?_
                refine z_lif_eq (tgt := 233) hx hb (jN_toInt (by omega)) (jN_toInt (by decide)) dL_asked_222 dL_asked_223 (by decide) (fun c_222 => ?_) (fun c_222 => ?_)
                · skip
                  refine lv_lconst (v := lN 0) hx hb dL_asked_233 (by decide) ?_
                  refine lv_goto (tgt := 271) hx hb dL_asked_234 (by decide) ?_
                  refine lv_lstore (lv' := [(17, .long (lN 0)), (15, .long (lN (cN kt (2 * q) 1000 (b + q)))), (13, .long (lN (cN kt (2 * q) 1000 b))), (11, .long (iJ (scN (GL pv bl kt) kt q b))), (10, .int (nI b)), (8, .long (lN (tG (GL pv bl kt)))), (7, .int (nI x)), (0, .ref ((ad 1))), (1, .ref a2), (2, .ref a3), (3, .ref a4), (4, .int v), (5, .int (nI (hG kt))), (6, .int (nI q))]) hx hb dL_asked_271 hl (by decide) rfl (fun ls hl => ?_)
                  refine lv_lload hx hb dL_asked_273 (lv_at hl 2 rfl) ?_
                  refine lv_lconst (v := lN 0) hx hb dL_asked_275 (by decide) ?_
                  refine z_lif_eq (tgt := 287) hx hb (jN_toInt (by omega)) (jN_toInt (by decide)) dL_asked_276 dL_asked_277 (by decide) (fun c_276 => ?_) (fun c_276 => ?_)
                  · refine lv_lconst (v := lN 1) hx hb dL_asked_287 (by decide) ?_
                    refine lv_goto (tgt := 296) hx hb dL_asked_288 (by decide) ?_
                    refine lv_lstore (lv' := [(19, .long (lN 1)), (17, .long (lN 0)), (15, .long (lN (cN kt (2 * q) 1000 (b + q)))), (13, .long (lN (cN kt (2 * q) 1000 b))), (11, .long (iJ (scN (GL pv bl kt) kt q b))), (10, .int (nI b)), (8, .long (lN (tG (GL pv bl kt)))), (7, .int (nI x)), (0, .ref ((ad 1))), (1, .ref a2), (2, .ref a3), (3, .ref a4), (4, .int v), (5, .int (nI (hG kt))), (6, .int (nI q))]) hx hb dL_asked_296 hl (by decide) rfl (fun ls hl => ?_)
                    exact JOIN298 0 1 ls H locs (OEh_z hgt hb1 (by omega)) (lv_sub hl [8, 9, 10, 11, 12, 13, 14, 7, 6, 1, 0] rfl) hM
                  · exact absurd c_276 (by omega)
                · skip
                  refine lv_lload hx hb dL_asked_226 (lv_at hl 0 rfl) ?_
                  refine lv_lconst (v := lN 0) hx hb dL_asked_228 (by decide) ?_
                  refine z_lif_ne (tgt := 237) hx hb (jN_toInt (by omega)) (jN_toInt (by decide)) dL_asked_229 dL_asked_230 (by decide) (fun c_229 => ?_) (fun c_229 => ?_)
                  · skip
                    refine lv_aload_n hx hb dL_asked_237 rfl (lv_at hl 7 rfl) ?_
                    refine lv_aload_n hx hb dL_asked_238 rfl (lv_at hl 8 rfl) ?_
                    refine lv_aload_n hx hb dL_asked_239 rfl (lv_at hl 9 rfl) ?_
                    refine lv_iload hx hb dL_asked_240 (lv_at hl 3 rfl) ?_
                    refine lv_iconst (v := nI 2) hx hb dL_asked_242 (by decide) ?_
                    refine lv_iload hx hb dL_asked_243 (lv_at hl 12 rfl) ?_
                    refine z_imul hx hb dL_asked_245 ?_
                    refine z_fcalll (z_runS hC hM (c_sum hS.2.1 b (2 * q) (by omega) (by omega)) zy_L_sum zm_L_52 rfl rfl hl.1 (Nat.le_of_ble_eq_true rfl) ⟨by decide, by decide⟩ ⟨by decide, by decide⟩ dL_asked_246) hM (fun H locs hM => ?_)
                    refine lv_lload hx hb dL_asked_249 (lv_at hl 0 rfl) ?_
                    refine lv_lmul hx hb dL_asked_251 ?_
                    rw [lN_mul]
                    refine lv_aload_n hx hb dL_asked_252 rfl (lv_at hl 7 rfl) ?_
                    refine lv_aload_n hx hb dL_asked_253 rfl (lv_at hl 8 rfl) ?_
                    refine lv_aload_n hx hb dL_asked_254 rfl (lv_at hl 9 rfl) ?_
                    refine lv_iload hx hb dL_asked_255 (lv_at hl 3 rfl) ?_
                    refine lv_iload hx hb dL_asked_257 (lv_at hl 12 rfl) ?_
                    refine z_iadd hx hb dL_asked_259 ?_
                    refine lv_iconst (v := nI 2) hx hb dL_asked_260 (by decide) ?_
                    refine lv_iload hx hb dL_asked_261 (lv_at hl 12 rfl) ?_
                    refine z_imul hx hb dL_asked_263 ?_
                    refine z_fcalll (z_runS hC hM (c_sum hS.2.1 (b + q) (2 * q) (by omega) (by omega)) zy_L_sum zm_L_52 rfl rfl hl.1 (Nat.le_of_ble_eq_true rfl) ⟨by decide, by decide⟩ ⟨by decide, by decide⟩ dL_asked_264) hM (fun H locs hM => ?_)
                    refine lv_lload hx hb dL_asked_267 (lv_at hl 1 rfl) ?_
                    refine lv_lmul hx hb dL_asked_269 ?_
                    rw [lN_mul]
                    refine lv_lsub hx hb dL_asked_270 ?_
                    rw [lN_z ((sN (GL pv bl kt) (2 * q) 1000 b) * (cN kt (2 * q) 1000 (b + q))), lN_z ((sN (GL pv bl kt) (2 * q) 1000 (b + q)) * (cN kt (2 * q) 1000 b)), iJ_sub]
                    refine lv_lstore (lv' := [(17, .long (iJ ((((sN (GL pv bl kt) (2 * q) 1000 b) * (cN kt (2 * q) 1000 (b + q)) : Nat) : Int) - (((sN (GL pv bl kt) (2 * q) 1000 (b + q)) * (cN kt (2 * q) 1000 b) : Nat) : Int)))), (15, .long (lN (cN kt (2 * q) 1000 (b + q)))), (13, .long (lN (cN kt (2 * q) 1000 b))), (11, .long (iJ (scN (GL pv bl kt) kt q b))), (10, .int (nI b)), (8, .long (lN (tG (GL pv bl kt)))), (7, .int (nI x)), (0, .ref ((ad 1))), (1, .ref a2), (2, .ref a3), (3, .ref a4), (4, .int v), (5, .int (nI (hG kt))), (6, .int (nI q))]) hx hb dL_asked_271 hl (by decide) rfl (fun ls hl => ?_)
                    refine lv_lload hx hb dL_asked_273 (lv_at hl 2 rfl) ?_
                    refine lv_lconst (v := lN 0) hx hb dL_asked_275 (by decide) ?_
                    refine z_lif_eq (tgt := 287) hx hb (jN_toInt (by omega)) (jN_toInt (by decide)) dL_asked_276 dL_asked_277 (by decide) (fun c_276 => ?_) (fun c_276 => ?_)
                    · exact absurd c_276 (by omega)
                    · refine lv_lload hx hb dL_asked_280 (lv_at hl 1 rfl) ?_
                      refine lv_lconst (v := lN 0) hx hb dL_asked_282 (by decide) ?_
                      refine z_lif_ne (tgt := 291) hx hb (jN_toInt (by omega)) (jN_toInt (by decide)) dL_asked_283 dL_asked_284 (by decide) (fun c_283 => ?_) (fun c_283 => ?_)
                      · refine lv_lload hx hb dL_asked_291 (lv_at hl 2 rfl) ?_
                        refine lv_lload hx hb dL_asked_293 (lv_at hl 1 rfl) ?_
                        refine lv_lmul hx hb dL_asked_295 ?_
                        rw [lN_mul]
                        refine lv_lstore (lv' := [(19, .long (lN ((cN kt (2 * q) 1000 b) * (cN kt (2 * q) 1000 (b + q))))), (17, .long (iJ ((((sN (GL pv bl kt) (2 * q) 1000 b) * (cN kt (2 * q) 1000 (b + q)) : Nat) : Int) - (((sN (GL pv bl kt) (2 * q) 1000 (b + q)) * (cN kt (2 * q) 1000 b) : Nat) : Int)))), (15, .long (lN (cN kt (2 * q) 1000 (b + q)))), (13, .long (lN (cN kt (2 * q) 1000 b))), (11, .long (iJ (scN (GL pv bl kt) kt q b))), (10, .int (nI b)), (8, .long (lN (tG (GL pv bl kt)))), (7, .int (nI x)), (0, .ref ((ad 1))), (1, .ref a2), (2, .ref a3), (3, .ref a4), (4, .int v), (5, .int (nI (hG kt))), (6, .int (nI q))]) hx hb dL_asked_296 hl (by decide) rfl (fun ls hl => ?_)
                        exact JOIN298 ((((sN (GL pv bl kt) (2 * q) 1000 b) * (cN kt (2 * q) 1000 (b + q)) : Nat) : Int) - (((sN (GL pv bl kt) (2 * q) 1000 (b + q)) * (cN kt (2 * q) 1000 b) : Nat) : Int)) ((cN kt (2 * q) 1000 b) * (cN kt (2 * q) 1000 (b + q))) ls H locs (OEh_n hgt hb1 (by omega) (by omega)) (lv_sub hl [8, 9, 10, 11, 12, 13, 14, 7, 6, 1, 0] rfl) hM
                      · exact absurd c_283 (by omega)
                  · skip
                    refine lv_lconst (v := lN 0) hx hb dL_asked_233 (by decide) ?_
                    refine lv_goto (tgt := 271) hx hb dL_asked_234 (by decide) ?_
                    refine lv_lstore (lv' := [(17, .long (lN 0)), (15, .long (lN (cN kt (2 * q) 1000 (b + q)))), (13, .long (lN (cN kt (2 * q) 1000 b))), (11, .long (iJ (scN (GL pv bl kt) kt q b))), (10, .int (nI b)), (8, .long (lN (tG (GL pv bl kt)))), (7, .int (nI x)), (0, .ref ((ad 1))), (1, .ref a2), (2, .ref a3), (3, .ref a4), (4, .int v), (5, .int (nI (hG kt))), (6, .int (nI q))]) hx hb dL_asked_271 hl (by decide) rfl (fun ls hl => ?_)
                    refine lv_lload hx hb dL_asked_273 (lv_at hl 2 rfl) ?_
                    refine lv_lconst (v := lN 0) hx hb dL_asked_275 (by decide) ?_
                    refine z_lif_eq (tgt := 287) hx hb (jN_toInt (by omega)) (jN_toInt (by decide)) dL_asked_276 dL_asked_277 (by decide) (fun c_276 => ?_) (fun c_276 => ?_)
                    · exact absurd c_276 (by omega)
                    · refine lv_lload hx hb dL_asked_280 (lv_at hl 1 rfl) ?_
                      refine lv_lconst (v := lN 0) hx hb dL_asked_282 (by decide) ?_
                      refine z_lif_ne (tgt := 291) hx hb (jN_toInt (by omega)) (jN_toInt (by decide)) dL_asked_283 dL_asked_284 (by decide) (fun c_283 => ?_) (fun c_283 => ?_)
                      · exact absurd c_283 (by omega)
                      · refine lv_lconst (v := lN 1) hx hb dL_asked_287 (by decide) ?_
                        refine lv_goto (tgt := 296) hx hb dL_asked_288 (by decide) ?_
                        refine lv_lstore (lv' := [(19, .long (lN 1)), (17, .long (lN 0)), (15, .long (lN (cN kt (2 * q) 1000 (b + q)))), (13, .long (lN (cN kt (2 * q) 1000 b))), (11, .long (iJ (scN (GL pv bl kt) kt q b))), (10, .int (nI b)), (8, .long (lN (tG (GL pv bl kt)))), (7, .int (nI x)), (0, .ref ((ad 1))), (1, .ref a2), (2, .ref a3), (3, .ref a4), (4, .int v), (5, .int (nI (hG kt))), (6, .int (nI q))]) hx hb dL_asked_296 hl (by decide) rfl (fun ls hl => ?_)
                        exact JOIN298 0 1 ls H locs (OEh_z hgt hb1 (by omega)) (lv_sub hl [8, 9, 10, 11, 12, 13, 14, 7, 6, 1, 0] rfl) hM
              · exact absurd c_185 (by omega)
          · exact absurd c_128 (by omega)
    · skip
      have h20 : A.1 14 0 < 20 := by rw [hG_A hV hP]; omega
      have hk2 := kw_0 (A := A) hP.1 hx9
      have hvw : v_whyNot A (nI 0) (nI x) = nI 1 := by rw [vw_v, if_pos h20]; rfl
      have hpd0 : pdT (gk A 0) (nI x) = 0 := by
        unfold pdT
        rw [if_pos (by rw [hgk, fN_c hgt]; show hG kt < 20; omega)]
      refine lv_aload_n hx hb dL_asked_63 rfl (lv_at hl 1 rfl) ?_
      refine lv_iconst (v := nI 0) hx hb dL_asked_64 (by decide) ?_
      refine lv_iload hx hb dL_asked_65 (lv_at hl 0 rfl) ?_
      refine z_xq (av := #[]) (val := fun r : Int32 => some (.int r)) (post := fun r u => k_whyNot A (nI 0) (nI x) = 0 ∧ r = v_whyNot A (nI 0) (nI x) ∧ CR K A ad L f A u.1 u.2) (z_xrunV hC hM (p_whyNot hst hS.1 (nI 0) (nI x)) zy_X6_whyNot zm_L_69 (ci_1 hS.1) (cx_at hS.1) zcl_X6 rfl rfl rfl hl.1 (Nat.le_of_ble_eq_true rfl) ⟨by decide, by decide⟩ ⟨by decide, by decide⟩ dL_asked_67) (fun st o t ⟨⟨r, u, h1, h2, h3⟩, h4⟩ => ⟨r, u, h1, h2, h3, h4⟩) hM (fun E ce q9 L1 f1 H locs hp hM _ _ _ => absurd hp.1.1 (by omega)) (fun r L f H locs hp hM => ?_)
      obtain ⟨-, hv9, hCR⟩ := hp
      obtain ⟨ad, had, hS⟩ := hS.step hCR
      rw [← had] at hl
      rw [hv9, hvw]
      refine lv_iconst (v := nI 1) hx hb dL_asked_70 (by decide) ?_
      refine z_icmp_ne (tgt := 87) hx hb (nI_toInt (by decide)) (nI_toInt (by decide)) dL_asked_71 (by decide) (fun c_71 => ?_) (fun c_71 => ?_)
      · exact absurd rfl c_71
      · refine lv_aload_n hx hb dL_asked_74 rfl (lv_at hl 1 rfl) ?_
        refine lv_iload hx hb dL_asked_75 (lv_at hl 0 rfl) ?_
        refine z_xq (av := #[]) (val := fun r : Int32 => some (.int r)) (post := fun r u => r = (if k_period A (nI 0) (nI x) = 0 then v_period A (nI 0) (nI x) else nI 0) ∧ CR K A ad L f A u.1 u.2) (z_xrunSH hC hM (w_found hst hS.1 (nI x) (kp_E hP.1 hx9)) zyH_found zm_L_72 rfl rfl hl.1 (Nat.le_of_ble_eq_true rfl) ⟨by decide, by decide⟩ ⟨by decide, by decide⟩ dL_asked_77) (fun st o t ⟨⟨r, u, h1, h2, h3⟩, h4⟩ => ⟨r, u, h1, h2, h3, h4⟩) hM (fun E ce q9 L1 f1 H locs hp hM _ _ _ => hp.elim) (fun r L f H locs hp hM => ?_)
        obtain ⟨hv9, hCR⟩ := hp
        obtain ⟨ad, had, hS⟩ := hS.step hCR
        rw [← had] at hl
        rw [hv9, kp_v hP.1 hx9, hpd0]
        refine z_if_ne (tgt := 87) hx hb (nI_toInt (by decide)) dL_asked_80 (by decide) (fun c_80 => ?_) (fun c_80 => ?_)
        · exact absurd c_80 (by omega)
        · refine lv_iconst (v := nI 1) hx hb dL_asked_83 (by decide) ?_
          refine lv_goto (tgt := 88) hx hb dL_asked_84 (by decide) ?_
          rw [← hQ]
          exact z_iret hC hM hr hlk rfl (by decide) (by decide) ⟨rfl, hS.cr⟩ dL_asked_88
  refine lv_istore (lv' := [(6, .int (nI q)), (5, .int (nI (hG kt))), (0, .ref ((ad 1))), (1, .ref a2), (2, .ref a3), (3, .ref a4), (4, .int v)]) hx hb dL_asked_17 hl (by decide) rfl (fun ls hl => ?_)
  refine lv_iload hx hb dL_asked_19 (lv_at hl 6 rfl) ?_
  refine lv_bipush (v := nI 8) hx hb dL_asked_21 (by decide) ?_
  refine lv_ishr hx hb dL_asked_23 ?_
  refine lv_iconst (v := nI 3) hx hb dL_asked_24 (by decide) ?_
  refine z_fcalli (z_runS hC hM (c_low (v >>> (nI 8 &&& 31)) 3 (by decide) (by decide)) zy_L_low zm_L_64 rfl rfl hl.1 (Nat.le_of_ble_eq_true rfl) ⟨by decide, by decide⟩ ⟨by decide, by decide⟩ dL_asked_25) hM (fun H locs hM => ?_)
  have hlo2 := lowN_lt (v := (v >>> (nI 8 &&& 31))) (n := 3) (by decide)
  refine z_if_ne (tgt := 44) hx hb (nI_toInt (by omega)) dL_asked_28 (by decide) (fun c_28 => ?_) (fun c_28 => ?_)
  · refine lv_iload hx hb dL_asked_44 (lv_at hl 6 rfl) ?_
    refine lv_bipush (v := nI 11) hx hb dL_asked_46 (by decide) ?_
    refine lv_ishr hx hb dL_asked_48 ?_
    refine lv_ldc (v := nI 40000) hx hb hown (hts _ zk_L_68) dL_asked_49 ?_
    refine z_fcalli (z_runS hC hM (c_low (v >>> (nI 11 &&& 31)) 40000 (by decide) (by decide)) zy_L_low zm_L_64 rfl rfl hl.1 (Nat.le_of_ble_eq_true rfl) ⟨by decide, by decide⟩ ⟨by decide, by decide⟩ dL_asked_51) hM (fun H locs hM => ?_)
    have hlo3 := lowN_lt (v := (v >>> (nI 11 &&& 31))) (n := 40000) (by decide)
    exact JOIN54 (lowN (v >>> (nI 11 &&& 31)) 40000) ls H locs (by omega) (lv_sub hl [2, 3, 4, 5, 6, 1, 0] rfl) hM
  · refine lv_iload hx hb dL_asked_31 (lv_at hl 6 rfl) ?_
    refine lv_bipush (v := nI 11) hx hb dL_asked_33 (by decide) ?_
    refine lv_ishr hx hb dL_asked_35 ?_
    refine lv_ldc (v := nI 1000001) hx hb hown (hts _ zk_L_67) dL_asked_36 ?_
    refine z_fcalli (z_runS hC hM (c_low (v >>> (nI 11 &&& 31)) 1000001 (by decide) (by decide)) zy_L_low zm_L_64 rfl rfl hl.1 (Nat.le_of_ble_eq_true rfl) ⟨by decide, by decide⟩ ⟨by decide, by decide⟩ dL_asked_38) hM (fun H locs hM => ?_)
    have hlo3 := lowN_lt (v := (v >>> (nI 11 &&& 31))) (n := 1000001) (by decide)
    refine lv_goto (tgt := 54) hx hb dL_asked_41 (by decide) ?_
    exact JOIN54 (lowN (v >>> (nI 11 &&& 31)) 1000001) ls H locs (by omega) (lv_sub hl [2, 3, 4, 5, 6, 1, 0] rfl) hM
