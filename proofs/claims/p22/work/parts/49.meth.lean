/-! CONTRACTS of the law's own methods over its arrays (rows laid by wip/p22/lawm2.py) -/
def lwQ (pv : Nat → Nat) (h k : Nat) : Nat := lwF (pv 0) h (fun k => pv (1 + 3 * k)) (fun k => pv (2 + 3 * k)) (fun k => pv (3 + 3 * k)) k
def lwP (pv : Nat → Nat) (h b : Nat) : Nat := lwQ pv h (pv 13) + b
theorem lwQ_t {pv : Nat → Nat} {h i : Nat} (c : (h + pv (1 + 3 * i) - pv (2 + 3 * i)) % pv (1 + 3 * i) < pv (3 + 3 * i)) : lwQ pv h (i + 1) = lwQ pv h i / 8 * 7 := by
  unfold lwQ; rw [lwF]; exact if_pos c
theorem lwQ_f {pv : Nat → Nat} {h i : Nat} (c : ¬ (h + pv (1 + 3 * i) - pv (2 + 3 * i)) % pv (1 + 3 * i) < pv (3 + 3 * i)) : lwQ pv h (i + 1) = lwQ pv h i := by
  unfold lwQ; rw [lwF]; exact if_neg c
def PVok (pv : Nat → Nat) : Prop := pv 0 < 2 ^ 31 ∧ pv 13 ≤ 4 ∧ ∀ k, k < pv 13 → 2 ≤ pv (1 + 3 * k) ∧ pv (1 + 3 * k) ≤ 60 ∧ pv (2 + 3 * k) < pv (1 + 3 * k) ∧ 1 ≤ pv (3 + 3 * k) ∧ pv (3 + 3 * k) ≤ 4
theorem lwQ_le {pv : Nat → Nat} (hp : PVok pv) (h k : Nat) : lwQ pv h k < 2 ^ 31 := Nat.lt_of_le_of_lt (lwF_le _ _ _ _ _ k) hp.1
def KBok (kb : Nat → Int64) (kt : Nat → Nat) : Prop := (∀ k, k < 3 → ∀ x, x < 1000 → jB (kb (16 * k + x / 64)) (x % 64) = decide (kt x = k + 1)) ∧ ∀ x, kt x ≤ 3
def GL (pv bl kt : Nat → Nat) (h : Nat) : Nat := if kt h ≠ 0 then lwP pv h (bl (kt h - 1)) else 0
theorem wnV_p {k : Nat} (h : 0 < k) : wnV k = nI (k - 1) := if_neg (by omega)
theorem wnV_s (k : Nat) : wnV (k + 1) = nI k := wnV_p (Nat.succ_pos k)
theorem btrue {C : Prop} [Decidable C] (h : C) : (decide C).toNat = 1 := by rw [decide_eq_true h]; rfl
theorem bfalse {C : Prop} [Decidable C] (h : ¬ C) : (decide C).toNat = 0 := by rw [decide_eq_false h]; rfl
set_option maxHeartbeats 400000 in
set_option maxRecDepth 100000 in
theorem c_light {l : Launch} {base : Nat} {K : zK} {L : List Nat} {f : Nat → va_E} {a : Nat} {pv : Nat → Nat} (ha : a ∈ L) (hfa : f a = eI K 14 (fun j => nI (pv j))) (hpv : PVok pv) (b h : Nat) (hb31 : b < 2 ^ 31) (hh : h < 1000) : zMet l yL_light cL_light 7 (some .long) (zr 0 0 0 0) base K L f [.ref a, .int (nI b), .int (nI h)] (zFl base K (lN (lwP pv h b)) L f) := by
  have h13 := hpv.2.1
  have hp0 := hpv.1
  refine z_met (by decide) (Nat.le_of_ble_eq_true rfl) (fun p e s m below meth c ls hC hM hr hlk hnm hl => ?_)
  have hx := hC.1
  have hb := hC.2.1
  have hml := hC.2.2.1
  have hown := hC.2.2.2.1
  have hts := hC.2.2.2.2.1
  generalize hA : ([.ref a, .int (nI b), .int (nI h)] : List Value).toArray = args at hC ⊢
  generalize hQ : MQ _ _ _ _ _ _ _ = Q
  obtain ⟨locs, hlocs⟩ : ∃ z : List Loc, z = [] := ⟨_, rfl⟩
  obtain ⟨H, hH⟩ : ∃ z : Heap, z = s.heap := ⟨_, rfl⟩
  rw [← hlocs, ← hH] at hM ⊢
  have hl : lv_has ls 7 [(0, .ref a), (1, .int (nI b)), (2, .int (nI h))] := hl
  refine lv_aload_n hx hb dL_light_0 rfl (lv_at hl 0 rfl) ?_
  refine lv_iconst (v := nI 0) hx hb dL_light_1 (by decide) ?_
  refine z_iald hC hM ha hfa (by omega) (by omega) dL_light_2 ?_
  refine lv_i2l (v := lN (pv 0)) hx hb dL_light_3 (nI_long (by omega)) ?_
  refine lv_lstore_n (lv' := [(3, .long (lN (pv 0))), (0, .ref a), (1, .int (nI b)), (2, .int (nI h))]) hx hb dL_light_4 rfl hl (by decide) rfl (fun ls hl => ?_)
  refine lv_iconst (v := nI 0) hx hb dL_light_5 (by decide) ?_
  refine lv_istore (lv' := [(5, .int (nI 0)), (3, .long (lN (pv 0))), (0, .ref a), (1, .int (nI b)), (2, .int (nI h))]) hx hb dL_light_6 hl (by decide) rfl (fun ls hl => ?_)
  have LOOP8 : ∀ i : Nat, ∀ (ls : Array Slot) (H : Heap) (locs : List Loc), lv_has ls 7 [(5, .int (nI i)), (3, .long (lN (lwQ pv h i))), (0, .ref a), (1, .int (nI b)), (2, .int (nI h))] → zM base K L f s H locs → (i ≤ pv 13) → W p l e (zr 0 0 0 0) s m args below meth c H locs 0 0 Q (F0 m 8 ls []) := by
    refine z_lp (pv 13) 1 (by decide) (fun i ih => ?_)
    intro ls H locs hl hM hi9
    have h13 := hpv.2.1
    have hq9 := lwQ_le hpv h i
    refine lv_iload hx hb dL_light_8 (lv_at hl 0 rfl) ?_
    refine lv_aload_n hx hb dL_light_10 rfl (lv_at hl 2 rfl) ?_
    refine lv_bipush (v := nI 13) hx hb dL_light_11 (by decide) ?_
    refine z_iald hC hM ha hfa (by omega) (by omega) dL_light_13 ?_
    refine z_icmp_ge (tgt := 85) hx hb (nI_toInt (by omega)) (nI_toInt (by omega)) dL_light_14 (by decide) (fun c_14 => ?_) (fun c_14 => ?_)
    · refine lv_lload_n hx hb dL_light_85 rfl (lv_at hl 1 rfl) ?_
      refine lv_iload_n hx hb dL_light_86 rfl (lv_at hl 3 rfl) ?_
      refine lv_i2l (v := lN b) hx hb dL_light_87 (nI_long (by omega)) ?_
      refine lv_ladd hx hb dL_light_88 ?_
      rw [lN_add]
      rw [← hQ]
      exact z_lret hC hM hr hlk (by decide) (by decide) ⟨by rw [show i = pv 13 by omega]; rfl, rfl, rfl⟩ dL_light_89
    · skip
      have hpi := hpv.2.2 i (by omega)
      have hm9 := Nat.mod_lt (h + pv (1 + 3 * i) - pv (2 + 3 * i)) (show 0 < pv (1 + 3 * i) by omega)
      refine lv_iload_n hx hb dL_light_17 rfl (lv_at hl 4 rfl) ?_
      refine lv_aload_n hx hb dL_light_18 rfl (lv_at hl 2 rfl) ?_
      refine lv_iconst (v := nI 2) hx hb dL_light_19 (by decide) ?_
      refine lv_iconst (v := nI 3) hx hb dL_light_20 (by decide) ?_
      refine lv_iload hx hb dL_light_21 (lv_at hl 0 rfl) ?_
      refine z_imul hx hb dL_light_23 ?_
      refine z_iadd hx hb dL_light_24 ?_
      refine z_iald hC hM ha hfa (by omega) (by omega) dL_light_25 ?_
      refine lv_isub hx hb dL_light_26 ?_
      refine lv_aload_n hx hb dL_light_27 rfl (lv_at hl 2 rfl) ?_
      refine lv_iconst (v := nI 1) hx hb dL_light_28 (by decide) ?_
      refine lv_iconst (v := nI 3) hx hb dL_light_29 (by decide) ?_
      refine lv_iload hx hb dL_light_30 (lv_at hl 0 rfl) ?_
      refine z_imul hx hb dL_light_32 ?_
      refine z_iadd hx hb dL_light_33 ?_
      refine z_iald hC hM ha hfa (by omega) (by omega) dL_light_34 ?_
      refine lv_irem hx hb dL_light_35 (nI_ne0 (by omega) (by omega)) ?_
      rcases Nat.lt_or_ge h (pv (2 + 3 * i)) with c9 | c9
      · refine lv_istore (lv' := [(6, .int (((nI h) - (nI (pv (2 + (3 * i))))) - ((nI h) - (nI (pv (2 + (3 * i))))) / (nI (pv (1 + (3 * i)))) * (nI (pv (1 + (3 * i)))))), (5, .int (nI i)), (3, .long (lN (lwQ pv h i))), (0, .ref a), (1, .int (nI b)), (2, .int (nI h))]) hx hb dL_light_36 hl (by decide) rfl (fun ls hl => ?_)
        refine lv_iload hx hb dL_light_38 (lv_at hl 0 rfl) ?_
        refine z_if_ge (tgt := 56) hx hb rfl dL_light_40 (by decide) (fun c_40 => ?_) (fun c_40 => ?_)
        · exact absurd c_40 (by rw [(rm_neg hh hpi.2.2.1 hpi.2.1 c9).1]; omega)
        · refine lv_iload hx hb dL_light_43 (lv_at hl 0 rfl) ?_
          refine lv_aload_n hx hb dL_light_45 rfl (lv_at hl 3 rfl) ?_
          refine lv_iconst (v := nI 1) hx hb dL_light_46 (by decide) ?_
          refine lv_iconst (v := nI 3) hx hb dL_light_47 (by decide) ?_
          refine lv_iload hx hb dL_light_48 (lv_at hl 1 rfl) ?_
          refine z_imul hx hb dL_light_50 ?_
          refine z_iadd hx hb dL_light_51 ?_
          refine z_iald hC hM ha hfa (by omega) (by omega) dL_light_52 ?_
          refine lv_iadd hx hb dL_light_53 ?_
          rw [(rm_neg hh hpi.2.2.1 hpi.2.1 c9).2]
          refine lv_istore (lv' := [(6, .int (nI ((h + pv (1 + 3 * i) - pv (2 + 3 * i)) % pv (1 + 3 * i)))), (5, .int (nI i)), (3, .long (lN (lwQ pv h i))), (0, .ref a), (1, .int (nI b)), (2, .int (nI h))]) hx hb dL_light_54 hl (by decide) rfl (fun ls hl => ?_)
          refine lv_iload hx hb dL_light_56 (lv_at hl 0 rfl) ?_
          refine lv_aload_n hx hb dL_light_58 rfl (lv_at hl 3 rfl) ?_
          refine lv_iconst (v := nI 3) hx hb dL_light_59 (by decide) ?_
          refine lv_iconst (v := nI 3) hx hb dL_light_60 (by decide) ?_
          refine lv_iload hx hb dL_light_61 (lv_at hl 1 rfl) ?_
          refine z_imul hx hb dL_light_63 ?_
          refine z_iadd hx hb dL_light_64 ?_
          refine z_iald hC hM ha hfa (by omega) (by omega) dL_light_65 ?_
          refine z_icmp_ge (tgt := 79) hx hb (nI_toInt (by omega)) (nI_toInt (by omega)) dL_light_66 (by decide) (fun c_66 => ?_) (fun c_66 => ?_)
          · refine lv_iinc (v := nI (i + 1)) (lv' := [(5, .int (nI (i + 1))), (6, .int (nI ((h + pv (1 + 3 * i) - pv (2 + 3 * i)) % pv (1 + 3 * i)))), (3, .long (lN (lwQ pv h i))), (0, .ref a), (1, .int (nI b)), (2, .int (nI h))]) hx hb dL_light_79 hl (k := 1) rfl (nI_add i 1) (by decide) rfl (fun ls hl => ?_)
            refine lv_goto (tgt := 8) hx hb dL_light_82 (by decide) ?_
            have e9 : lwQ pv h (i + 1) = lwQ pv h i := lwQ_f (by omega)
            exact ih (by omega) ls H locs (by rw [e9]; exact lv_sub hl [0, 2, 3, 4, 5] rfl) hM (by omega)
          · refine lv_lload_n hx hb dL_light_69 rfl (lv_at hl 2 rfl) ?_
            refine lv_ldc2 (v := lN 8) hx hb hown (hts _ zk_L_36) dL_light_70 ?_
            refine lv_ldiv hx hb dL_light_73 (by decide) ?_
            rw [lN_div (by omega) (by decide) (by decide)]
            refine lv_ldc2 (v := lN 7) hx hb hown (hts _ zk_L_38) dL_light_74 ?_
            refine lv_lmul hx hb dL_light_77 ?_
            rw [lN_mul]
            refine lv_lstore_n (lv' := [(3, .long (lN (((lwQ pv h i) / 8) * 7))), (6, .int (nI ((h + pv (1 + 3 * i) - pv (2 + 3 * i)) % pv (1 + 3 * i)))), (5, .int (nI i)), (0, .ref a), (1, .int (nI b)), (2, .int (nI h))]) hx hb dL_light_78 rfl hl (by decide) rfl (fun ls hl => ?_)
            refine lv_iinc (v := nI (i + 1)) (lv' := [(5, .int (nI (i + 1))), (3, .long (lN (((lwQ pv h i) / 8) * 7))), (6, .int (nI ((h + pv (1 + 3 * i) - pv (2 + 3 * i)) % pv (1 + 3 * i)))), (0, .ref a), (1, .int (nI b)), (2, .int (nI h))]) hx hb dL_light_79 hl (k := 2) rfl (nI_add i 1) (by decide) rfl (fun ls hl => ?_)
            refine lv_goto (tgt := 8) hx hb dL_light_82 (by decide) ?_
            have e9 : lwQ pv h (i + 1) = lwQ pv h i / 8 * 7 := lwQ_t (by omega)
            exact ih (by omega) ls H locs (by rw [e9]; exact lv_sub hl [0, 1, 3, 4, 5] rfl) hM (by omega)
      · rw [rm_pos hh hpi.2.2.1 hpi.2.1 c9]
        refine lv_istore (lv' := [(6, .int (nI ((h + pv (1 + 3 * i) - pv (2 + 3 * i)) % pv (1 + 3 * i)))), (5, .int (nI i)), (3, .long (lN (lwQ pv h i))), (0, .ref a), (1, .int (nI b)), (2, .int (nI h))]) hx hb dL_light_36 hl (by decide) rfl (fun ls hl => ?_)
        refine lv_iload hx hb dL_light_38 (lv_at hl 0 rfl) ?_
        refine z_if_ge (tgt := 56) hx hb (nI_toInt (by omega)) dL_light_40 (by decide) (fun c_40 => ?_) (fun c_40 => ?_)
        · refine lv_iload hx hb dL_light_56 (lv_at hl 0 rfl) ?_
          refine lv_aload_n hx hb dL_light_58 rfl (lv_at hl 3 rfl) ?_
          refine lv_iconst (v := nI 3) hx hb dL_light_59 (by decide) ?_
          refine lv_iconst (v := nI 3) hx hb dL_light_60 (by decide) ?_
          refine lv_iload hx hb dL_light_61 (lv_at hl 1 rfl) ?_
          refine z_imul hx hb dL_light_63 ?_
          refine z_iadd hx hb dL_light_64 ?_
          refine z_iald hC hM ha hfa (by omega) (by omega) dL_light_65 ?_
          refine z_icmp_ge (tgt := 79) hx hb (nI_toInt (by omega)) (nI_toInt (by omega)) dL_light_66 (by decide) (fun c_66 => ?_) (fun c_66 => ?_)
          · refine lv_iinc (v := nI (i + 1)) (lv' := [(5, .int (nI (i + 1))), (6, .int (nI ((h + pv (1 + 3 * i) - pv (2 + 3 * i)) % pv (1 + 3 * i)))), (3, .long (lN (lwQ pv h i))), (0, .ref a), (1, .int (nI b)), (2, .int (nI h))]) hx hb dL_light_79 hl (k := 1) rfl (nI_add i 1) (by decide) rfl (fun ls hl => ?_)
            refine lv_goto (tgt := 8) hx hb dL_light_82 (by decide) ?_
            have e9 : lwQ pv h (i + 1) = lwQ pv h i := lwQ_f (by omega)
            exact ih (by omega) ls H locs (by rw [e9]; exact lv_sub hl [0, 2, 3, 4, 5] rfl) hM (by omega)
          · refine lv_lload_n hx hb dL_light_69 rfl (lv_at hl 2 rfl) ?_
            refine lv_ldc2 (v := lN 8) hx hb hown (hts _ zk_L_36) dL_light_70 ?_
            refine lv_ldiv hx hb dL_light_73 (by decide) ?_
            rw [lN_div (by omega) (by decide) (by decide)]
            refine lv_ldc2 (v := lN 7) hx hb hown (hts _ zk_L_38) dL_light_74 ?_
            refine lv_lmul hx hb dL_light_77 ?_
            rw [lN_mul]
            refine lv_lstore_n (lv' := [(3, .long (lN (((lwQ pv h i) / 8) * 7))), (6, .int (nI ((h + pv (1 + 3 * i) - pv (2 + 3 * i)) % pv (1 + 3 * i)))), (5, .int (nI i)), (0, .ref a), (1, .int (nI b)), (2, .int (nI h))]) hx hb dL_light_78 rfl hl (by decide) rfl (fun ls hl => ?_)
            refine lv_iinc (v := nI (i + 1)) (lv' := [(5, .int (nI (i + 1))), (3, .long (lN (((lwQ pv h i) / 8) * 7))), (6, .int (nI ((h + pv (1 + 3 * i) - pv (2 + 3 * i)) % pv (1 + 3 * i)))), (0, .ref a), (1, .int (nI b)), (2, .int (nI h))]) hx hb dL_light_79 hl (k := 2) rfl (nI_add i 1) (by decide) rfl (fun ls hl => ?_)
            refine lv_goto (tgt := 8) hx hb dL_light_82 (by decide) ?_
            have e9 : lwQ pv h (i + 1) = lwQ pv h i / 8 * 7 := lwQ_t (by omega)
            exact ih (by omega) ls H locs (by rw [e9]; exact lv_sub hl [0, 1, 3, 4, 5] rfl) hM (by omega)
        · exact absurd c_40 (by omega)
  exact LOOP8 0 ls H locs (lv_sub hl [0, 1, 2, 3, 4] rfl) hM (by omega)
set_option maxHeartbeats 400000 in
set_option maxRecDepth 100000 in
theorem c_when {l : Launch} {base : Nat} {K : zK} {L : List Nat} {f : Nat → va_E} {a4 : Nat} {kb : Nat → Int64} {kt : Nat → Nat} (ha4 : a4 ∈ L) (hf4 : f a4 = eJ K 48 kb) (hkb : KBok kb kt) (h : Nat) (hh : h < 1000) : zMet l yL_when cL_when 3 (some .int) (zr 0 0 0 0) base K L f [.ref a4, .int (nI h)] (zFi base K (wnV (kt h)) L f) := by
  refine z_met (by decide) (Nat.le_of_ble_eq_true rfl) (fun p e s m below meth c ls hC hM hr hlk hnm hl => ?_)
  have hx := hC.1
  have hb := hC.2.1
  have hml := hC.2.2.1
  have hown := hC.2.2.2.1
  have hts := hC.2.2.2.2.1
  generalize hA : ([.ref a4, .int (nI h)] : List Value).toArray = args at hC ⊢
  generalize hQ : MQ _ _ _ _ _ _ _ = Q
  obtain ⟨locs, hlocs⟩ : ∃ z : List Loc, z = [] := ⟨_, rfl⟩
  obtain ⟨H, hH⟩ : ∃ z : Heap, z = s.heap := ⟨_, rfl⟩
  rw [← hlocs, ← hH] at hM ⊢
  have hl : lv_has ls 3 [(0, .ref a4), (1, .int (nI h))] := hl
  refine lv_iconst (v := nI 0) hx hb dL_when_0 (by decide) ?_
  refine lv_istore_n (lv' := [(2, .int (nI 0)), (0, .ref a4), (1, .int (nI h))]) hx hb dL_when_1 rfl hl (by decide) rfl (fun ls hl => ?_)
  have LOOP2 : ∀ i : Nat, ∀ (ls : Array Slot) (H : Heap) (locs : List Loc), lv_has ls 3 [(2, .int (nI i)), (1, .int (nI h)), (0, .ref a4)] → zM base K L f s H locs → ((kt h = 0 ∨ i < kt h) ∧ i ≤ 3) → W p l e (zr 0 0 0 0) s m args below meth c H locs 0 0 Q (F0 m 2 ls []) := by
    refine z_lp 3 1 (by decide) (fun i ih => ?_)
    intro ls H locs hl hM hi9
    have hk3 := hkb.2 h
    refine lv_iload_n hx hb dL_when_2 rfl (lv_at hl 0 rfl) ?_
    refine lv_iconst (v := nI 3) hx hb dL_when_3 (by decide) ?_
    refine z_icmp_ge (tgt := 38) hx hb (nI_toInt (by omega)) (nI_toInt (by decide)) dL_when_4 (by decide) (fun c_4 => ?_) (fun c_4 => ?_)
    · refine lv_iconst (v := (-1)) hx hb dL_when_38 (by decide) ?_
      rw [← hQ]
      exact z_iret hC hM hr hlk rfl (by decide) (by decide) ⟨by rw [show kt h = 0 by omega]; rfl, rfl, rfl⟩ dL_when_39
    · refine lv_aload_n hx hb dL_when_7 rfl (lv_at hl 2 rfl) ?_
      refine lv_bipush (v := nI 16) hx hb dL_when_8 (by decide) ?_
      refine lv_iload_n hx hb dL_when_10 rfl (lv_at hl 0 rfl) ?_
      refine z_imul hx hb dL_when_11 ?_
      refine lv_iload_n hx hb dL_when_12 rfl (lv_at hl 1 rfl) ?_
      refine lv_bipush (v := nI 64) hx hb dL_when_13 (by decide) ?_
      refine z_idiv hx hb (by omega) (by omega) (by omega) dL_when_15 ?_
      refine z_iadd hx hb dL_when_16 ?_
      refine z_lald hC hM ha4 hf4 (by omega) (by omega) dL_when_17 ?_
      refine lv_iload_n hx hb dL_when_18 rfl (lv_at hl 1 rfl) ?_
      refine lv_bipush (v := nI 64) hx hb dL_when_19 (by decide) ?_
      refine z_irem hx hb (by omega) (by omega) (by omega) dL_when_21 ?_
      refine lv_lshr hx hb dL_when_22 rfl ?_
      refine lv_lconst (v := lN 1) hx hb dL_when_23 (by decide) ?_
      refine lv_land hx hb dL_when_24 ?_
      rw [jB_tst _ (by omega), hkb.1 i (by omega) h hh]
      by_cases hc : kt h = i + 1
      · rw [btrue hc]
        refine lv_lconst (v := lN 1) hx hb dL_when_25 (by decide) ?_
        refine z_lif_ne (tgt := 32) hx hb (jN_toInt (by decide)) (jN_toInt (by decide)) dL_when_26 dL_when_27 (by decide) (fun c_26 => ?_) (fun c_26 => ?_)
        · exact absurd rfl c_26
        · refine lv_iload_n hx hb dL_when_30 rfl (lv_at hl 0 rfl) ?_
          rw [← hQ]
          exact z_iret hC hM hr hlk rfl (by decide) (by decide) ⟨by rw [hc]; exact (wnV_s i).symm, rfl, rfl⟩ dL_when_31
      · rw [bfalse hc]
        refine lv_lconst (v := lN 1) hx hb dL_when_25 (by decide) ?_
        refine z_lif_ne (tgt := 32) hx hb (jN_toInt (by decide)) (jN_toInt (by decide)) dL_when_26 dL_when_27 (by decide) (fun c_26 => ?_) (fun c_26 => ?_)
        · refine lv_iinc (v := nI (i + 1)) (lv' := [(2, .int (nI (i + 1))), (1, .int (nI h)), (0, .ref a4)]) hx hb dL_when_32 hl (k := 0) rfl (nI_add i 1) (by decide) rfl (fun ls hl => ?_)
          refine lv_goto (tgt := 2) hx hb dL_when_35 (by decide) ?_
          exact ih (by omega) ls H locs (lv_sub hl [0, 1, 2] rfl) hM (by omega)
        · exact absurd c_26 (by decide)
  exact LOOP2 0 ls H locs (lv_sub hl [0, 2, 1] rfl) hM (by omega)
set_option maxHeartbeats 400000 in
set_option maxRecDepth 100000 in
theorem c_many {l : Launch} {base : Nat} {K : zK} {L : List Nat} {f : Nat → va_E} {a4 : Nat} {kb : Nat → Int64} {kt : Nat → Nat} (ha4 : a4 ∈ L) (hf4 : f a4 = eJ K 48 kb) (hkb : KBok kb kt) (hk0 : ∀ h, 1000 ≤ h → kt h = 0) (j q : Nat) (hj : j < q) (hq2 : q ≤ 1000) : zMet l yL_many cL_many 5 (some .int) (zr 1 0 0 24) base K L f [.ref a4, .int (nI j), .int (nI q)] (zFi base K (nI (cN kt q 1000 j)) L f) := by
  have hq : 0 < q := by omega
  refine z_met (by decide) (Nat.le_of_ble_eq_true rfl) (fun p e s m below meth c ls hC hM hr hlk hnm hl => ?_)
  have hx := hC.1
  have hb := hC.2.1
  have hml := hC.2.2.1
  have hown := hC.2.2.2.1
  have hts := hC.2.2.2.2.1
  generalize hA : ([.ref a4, .int (nI j), .int (nI q)] : List Value).toArray = args at hC ⊢
  generalize hQ : MQ _ _ _ _ _ _ _ = Q
  obtain ⟨locs, hlocs⟩ : ∃ z : List Loc, z = [] := ⟨_, rfl⟩
  obtain ⟨H, hH⟩ : ∃ z : Heap, z = s.heap := ⟨_, rfl⟩
  rw [← hlocs, ← hH] at hM ⊢
  have hl : lv_has ls 5 [(0, .ref a4), (1, .int (nI j)), (2, .int (nI q))] := hl
  refine lv_iconst (v := nI 0) hx hb dL_many_0 (by decide) ?_
  refine lv_istore_n (lv' := [(3, .int (nI 0)), (0, .ref a4), (1, .int (nI j)), (2, .int (nI q))]) hx hb dL_many_1 rfl hl (by decide) rfl (fun ls hl => ?_)
  refine lv_iload_n hx hb dL_many_2 rfl (lv_at hl 2 rfl) ?_
  refine lv_istore (lv' := [(4, .int (nI j)), (3, .int (nI 0)), (0, .ref a4), (1, .int (nI j)), (2, .int (nI q))]) hx hb dL_many_3 hl (by decide) rfl (fun ls hl => ?_)
  have LOOP5 : ∀ i : Nat, ∀ (ls : Array Slot) (H : Heap) (locs : List Loc), lv_has ls 5 [(4, .int (nI i)), (3, .int (nI (cN kt q i j))), (0, .ref a4), (1, .int (nI j)), (2, .int (nI q))] → zM base K L f s H locs → (i % q = j) → (i < 1000 + q) → W p l e (zr 1 0 0 24) s m args below meth c H locs 0 0 Q (F0 m 5 ls []) := by
    refine z_lp 1000 q hq (fun i ih => ?_)
    intro ls H locs hl hM hm9 hi9
    have hk3 := hkb.2 i
    refine lv_iload hx hb dL_many_5 (lv_at hl 0 rfl) ?_
    refine lv_sipush (v := nI 1000) hx hb dL_many_7 (by decide) ?_
    refine z_icmp_ge (tgt := 39) hx hb (nI_toInt (by omega)) (nI_toInt (by decide)) dL_many_10 (by decide) (fun c_10 => ?_) (fun c_10 => ?_)
    · refine lv_iload_n hx hb dL_many_39 rfl (lv_at hl 1 rfl) ?_
      rw [← hQ]
      exact z_iret hC hM hr hlk rfl (by decide) (by decide) ⟨by rw [cN_end hk0 (by omega)], rfl, rfl⟩ dL_many_40
    · refine lv_iload_n hx hb dL_many_13 rfl (lv_at hl 1 rfl) ?_
      refine lv_aload_n hx hb dL_many_14 rfl (lv_at hl 2 rfl) ?_
      refine lv_iload hx hb dL_many_15 (lv_at hl 0 rfl) ?_
      refine z_fcalli (z_runS hC hM (c_when ha4 hf4 hkb i (by omega)) zy_L_when zm_L_40 rfl rfl hl.1 (Nat.le_of_ble_eq_true rfl) ⟨by decide, by decide⟩ ⟨by decide, by decide⟩ dL_many_17) hM (fun H locs hM => ?_)
      refine z_if_lt (tgt := 27) hx hb rfl dL_many_20 (by decide) (fun c_20 => ?_) (fun c_20 => ?_)
      · skip
        rw [wnV_toInt (by omega)] at c_20
        refine lv_iconst (v := nI 0) hx hb dL_many_27 (by decide) ?_
        refine z_iadd hx hb dL_many_28 ?_
        refine lv_istore_n (lv' := [(3, .int (nI ((cN kt q i j) + 0))), (4, .int (nI i)), (0, .ref a4), (1, .int (nI j)), (2, .int (nI q))]) hx hb dL_many_29 rfl hl (by decide) rfl (fun ls hl => ?_)
        refine lv_iload hx hb dL_many_30 (lv_at hl 1 rfl) ?_
        refine lv_iload_n hx hb dL_many_32 rfl (lv_at hl 4 rfl) ?_
        refine z_iadd hx hb dL_many_33 ?_
        refine lv_istore (lv' := [(4, .int (nI (i + q))), (3, .int (nI ((cN kt q i j) + 0))), (0, .ref a4), (1, .int (nI j)), (2, .int (nI q))]) hx hb dL_many_34 hl (by decide) rfl (fun ls hl => ?_)
        refine lv_goto (tgt := 5) hx hb dL_many_36 (by decide) ?_
        have e9 : cN kt q (i + q) j = cN kt q i j := (cN_step hq hm9).trans (if_neg (by omega))
        exact ih (by omega) ls H locs (by rw [e9]; exact lv_sub hl [0, 1, 2, 3, 4] rfl) hM (by rw [Nat.add_mod_right]; exact hm9) (by omega)
      · skip
        rw [wnV_toInt (by omega)] at c_20
        refine lv_iconst (v := nI 1) hx hb dL_many_23 (by decide) ?_
        refine lv_goto (tgt := 28) hx hb dL_many_24 (by decide) ?_
        refine z_iadd hx hb dL_many_28 ?_
        refine lv_istore_n (lv' := [(3, .int (nI ((cN kt q i j) + 1))), (4, .int (nI i)), (0, .ref a4), (1, .int (nI j)), (2, .int (nI q))]) hx hb dL_many_29 rfl hl (by decide) rfl (fun ls hl => ?_)
        refine lv_iload hx hb dL_many_30 (lv_at hl 1 rfl) ?_
        refine lv_iload_n hx hb dL_many_32 rfl (lv_at hl 4 rfl) ?_
        refine z_iadd hx hb dL_many_33 ?_
        refine lv_istore (lv' := [(4, .int (nI (i + q))), (3, .int (nI ((cN kt q i j) + 1))), (0, .ref a4), (1, .int (nI j)), (2, .int (nI q))]) hx hb dL_many_34 hl (by decide) rfl (fun ls hl => ?_)
        refine lv_goto (tgt := 5) hx hb dL_many_36 (by decide) ?_
        have e9 : cN kt q (i + q) j = cN kt q i j + 1 := (cN_step hq hm9).trans (if_pos (by omega))
        exact ih (by omega) ls H locs (by rw [e9]; exact lv_sub hl [0, 1, 2, 3, 4] rfl) hM (by rw [Nat.add_mod_right]; exact hm9) (by omega)
  exact LOOP5 j ls H locs (by rw [cN_0 hj j (Nat.le_refl j)]; exact lv_sub hl [0, 1, 2, 3, 4] rfl) hM (Nat.mod_eq_of_lt hj) (by omega)
/-- the arrays that tell of light: planets, blends, kept bits -/
def LW (K : zK) (L : List Nat) (f : Nat → va_E) (a2 a3 a4 : Nat) (pv bl : Nat → Nat) (kb : Nat → Int64) (kt : Nat → Nat) : Prop := a2 ∈ L ∧ f a2 = eI K 14 (fun j => nI (pv j)) ∧ a3 ∈ L ∧ f a3 = eI K 3 (fun j => nI (bl j)) ∧ a4 ∈ L ∧ f a4 = eJ K 48 kb ∧ PVok pv ∧ KBok kb kt ∧ (∀ h, 1000 ≤ h → kt h = 0) ∧ (∀ j, bl j < 2 ^ 31) ∧ GT (GL pv bl kt) kt
set_option maxHeartbeats 400000 in
set_option maxRecDepth 100000 in
theorem c_sum {l : Launch} {base : Nat} {K : zK} {L : List Nat} {f : Nat → va_E} {a2 a3 a4 : Nat} {pv bl kt : Nat → Nat} {kb : Nat → Int64} (hw : LW K L f a2 a3 a4 pv bl kb kt) (j q : Nat) (hj : j < q) (hq2 : q ≤ 1000) : zMet l yL_sum cL_sum 9 (some .long) (zr 1 0 0 26) base K L f [.ref a2, .ref a3, .ref a4, .int (nI j), .int (nI q)] (zFl base K (lN (sN (GL pv bl kt) q 1000 j)) L f) := by
  have hpv := hw.2.2.2.2.2.2.1
  have hkb := hw.2.2.2.2.2.2.2.1
  have hk0 := hw.2.2.2.2.2.2.2.2.1
  have hbl := hw.2.2.2.2.2.2.2.2.2.1
  have hgt := hw.2.2.2.2.2.2.2.2.2.2
  have hq : 0 < q := by omega
  refine z_met (by decide) (Nat.le_of_ble_eq_true rfl) (fun p e s m below meth c ls hC hM hr hlk hnm hl => ?_)
  have hx := hC.1
  have hb := hC.2.1
  have hml := hC.2.2.1
  have hown := hC.2.2.2.1
  have hts := hC.2.2.2.2.1
  generalize hA : ([.ref a2, .ref a3, .ref a4, .int (nI j), .int (nI q)] : List Value).toArray = args at hC ⊢
  generalize hQ : MQ _ _ _ _ _ _ _ = Q
  obtain ⟨locs, hlocs⟩ : ∃ z : List Loc, z = [] := ⟨_, rfl⟩
  obtain ⟨H, hH⟩ : ∃ z : Heap, z = s.heap := ⟨_, rfl⟩
  rw [← hlocs, ← hH] at hM ⊢
  have hl : lv_has ls 9 [(0, .ref a2), (1, .ref a3), (2, .ref a4), (3, .int (nI j)), (4, .int (nI q))] := hl
  refine lv_lconst (v := lN 0) hx hb dL_sum_0 (by decide) ?_
  refine lv_lstore (lv' := [(5, .long (lN 0)), (0, .ref a2), (1, .ref a3), (2, .ref a4), (3, .int (nI j)), (4, .int (nI q))]) hx hb dL_sum_1 hl (by decide) rfl (fun ls hl => ?_)
  refine lv_iload_n hx hb dL_sum_3 rfl (lv_at hl 4 rfl) ?_
  refine lv_istore (lv' := [(7, .int (nI j)), (5, .long (lN 0)), (0, .ref a2), (1, .ref a3), (2, .ref a4), (3, .int (nI j)), (4, .int (nI q))]) hx hb dL_sum_4 hl (by decide) rfl (fun ls hl => ?_)
  have LOOP6 : ∀ i : Nat, ∀ (ls : Array Slot) (H : Heap) (locs : List Loc), lv_has ls 9 [(7, .int (nI i)), (5, .long (lN (sN (GL pv bl kt) q i j))), (0, .ref a2), (1, .ref a3), (2, .ref a4), (3, .int (nI j)), (4, .int (nI q))] → zM base K L f s H locs → (i % q = j) → (i < 1000 + q) → W p l e (zr 1 0 0 26) s m args below meth c H locs 0 0 Q (F0 m 6 ls []) := by
    refine z_lp 1000 q hq (fun i ih => ?_)
    intro ls H locs hl hM hm9 hi9
    have hk3 := hkb.2 i
    refine lv_iload hx hb dL_sum_6 (lv_at hl 0 rfl) ?_
    refine lv_sipush (v := nI 1000) hx hb dL_sum_8 (by decide) ?_
    refine z_icmp_ge (tgt := 52) hx hb (nI_toInt (by omega)) (nI_toInt (by decide)) dL_sum_11 (by decide) (fun c_11 => ?_) (fun c_11 => ?_)
    · refine lv_lload hx hb dL_sum_52 (lv_at hl 1 rfl) ?_
      rw [← hQ]
      exact z_lret hC hM hr hlk (by decide) (by decide) ⟨by rw [sN_end (G := GL pv bl kt) (fun h9 hh9 => if_neg (fun z9 => z9 (hk0 h9 hh9))) (by omega)], rfl, rfl⟩ dL_sum_54
    · refine lv_aload_n hx hb dL_sum_14 rfl (lv_at hl 4 rfl) ?_
      refine lv_iload hx hb dL_sum_15 (lv_at hl 0 rfl) ?_
      refine z_fcalli (z_runS hC hM (c_when hw.2.2.2.2.1 hw.2.2.2.2.2.1 hkb i (by omega)) zy_L_when zm_L_40 rfl rfl hl.1 (Nat.le_of_ble_eq_true rfl) ⟨by decide, by decide⟩ ⟨by decide, by decide⟩ dL_sum_17) hM (fun H locs hM => ?_)
      refine lv_istore (lv' := [(8, .int (wnV (kt i))), (7, .int (nI i)), (5, .long (lN (sN (GL pv bl kt) q i j))), (0, .ref a2), (1, .ref a3), (2, .ref a4), (3, .int (nI j)), (4, .int (nI q))]) hx hb dL_sum_20 hl (by decide) rfl (fun ls hl => ?_)
      refine lv_iload hx hb dL_sum_22 (lv_at hl 0 rfl) ?_
      refine z_if_lt (tgt := 42) hx hb rfl dL_sum_24 (by decide) (fun c_24 => ?_) (fun c_24 => ?_)
      · skip
        rw [wnV_toInt (by omega)] at c_24
        refine lv_iload hx hb dL_sum_42 (lv_at hl 1 rfl) ?_
        refine lv_iload hx hb dL_sum_44 (lv_at hl 7 rfl) ?_
        refine z_iadd hx hb dL_sum_46 ?_
        refine lv_istore (lv' := [(7, .int (nI (i + q))), (8, .int (wnV (kt i))), (5, .long (lN (sN (GL pv bl kt) q i j))), (0, .ref a2), (1, .ref a3), (2, .ref a4), (3, .int (nI j)), (4, .int (nI q))]) hx hb dL_sum_47 hl (by decide) rfl (fun ls hl => ?_)
        refine lv_goto (tgt := 6) hx hb dL_sum_49 (by decide) ?_
        have e9 : sN (GL pv bl kt) q (i + q) j = sN (GL pv bl kt) q i j := by rw [sN_step hq hm9, show GL pv bl kt i = 0 from if_neg (by omega)]; rfl
        exact ih (by omega) ls H locs (by rw [e9]; exact lv_sub hl [0, 2, 3, 4, 5, 6, 7] rfl) hM (by rw [Nat.add_mod_right]; exact hm9) (by omega)
      · skip
        rw [wnV_toInt (by omega)] at c_24
        rw [wnV_p (show 0 < kt i by omega)] at hl
        refine lv_lload hx hb dL_sum_27 (lv_at hl 2 rfl) ?_
        refine lv_aload_n hx hb dL_sum_29 rfl (lv_at hl 3 rfl) ?_
        refine lv_aload_n hx hb dL_sum_30 rfl (lv_at hl 4 rfl) ?_
        refine lv_iload hx hb dL_sum_31 (lv_at hl 0 rfl) ?_
        refine z_iald hC hM hw.2.2.1 hw.2.2.2.1 (by omega) (by omega) dL_sum_33 ?_
        refine lv_iload hx hb dL_sum_34 (lv_at hl 1 rfl) ?_
        refine z_fcalll (z_runS hC hM (c_light hw.1 hw.2.1 hpv (bl (kt i - 1)) i (hbl _) (by omega)) zy_L_light zm_L_44 rfl rfl hl.1 (Nat.le_of_ble_eq_true rfl) ⟨by decide, by decide⟩ ⟨by decide, by decide⟩ dL_sum_36) hM (fun H locs hM => ?_)
        refine lv_ladd hx hb dL_sum_39 ?_
        rw [lN_add]
        refine lv_lstore (lv' := [(5, .long (lN ((sN (GL pv bl kt) q i j) + (lwP pv i (bl (kt i - 1)))))), (8, .int (nI (kt i - 1))), (7, .int (nI i)), (0, .ref a2), (1, .ref a3), (2, .ref a4), (3, .int (nI j)), (4, .int (nI q))]) hx hb dL_sum_40 hl (by decide) rfl (fun ls hl => ?_)
        refine lv_iload hx hb dL_sum_42 (lv_at hl 2 rfl) ?_
        refine lv_iload hx hb dL_sum_44 (lv_at hl 7 rfl) ?_
        refine z_iadd hx hb dL_sum_46 ?_
        refine lv_istore (lv' := [(7, .int (nI (i + q))), (5, .long (lN ((sN (GL pv bl kt) q i j) + (lwP pv i (bl (kt i - 1)))))), (8, .int (nI (kt i - 1))), (0, .ref a2), (1, .ref a3), (2, .ref a4), (3, .int (nI j)), (4, .int (nI q))]) hx hb dL_sum_47 hl (by decide) rfl (fun ls hl => ?_)
        refine lv_goto (tgt := 6) hx hb dL_sum_49 (by decide) ?_
        have e9 : sN (GL pv bl kt) q (i + q) j = sN (GL pv bl kt) q i j + lwP pv i (bl (kt i - 1)) := by rw [sN_step hq hm9, show GL pv bl kt i = lwP pv i (bl (kt i - 1)) from if_pos (by omega)]
        exact ih (by omega) ls H locs (by rw [e9]; exact lv_sub hl [0, 1, 3, 4, 5, 6, 7] rfl) hM (by rw [Nat.add_mod_right]; exact hm9) (by omega)
  exact LOOP6 j ls H locs (by rw [sN_0 hj j (Nat.le_refl j)]; exact lv_sub hl [0, 1, 2, 3, 4, 5, 6] rfl) hM (Nat.mod_eq_of_lt hj) (by omega)
set_option maxHeartbeats 400000 in
set_option maxRecDepth 100000 in
theorem c_score {l : Launch} {base : Nat} {K : zK} {L : List Nat} {f : Nat → va_E} {a2 a3 a4 : Nat} {pv bl kt : Nat → Nat} {kb : Nat → Int64} (hw : LW K L f a2 a3 a4 pv bl kb kt) (j q al hh : Nat) (hj : j < q) (hq2 : q ≤ 1000) (hh2 : hh < 2 ^ 31) : zMet l yL_score cL_score 8 (some .long) (zr 2 0 0 60) base K L f [.ref a2, .ref a3, .ref a4, .int (nI j), .int (nI q), .long (lN al), .int (nI hh)] (zFl base K (iJ (((al * cN kt q 1000 j : Nat) : Int) - ((sN (GL pv bl kt) q 1000 j * hh : Nat) : Int))) L f) := by
  have hpv := hw.2.2.2.2.2.2.1
  have hkb := hw.2.2.2.2.2.2.2.1
  have hk0 := hw.2.2.2.2.2.2.2.2.1
  have hbl := hw.2.2.2.2.2.2.2.2.2.1
  have hgt := hw.2.2.2.2.2.2.2.2.2.2
  have hc9 := cN_le kt q 1000 j
  refine z_met (by decide) (Nat.le_of_ble_eq_true rfl) (fun p e s m below meth c ls hC hM hr hlk hnm hl => ?_)
  have hx := hC.1
  have hb := hC.2.1
  have hml := hC.2.2.1
  have hown := hC.2.2.2.1
  have hts := hC.2.2.2.2.1
  generalize hA : ([.ref a2, .ref a3, .ref a4, .int (nI j), .int (nI q), .long (lN al), .int (nI hh)] : List Value).toArray = args at hC ⊢
  generalize hQ : MQ _ _ _ _ _ _ _ = Q
  obtain ⟨locs, hlocs⟩ : ∃ z : List Loc, z = [] := ⟨_, rfl⟩
  obtain ⟨H, hH⟩ : ∃ z : Heap, z = s.heap := ⟨_, rfl⟩
  rw [← hlocs, ← hH] at hM ⊢
  have hl : lv_has ls 8 [(0, .ref a2), (1, .ref a3), (2, .ref a4), (3, .int (nI j)), (4, .int (nI q)), (5, .long (lN al)), (7, .int (nI hh))] := hl
  refine lv_lload hx hb dL_score_0 (lv_at hl 5 rfl) ?_
  refine lv_aload_n hx hb dL_score_2 rfl (lv_at hl 2 rfl) ?_
  refine lv_iload_n hx hb dL_score_3 rfl (lv_at hl 3 rfl) ?_
  refine lv_iload hx hb dL_score_4 (lv_at hl 4 rfl) ?_
  refine z_fcalli (z_runS hC hM (c_many hw.2.2.2.2.1 hw.2.2.2.2.2.1 hkb hk0 j q hj hq2) zy_L_many zm_L_48 rfl rfl hl.1 (Nat.le_of_ble_eq_true rfl) ⟨by decide, by decide⟩ ⟨by decide, by decide⟩ dL_score_6) hM (fun H locs hM => ?_)
  refine lv_i2l (v := lN (cN kt q 1000 j)) hx hb dL_score_9 (nI_long (by omega)) ?_
  refine lv_lmul hx hb dL_score_10 ?_
  rw [lN_mul]
  refine lv_aload_n hx hb dL_score_11 rfl (lv_at hl 0 rfl) ?_
  refine lv_aload_n hx hb dL_score_12 rfl (lv_at hl 1 rfl) ?_
  refine lv_aload_n hx hb dL_score_13 rfl (lv_at hl 2 rfl) ?_
  refine lv_iload_n hx hb dL_score_14 rfl (lv_at hl 3 rfl) ?_
  refine lv_iload hx hb dL_score_15 (lv_at hl 4 rfl) ?_
  refine z_fcalll (z_runS hC hM (c_sum hw j q hj hq2) zy_L_sum zm_L_52 rfl rfl hl.1 (Nat.le_of_ble_eq_true rfl) ⟨by decide, by decide⟩ ⟨by decide, by decide⟩ dL_score_17) hM (fun H locs hM => ?_)
  refine lv_iload hx hb dL_score_20 (lv_at hl 6 rfl) ?_
  refine lv_i2l (v := lN hh) hx hb dL_score_22 (nI_long (by omega)) ?_
  refine lv_lmul hx hb dL_score_23 ?_
  rw [lN_mul]
  refine lv_lsub hx hb dL_score_24 ?_
  rw [lN_z (al * (cN kt q 1000 j)), lN_z ((sN (GL pv bl kt) q 1000 j) * hh), iJ_sub]
  rw [← hQ]
  exact z_lret hC hM hr hlk (by decide) (by decide) ⟨rfl, rfl, rfl⟩ dL_score_25
theorem scN_eq (G t : Nat → Nat) (p j : Nat) : ((tG G * cN t p 1000 j : Nat) : Int) - ((sN G p 1000 j * hG t : Nat) : Int) = scN G t p j := by
  unfold scN
  rw [Int.natCast_mul, Int.natCast_mul]
set_option maxHeartbeats 400000 in
set_option maxRecDepth 100000 in
theorem c_most {l : Launch} {base : Nat} {K : zK} {L : List Nat} {f : Nat → va_E} {a2 a3 a4 : Nat} {pv bl kt : Nat → Nat} {kb : Nat → Int64} (hw : LW K L f a2 a3 a4 pv bl kb kt) (q : Nat) (hq2 : q ≤ 1000) : zMet l yL_most cL_most 12 (some .long) (zr 3 0 0 96) base K L f [.ref a2, .ref a3, .ref a4, .int (nI q), .long (lN (tG (GL pv bl kt))), .int (nI (hG kt))] (zFl base K (iJ (moP (GL pv bl kt) kt q)) L f) := by
  have hpv := hw.2.2.2.2.2.2.1
  have hkb := hw.2.2.2.2.2.2.2.1
  have hk0 := hw.2.2.2.2.2.2.2.2.1
  have hbl := hw.2.2.2.2.2.2.2.2.2.1
  have hgt := hw.2.2.2.2.2.2.2.2.2.2
  have hh9 : hG kt ≤ 1000 := cN_le kt 1 1000 0
  refine z_met (by decide) (Nat.le_of_ble_eq_true rfl) (fun p e s m below meth c ls hC hM hr hlk hnm hl => ?_)
  have hx := hC.1
  have hb := hC.2.1
  have hml := hC.2.2.1
  have hown := hC.2.2.2.1
  have hts := hC.2.2.2.2.1
  generalize hA : ([.ref a2, .ref a3, .ref a4, .int (nI q), .long (lN (tG (GL pv bl kt))), .int (nI (hG kt))] : List Value).toArray = args at hC ⊢
  generalize hQ : MQ _ _ _ _ _ _ _ = Q
  obtain ⟨locs, hlocs⟩ : ∃ z : List Loc, z = [] := ⟨_, rfl⟩
  obtain ⟨H, hH⟩ : ∃ z : Heap, z = s.heap := ⟨_, rfl⟩
  rw [← hlocs, ← hH] at hM ⊢
  have hl : lv_has ls 12 [(0, .ref a2), (1, .ref a3), (2, .ref a4), (3, .int (nI q)), (4, .long (lN (tG (GL pv bl kt)))), (6, .int (nI (hG kt)))] := hl
  refine lv_ldc2 (v := (-1152921504606846976)) hx hb hown (hts _ zk_L_56) dL_most_0 ?_
  rw [show ((-1152921504606846976) : Int64) = iJ (moN (GL pv bl kt) kt q 0) from (by decide : ((-1152921504606846976) : Int64) = iJ (-2 ^ 60))]
  refine lv_lstore (lv' := [(7, .long (iJ (moN (GL pv bl kt) kt q 0))), (0, .ref a2), (1, .ref a3), (2, .ref a4), (3, .int (nI q)), (4, .long (lN (tG (GL pv bl kt)))), (6, .int (nI (hG kt)))]) hx hb dL_most_3 hl (by decide) rfl (fun ls hl => ?_)
  refine lv_iconst (v := nI 0) hx hb dL_most_5 (by decide) ?_
  refine lv_istore (lv' := [(9, .int (nI 0)), (7, .long (iJ (moN (GL pv bl kt) kt q 0))), (0, .ref a2), (1, .ref a3), (2, .ref a4), (3, .int (nI q)), (4, .long (lN (tG (GL pv bl kt)))), (6, .int (nI (hG kt)))]) hx hb dL_most_6 hl (by decide) rfl (fun ls hl => ?_)
  have LOOP8 : ∀ i : Nat, ∀ (ls : Array Slot) (H : Heap) (locs : List Loc), lv_has ls 12 [(9, .int (nI i)), (7, .long (iJ (moN (GL pv bl kt) kt q i))), (0, .ref a2), (1, .ref a3), (2, .ref a4), (3, .int (nI q)), (4, .long (lN (tG (GL pv bl kt)))), (6, .int (nI (hG kt)))] → zM base K L f s H locs → (i ≤ q) → W p l e (zr 3 0 0 96) s m args below meth c H locs 0 0 Q (F0 m 8 ls []) := by
    refine z_lp q 1 (by decide) (fun i ih => ?_)
    intro ls H locs hl hM hi9
    have hb1 := moN_b hgt q i
    have hb2 := scN_b hgt q i
    have hc9 := cN_le kt q 1000 i
    refine lv_iload hx hb dL_most_8 (lv_at hl 0 rfl) ?_
    refine lv_iload_n hx hb dL_most_10 rfl (lv_at hl 5 rfl) ?_
    refine z_icmp_ge (tgt := 67) hx hb (nI_toInt (by omega)) (nI_toInt (by omega)) dL_most_11 (by decide) (fun c_11 => ?_) (fun c_11 => ?_)
    · refine lv_lload hx hb dL_most_67 (lv_at hl 1 rfl) ?_
      rw [← hQ]
      exact z_lret hC hM hr hlk (by decide) (by decide) ⟨by rw [show i = q by omega]; rfl, rfl, rfl⟩ dL_most_69
    · refine lv_aload_n hx hb dL_most_14 rfl (lv_at hl 4 rfl) ?_
      refine lv_iload hx hb dL_most_15 (lv_at hl 0 rfl) ?_
      refine lv_iload_n hx hb dL_most_17 rfl (lv_at hl 5 rfl) ?_
      refine z_fcalli (z_runS hC hM (c_many hw.2.2.2.2.1 hw.2.2.2.2.2.1 hkb hk0 i q (by omega) hq2) zy_L_many zm_L_48 rfl rfl hl.1 (Nat.le_of_ble_eq_true rfl) ⟨by decide, by decide⟩ ⟨by decide, by decide⟩ dL_most_18) hM (fun H locs hM => ?_)
      refine z_if_ne (tgt := 29) hx hb (nI_toInt (by omega)) dL_most_21 (by decide) (fun c_21 => ?_) (fun c_21 => ?_)
      · refine lv_aload_n hx hb dL_most_29 rfl (lv_at hl 2 rfl) ?_
        refine lv_aload_n hx hb dL_most_30 rfl (lv_at hl 3 rfl) ?_
        refine lv_aload_n hx hb dL_most_31 rfl (lv_at hl 4 rfl) ?_
        refine lv_iload hx hb dL_most_32 (lv_at hl 0 rfl) ?_
        refine lv_iload_n hx hb dL_most_34 rfl (lv_at hl 5 rfl) ?_
        refine lv_lload hx hb dL_most_35 (lv_at hl 6 rfl) ?_
        refine lv_iload hx hb dL_most_37 (lv_at hl 7 rfl) ?_
        refine z_fcalll (z_runS hC hM (c_score hw i q (tG (GL pv bl kt)) (hG kt) (by omega) hq2 (by omega)) zy_L_score zm_L_58 rfl rfl hl.1 (Nat.le_of_ble_eq_true rfl) ⟨by decide, by decide⟩ ⟨by decide, by decide⟩ dL_most_39) hM (fun H locs hM => ?_)
        rw [scN_eq]
        refine lv_lstore (lv' := [(10, .long (iJ (scN (GL pv bl kt) kt q i))), (9, .int (nI i)), (7, .long (iJ (moN (GL pv bl kt) kt q i))), (0, .ref a2), (1, .ref a3), (2, .ref a4), (3, .int (nI q)), (4, .long (lN (tG (GL pv bl kt)))), (6, .int (nI (hG kt)))]) hx hb dL_most_42 hl (by decide) rfl (fun ls hl => ?_)
        refine lv_lload hx hb dL_most_44 (lv_at hl 0 rfl) ?_
        refine lv_lload hx hb dL_most_46 (lv_at hl 2 rfl) ?_
        refine z_lif_le (tgt := 57) hx hb (iJ_toInt (by omega) (by omega)) (iJ_toInt (by omega) (by omega)) dL_most_48 dL_most_49 (by decide) (fun c_48 => ?_) (fun c_48 => ?_)
        · refine lv_lload hx hb dL_most_57 (lv_at hl 2 rfl) ?_
          refine lv_lstore (lv' := [(7, .long (iJ (moN (GL pv bl kt) kt q i))), (10, .long (iJ (scN (GL pv bl kt) kt q i))), (9, .int (nI i)), (0, .ref a2), (1, .ref a3), (2, .ref a4), (3, .int (nI q)), (4, .long (lN (tG (GL pv bl kt)))), (6, .int (nI (hG kt)))]) hx hb dL_most_59 hl (by decide) rfl (fun ls hl => ?_)
          refine lv_iinc (v := nI (i + 1)) (lv' := [(9, .int (nI (i + 1))), (7, .long (iJ (moN (GL pv bl kt) kt q i))), (10, .long (iJ (scN (GL pv bl kt) kt q i))), (0, .ref a2), (1, .ref a3), (2, .ref a4), (3, .int (nI q)), (4, .long (lN (tG (GL pv bl kt)))), (6, .int (nI (hG kt)))]) hx hb dL_most_61 hl (k := 2) rfl (nI_add i 1) (by decide) rfl (fun ls hl => ?_)
          refine lv_goto (tgt := 8) hx hb dL_most_64 (by decide) ?_
          have e9 : moN (GL pv bl kt) kt q (i + 1) = moN (GL pv bl kt) kt q i := by rw [moN]; rw [if_neg (by omega), if_neg (by omega)]
          exact ih (by omega) ls H locs (by rw [e9]; exact lv_sub hl [0, 1, 3, 4, 5, 6, 7, 8] rfl) hM (by omega)
        · refine lv_lload hx hb dL_most_52 (lv_at hl 0 rfl) ?_
          refine lv_goto (tgt := 59) hx hb dL_most_54 (by decide) ?_
          refine lv_lstore (lv' := [(7, .long (iJ (scN (GL pv bl kt) kt q i))), (10, .long (iJ (scN (GL pv bl kt) kt q i))), (9, .int (nI i)), (0, .ref a2), (1, .ref a3), (2, .ref a4), (3, .int (nI q)), (4, .long (lN (tG (GL pv bl kt)))), (6, .int (nI (hG kt)))]) hx hb dL_most_59 hl (by decide) rfl (fun ls hl => ?_)
          refine lv_iinc (v := nI (i + 1)) (lv' := [(9, .int (nI (i + 1))), (7, .long (iJ (scN (GL pv bl kt) kt q i))), (10, .long (iJ (scN (GL pv bl kt) kt q i))), (0, .ref a2), (1, .ref a3), (2, .ref a4), (3, .int (nI q)), (4, .long (lN (tG (GL pv bl kt)))), (6, .int (nI (hG kt)))]) hx hb dL_most_61 hl (k := 2) rfl (nI_add i 1) (by decide) rfl (fun ls hl => ?_)
          refine lv_goto (tgt := 8) hx hb dL_most_64 (by decide) ?_
          have e9 : moN (GL pv bl kt) kt q (i + 1) = scN (GL pv bl kt) kt q i := by rw [moN]; rw [if_neg (by omega), if_pos (by omega)]
          exact ih (by omega) ls H locs (by rw [e9]; exact lv_sub hl [0, 1, 3, 4, 5, 6, 7, 8] rfl) hM (by omega)
      · refine lv_lload hx hb dL_most_24 (lv_at hl 1 rfl) ?_
        refine lv_goto (tgt := 42) hx hb dL_most_26 (by decide) ?_
        refine lv_lstore (lv' := [(10, .long (iJ (moN (GL pv bl kt) kt q i))), (9, .int (nI i)), (7, .long (iJ (moN (GL pv bl kt) kt q i))), (0, .ref a2), (1, .ref a3), (2, .ref a4), (3, .int (nI q)), (4, .long (lN (tG (GL pv bl kt)))), (6, .int (nI (hG kt)))]) hx hb dL_most_42 hl (by decide) rfl (fun ls hl => ?_)
        refine lv_lload hx hb dL_most_44 (lv_at hl 0 rfl) ?_
        refine lv_lload hx hb dL_most_46 (lv_at hl 2 rfl) ?_
        refine z_lif_le (tgt := 57) hx hb (iJ_toInt (by omega) (by omega)) (iJ_toInt (by omega) (by omega)) dL_most_48 dL_most_49 (by decide) (fun c_48 => ?_) (fun c_48 => ?_)
        · refine lv_lload hx hb dL_most_57 (lv_at hl 2 rfl) ?_
          refine lv_lstore (lv' := [(7, .long (iJ (moN (GL pv bl kt) kt q i))), (10, .long (iJ (moN (GL pv bl kt) kt q i))), (9, .int (nI i)), (0, .ref a2), (1, .ref a3), (2, .ref a4), (3, .int (nI q)), (4, .long (lN (tG (GL pv bl kt)))), (6, .int (nI (hG kt)))]) hx hb dL_most_59 hl (by decide) rfl (fun ls hl => ?_)
          refine lv_iinc (v := nI (i + 1)) (lv' := [(9, .int (nI (i + 1))), (7, .long (iJ (moN (GL pv bl kt) kt q i))), (10, .long (iJ (moN (GL pv bl kt) kt q i))), (0, .ref a2), (1, .ref a3), (2, .ref a4), (3, .int (nI q)), (4, .long (lN (tG (GL pv bl kt)))), (6, .int (nI (hG kt)))]) hx hb dL_most_61 hl (k := 2) rfl (nI_add i 1) (by decide) rfl (fun ls hl => ?_)
          refine lv_goto (tgt := 8) hx hb dL_most_64 (by decide) ?_
          have e9 : moN (GL pv bl kt) kt q (i + 1) = moN (GL pv bl kt) kt q i := by rw [moN]; rw [if_pos (by omega)]
          exact ih (by omega) ls H locs (by rw [e9]; exact lv_sub hl [0, 1, 3, 4, 5, 6, 7, 8] rfl) hM (by omega)
        · refine lv_lload hx hb dL_most_52 (lv_at hl 0 rfl) ?_
          refine lv_goto (tgt := 59) hx hb dL_most_54 (by decide) ?_
          refine lv_lstore (lv' := [(7, .long (iJ (moN (GL pv bl kt) kt q i))), (10, .long (iJ (moN (GL pv bl kt) kt q i))), (9, .int (nI i)), (0, .ref a2), (1, .ref a3), (2, .ref a4), (3, .int (nI q)), (4, .long (lN (tG (GL pv bl kt)))), (6, .int (nI (hG kt)))]) hx hb dL_most_59 hl (by decide) rfl (fun ls hl => ?_)
          refine lv_iinc (v := nI (i + 1)) (lv' := [(9, .int (nI (i + 1))), (7, .long (iJ (moN (GL pv bl kt) kt q i))), (10, .long (iJ (moN (GL pv bl kt) kt q i))), (0, .ref a2), (1, .ref a3), (2, .ref a4), (3, .int (nI q)), (4, .long (lN (tG (GL pv bl kt)))), (6, .int (nI (hG kt)))]) hx hb dL_most_61 hl (k := 2) rfl (nI_add i 1) (by decide) rfl (fun ls hl => ?_)
          refine lv_goto (tgt := 8) hx hb dL_most_64 (by decide) ?_
          have e9 : moN (GL pv bl kt) kt q (i + 1) = moN (GL pv bl kt) kt q i := by rw [moN]; rw [if_pos (by omega)]
          exact ih (by omega) ls H locs (by rw [e9]; exact lv_sub hl [0, 1, 3, 4, 5, 6, 7, 8] rfl) hM (by omega)
  exact LOOP8 0 ls H locs (lv_sub hl [0, 1, 2, 3, 4, 5, 6, 7] rfl) hM (by omega)
set_option maxHeartbeats 400000 in
set_option maxRecDepth 100000 in
theorem c_isNear {l : Launch} {base : Nat} {K : zK} {L : List Nat} {f : Nat → va_E} (w : Nat) (v : Int) (q : Nat) (h1 : w * q ≤ v.natAbs + q) (h2 : v.natAbs ≤ (w + 2) * q) (h3 : (w + 2) * q < 2 ^ 62) (h4 : q < 2 ^ 62) : zMet l yL_isNear cL_isNear 8 (some .boolean) (zr 0 0 0 0) base K L f [.long (lN w), .long (iJ v), .long (lN q)] (zFi base K (nI 1) L f) := by
  have h5 : (w + 2) * q = w * q + 2 * q := Nat.add_mul _ _ _
  refine z_met (by decide) (Nat.le_of_ble_eq_true rfl) (fun p e s m below meth c ls hC hM hr hlk hnm hl => ?_)
  have hx := hC.1
  have hb := hC.2.1
  have hml := hC.2.2.1
  have hown := hC.2.2.2.1
  have hts := hC.2.2.2.2.1
  generalize hA : ([.long (lN w), .long (iJ v), .long (lN q)] : List Value).toArray = args at hC ⊢
  generalize hQ : MQ _ _ _ _ _ _ _ = Q
  obtain ⟨locs, hlocs⟩ : ∃ z : List Loc, z = [] := ⟨_, rfl⟩
  obtain ⟨H, hH⟩ : ∃ z : Heap, z = s.heap := ⟨_, rfl⟩
  rw [← hlocs, ← hH] at hM ⊢
  have hl : lv_has ls 8 [(0, .long (lN w)), (2, .long (iJ v)), (4, .long (lN q))] := hl
  refine lv_lload_n hx hb dL_isNear_0 rfl (lv_at hl 1 rfl) ?_
  refine lv_lconst (v := lN 0) hx hb dL_isNear_1 (by decide) ?_
  refine z_lif_ge (tgt := 11) hx hb (iJ_toInt (by omega) (by omega)) (jN_toInt (by decide)) dL_isNear_2 dL_isNear_3 (by decide) (fun c_2 => ?_) (fun c_2 => ?_)
  · refine lv_lload_n hx hb dL_isNear_11 rfl (lv_at hl 1 rfl) ?_
    refine lv_lstore (lv' := [(6, .long (iJ v)), (0, .long (lN w)), (2, .long (iJ v)), (4, .long (lN q))]) hx hb dL_isNear_12 hl (by decide) rfl (fun ls hl => ?_)
    refine lv_lload_n hx hb dL_isNear_14 rfl (lv_at hl 1 rfl) ?_
    refine lv_lload hx hb dL_isNear_15 (lv_at hl 3 rfl) ?_
    refine lv_lmul hx hb dL_isNear_17 ?_
    rw [lN_mul]
    refine lv_lload hx hb dL_isNear_18 (lv_at hl 0 rfl) ?_
    refine lv_lload hx hb dL_isNear_20 (lv_at hl 3 rfl) ?_
    refine lv_ladd hx hb dL_isNear_22 ?_
    rw [lN_z (q), iJ_add]
    refine z_lif_gt (tgt := 45) hx hb (jN_toInt (by omega)) (iJ_toInt (by omega) (by omega)) dL_isNear_23 dL_isNear_24 (by decide) (fun c_23 => ?_) (fun c_23 => ?_)
    · exact absurd c_23 (by omega)
    · refine lv_lload hx hb dL_isNear_27 (lv_at hl 0 rfl) ?_
      refine lv_lload_n hx hb dL_isNear_29 rfl (lv_at hl 1 rfl) ?_
      refine lv_ldc2 (v := lN 2) hx hb hown (hts _ zk_L_62) dL_isNear_30 ?_
      refine lv_ladd hx hb dL_isNear_33 ?_
      rw [lN_add]
      refine lv_lload hx hb dL_isNear_34 (lv_at hl 3 rfl) ?_
      refine lv_lmul hx hb dL_isNear_36 ?_
      rw [lN_mul]
      refine z_lif_gt (tgt := 45) hx hb (iJ_toInt (by omega) (by omega)) (jN_toInt (by omega)) dL_isNear_37 dL_isNear_38 (by decide) (fun c_37 => ?_) (fun c_37 => ?_)
      · exact absurd c_37 (by omega)
      · refine lv_iconst (v := nI 1) hx hb dL_isNear_41 (by decide) ?_
        refine lv_goto (tgt := 46) hx hb dL_isNear_42 (by decide) ?_
        rw [← hQ]
        exact z_iret hC hM hr hlk rfl (by decide) (by decide) ⟨rfl, rfl, rfl⟩ dL_isNear_46
  · refine lv_lload_n hx hb dL_isNear_6 rfl (lv_at hl 1 rfl) ?_
    refine lv_lneg hx hb dL_isNear_7 ?_
    rw [iJ_neg]
    refine lv_goto (tgt := 12) hx hb dL_isNear_8 (by decide) ?_
    refine lv_lstore (lv' := [(6, .long (iJ (-v))), (0, .long (lN w)), (2, .long (iJ v)), (4, .long (lN q))]) hx hb dL_isNear_12 hl (by decide) rfl (fun ls hl => ?_)
    refine lv_lload_n hx hb dL_isNear_14 rfl (lv_at hl 1 rfl) ?_
    refine lv_lload hx hb dL_isNear_15 (lv_at hl 3 rfl) ?_
    refine lv_lmul hx hb dL_isNear_17 ?_
    rw [lN_mul]
    refine lv_lload hx hb dL_isNear_18 (lv_at hl 0 rfl) ?_
    refine lv_lload hx hb dL_isNear_20 (lv_at hl 3 rfl) ?_
    refine lv_ladd hx hb dL_isNear_22 ?_
    rw [lN_z (q), iJ_add]
    refine z_lif_gt (tgt := 45) hx hb (jN_toInt (by omega)) (iJ_toInt (by omega) (by omega)) dL_isNear_23 dL_isNear_24 (by decide) (fun c_23 => ?_) (fun c_23 => ?_)
    · exact absurd c_23 (by omega)
    · refine lv_lload hx hb dL_isNear_27 (lv_at hl 0 rfl) ?_
      refine lv_lload_n hx hb dL_isNear_29 rfl (lv_at hl 1 rfl) ?_
      refine lv_ldc2 (v := lN 2) hx hb hown (hts _ zk_L_62) dL_isNear_30 ?_
      refine lv_ladd hx hb dL_isNear_33 ?_
      rw [lN_add]
      refine lv_lload hx hb dL_isNear_34 (lv_at hl 3 rfl) ?_
      refine lv_lmul hx hb dL_isNear_36 ?_
      rw [lN_mul]
      refine z_lif_gt (tgt := 45) hx hb (iJ_toInt (by omega) (by omega)) (jN_toInt (by omega)) dL_isNear_37 dL_isNear_38 (by decide) (fun c_37 => ?_) (fun c_37 => ?_)
      · exact absurd c_37 (by omega)
      · refine lv_iconst (v := nI 1) hx hb dL_isNear_41 (by decide) ?_
        refine lv_goto (tgt := 46) hx hb dL_isNear_42 (by decide) ?_
        rw [← hQ]
        exact z_iret hC hM hr hlk rfl (by decide) (by decide) ⟨rfl, rfl, rfl⟩ dL_isNear_46
