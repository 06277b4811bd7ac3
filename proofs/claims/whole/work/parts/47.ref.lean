/-! CONTRACTS of TransitryModel: the public methods, from picture to picture (rows laid by wip/whole/ref4.py) -/
theorem qsp1 {A : zA} {x s d : Int32} (h1 : ¬ (isS A x)) : k_spots A x s d = 1 := if_pos h1
theorem qsp2 {A : zA} {x s d : Int32} (h1 : isS A x) (h2 : ¬ (iR s 4 60 ∧ iR d 0 100)) : k_spots A x s d = 2 := by
  unfold k_spots; exact (if_neg (fun z => z h1)).trans (if_pos h2)
theorem qsp0 {A : zA} {x s d : Int32} (h1 : isS A x) (h2 : iR s 4 60 ∧ iR d 0 100) : k_spots A x s d = 0 := by
  unfold k_spots; exact (if_neg (fun z => z h1)).trans (if_neg (fun z => z h2))
theorem qbl1 {A : zA} {x b : Int32} (h1 : ¬ (isS A x)) : k_blend A x b = 1 := if_pos h1
theorem qbl2 {A : zA} {x b : Int32} (h1 : isS A x) (h2 : ¬ (iR b 0 1000000)) : k_blend A x b = 2 := by
  unfold k_blend; exact (if_neg (fun z => z h1)).trans (if_pos h2)
theorem qbl0 {A : zA} {x b : Int32} (h1 : isS A x) (h2 : iR b 0 1000000) : k_blend A x b = 0 := by
  unfold k_blend; exact (if_neg (fun z => z h1)).trans (if_neg (fun z => z h2))
theorem qli1 {A : zA} {x h : Int32} (h1 : ¬ (isS A x ∧ isH h)) : k_light A x h = 1 := if_neg h1
theorem qli0 {A : zA} {x h : Int32} (h1 : isS A x ∧ isH h) : k_light A x h = 0 := if_pos h1
theorem qcl1 {a b : Int32} (h1 : ¬ (isH a ∧ isH b)) : k_cloud a b = 1 := if_pos h1
theorem qcl2 {a b : Int32} (h1 : isH a ∧ isH b) (h2 : b.toInt < a.toInt) : k_cloud a b = 2 := by
  unfold k_cloud; exact (if_neg (fun z => z h1)).trans (if_pos h2)
theorem qcl0 {a b : Int32} (h1 : isH a ∧ isH b) (h2 : ¬ (b.toInt < a.toInt)) : k_cloud a b = 0 := by
  unfold k_cloud; exact (if_neg (fun z => z h1)).trans (if_neg h2)
theorem qob1 {A : zA} {x a b : Int32} (h1 : ¬ (isS A x ∧ isH a ∧ isH b)) : k_observe A x a b = 1 := if_pos h1
theorem qob2 {A : zA} {x a b : Int32} (h1 : isS A x ∧ isH a ∧ isH b) (h2 : b.toInt < a.toInt) : k_observe A x a b = 2 := by
  unfold k_observe; exact (if_neg (fun z => z h1)).trans (if_pos h2)
theorem qob0 {A : zA} {x a b : Int32} (h1 : isS A x ∧ isH a ∧ isH b) (h2 : ¬ (b.toInt < a.toInt)) : k_observe A x a b = 0 := by
  unfold k_observe; exact (if_neg (fun z => z h1)).trans (if_neg h2)
theorem qke1 {A : zA} {x h : Int32} (h1 : ¬ (isS A x ∧ isH h)) : k_kept A x h = 1 := if_neg h1
theorem qke0 {A : zA} {x h : Int32} (h1 : isS A x ∧ isH h) : k_kept A x h = 0 := if_pos h1
theorem qwn1 {A : zA} {x t : Int32} (h1 : ¬ (isS A x)) : k_whyNot A x t = 1 := if_pos h1
theorem qwn2 {A : zA} {x t : Int32} (h1 : isS A x) (h2 : ¬ (iR t 0 1000000)) : k_whyNot A x t = 2 := by
  unfold k_whyNot; exact (if_neg (fun z => z h1)).trans (if_pos h2)
theorem qwn0 {A : zA} {x t : Int32} (h1 : isS A x) (h2 : iR t 0 1000000) : k_whyNot A x t = 0 := by
  unfold k_whyNot; exact (if_neg (fun z => z h1)).trans (if_neg (fun z => z h2))
theorem qab1 {A : zA} {w x : Int32} (h1 : ¬ (isW A w)) : k_about A w x = 1 := if_pos h1
theorem qab2 {A : zA} {w x : Int32} (h1 : isW A w) (h2 : ¬ (iR x 0 3)) : k_about A w x = 2 := by
  unfold k_about; exact (if_neg (fun z => z h1)).trans (if_pos h2)
theorem qab0 {A : zA} {w x : Int32} (h1 : isW A w) (h2 : iR x 0 3) : k_about A w x = 0 := by
  unfold k_about; exact (if_neg (fun z => z h1)).trans (if_neg (fun z => z h2))
theorem qan1 {A : zA} {w : Int32} (h1 : ¬ (isW A w)) : k_anew A w = 1 := if_neg h1
theorem qan0 {A : zA} {w : Int32} (h1 : isW A w) : k_anew A w = 0 := if_pos h1
theorem qwd1 {A : zA} {w : Int32} (h1 : ¬ (isW A w)) : k_withdraw A w = 1 := if_pos h1
theorem qwd2 {A : zA} {w : Int32} (h1 : isW A w) (h2 : A.1 23 (iv w) = 1) : k_withdraw A w = 2 := by
  unfold k_withdraw; exact (if_neg (fun z => z h1)).trans (if_pos h2)
theorem qwd0 {A : zA} {w : Int32} (h1 : isW A w) (h2 : ¬ (A.1 23 (iv w) = 1)) : k_withdraw A w = 0 := by
  unfold k_withdraw; exact (if_neg (fun z => z h1)).trans (if_neg h2)
theorem qfa1 {A : zA} {p : Int32} (h1 : ¬ (isP A p)) : k_fallen A p = 1 := if_neg h1
theorem qfa0 {A : zA} {p : Int32} (h1 : isP A p) : k_fallen A p = 0 := if_pos h1
set_option maxHeartbeats 400000 in
set_option maxRecDepth 100000 in
theorem m_star {l : Launch} {base : Nat} {K : zK} {L : List Nat} {f : Nat → va_E} {A : zA} {ma : Nat → Nat} {t : Int32} (hV : VA A) (hMI : MI K L f A ma t) (x : Int32) : zMet l yX7_star cX7_star 2 (some .int) (zr 1 0 0 22) base K L f [.ref ((ma 0)), .int x] (zQi base K (fun r L1 f1 => (k_star A x = 0 → r = nI (ns A)) ∧ MR K A ma L f (a_star A x) (nI (k_star A x)) L1 f1)) := by
  have hMI9 := hMI
  obtain ⟨hmm, hmi, ⟨sg, cg, bb, bf⟩, op, hop, hmc⟩ := hMI9
  have hV9 := hV
  obtain ⟨hv1, hv2, hv3, hvS, hvO, hvK, hvK1, hvL, hv11, hvW, hv23, hvW0, hvP⟩ := hV9
  have hg0 : f (ma 0) = eS 8 [.int t, .int (nI (ns A)), .ref ((ma 2)), .ref ((ma 3)), .ref ((ma 4)), .ref ((ma 5)), .ref ((ma 6)), .ref ((ma 7)), .ref ((ma 8)), .ref ((ma 9)), .ref ((ma 10)), .ref ((ma 11)), .ref ((ma 12)), .ref ((ma 13)), .ref ((ma 14)), .ref ((ma 15)), .ref ((ma 16)), .double bb, .int bf, .int (nI (nw A)), .ref ((ma 20)), .ref ((ma 21)), .ref ((ma 22)), .ref ((ma 23)), .int (nI (np A)), .ref ((ma 25)), .ref ((ma 26))] := hmc 0 (by decide)
  have hg2 : f (ma 2) = eI K 6 (fun j => nI ((A.1 2) j)) := hmc 2 (by decide)
  refine z_met (by decide) (Nat.le_of_ble_eq_true rfl) (fun p e s m below meth c ls hC hM hr hlk hnm hl => ?_)
  have hx := hC.1
  have hb := hC.2.1
  have hml := hC.2.2.1
  have hown := hC.2.2.2.1
  have hts := hC.2.2.2.2.1
  generalize hA : ([.ref ((ma 0)), .int x] : List Value).toArray = args at hC ⊢
  generalize hQ : MQ _ _ _ _ _ _ _ = Q
  obtain ⟨locs, hlocs⟩ : ∃ z : List Loc, z = [] := ⟨_, rfl⟩
  obtain ⟨H, hH⟩ : ∃ z : Heap, z = s.heap := ⟨_, rfl⟩
  rw [← hlocs, ← hH] at hM ⊢
  have hl : lv_has ls 2 [(0, .ref ((ma 0))), (1, .int x)] := hl
  refine lv_aload_n hx hb dX7_star_0 rfl (lv_at hl 0 rfl) ?_
  refine lv_iload_n hx hb dX7_star_1 rfl (lv_at hl 1 rfl) ?_
  refine lv_sipush (v := nI 1000) hx hb dX7_star_2 (by decide) ?_
  refine lv_ldc (v := nI 1000000) hx hb hown (hts _ zk_X7_86) dX7_star_5 ?_
  refine z_fcalli (z_runS hC hM (c_isIn (x := x) (ea := 1000) (eb := 1000000) (by decide) (by decide)) zy_X7_isIn zm_X7_82 rfl rfl hl.1 (Nat.le_of_ble_eq_true rfl) ⟨by decide, by decide⟩ ⟨by decide, by decide⟩ dX7_star_7) hM (fun H locs hM => ?_)
  refine z_if_neB (tgt := 17) hx hb dX7_star_10 (by decide) (fun c_10 => ?_) (fun c_10 => ?_)
  · skip
    obtain ⟨a, ha1, ha2, hxa⟩ := nI_of_range (by decide) c_10.1 c_10.2
    subst hxa
    have hiva := iv_nI (i := a) (by omega)
    refine lv_aload_n hx hb dX7_star_17 rfl (lv_at hl 0 rfl) ?_
    refine z_get hC hM (hmm 0 (by decide)) hg0 zcl_X7 (by decide) zl_X7_79 rfl dX7_star_18 ?_
    refine lv_bipush (v := nI 6) hx hb dX7_star_21 (by decide) ?_
    refine z_icmp_ne (tgt := 30) hx hb (nI_toInt (by omega)) (nI_toInt (by decide)) dX7_star_23 (by decide) (fun c_23 => ?_) (fun c_23 => ?_)
    · refine lv_iconst (v := nI 0) hx hb dX7_star_30 (by decide) ?_
      refine z_put (fs' := [.int (nI 0), .int (nI (ns A)), .ref ((ma 2)), .ref ((ma 3)), .ref ((ma 4)), .ref ((ma 5)), .ref ((ma 6)), .ref ((ma 7)), .ref ((ma 8)), .ref ((ma 9)), .ref ((ma 10)), .ref ((ma 11)), .ref ((ma 12)), .ref ((ma 13)), .ref ((ma 14)), .ref ((ma 15)), .ref ((ma 16)), .double bb, .int bf, .int (nI (nw A)), .ref ((ma 20)), .ref ((ma 21)), .ref ((ma 22)), .ref ((ma 23)), .int (nI (np A)), .ref ((ma 25)), .ref ((ma 26))]) hC hM (hmm 0 (by decide)) hg0 zcl_X7 (by decide) zl_X7_75 rfl rfl (by rfl) (Nat.le_of_ble_eq_true rfl) rfl dX7_star_31 (fun H locs hM => ?_)
      obtain ⟨f_1, ef_1⟩ : ∃ z9, z9 = va_up f ((ma 0)) (eS 8 [.int (nI 0), .int (nI (ns A)), .ref ((ma 2)), .ref ((ma 3)), .ref ((ma 4)), .ref ((ma 5)), .ref ((ma 6)), .ref ((ma 7)), .ref ((ma 8)), .ref ((ma 9)), .ref ((ma 10)), .ref ((ma 11)), .ref ((ma 12)), .ref ((ma 13)), .ref ((ma 14)), .ref ((ma 15)), .ref ((ma 16)), .double bb, .int bf, .int (nI (nw A)), .ref ((ma 20)), .ref ((ma 21)), .ref ((ma 22)), .ref ((ma 23)), .int (nI (np A)), .ref ((ma 25)), .ref ((ma 26))]) := ⟨_, rfl⟩
      rw [← ef_1] at hM
      have hF_2 : f_1 ((ma 0)) = eS 8 [.int (nI 0), .int (nI (ns A)), .ref ((ma 2)), .ref ((ma 3)), .ref ((ma 4)), .ref ((ma 5)), .ref ((ma 6)), .ref ((ma 7)), .ref ((ma 8)), .ref ((ma 9)), .ref ((ma 10)), .ref ((ma 11)), .ref ((ma 12)), .ref ((ma 13)), .ref ((ma 14)), .ref ((ma 15)), .ref ((ma 16)), .double bb, .int bf, .int (nI (nw A)), .ref ((ma 20)), .ref ((ma 21)), .ref ((ma 22)), .ref ((ma 23)), .int (nI (np A)), .ref ((ma 25)), .ref ((ma 26))] := by rw [ef_1]; exact va_up_self _ _ _
      have hF_3 : f_1 ((ma 2)) = eI K 6 (fun j => nI ((A.1 2) j)) := by rw [ef_1]; exact (va_up_ne _ _ (mne hmi (by decide) (by decide) (show 2 ≠ 0 by decide))).trans hg2
      refine lv_aload_n hx hb dX7_star_34 rfl (lv_at hl 0 rfl) ?_
      refine z_get hC hM (hmm 0 (by decide)) hF_2 zcl_X7 (by decide) zl_X7_75 rfl dX7_star_35 ?_
      refine z_if_le (tgt := 43) hx hb (nI_toInt (by decide)) dX7_star_38 (by decide) (fun c_38 => ?_) (fun c_38 => ?_)
      · refine lv_aload_n hx hb dX7_star_43 rfl (lv_at hl 0 rfl) ?_
        refine z_get hC hM (hmm 0 (by decide)) hF_2 zcl_X7 (by decide) zl_X7_7 rfl dX7_star_44 ?_
        refine lv_aload_n hx hb dX7_star_47 rfl (lv_at hl 0 rfl) ?_
        refine z_get hC hM (hmm 0 (by decide)) hF_2 zcl_X7 (by decide) zl_X7_79 rfl dX7_star_48 ?_
        refine lv_iload_n hx hb dX7_star_51 rfl (lv_at hl 1 rfl) ?_
        refine z_iast hC hM (hmm 2 (by decide)) hF_3 (by omega) (by omega) dX7_star_52 (fun H locs hM => ?_)
        rw [up_nI] at hM
        obtain ⟨f_4, ef_4⟩ : ∃ z9, z9 = va_up f_1 ((ma 2)) (eI K 6 (fun j => nI ((va_up (A.1 2) (ns A) a) j))) := ⟨_, rfl⟩
        rw [← ef_4] at hM
        have hF_5 : f_4 ((ma 0)) = eS 8 [.int (nI 0), .int (nI (ns A)), .ref ((ma 2)), .ref ((ma 3)), .ref ((ma 4)), .ref ((ma 5)), .ref ((ma 6)), .ref ((ma 7)), .ref ((ma 8)), .ref ((ma 9)), .ref ((ma 10)), .ref ((ma 11)), .ref ((ma 12)), .ref ((ma 13)), .ref ((ma 14)), .ref ((ma 15)), .ref ((ma 16)), .double bb, .int bf, .int (nI (nw A)), .ref ((ma 20)), .ref ((ma 21)), .ref ((ma 22)), .ref ((ma 23)), .int (nI (np A)), .ref ((ma 25)), .ref ((ma 26))] := by rw [ef_4]; exact (va_up_ne _ _ (mne hmi (by decide) (by decide) (show 0 ≠ 2 by decide))).trans hF_2
        have hF_6 : f_4 ((ma 2)) = eI K 6 (fun j => nI ((va_up (A.1 2) (ns A) a) j)) := by rw [ef_4]; exact va_up_self _ _ _
        refine lv_aload_n hx hb dX7_star_53 rfl (lv_at hl 0 rfl) ?_
        refine lv_dup hx hb dX7_star_54 rfl ?_
        refine z_get hC hM (hmm 0 (by decide)) hF_5 zcl_X7 (by decide) zl_X7_79 rfl dX7_star_55 ?_
        refine lv_iconst (v := nI 1) hx hb dX7_star_58 (by decide) ?_
        refine z_iadd hx hb dX7_star_59 ?_
        refine z_put (fs' := [.int (nI 0), .int (nI ((ns A) + 1)), .ref ((ma 2)), .ref ((ma 3)), .ref ((ma 4)), .ref ((ma 5)), .ref ((ma 6)), .ref ((ma 7)), .ref ((ma 8)), .ref ((ma 9)), .ref ((ma 10)), .ref ((ma 11)), .ref ((ma 12)), .ref ((ma 13)), .ref ((ma 14)), .ref ((ma 15)), .ref ((ma 16)), .double bb, .int bf, .int (nI (nw A)), .ref ((ma 20)), .ref ((ma 21)), .ref ((ma 22)), .ref ((ma 23)), .int (nI (np A)), .ref ((ma 25)), .ref ((ma 26))]) hC hM (hmm 0 (by decide)) hF_5 zcl_X7 (by decide) zl_X7_79 rfl rfl (by rfl) (Nat.le_of_ble_eq_true rfl) rfl dX7_star_60 (fun H locs hM => ?_)
        obtain ⟨f_7, ef_7⟩ : ∃ z9, z9 = va_up f_4 ((ma 0)) (eS 8 [.int (nI 0), .int (nI ((ns A) + 1)), .ref ((ma 2)), .ref ((ma 3)), .ref ((ma 4)), .ref ((ma 5)), .ref ((ma 6)), .ref ((ma 7)), .ref ((ma 8)), .ref ((ma 9)), .ref ((ma 10)), .ref ((ma 11)), .ref ((ma 12)), .ref ((ma 13)), .ref ((ma 14)), .ref ((ma 15)), .ref ((ma 16)), .double bb, .int bf, .int (nI (nw A)), .ref ((ma 20)), .ref ((ma 21)), .ref ((ma 22)), .ref ((ma 23)), .int (nI (np A)), .ref ((ma 25)), .ref ((ma 26))]) := ⟨_, rfl⟩
        rw [← ef_7] at hM
        have hF_8 : f_7 ((ma 0)) = eS 8 [.int (nI 0), .int (nI ((ns A) + 1)), .ref ((ma 2)), .ref ((ma 3)), .ref ((ma 4)), .ref ((ma 5)), .ref ((ma 6)), .ref ((ma 7)), .ref ((ma 8)), .ref ((ma 9)), .ref ((ma 10)), .ref ((ma 11)), .ref ((ma 12)), .ref ((ma 13)), .ref ((ma 14)), .ref ((ma 15)), .ref ((ma 16)), .double bb, .int bf, .int (nI (nw A)), .ref ((ma 20)), .ref ((ma 21)), .ref ((ma 22)), .ref ((ma 23)), .int (nI (np A)), .ref ((ma 25)), .ref ((ma 26))] := by rw [ef_7]; exact va_up_self _ _ _
        have hF_9 : f_7 ((ma 2)) = eI K 6 (fun j => nI ((va_up (A.1 2) (ns A) a) j)) := by rw [ef_7]; exact (va_up_ne _ _ (mne hmi (by decide) (by decide) (show 2 ≠ 0 by decide))).trans hF_6
        refine lv_aload_n hx hb dX7_star_63 rfl (lv_at hl 0 rfl) ?_
        refine z_get hC hM (hmm 0 (by decide)) hF_8 zcl_X7 (by decide) zl_X7_79 rfl dX7_star_64 ?_
        refine lv_iconst (v := nI 1) hx hb dX7_star_67 (by decide) ?_
        refine z_isub hx hb (by omega) dX7_star_68 ?_
        have hfu9 : ∀ k, mk k → k ≠ 0 → k ≠ 2 → f_7 (ma k) = f (ma k) := fun k hk n0 n2 => by
          have m0 := mne hmi hk (show mk 0 by decide) n0
          have m2 := mne hmi hk (show mk 2 by decide) n2
          rw [ef_7, ef_4, ef_1]
          simp only [va_up, m0, m2, if_false]
        have hfr9 : ∀ q, (∀ k, mk k → q ≠ ma k) → f_7 q = f q := fun q hq => by
          have m0 := hq 0 (by decide)
          have m2 := hq 2 (by decide)
          rw [ef_7, ef_4, ef_1]
          simp only [va_up, m0, m2, if_false]
        have hMR9 : MR K A ma L f (nsA A a) (nI 0) L f_7 := mr_ok (x' := (sg, cg, bb, bf)) (op' := op) hmm hmi hop (mk_all hF_8 hF_9 ((hfu9 3 (by decide) (by decide) (by decide)).trans (hmc 3 (by decide))) ((hfu9 4 (by decide) (by decide) (by decide)).trans (hmc 4 (by decide))) ((hfu9 5 (by decide) (by decide) (by decide)).trans (hmc 5 (by decide))) ((hfu9 6 (by decide) (by decide) (by decide)).trans (hmc 6 (by decide))) ((hfu9 7 (by decide) (by decide) (by decide)).trans (hmc 7 (by decide))) ((hfu9 8 (by decide) (by decide) (by decide)).trans (hmc 8 (by decide))) ((hfu9 9 (by decide) (by decide) (by decide)).trans (hmc 9 (by decide))) ((hfu9 10 (by decide) (by decide) (by decide)).trans (hmc 10 (by decide))) ((hfu9 11 (by decide) (by decide) (by decide)).trans (hmc 11 (by decide))) ((hfu9 12 (by decide) (by decide) (by decide)).trans (hmc 12 (by decide))) ((hfu9 13 (by decide) (by decide) (by decide)).trans (hmc 13 (by decide))) ((hfu9 14 (by decide) (by decide) (by decide)).trans (hmc 14 (by decide))) ((hfu9 15 (by decide) (by decide) (by decide)).trans (hmc 15 (by decide))) ((hfu9 16 (by decide) (by decide) (by decide)).trans (hmc 16 (by decide))) ((hfu9 20 (by decide) (by decide) (by decide)).trans (hmc 20 (by decide))) ((hfu9 21 (by decide) (by decide) (by decide)).trans (hmc 21 (by decide))) ((hfu9 22 (by decide) (by decide) (by decide)).trans (hmc 22 (by decide))) ((hfu9 23 (by decide) (by decide) (by decide)).trans (hmc 23 (by decide))) ((hfu9 25 (by decide) (by decide) (by decide)).trans (hmc 25 (by decide))) ((hfu9 26 (by decide) (by decide) (by decide)).trans (hmc 26 (by decide)))) hfr9
        rw [← hQ]
        exact z_iret hC hM hr hlk rfl (by decide) (by decide) (mr_0 (ks0 c_10 (by omega)) rfl (by rw [a_star, if_pos (ks0 c_10 (by omega)), hiva]; rfl) hMR9) dX7_star_69
      · exact absurd c_38 (by omega)
    · refine lv_iconst (v := nI 2) hx hb dX7_star_26 (by decide) ?_
      refine lv_goto (tgt := 31) hx hb dX7_star_27 (by decide) ?_
      refine z_put (fs' := [.int (nI 2), .int (nI (ns A)), .ref ((ma 2)), .ref ((ma 3)), .ref ((ma 4)), .ref ((ma 5)), .ref ((ma 6)), .ref ((ma 7)), .ref ((ma 8)), .ref ((ma 9)), .ref ((ma 10)), .ref ((ma 11)), .ref ((ma 12)), .ref ((ma 13)), .ref ((ma 14)), .ref ((ma 15)), .ref ((ma 16)), .double bb, .int bf, .int (nI (nw A)), .ref ((ma 20)), .ref ((ma 21)), .ref ((ma 22)), .ref ((ma 23)), .int (nI (np A)), .ref ((ma 25)), .ref ((ma 26))]) hC hM (hmm 0 (by decide)) hg0 zcl_X7 (by decide) zl_X7_75 rfl rfl (by rfl) (Nat.le_of_ble_eq_true rfl) rfl dX7_star_31 (fun H locs hM => ?_)
      obtain ⟨f_10, ef_10⟩ : ∃ z9, z9 = va_up f ((ma 0)) (eS 8 [.int (nI 2), .int (nI (ns A)), .ref ((ma 2)), .ref ((ma 3)), .ref ((ma 4)), .ref ((ma 5)), .ref ((ma 6)), .ref ((ma 7)), .ref ((ma 8)), .ref ((ma 9)), .ref ((ma 10)), .ref ((ma 11)), .ref ((ma 12)), .ref ((ma 13)), .ref ((ma 14)), .ref ((ma 15)), .ref ((ma 16)), .double bb, .int bf, .int (nI (nw A)), .ref ((ma 20)), .ref ((ma 21)), .ref ((ma 22)), .ref ((ma 23)), .int (nI (np A)), .ref ((ma 25)), .ref ((ma 26))]) := ⟨_, rfl⟩
      rw [← ef_10] at hM
      have hF_11 : f_10 ((ma 0)) = eS 8 [.int (nI 2), .int (nI (ns A)), .ref ((ma 2)), .ref ((ma 3)), .ref ((ma 4)), .ref ((ma 5)), .ref ((ma 6)), .ref ((ma 7)), .ref ((ma 8)), .ref ((ma 9)), .ref ((ma 10)), .ref ((ma 11)), .ref ((ma 12)), .ref ((ma 13)), .ref ((ma 14)), .ref ((ma 15)), .ref ((ma 16)), .double bb, .int bf, .int (nI (nw A)), .ref ((ma 20)), .ref ((ma 21)), .ref ((ma 22)), .ref ((ma 23)), .int (nI (np A)), .ref ((ma 25)), .ref ((ma 26))] := by rw [ef_10]; exact va_up_self _ _ _
      have hF_12 : f_10 ((ma 2)) = eI K 6 (fun j => nI ((A.1 2) j)) := by rw [ef_10]; exact (va_up_ne _ _ (mne hmi (by decide) (by decide) (show 2 ≠ 0 by decide))).trans hg2
      refine lv_aload_n hx hb dX7_star_34 rfl (lv_at hl 0 rfl) ?_
      refine z_get hC hM (hmm 0 (by decide)) hF_11 zcl_X7 (by decide) zl_X7_75 rfl dX7_star_35 ?_
      refine z_if_le (tgt := 43) hx hb (nI_toInt (by decide)) dX7_star_38 (by decide) (fun c_38 => ?_) (fun c_38 => ?_)
      · exact absurd c_38 (by omega)
      · refine lv_iconst (v := nI 0) hx hb dX7_star_41 (by decide) ?_
        rw [← hQ]
        exact z_iret hC hM hr hlk rfl (by decide) (by decide) (mr_x (ks2 c_10 (by omega)) (fun z => if_neg z) (mr_t hmm hmi hop hmc hF_11 (fun q h9 => by rw [ef_10]; simp only [va_up, h9, if_false])) (by decide)) dX7_star_42
  · refine lv_iconst (v := nI 1) hx hb dX7_star_13 (by decide) ?_
    refine lv_goto (tgt := 31) hx hb dX7_star_14 (by decide) ?_
    refine z_put (fs' := [.int (nI 1), .int (nI (ns A)), .ref ((ma 2)), .ref ((ma 3)), .ref ((ma 4)), .ref ((ma 5)), .ref ((ma 6)), .ref ((ma 7)), .ref ((ma 8)), .ref ((ma 9)), .ref ((ma 10)), .ref ((ma 11)), .ref ((ma 12)), .ref ((ma 13)), .ref ((ma 14)), .ref ((ma 15)), .ref ((ma 16)), .double bb, .int bf, .int (nI (nw A)), .ref ((ma 20)), .ref ((ma 21)), .ref ((ma 22)), .ref ((ma 23)), .int (nI (np A)), .ref ((ma 25)), .ref ((ma 26))]) hC hM (hmm 0 (by decide)) hg0 zcl_X7 (by decide) zl_X7_75 rfl rfl (by rfl) (Nat.le_of_ble_eq_true rfl) rfl dX7_star_31 (fun H locs hM => ?_)
    obtain ⟨f_13, ef_13⟩ : ∃ z9, z9 = va_up f ((ma 0)) (eS 8 [.int (nI 1), .int (nI (ns A)), .ref ((ma 2)), .ref ((ma 3)), .ref ((ma 4)), .ref ((ma 5)), .ref ((ma 6)), .ref ((ma 7)), .ref ((ma 8)), .ref ((ma 9)), .ref ((ma 10)), .ref ((ma 11)), .ref ((ma 12)), .ref ((ma 13)), .ref ((ma 14)), .ref ((ma 15)), .ref ((ma 16)), .double bb, .int bf, .int (nI (nw A)), .ref ((ma 20)), .ref ((ma 21)), .ref ((ma 22)), .ref ((ma 23)), .int (nI (np A)), .ref ((ma 25)), .ref ((ma 26))]) := ⟨_, rfl⟩
    rw [← ef_13] at hM
    have hF_14 : f_13 ((ma 0)) = eS 8 [.int (nI 1), .int (nI (ns A)), .ref ((ma 2)), .ref ((ma 3)), .ref ((ma 4)), .ref ((ma 5)), .ref ((ma 6)), .ref ((ma 7)), .ref ((ma 8)), .ref ((ma 9)), .ref ((ma 10)), .ref ((ma 11)), .ref ((ma 12)), .ref ((ma 13)), .ref ((ma 14)), .ref ((ma 15)), .ref ((ma 16)), .double bb, .int bf, .int (nI (nw A)), .ref ((ma 20)), .ref ((ma 21)), .ref ((ma 22)), .ref ((ma 23)), .int (nI (np A)), .ref ((ma 25)), .ref ((ma 26))] := by rw [ef_13]; exact va_up_self _ _ _
    have hF_15 : f_13 ((ma 2)) = eI K 6 (fun j => nI ((A.1 2) j)) := by rw [ef_13]; exact (va_up_ne _ _ (mne hmi (by decide) (by decide) (show 2 ≠ 0 by decide))).trans hg2
    refine lv_aload_n hx hb dX7_star_34 rfl (lv_at hl 0 rfl) ?_
    refine z_get hC hM (hmm 0 (by decide)) hF_14 zcl_X7 (by decide) zl_X7_75 rfl dX7_star_35 ?_
    refine z_if_le (tgt := 43) hx hb (nI_toInt (by decide)) dX7_star_38 (by decide) (fun c_38 => ?_) (fun c_38 => ?_)
    · exact absurd c_38 (by omega)
    · refine lv_iconst (v := nI 0) hx hb dX7_star_41 (by decide) ?_
      rw [← hQ]
      exact z_iret hC hM hr hlk rfl (by decide) (by decide) (mr_x (ks1 c_10) (fun z => if_neg z) (mr_t hmm hmi hop hmc hF_14 (fun q h9 => by rw [ef_13]; simp only [va_up, h9, if_false])) (by decide)) dX7_star_42
set_option maxHeartbeats 400000 in
set_option maxRecDepth 100000 in
theorem m_planet {l : Launch} {base : Nat} {K : zK} {L : List Nat} {f : Nat → va_E} {A : zA} {ma : Nat → Nat} {t : Int32} (hV : VA A) (hMI : MI K L f A ma t) (x y1 y2 y3 y4 : Int32) : zMet l yX7_planet cX7_planet 8 (some .int) (zr 2 0 0 43) base K L f [.ref ((ma 0)), .int x, .int y1, .int y2, .int y3, .int y4] (zQi base K (fun r L1 f1 => (k_planet A x y1 y2 y3 y4 = 0 → r = nI (A.1 3 (iv x) + 1)) ∧ MR K A ma L f (a_planet A x y1 y2 y3 y4) (nI (k_planet A x y1 y2 y3 y4)) L1 f1)) := by
  have hMI9 := hMI
  obtain ⟨hmm, hmi, ⟨sg, cg, bb, bf⟩, op, hop, hmc⟩ := hMI9
  have hV9 := hV
  obtain ⟨hv1, hv2, hv3, hvS, hvO, hvK, hvK1, hvL, hv11, hvW, hv23, hvW0, hvP⟩ := hV9
  have hg0 : f (ma 0) = eS 8 [.int t, .int (nI (ns A)), .ref ((ma 2)), .ref ((ma 3)), .ref ((ma 4)), .ref ((ma 5)), .ref ((ma 6)), .ref ((ma 7)), .ref ((ma 8)), .ref ((ma 9)), .ref ((ma 10)), .ref ((ma 11)), .ref ((ma 12)), .ref ((ma 13)), .ref ((ma 14)), .ref ((ma 15)), .ref ((ma 16)), .double bb, .int bf, .int (nI (nw A)), .ref ((ma 20)), .ref ((ma 21)), .ref ((ma 22)), .ref ((ma 23)), .int (nI (np A)), .ref ((ma 25)), .ref ((ma 26))] := hmc 0 (by decide)
  have hg3 : f (ma 3) = eI K 6 (fun j => nI ((A.1 3) j)) := hmc 3 (by decide)
  have hg4 : f (ma 4) = eI K 24 (fun j => nI ((A.1 4) j)) := hmc 4 (by decide)
  have hg5 : f (ma 5) = eI K 24 (fun j => nI ((A.1 5) j)) := hmc 5 (by decide)
  have hg6 : f (ma 6) = eI K 24 (fun j => nI ((A.1 6) j)) := hmc 6 (by decide)
  have hg7 : f (ma 7) = eI K 24 (fun j => nI ((A.1 7) j)) := hmc 7 (by decide)
  refine z_met (by decide) (Nat.le_of_ble_eq_true rfl) (fun p e s m below meth c ls hC hM hr hlk hnm hl => ?_)
  have hx := hC.1
  have hb := hC.2.1
  have hml := hC.2.2.1
  have hown := hC.2.2.2.1
  have hts := hC.2.2.2.2.1
  generalize hA : ([.ref ((ma 0)), .int x, .int y1, .int y2, .int y3, .int y4] : List Value).toArray = args at hC ⊢
  generalize hQ : MQ _ _ _ _ _ _ _ = Q
  obtain ⟨locs, hlocs⟩ : ∃ z : List Loc, z = [] := ⟨_, rfl⟩
  obtain ⟨H, hH⟩ : ∃ z : Heap, z = s.heap := ⟨_, rfl⟩
  rw [← hlocs, ← hH] at hM ⊢
  have hl : lv_has ls 8 [(0, .ref ((ma 0))), (1, .int x), (2, .int y1), (3, .int y2), (4, .int y3), (5, .int y4)] := hl
  refine lv_iload_n hx hb dX7_planet_0 rfl (lv_at hl 2 rfl) ?_
  refine lv_iconst (v := nI 2) hx hb dX7_planet_1 (by decide) ?_
  refine lv_bipush (v := nI 60) hx hb dX7_planet_2 (by decide) ?_
  refine z_fcalli (z_runS hC hM (c_isIn (x := y1) (ea := 2) (eb := 60) (by decide) (by decide)) zy_X7_isIn zm_X7_82 rfl rfl hl.1 (Nat.le_of_ble_eq_true rfl) ⟨by decide, by decide⟩ ⟨by decide, by decide⟩ dX7_planet_4) hM (fun H locs hM => ?_)
  refine z_if_eqB (tgt := 53) hx hb dX7_planet_7 (by decide) (fun c_7 => ?_) (fun c_7 => ?_)
  · refine lv_iconst (v := nI 0) hx hb dX7_planet_53 (by decide) ?_
    refine lv_istore (lv' := [(6, .int (nI 0)), (0, .ref ((ma 0))), (1, .int x), (2, .int y1), (3, .int y2), (4, .int y3), (5, .int y4)]) hx hb dX7_planet_54 hl (by decide) rfl (fun ls hl => ?_)
    refine lv_aload_n hx hb dX7_planet_56 rfl (lv_at hl 1 rfl) ?_
    refine lv_aload_n hx hb dX7_planet_57 rfl (lv_at hl 1 rfl) ?_
    refine lv_iload_n hx hb dX7_planet_58 rfl (lv_at hl 2 rfl) ?_
    refine z_fcalli (z_runV hC hM (c_isStar hV hMI x) zy_X7_isStar zm_X7_87 (hmm 0 (by decide)) hg0 zcl_X7 rfl rfl rfl hl.1 (Nat.le_of_ble_eq_true rfl) ⟨by decide, by decide⟩ ⟨by decide, by decide⟩ dX7_planet_59) hM (fun H locs hM => ?_)
    refine z_if_neB (tgt := 69) hx hb dX7_planet_62 (by decide) (fun c_62 => ?_) (fun c_62 => ?_)
    · skip
      obtain ⟨i, hi0, hi9, hxi⟩ := nI_of_range (Int.le_refl 0) c_62.1 c_62.2
      subst hxi
      have hi : i < ns A := by omega
      have hiv := iv_nI (i := i) (by omega)
      obtain ⟨w1, w2, w3, w4, w5, w6, w7, w8⟩ := hvS i hi
      have hkl := fN_le (gk A i) 1000
      refine lv_iload hx hb dX7_planet_69 (lv_at hl 0 rfl) ?_
      refine z_if_ne (tgt := 78) hx hb (nI_toInt (by decide)) dX7_planet_71 (by decide) (fun c_71 => ?_) (fun c_71 => ?_)
      · exact absurd c_71 (by omega)
      · refine lv_iconst (v := nI 2) hx hb dX7_planet_74 (by decide) ?_
        refine lv_goto (tgt := 93) hx hb dX7_planet_75 (by decide) ?_
        refine z_put (fs' := [.int (nI 2), .int (nI (ns A)), .ref ((ma 2)), .ref ((ma 3)), .ref ((ma 4)), .ref ((ma 5)), .ref ((ma 6)), .ref ((ma 7)), .ref ((ma 8)), .ref ((ma 9)), .ref ((ma 10)), .ref ((ma 11)), .ref ((ma 12)), .ref ((ma 13)), .ref ((ma 14)), .ref ((ma 15)), .ref ((ma 16)), .double bb, .int bf, .int (nI (nw A)), .ref ((ma 20)), .ref ((ma 21)), .ref ((ma 22)), .ref ((ma 23)), .int (nI (np A)), .ref ((ma 25)), .ref ((ma 26))]) hC hM (hmm 0 (by decide)) hg0 zcl_X7 (by decide) zl_X7_75 rfl rfl (by rfl) (Nat.le_of_ble_eq_true rfl) rfl dX7_planet_93 (fun H locs hM => ?_)
        obtain ⟨f_1, ef_1⟩ : ∃ z9, z9 = va_up f ((ma 0)) (eS 8 [.int (nI 2), .int (nI (ns A)), .ref ((ma 2)), .ref ((ma 3)), .ref ((ma 4)), .ref ((ma 5)), .ref ((ma 6)), .ref ((ma 7)), .ref ((ma 8)), .ref ((ma 9)), .ref ((ma 10)), .ref ((ma 11)), .ref ((ma 12)), .ref ((ma 13)), .ref ((ma 14)), .ref ((ma 15)), .ref ((ma 16)), .double bb, .int bf, .int (nI (nw A)), .ref ((ma 20)), .ref ((ma 21)), .ref ((ma 22)), .ref ((ma 23)), .int (nI (np A)), .ref ((ma 25)), .ref ((ma 26))]) := ⟨_, rfl⟩
        rw [← ef_1] at hM
        have hF_2 : f_1 ((ma 0)) = eS 8 [.int (nI 2), .int (nI (ns A)), .ref ((ma 2)), .ref ((ma 3)), .ref ((ma 4)), .ref ((ma 5)), .ref ((ma 6)), .ref ((ma 7)), .ref ((ma 8)), .ref ((ma 9)), .ref ((ma 10)), .ref ((ma 11)), .ref ((ma 12)), .ref ((ma 13)), .ref ((ma 14)), .ref ((ma 15)), .ref ((ma 16)), .double bb, .int bf, .int (nI (nw A)), .ref ((ma 20)), .ref ((ma 21)), .ref ((ma 22)), .ref ((ma 23)), .int (nI (np A)), .ref ((ma 25)), .ref ((ma 26))] := by rw [ef_1]; exact va_up_self _ _ _
        have hF_3 : f_1 ((ma 3)) = eI K 6 (fun j => nI ((A.1 3) j)) := by rw [ef_1]; exact (va_up_ne _ _ (mne hmi (by decide) (by decide) (show 3 ≠ 0 by decide))).trans hg3
        have hF_4 : f_1 ((ma 4)) = eI K 24 (fun j => nI ((A.1 4) j)) := by rw [ef_1]; exact (va_up_ne _ _ (mne hmi (by decide) (by decide) (show 4 ≠ 0 by decide))).trans hg4
        have hF_5 : f_1 ((ma 5)) = eI K 24 (fun j => nI ((A.1 5) j)) := by rw [ef_1]; exact (va_up_ne _ _ (mne hmi (by decide) (by decide) (show 5 ≠ 0 by decide))).trans hg5
        have hF_6 : f_1 ((ma 6)) = eI K 24 (fun j => nI ((A.1 6) j)) := by rw [ef_1]; exact (va_up_ne _ _ (mne hmi (by decide) (by decide) (show 6 ≠ 0 by decide))).trans hg6
        have hF_7 : f_1 ((ma 7)) = eI K 24 (fun j => nI ((A.1 7) j)) := by rw [ef_1]; exact (va_up_ne _ _ (mne hmi (by decide) (by decide) (show 7 ≠ 0 by decide))).trans hg7
        refine lv_aload_n hx hb dX7_planet_96 rfl (lv_at hl 1 rfl) ?_
        refine z_get hC hM (hmm 0 (by decide)) hF_2 zcl_X7 (by decide) zl_X7_75 rfl dX7_planet_97 ?_
        refine z_if_le (tgt := 105) hx hb (nI_toInt (by decide)) dX7_planet_100 (by decide) (fun c_100 => ?_) (fun c_100 => ?_)
        · exact absurd c_100 (by omega)
        · refine lv_iconst (v := nI 0) hx hb dX7_planet_103 (by decide) ?_
          rw [← hQ]
          exact z_iret hC hM hr hlk rfl (by decide) (by decide) (mr_x (kl2 c_62 (fun z => c_7 z.1)) (fun z => if_neg z) (mr_t hmm hmi hop hmc hF_2 (fun q h9 => by rw [ef_1]; simp only [va_up, h9, if_false])) (by decide)) dX7_planet_104
    · refine lv_iconst (v := nI 1) hx hb dX7_planet_65 (by decide) ?_
      refine lv_goto (tgt := 93) hx hb dX7_planet_66 (by decide) ?_
      refine z_put (fs' := [.int (nI 1), .int (nI (ns A)), .ref ((ma 2)), .ref ((ma 3)), .ref ((ma 4)), .ref ((ma 5)), .ref ((ma 6)), .ref ((ma 7)), .ref ((ma 8)), .ref ((ma 9)), .ref ((ma 10)), .ref ((ma 11)), .ref ((ma 12)), .ref ((ma 13)), .ref ((ma 14)), .ref ((ma 15)), .ref ((ma 16)), .double bb, .int bf, .int (nI (nw A)), .ref ((ma 20)), .ref ((ma 21)), .ref ((ma 22)), .ref ((ma 23)), .int (nI (np A)), .ref ((ma 25)), .ref ((ma 26))]) hC hM (hmm 0 (by decide)) hg0 zcl_X7 (by decide) zl_X7_75 rfl rfl (by rfl) (Nat.le_of_ble_eq_true rfl) rfl dX7_planet_93 (fun H locs hM => ?_)
      obtain ⟨f_8, ef_8⟩ : ∃ z9, z9 = va_up f ((ma 0)) (eS 8 [.int (nI 1), .int (nI (ns A)), .ref ((ma 2)), .ref ((ma 3)), .ref ((ma 4)), .ref ((ma 5)), .ref ((ma 6)), .ref ((ma 7)), .ref ((ma 8)), .ref ((ma 9)), .ref ((ma 10)), .ref ((ma 11)), .ref ((ma 12)), .ref ((ma 13)), .ref ((ma 14)), .ref ((ma 15)), .ref ((ma 16)), .double bb, .int bf, .int (nI (nw A)), .ref ((ma 20)), .ref ((ma 21)), .ref ((ma 22)), .ref ((ma 23)), .int (nI (np A)), .ref ((ma 25)), .ref ((ma 26))]) := ⟨_, rfl⟩
      rw [← ef_8] at hM
      have hF_9 : f_8 ((ma 0)) = eS 8 [.int (nI 1), .int (nI (ns A)), .ref ((ma 2)), .ref ((ma 3)), .ref ((ma 4)), .ref ((ma 5)), .ref ((ma 6)), .ref ((ma 7)), .ref ((ma 8)), .ref ((ma 9)), .ref ((ma 10)), .ref ((ma 11)), .ref ((ma 12)), .ref ((ma 13)), .ref ((ma 14)), .ref ((ma 15)), .ref ((ma 16)), .double bb, .int bf, .int (nI (nw A)), .ref ((ma 20)), .ref ((ma 21)), .ref ((ma 22)), .ref ((ma 23)), .int (nI (np A)), .ref ((ma 25)), .ref ((ma 26))] := by rw [ef_8]; exact va_up_self _ _ _
      have hF_10 : f_8 ((ma 3)) = eI K 6 (fun j => nI ((A.1 3) j)) := by rw [ef_8]; exact (va_up_ne _ _ (mne hmi (by decide) (by decide) (show 3 ≠ 0 by decide))).trans hg3
      have hF_11 : f_8 ((ma 4)) = eI K 24 (fun j => nI ((A.1 4) j)) := by rw [ef_8]; exact (va_up_ne _ _ (mne hmi (by decide) (by decide) (show 4 ≠ 0 by decide))).trans hg4
      have hF_12 : f_8 ((ma 5)) = eI K 24 (fun j => nI ((A.1 5) j)) := by rw [ef_8]; exact (va_up_ne _ _ (mne hmi (by decide) (by decide) (show 5 ≠ 0 by decide))).trans hg5
      have hF_13 : f_8 ((ma 6)) = eI K 24 (fun j => nI ((A.1 6) j)) := by rw [ef_8]; exact (va_up_ne _ _ (mne hmi (by decide) (by decide) (show 6 ≠ 0 by decide))).trans hg6
      have hF_14 : f_8 ((ma 7)) = eI K 24 (fun j => nI ((A.1 7) j)) := by rw [ef_8]; exact (va_up_ne _ _ (mne hmi (by decide) (by decide) (show 7 ≠ 0 by decide))).trans hg7
      refine lv_aload_n hx hb dX7_planet_96 rfl (lv_at hl 1 rfl) ?_
      refine z_get hC hM (hmm 0 (by decide)) hF_9 zcl_X7 (by decide) zl_X7_75 rfl dX7_planet_97 ?_
      refine z_if_le (tgt := 105) hx hb (nI_toInt (by decide)) dX7_planet_100 (by decide) (fun c_100 => ?_) (fun c_100 => ?_)
      · exact absurd c_100 (by omega)
      · refine lv_iconst (v := nI 0) hx hb dX7_planet_103 (by decide) ?_
        rw [← hQ]
        exact z_iret hC hM hr hlk rfl (by decide) (by decide) (mr_x (kl1 c_62) (fun z => if_neg z) (mr_t hmm hmi hop hmc hF_9 (fun q h9 => by rw [ef_8]; simp only [va_up, h9, if_false])) (by decide)) dX7_planet_104
  · skip
    obtain ⟨a, ha1, ha2, hxa⟩ := nI_of_range (by decide) c_7.1 c_7.2
    subst hxa
    have hiva := iv_nI (i := a) (by omega)
    refine lv_iload_n hx hb dX7_planet_10 rfl (lv_at hl 3 rfl) ?_
    refine lv_iconst (v := nI 0) hx hb dX7_planet_11 (by decide) ?_
    refine lv_iload_n hx hb dX7_planet_12 rfl (lv_at hl 2 rfl) ?_
    refine lv_iconst (v := nI 1) hx hb dX7_planet_13 (by decide) ?_
    refine z_isub hx hb (by omega) dX7_planet_14 ?_
    refine z_fcalli (z_runS hC hM (c_isIn (x := y2) (ea := 0) (eb := ((a : Int) - 1)) (by decide) (by rw [nI_toInt (by omega)]; omega)) zy_X7_isIn zm_X7_82 rfl rfl hl.1 (Nat.le_of_ble_eq_true rfl) ⟨by decide, by decide⟩ ⟨by decide, by decide⟩ dX7_planet_15) hM (fun H locs hM => ?_)
    refine z_if_eqB (tgt := 53) hx hb dX7_planet_18 (by decide) (fun c_18 => ?_) (fun c_18 => ?_)
    · refine lv_iconst (v := nI 0) hx hb dX7_planet_53 (by decide) ?_
      refine lv_istore (lv' := [(6, .int (nI 0)), (0, .ref ((ma 0))), (1, .int x), (2, .int (nI a)), (3, .int y2), (4, .int y3), (5, .int y4)]) hx hb dX7_planet_54 hl (by decide) rfl (fun ls hl => ?_)
      refine lv_aload_n hx hb dX7_planet_56 rfl (lv_at hl 1 rfl) ?_
      refine lv_aload_n hx hb dX7_planet_57 rfl (lv_at hl 1 rfl) ?_
      refine lv_iload_n hx hb dX7_planet_58 rfl (lv_at hl 2 rfl) ?_
      refine z_fcalli (z_runV hC hM (c_isStar hV hMI x) zy_X7_isStar zm_X7_87 (hmm 0 (by decide)) hg0 zcl_X7 rfl rfl rfl hl.1 (Nat.le_of_ble_eq_true rfl) ⟨by decide, by decide⟩ ⟨by decide, by decide⟩ dX7_planet_59) hM (fun H locs hM => ?_)
      refine z_if_neB (tgt := 69) hx hb dX7_planet_62 (by decide) (fun c_62 => ?_) (fun c_62 => ?_)
      · skip
        obtain ⟨i, hi0, hi9, hxi⟩ := nI_of_range (Int.le_refl 0) c_62.1 c_62.2
        subst hxi
        have hi : i < ns A := by omega
        have hiv := iv_nI (i := i) (by omega)
        obtain ⟨w1, w2, w3, w4, w5, w6, w7, w8⟩ := hvS i hi
        have hkl := fN_le (gk A i) 1000
        refine lv_iload hx hb dX7_planet_69 (lv_at hl 0 rfl) ?_
        refine z_if_ne (tgt := 78) hx hb (nI_toInt (by decide)) dX7_planet_71 (by decide) (fun c_71 => ?_) (fun c_71 => ?_)
        · exact absurd c_71 (by omega)
        · refine lv_iconst (v := nI 2) hx hb dX7_planet_74 (by decide) ?_
          refine lv_goto (tgt := 93) hx hb dX7_planet_75 (by decide) ?_
          refine z_put (fs' := [.int (nI 2), .int (nI (ns A)), .ref ((ma 2)), .ref ((ma 3)), .ref ((ma 4)), .ref ((ma 5)), .ref ((ma 6)), .ref ((ma 7)), .ref ((ma 8)), .ref ((ma 9)), .ref ((ma 10)), .ref ((ma 11)), .ref ((ma 12)), .ref ((ma 13)), .ref ((ma 14)), .ref ((ma 15)), .ref ((ma 16)), .double bb, .int bf, .int (nI (nw A)), .ref ((ma 20)), .ref ((ma 21)), .ref ((ma 22)), .ref ((ma 23)), .int (nI (np A)), .ref ((ma 25)), .ref ((ma 26))]) hC hM (hmm 0 (by decide)) hg0 zcl_X7 (by decide) zl_X7_75 rfl rfl (by rfl) (Nat.le_of_ble_eq_true rfl) rfl dX7_planet_93 (fun H locs hM => ?_)
          obtain ⟨f_15, ef_15⟩ : ∃ z9, z9 = va_up f ((ma 0)) (eS 8 [.int (nI 2), .int (nI (ns A)), .ref ((ma 2)), .ref ((ma 3)), .ref ((ma 4)), .ref ((ma 5)), .ref ((ma 6)), .ref ((ma 7)), .ref ((ma 8)), .ref ((ma 9)), .ref ((ma 10)), .ref ((ma 11)), .ref ((ma 12)), .ref ((ma 13)), .ref ((ma 14)), .ref ((ma 15)), .ref ((ma 16)), .double bb, .int bf, .int (nI (nw A)), .ref ((ma 20)), .ref ((ma 21)), .ref ((ma 22)), .ref ((ma 23)), .int (nI (np A)), .ref ((ma 25)), .ref ((ma 26))]) := ⟨_, rfl⟩
          rw [← ef_15] at hM
          have hF_16 : f_15 ((ma 0)) = eS 8 [.int (nI 2), .int (nI (ns A)), .ref ((ma 2)), .ref ((ma 3)), .ref ((ma 4)), .ref ((ma 5)), .ref ((ma 6)), .ref ((ma 7)), .ref ((ma 8)), .ref ((ma 9)), .ref ((ma 10)), .ref ((ma 11)), .ref ((ma 12)), .ref ((ma 13)), .ref ((ma 14)), .ref ((ma 15)), .ref ((ma 16)), .double bb, .int bf, .int (nI (nw A)), .ref ((ma 20)), .ref ((ma 21)), .ref ((ma 22)), .ref ((ma 23)), .int (nI (np A)), .ref ((ma 25)), .ref ((ma 26))] := by rw [ef_15]; exact va_up_self _ _ _
          have hF_17 : f_15 ((ma 3)) = eI K 6 (fun j => nI ((A.1 3) j)) := by rw [ef_15]; exact (va_up_ne _ _ (mne hmi (by decide) (by decide) (show 3 ≠ 0 by decide))).trans hg3
          have hF_18 : f_15 ((ma 4)) = eI K 24 (fun j => nI ((A.1 4) j)) := by rw [ef_15]; exact (va_up_ne _ _ (mne hmi (by decide) (by decide) (show 4 ≠ 0 by decide))).trans hg4
          have hF_19 : f_15 ((ma 5)) = eI K 24 (fun j => nI ((A.1 5) j)) := by rw [ef_15]; exact (va_up_ne _ _ (mne hmi (by decide) (by decide) (show 5 ≠ 0 by decide))).trans hg5
          have hF_20 : f_15 ((ma 6)) = eI K 24 (fun j => nI ((A.1 6) j)) := by rw [ef_15]; exact (va_up_ne _ _ (mne hmi (by decide) (by decide) (show 6 ≠ 0 by decide))).trans hg6
          have hF_21 : f_15 ((ma 7)) = eI K 24 (fun j => nI ((A.1 7) j)) := by rw [ef_15]; exact (va_up_ne _ _ (mne hmi (by decide) (by decide) (show 7 ≠ 0 by decide))).trans hg7
          refine lv_aload_n hx hb dX7_planet_96 rfl (lv_at hl 1 rfl) ?_
          refine z_get hC hM (hmm 0 (by decide)) hF_16 zcl_X7 (by decide) zl_X7_75 rfl dX7_planet_97 ?_
          refine z_if_le (tgt := 105) hx hb (nI_toInt (by decide)) dX7_planet_100 (by decide) (fun c_100 => ?_) (fun c_100 => ?_)
          · exact absurd c_100 (by omega)
          · refine lv_iconst (v := nI 0) hx hb dX7_planet_103 (by decide) ?_
            rw [← hQ]
            exact z_iret hC hM hr hlk rfl (by decide) (by decide) (mr_x (kl2 c_62 (fun z => c_18 ⟨z.2.1.1, by have h8 := z.2.1.2; rw [nI_toInt (by omega)] at h8; exact h8⟩)) (fun z => if_neg z) (mr_t hmm hmi hop hmc hF_16 (fun q h9 => by rw [ef_15]; simp only [va_up, h9, if_false])) (by decide)) dX7_planet_104
      · refine lv_iconst (v := nI 1) hx hb dX7_planet_65 (by decide) ?_
        refine lv_goto (tgt := 93) hx hb dX7_planet_66 (by decide) ?_
        refine z_put (fs' := [.int (nI 1), .int (nI (ns A)), .ref ((ma 2)), .ref ((ma 3)), .ref ((ma 4)), .ref ((ma 5)), .ref ((ma 6)), .ref ((ma 7)), .ref ((ma 8)), .ref ((ma 9)), .ref ((ma 10)), .ref ((ma 11)), .ref ((ma 12)), .ref ((ma 13)), .ref ((ma 14)), .ref ((ma 15)), .ref ((ma 16)), .double bb, .int bf, .int (nI (nw A)), .ref ((ma 20)), .ref ((ma 21)), .ref ((ma 22)), .ref ((ma 23)), .int (nI (np A)), .ref ((ma 25)), .ref ((ma 26))]) hC hM (hmm 0 (by decide)) hg0 zcl_X7 (by decide) zl_X7_75 rfl rfl (by rfl) (Nat.le_of_ble_eq_true rfl) rfl dX7_planet_93 (fun H locs hM => ?_)
        obtain ⟨f_22, ef_22⟩ : ∃ z9, z9 = va_up f ((ma 0)) (eS 8 [.int (nI 1), .int (nI (ns A)), .ref ((ma 2)), .ref ((ma 3)), .ref ((ma 4)), .ref ((ma 5)), .ref ((ma 6)), .ref ((ma 7)), .ref ((ma 8)), .ref ((ma 9)), .ref ((ma 10)), .ref ((ma 11)), .ref ((ma 12)), .ref ((ma 13)), .ref ((ma 14)), .ref ((ma 15)), .ref ((ma 16)), .double bb, .int bf, .int (nI (nw A)), .ref ((ma 20)), .ref ((ma 21)), .ref ((ma 22)), .ref ((ma 23)), .int (nI (np A)), .ref ((ma 25)), .ref ((ma 26))]) := ⟨_, rfl⟩
        rw [← ef_22] at hM
        have hF_23 : f_22 ((ma 0)) = eS 8 [.int (nI 1), .int (nI (ns A)), .ref ((ma 2)), .ref ((ma 3)), .ref ((ma 4)), .ref ((ma 5)), .ref ((ma 6)), .ref ((ma 7)), .ref ((ma 8)), .ref ((ma 9)), .ref ((ma 10)), .ref ((ma 11)), .ref ((ma 12)), .ref ((ma 13)), .ref ((ma 14)), .ref ((ma 15)), .ref ((ma 16)), .double bb, .int bf, .int (nI (nw A)), .ref ((ma 20)), .ref ((ma 21)), .ref ((ma 22)), .ref ((ma 23)), .int (nI (np A)), .ref ((ma 25)), .ref ((ma 26))] := by rw [ef_22]; exact va_up_self _ _ _
        have hF_24 : f_22 ((ma 3)) = eI K 6 (fun j => nI ((A.1 3) j)) := by rw [ef_22]; exact (va_up_ne _ _ (mne hmi (by decide) (by decide) (show 3 ≠ 0 by decide))).trans hg3
        have hF_25 : f_22 ((ma 4)) = eI K 24 (fun j => nI ((A.1 4) j)) := by rw [ef_22]; exact (va_up_ne _ _ (mne hmi (by decide) (by decide) (show 4 ≠ 0 by decide))).trans hg4
        have hF_26 : f_22 ((ma 5)) = eI K 24 (fun j => nI ((A.1 5) j)) := by rw [ef_22]; exact (va_up_ne _ _ (mne hmi (by decide) (by decide) (show 5 ≠ 0 by decide))).trans hg5
        have hF_27 : f_22 ((ma 6)) = eI K 24 (fun j => nI ((A.1 6) j)) := by rw [ef_22]; exact (va_up_ne _ _ (mne hmi (by decide) (by decide) (show 6 ≠ 0 by decide))).trans hg6
        have hF_28 : f_22 ((ma 7)) = eI K 24 (fun j => nI ((A.1 7) j)) := by rw [ef_22]; exact (va_up_ne _ _ (mne hmi (by decide) (by decide) (show 7 ≠ 0 by decide))).trans hg7
        refine lv_aload_n hx hb dX7_planet_96 rfl (lv_at hl 1 rfl) ?_
        refine z_get hC hM (hmm 0 (by decide)) hF_23 zcl_X7 (by decide) zl_X7_75 rfl dX7_planet_97 ?_
        refine z_if_le (tgt := 105) hx hb (nI_toInt (by decide)) dX7_planet_100 (by decide) (fun c_100 => ?_) (fun c_100 => ?_)
        · exact absurd c_100 (by omega)
        · refine lv_iconst (v := nI 0) hx hb dX7_planet_103 (by decide) ?_
          rw [← hQ]
          exact z_iret hC hM hr hlk rfl (by decide) (by decide) (mr_x (kl1 c_62) (fun z => if_neg z) (mr_t hmm hmi hop hmc hF_23 (fun q h9 => by rw [ef_22]; simp only [va_up, h9, if_false])) (by decide)) dX7_planet_104
    · skip
      obtain ⟨b, hb1, hb2, hxb⟩ := nI_of_range (by decide) c_18.1 c_18.2
      subst hxb
      have hivb := iv_nI (i := b) (by omega)
      refine lv_iload hx hb dX7_planet_21 (lv_at hl 4 rfl) ?_
      refine lv_iconst (v := nI 1) hx hb dX7_planet_23 (by decide) ?_
      refine lv_iconst (v := nI 4) hx hb dX7_planet_24 (by decide) ?_
      refine z_fcalli (z_runS hC hM (c_isIn (x := y3) (ea := 1) (eb := 4) (by decide) (by decide)) zy_X7_isIn zm_X7_82 rfl rfl hl.1 (Nat.le_of_ble_eq_true rfl) ⟨by decide, by decide⟩ ⟨by decide, by decide⟩ dX7_planet_25) hM (fun H locs hM => ?_)
      refine z_if_eqB (tgt := 53) hx hb dX7_planet_28 (by decide) (fun c_28 => ?_) (fun c_28 => ?_)
      · refine lv_iconst (v := nI 0) hx hb dX7_planet_53 (by decide) ?_
        refine lv_istore (lv' := [(6, .int (nI 0)), (0, .ref ((ma 0))), (1, .int x), (2, .int (nI a)), (3, .int (nI b)), (4, .int y3), (5, .int y4)]) hx hb dX7_planet_54 hl (by decide) rfl (fun ls hl => ?_)
        refine lv_aload_n hx hb dX7_planet_56 rfl (lv_at hl 1 rfl) ?_
        refine lv_aload_n hx hb dX7_planet_57 rfl (lv_at hl 1 rfl) ?_
        refine lv_iload_n hx hb dX7_planet_58 rfl (lv_at hl 2 rfl) ?_
        refine z_fcalli (z_runV hC hM (c_isStar hV hMI x) zy_X7_isStar zm_X7_87 (hmm 0 (by decide)) hg0 zcl_X7 rfl rfl rfl hl.1 (Nat.le_of_ble_eq_true rfl) ⟨by decide, by decide⟩ ⟨by decide, by decide⟩ dX7_planet_59) hM (fun H locs hM => ?_)
        refine z_if_neB (tgt := 69) hx hb dX7_planet_62 (by decide) (fun c_62 => ?_) (fun c_62 => ?_)
        · skip
          obtain ⟨i, hi0, hi9, hxi⟩ := nI_of_range (Int.le_refl 0) c_62.1 c_62.2
          subst hxi
          have hi : i < ns A := by omega
          have hiv := iv_nI (i := i) (by omega)
          obtain ⟨w1, w2, w3, w4, w5, w6, w7, w8⟩ := hvS i hi
          have hkl := fN_le (gk A i) 1000
          refine lv_iload hx hb dX7_planet_69 (lv_at hl 0 rfl) ?_
          refine z_if_ne (tgt := 78) hx hb (nI_toInt (by decide)) dX7_planet_71 (by decide) (fun c_71 => ?_) (fun c_71 => ?_)
          · exact absurd c_71 (by omega)
          · refine lv_iconst (v := nI 2) hx hb dX7_planet_74 (by decide) ?_
            refine lv_goto (tgt := 93) hx hb dX7_planet_75 (by decide) ?_
            refine z_put (fs' := [.int (nI 2), .int (nI (ns A)), .ref ((ma 2)), .ref ((ma 3)), .ref ((ma 4)), .ref ((ma 5)), .ref ((ma 6)), .ref ((ma 7)), .ref ((ma 8)), .ref ((ma 9)), .ref ((ma 10)), .ref ((ma 11)), .ref ((ma 12)), .ref ((ma 13)), .ref ((ma 14)), .ref ((ma 15)), .ref ((ma 16)), .double bb, .int bf, .int (nI (nw A)), .ref ((ma 20)), .ref ((ma 21)), .ref ((ma 22)), .ref ((ma 23)), .int (nI (np A)), .ref ((ma 25)), .ref ((ma 26))]) hC hM (hmm 0 (by decide)) hg0 zcl_X7 (by decide) zl_X7_75 rfl rfl (by rfl) (Nat.le_of_ble_eq_true rfl) rfl dX7_planet_93 (fun H locs hM => ?_)
            obtain ⟨f_29, ef_29⟩ : ∃ z9, z9 = va_up f ((ma 0)) (eS 8 [.int (nI 2), .int (nI (ns A)), .ref ((ma 2)), .ref ((ma 3)), .ref ((ma 4)), .ref ((ma 5)), .ref ((ma 6)), .ref ((ma 7)), .ref ((ma 8)), .ref ((ma 9)), .ref ((ma 10)), .ref ((ma 11)), .ref ((ma 12)), .ref ((ma 13)), .ref ((ma 14)), .ref ((ma 15)), .ref ((ma 16)), .double bb, .int bf, .int (nI (nw A)), .ref ((ma 20)), .ref ((ma 21)), .ref ((ma 22)), .ref ((ma 23)), .int (nI (np A)), .ref ((ma 25)), .ref ((ma 26))]) := ⟨_, rfl⟩
            rw [← ef_29] at hM
            have hF_30 : f_29 ((ma 0)) = eS 8 [.int (nI 2), .int (nI (ns A)), .ref ((ma 2)), .ref ((ma 3)), .ref ((ma 4)), .ref ((ma 5)), .ref ((ma 6)), .ref ((ma 7)), .ref ((ma 8)), .ref ((ma 9)), .ref ((ma 10)), .ref ((ma 11)), .ref ((ma 12)), .ref ((ma 13)), .ref ((ma 14)), .ref ((ma 15)), .ref ((ma 16)), .double bb, .int bf, .int (nI (nw A)), .ref ((ma 20)), .ref ((ma 21)), .ref ((ma 22)), .ref ((ma 23)), .int (nI (np A)), .ref ((ma 25)), .ref ((ma 26))] := by rw [ef_29]; exact va_up_self _ _ _
            have hF_31 : f_29 ((ma 3)) = eI K 6 (fun j => nI ((A.1 3) j)) := by rw [ef_29]; exact (va_up_ne _ _ (mne hmi (by decide) (by decide) (show 3 ≠ 0 by decide))).trans hg3
            have hF_32 : f_29 ((ma 4)) = eI K 24 (fun j => nI ((A.1 4) j)) := by rw [ef_29]; exact (va_up_ne _ _ (mne hmi (by decide) (by decide) (show 4 ≠ 0 by decide))).trans hg4
            have hF_33 : f_29 ((ma 5)) = eI K 24 (fun j => nI ((A.1 5) j)) := by rw [ef_29]; exact (va_up_ne _ _ (mne hmi (by decide) (by decide) (show 5 ≠ 0 by decide))).trans hg5
            have hF_34 : f_29 ((ma 6)) = eI K 24 (fun j => nI ((A.1 6) j)) := by rw [ef_29]; exact (va_up_ne _ _ (mne hmi (by decide) (by decide) (show 6 ≠ 0 by decide))).trans hg6
            have hF_35 : f_29 ((ma 7)) = eI K 24 (fun j => nI ((A.1 7) j)) := by rw [ef_29]; exact (va_up_ne _ _ (mne hmi (by decide) (by decide) (show 7 ≠ 0 by decide))).trans hg7
            refine lv_aload_n hx hb dX7_planet_96 rfl (lv_at hl 1 rfl) ?_
            refine z_get hC hM (hmm 0 (by decide)) hF_30 zcl_X7 (by decide) zl_X7_75 rfl dX7_planet_97 ?_
            refine z_if_le (tgt := 105) hx hb (nI_toInt (by decide)) dX7_planet_100 (by decide) (fun c_100 => ?_) (fun c_100 => ?_)
            · exact absurd c_100 (by omega)
            · refine lv_iconst (v := nI 0) hx hb dX7_planet_103 (by decide) ?_
              rw [← hQ]
              exact z_iret hC hM hr hlk rfl (by decide) (by decide) (mr_x (kl2 c_62 (fun z => c_28 z.2.2.1)) (fun z => if_neg z) (mr_t hmm hmi hop hmc hF_30 (fun q h9 => by rw [ef_29]; simp only [va_up, h9, if_false])) (by decide)) dX7_planet_104
        · refine lv_iconst (v := nI 1) hx hb dX7_planet_65 (by decide) ?_
          refine lv_goto (tgt := 93) hx hb dX7_planet_66 (by decide) ?_
          refine z_put (fs' := [.int (nI 1), .int (nI (ns A)), .ref ((ma 2)), .ref ((ma 3)), .ref ((ma 4)), .ref ((ma 5)), .ref ((ma 6)), .ref ((ma 7)), .ref ((ma 8)), .ref ((ma 9)), .ref ((ma 10)), .ref ((ma 11)), .ref ((ma 12)), .ref ((ma 13)), .ref ((ma 14)), .ref ((ma 15)), .ref ((ma 16)), .double bb, .int bf, .int (nI (nw A)), .ref ((ma 20)), .ref ((ma 21)), .ref ((ma 22)), .ref ((ma 23)), .int (nI (np A)), .ref ((ma 25)), .ref ((ma 26))]) hC hM (hmm 0 (by decide)) hg0 zcl_X7 (by decide) zl_X7_75 rfl rfl (by rfl) (Nat.le_of_ble_eq_true rfl) rfl dX7_planet_93 (fun H locs hM => ?_)
          obtain ⟨f_36, ef_36⟩ : ∃ z9, z9 = va_up f ((ma 0)) (eS 8 [.int (nI 1), .int (nI (ns A)), .ref ((ma 2)), .ref ((ma 3)), .ref ((ma 4)), .ref ((ma 5)), .ref ((ma 6)), .ref ((ma 7)), .ref ((ma 8)), .ref ((ma 9)), .ref ((ma 10)), .ref ((ma 11)), .ref ((ma 12)), .ref ((ma 13)), .ref ((ma 14)), .ref ((ma 15)), .ref ((ma 16)), .double bb, .int bf, .int (nI (nw A)), .ref ((ma 20)), .ref ((ma 21)), .ref ((ma 22)), .ref ((ma 23)), .int (nI (np A)), .ref ((ma 25)), .ref ((ma 26))]) := ⟨_, rfl⟩
          rw [← ef_36] at hM
          have hF_37 : f_36 ((ma 0)) = eS 8 [.int (nI 1), .int (nI (ns A)), .ref ((ma 2)), .ref ((ma 3)), .ref ((ma 4)), .ref ((ma 5)), .ref ((ma 6)), .ref ((ma 7)), .ref ((ma 8)), .ref ((ma 9)), .ref ((ma 10)), .ref ((ma 11)), .ref ((ma 12)), .ref ((ma 13)), .ref ((ma 14)), .ref ((ma 15)), .ref ((ma 16)), .double bb, .int bf, .int (nI (nw A)), .ref ((ma 20)), .ref ((ma 21)), .ref ((ma 22)), .ref ((ma 23)), .int (nI (np A)), .ref ((ma 25)), .ref ((ma 26))] := by rw [ef_36]; exact va_up_self _ _ _
          have hF_38 : f_36 ((ma 3)) = eI K 6 (fun j => nI ((A.1 3) j)) := by rw [ef_36]; exact (va_up_ne _ _ (mne hmi (by decide) (by decide) (show 3 ≠ 0 by decide))).trans hg3
          have hF_39 : f_36 ((ma 4)) = eI K 24 (fun j => nI ((A.1 4) j)) := by rw [ef_36]; exact (va_up_ne _ _ (mne hmi (by decide) (by decide) (show 4 ≠ 0 by decide))).trans hg4
          have hF_40 : f_36 ((ma 5)) = eI K 24 (fun j => nI ((A.1 5) j)) := by rw [ef_36]; exact (va_up_ne _ _ (mne hmi (by decide) (by decide) (show 5 ≠ 0 by decide))).trans hg5
          have hF_41 : f_36 ((ma 6)) = eI K 24 (fun j => nI ((A.1 6) j)) := by rw [ef_36]; exact (va_up_ne _ _ (mne hmi (by decide) (by decide) (show 6 ≠ 0 by decide))).trans hg6
          have hF_42 : f_36 ((ma 7)) = eI K 24 (fun j => nI ((A.1 7) j)) := by rw [ef_36]; exact (va_up_ne _ _ (mne hmi (by decide) (by decide) (show 7 ≠ 0 by decide))).trans hg7
          refine lv_aload_n hx hb dX7_planet_96 rfl (lv_at hl 1 rfl) ?_
          refine z_get hC hM (hmm 0 (by decide)) hF_37 zcl_X7 (by decide) zl_X7_75 rfl dX7_planet_97 ?_
          refine z_if_le (tgt := 105) hx hb (nI_toInt (by decide)) dX7_planet_100 (by decide) (fun c_100 => ?_) (fun c_100 => ?_)
          · exact absurd c_100 (by omega)
          · refine lv_iconst (v := nI 0) hx hb dX7_planet_103 (by decide) ?_
            rw [← hQ]
            exact z_iret hC hM hr hlk rfl (by decide) (by decide) (mr_x (kl1 c_62) (fun z => if_neg z) (mr_t hmm hmi hop hmc hF_37 (fun q h9 => by rw [ef_36]; simp only [va_up, h9, if_false])) (by decide)) dX7_planet_104
      · skip
        obtain ⟨d, hd1, hd2, hxd⟩ := nI_of_range (by decide) c_28.1 c_28.2
        subst hxd
        have hivd := iv_nI (i := d) (by omega)
        refine lv_iload hx hb dX7_planet_31 (lv_at hl 4 rfl) ?_
        refine lv_iload_n hx hb dX7_planet_33 rfl (lv_at hl 2 rfl) ?_
        refine z_icmp_ge (tgt := 53) hx hb (nI_toInt (by omega)) (nI_toInt (by omega)) dX7_planet_34 (by decide) (fun c_34 => ?_) (fun c_34 => ?_)
        · refine lv_iconst (v := nI 0) hx hb dX7_planet_53 (by decide) ?_
          refine lv_istore (lv' := [(6, .int (nI 0)), (0, .ref ((ma 0))), (1, .int x), (2, .int (nI a)), (3, .int (nI b)), (4, .int (nI d)), (5, .int y4)]) hx hb dX7_planet_54 hl (by decide) rfl (fun ls hl => ?_)
          refine lv_aload_n hx hb dX7_planet_56 rfl (lv_at hl 1 rfl) ?_
          refine lv_aload_n hx hb dX7_planet_57 rfl (lv_at hl 1 rfl) ?_
          refine lv_iload_n hx hb dX7_planet_58 rfl (lv_at hl 2 rfl) ?_
          refine z_fcalli (z_runV hC hM (c_isStar hV hMI x) zy_X7_isStar zm_X7_87 (hmm 0 (by decide)) hg0 zcl_X7 rfl rfl rfl hl.1 (Nat.le_of_ble_eq_true rfl) ⟨by decide, by decide⟩ ⟨by decide, by decide⟩ dX7_planet_59) hM (fun H locs hM => ?_)
          refine z_if_neB (tgt := 69) hx hb dX7_planet_62 (by decide) (fun c_62 => ?_) (fun c_62 => ?_)
          · skip
            obtain ⟨i, hi0, hi9, hxi⟩ := nI_of_range (Int.le_refl 0) c_62.1 c_62.2
            subst hxi
            have hi : i < ns A := by omega
            have hiv := iv_nI (i := i) (by omega)
            obtain ⟨w1, w2, w3, w4, w5, w6, w7, w8⟩ := hvS i hi
            have hkl := fN_le (gk A i) 1000
            refine lv_iload hx hb dX7_planet_69 (lv_at hl 0 rfl) ?_
            refine z_if_ne (tgt := 78) hx hb (nI_toInt (by decide)) dX7_planet_71 (by decide) (fun c_71 => ?_) (fun c_71 => ?_)
            · exact absurd c_71 (by omega)
            · refine lv_iconst (v := nI 2) hx hb dX7_planet_74 (by decide) ?_
              refine lv_goto (tgt := 93) hx hb dX7_planet_75 (by decide) ?_
              refine z_put (fs' := [.int (nI 2), .int (nI (ns A)), .ref ((ma 2)), .ref ((ma 3)), .ref ((ma 4)), .ref ((ma 5)), .ref ((ma 6)), .ref ((ma 7)), .ref ((ma 8)), .ref ((ma 9)), .ref ((ma 10)), .ref ((ma 11)), .ref ((ma 12)), .ref ((ma 13)), .ref ((ma 14)), .ref ((ma 15)), .ref ((ma 16)), .double bb, .int bf, .int (nI (nw A)), .ref ((ma 20)), .ref ((ma 21)), .ref ((ma 22)), .ref ((ma 23)), .int (nI (np A)), .ref ((ma 25)), .ref ((ma 26))]) hC hM (hmm 0 (by decide)) hg0 zcl_X7 (by decide) zl_X7_75 rfl rfl (by rfl) (Nat.le_of_ble_eq_true rfl) rfl dX7_planet_93 (fun H locs hM => ?_)
              obtain ⟨f_43, ef_43⟩ : ∃ z9, z9 = va_up f ((ma 0)) (eS 8 [.int (nI 2), .int (nI (ns A)), .ref ((ma 2)), .ref ((ma 3)), .ref ((ma 4)), .ref ((ma 5)), .ref ((ma 6)), .ref ((ma 7)), .ref ((ma 8)), .ref ((ma 9)), .ref ((ma 10)), .ref ((ma 11)), .ref ((ma 12)), .ref ((ma 13)), .ref ((ma 14)), .ref ((ma 15)), .ref ((ma 16)), .double bb, .int bf, .int (nI (nw A)), .ref ((ma 20)), .ref ((ma 21)), .ref ((ma 22)), .ref ((ma 23)), .int (nI (np A)), .ref ((ma 25)), .ref ((ma 26))]) := ⟨_, rfl⟩
              rw [← ef_43] at hM
              have hF_44 : f_43 ((ma 0)) = eS 8 [.int (nI 2), .int (nI (ns A)), .ref ((ma 2)), .ref ((ma 3)), .ref ((ma 4)), .ref ((ma 5)), .ref ((ma 6)), .ref ((ma 7)), .ref ((ma 8)), .ref ((ma 9)), .ref ((ma 10)), .ref ((ma 11)), .ref ((ma 12)), .ref ((ma 13)), .ref ((ma 14)), .ref ((ma 15)), .ref ((ma 16)), .double bb, .int bf, .int (nI (nw A)), .ref ((ma 20)), .ref ((ma 21)), .ref ((ma 22)), .ref ((ma 23)), .int (nI (np A)), .ref ((ma 25)), .ref ((ma 26))] := by rw [ef_43]; exact va_up_self _ _ _
              have hF_45 : f_43 ((ma 3)) = eI K 6 (fun j => nI ((A.1 3) j)) := by rw [ef_43]; exact (va_up_ne _ _ (mne hmi (by decide) (by decide) (show 3 ≠ 0 by decide))).trans hg3
              have hF_46 : f_43 ((ma 4)) = eI K 24 (fun j => nI ((A.1 4) j)) := by rw [ef_43]; exact (va_up_ne _ _ (mne hmi (by decide) (by decide) (show 4 ≠ 0 by decide))).trans hg4
              have hF_47 : f_43 ((ma 5)) = eI K 24 (fun j => nI ((A.1 5) j)) := by rw [ef_43]; exact (va_up_ne _ _ (mne hmi (by decide) (by decide) (show 5 ≠ 0 by decide))).trans hg5
              have hF_48 : f_43 ((ma 6)) = eI K 24 (fun j => nI ((A.1 6) j)) := by rw [ef_43]; exact (va_up_ne _ _ (mne hmi (by decide) (by decide) (show 6 ≠ 0 by decide))).trans hg6
              have hF_49 : f_43 ((ma 7)) = eI K 24 (fun j => nI ((A.1 7) j)) := by rw [ef_43]; exact (va_up_ne _ _ (mne hmi (by decide) (by decide) (show 7 ≠ 0 by decide))).trans hg7
              refine lv_aload_n hx hb dX7_planet_96 rfl (lv_at hl 1 rfl) ?_
              refine z_get hC hM (hmm 0 (by decide)) hF_44 zcl_X7 (by decide) zl_X7_75 rfl dX7_planet_97 ?_
              refine z_if_le (tgt := 105) hx hb (nI_toInt (by decide)) dX7_planet_100 (by decide) (fun c_100 => ?_) (fun c_100 => ?_)
              · exact absurd c_100 (by omega)
              · refine lv_iconst (v := nI 0) hx hb dX7_planet_103 (by decide) ?_
                rw [← hQ]
                exact z_iret hC hM hr hlk rfl (by decide) (by decide) (mr_x (kl2 c_62 (fun z => by have h8 := z.2.2.2.1; rw [nI_toInt (by omega), nI_toInt (by omega)] at h8; omega)) (fun z => if_neg z) (mr_t hmm hmi hop hmc hF_44 (fun q h9 => by rw [ef_43]; simp only [va_up, h9, if_false])) (by decide)) dX7_planet_104
          · refine lv_iconst (v := nI 1) hx hb dX7_planet_65 (by decide) ?_
            refine lv_goto (tgt := 93) hx hb dX7_planet_66 (by decide) ?_
            refine z_put (fs' := [.int (nI 1), .int (nI (ns A)), .ref ((ma 2)), .ref ((ma 3)), .ref ((ma 4)), .ref ((ma 5)), .ref ((ma 6)), .ref ((ma 7)), .ref ((ma 8)), .ref ((ma 9)), .ref ((ma 10)), .ref ((ma 11)), .ref ((ma 12)), .ref ((ma 13)), .ref ((ma 14)), .ref ((ma 15)), .ref ((ma 16)), .double bb, .int bf, .int (nI (nw A)), .ref ((ma 20)), .ref ((ma 21)), .ref ((ma 22)), .ref ((ma 23)), .int (nI (np A)), .ref ((ma 25)), .ref ((ma 26))]) hC hM (hmm 0 (by decide)) hg0 zcl_X7 (by decide) zl_X7_75 rfl rfl (by rfl) (Nat.le_of_ble_eq_true rfl) rfl dX7_planet_93 (fun H locs hM => ?_)
            obtain ⟨f_50, ef_50⟩ : ∃ z9, z9 = va_up f ((ma 0)) (eS 8 [.int (nI 1), .int (nI (ns A)), .ref ((ma 2)), .ref ((ma 3)), .ref ((ma 4)), .ref ((ma 5)), .ref ((ma 6)), .ref ((ma 7)), .ref ((ma 8)), .ref ((ma 9)), .ref ((ma 10)), .ref ((ma 11)), .ref ((ma 12)), .ref ((ma 13)), .ref ((ma 14)), .ref ((ma 15)), .ref ((ma 16)), .double bb, .int bf, .int (nI (nw A)), .ref ((ma 20)), .ref ((ma 21)), .ref ((ma 22)), .ref ((ma 23)), .int (nI (np A)), .ref ((ma 25)), .ref ((ma 26))]) := ⟨_, rfl⟩
            rw [← ef_50] at hM
            have hF_51 : f_50 ((ma 0)) = eS 8 [.int (nI 1), .int (nI (ns A)), .ref ((ma 2)), .ref ((ma 3)), .ref ((ma 4)), .ref ((ma 5)), .ref ((ma 6)), .ref ((ma 7)), .ref ((ma 8)), .ref ((ma 9)), .ref ((ma 10)), .ref ((ma 11)), .ref ((ma 12)), .ref ((ma 13)), .ref ((ma 14)), .ref ((ma 15)), .ref ((ma 16)), .double bb, .int bf, .int (nI (nw A)), .ref ((ma 20)), .ref ((ma 21)), .ref ((ma 22)), .ref ((ma 23)), .int (nI (np A)), .ref ((ma 25)), .ref ((ma 26))] := by rw [ef_50]; exact va_up_self _ _ _
            have hF_52 : f_50 ((ma 3)) = eI K 6 (fun j => nI ((A.1 3) j)) := by rw [ef_50]; exact (va_up_ne _ _ (mne hmi (by decide) (by decide) (show 3 ≠ 0 by decide))).trans hg3
            have hF_53 : f_50 ((ma 4)) = eI K 24 (fun j => nI ((A.1 4) j)) := by rw [ef_50]; exact (va_up_ne _ _ (mne hmi (by decide) (by decide) (show 4 ≠ 0 by decide))).trans hg4
            have hF_54 : f_50 ((ma 5)) = eI K 24 (fun j => nI ((A.1 5) j)) := by rw [ef_50]; exact (va_up_ne _ _ (mne hmi (by decide) (by decide) (show 5 ≠ 0 by decide))).trans hg5
            have hF_55 : f_50 ((ma 6)) = eI K 24 (fun j => nI ((A.1 6) j)) := by rw [ef_50]; exact (va_up_ne _ _ (mne hmi (by decide) (by decide) (show 6 ≠ 0 by decide))).trans hg6
            have hF_56 : f_50 ((ma 7)) = eI K 24 (fun j => nI ((A.1 7) j)) := by rw [ef_50]; exact (va_up_ne _ _ (mne hmi (by decide) (by decide) (show 7 ≠ 0 by decide))).trans hg7
            refine lv_aload_n hx hb dX7_planet_96 rfl (lv_at hl 1 rfl) ?_
            refine z_get hC hM (hmm 0 (by decide)) hF_51 zcl_X7 (by decide) zl_X7_75 rfl dX7_planet_97 ?_
            refine z_if_le (tgt := 105) hx hb (nI_toInt (by decide)) dX7_planet_100 (by decide) (fun c_100 => ?_) (fun c_100 => ?_)
            · exact absurd c_100 (by omega)
            · refine lv_iconst (v := nI 0) hx hb dX7_planet_103 (by decide) ?_
              rw [← hQ]
              exact z_iret hC hM hr hlk rfl (by decide) (by decide) (mr_x (kl1 c_62) (fun z => if_neg z) (mr_t hmm hmi hop hmc hF_51 (fun q h9 => by rw [ef_50]; simp only [va_up, h9, if_false])) (by decide)) dX7_planet_104
        · refine lv_iload hx hb dX7_planet_37 (lv_at hl 5 rfl) ?_
          refine lv_iconst (v := nI 1) hx hb dX7_planet_39 (by decide) ?_
          refine lv_sipush (v := nI 200) hx hb dX7_planet_40 (by decide) ?_
          refine z_fcalli (z_runS hC hM (c_isIn (x := y4) (ea := 1) (eb := 200) (by decide) (by decide)) zy_X7_isIn zm_X7_82 rfl rfl hl.1 (Nat.le_of_ble_eq_true rfl) ⟨by decide, by decide⟩ ⟨by decide, by decide⟩ dX7_planet_43) hM (fun H locs hM => ?_)
          refine z_if_eqB (tgt := 53) hx hb dX7_planet_46 (by decide) (fun c_46 => ?_) (fun c_46 => ?_)
          · refine lv_iconst (v := nI 0) hx hb dX7_planet_53 (by decide) ?_
            refine lv_istore (lv' := [(6, .int (nI 0)), (0, .ref ((ma 0))), (1, .int x), (2, .int (nI a)), (3, .int (nI b)), (4, .int (nI d)), (5, .int y4)]) hx hb dX7_planet_54 hl (by decide) rfl (fun ls hl => ?_)
            refine lv_aload_n hx hb dX7_planet_56 rfl (lv_at hl 1 rfl) ?_
            refine lv_aload_n hx hb dX7_planet_57 rfl (lv_at hl 1 rfl) ?_
            refine lv_iload_n hx hb dX7_planet_58 rfl (lv_at hl 2 rfl) ?_
            refine z_fcalli (z_runV hC hM (c_isStar hV hMI x) zy_X7_isStar zm_X7_87 (hmm 0 (by decide)) hg0 zcl_X7 rfl rfl rfl hl.1 (Nat.le_of_ble_eq_true rfl) ⟨by decide, by decide⟩ ⟨by decide, by decide⟩ dX7_planet_59) hM (fun H locs hM => ?_)
            refine z_if_neB (tgt := 69) hx hb dX7_planet_62 (by decide) (fun c_62 => ?_) (fun c_62 => ?_)
            · skip
              obtain ⟨i, hi0, hi9, hxi⟩ := nI_of_range (Int.le_refl 0) c_62.1 c_62.2
              subst hxi
              have hi : i < ns A := by omega
              have hiv := iv_nI (i := i) (by omega)
              obtain ⟨w1, w2, w3, w4, w5, w6, w7, w8⟩ := hvS i hi
              have hkl := fN_le (gk A i) 1000
              refine lv_iload hx hb dX7_planet_69 (lv_at hl 0 rfl) ?_
              refine z_if_ne (tgt := 78) hx hb (nI_toInt (by decide)) dX7_planet_71 (by decide) (fun c_71 => ?_) (fun c_71 => ?_)
              · exact absurd c_71 (by omega)
              · refine lv_iconst (v := nI 2) hx hb dX7_planet_74 (by decide) ?_
                refine lv_goto (tgt := 93) hx hb dX7_planet_75 (by decide) ?_
                refine z_put (fs' := [.int (nI 2), .int (nI (ns A)), .ref ((ma 2)), .ref ((ma 3)), .ref ((ma 4)), .ref ((ma 5)), .ref ((ma 6)), .ref ((ma 7)), .ref ((ma 8)), .ref ((ma 9)), .ref ((ma 10)), .ref ((ma 11)), .ref ((ma 12)), .ref ((ma 13)), .ref ((ma 14)), .ref ((ma 15)), .ref ((ma 16)), .double bb, .int bf, .int (nI (nw A)), .ref ((ma 20)), .ref ((ma 21)), .ref ((ma 22)), .ref ((ma 23)), .int (nI (np A)), .ref ((ma 25)), .ref ((ma 26))]) hC hM (hmm 0 (by decide)) hg0 zcl_X7 (by decide) zl_X7_75 rfl rfl (by rfl) (Nat.le_of_ble_eq_true rfl) rfl dX7_planet_93 (fun H locs hM => ?_)
                obtain ⟨f_57, ef_57⟩ : ∃ z9, z9 = va_up f ((ma 0)) (eS 8 [.int (nI 2), .int (nI (ns A)), .ref ((ma 2)), .ref ((ma 3)), .ref ((ma 4)), .ref ((ma 5)), .ref ((ma 6)), .ref ((ma 7)), .ref ((ma 8)), .ref ((ma 9)), .ref ((ma 10)), .ref ((ma 11)), .ref ((ma 12)), .ref ((ma 13)), .ref ((ma 14)), .ref ((ma 15)), .ref ((ma 16)), .double bb, .int bf, .int (nI (nw A)), .ref ((ma 20)), .ref ((ma 21)), .ref ((ma 22)), .ref ((ma 23)), .int (nI (np A)), .ref ((ma 25)), .ref ((ma 26))]) := ⟨_, rfl⟩
                rw [← ef_57] at hM
                have hF_58 : f_57 ((ma 0)) = eS 8 [.int (nI 2), .int (nI (ns A)), .ref ((ma 2)), .ref ((ma 3)), .ref ((ma 4)), .ref ((ma 5)), .ref ((ma 6)), .ref ((ma 7)), .ref ((ma 8)), .ref ((ma 9)), .ref ((ma 10)), .ref ((ma 11)), .ref ((ma 12)), .ref ((ma 13)), .ref ((ma 14)), .ref ((ma 15)), .ref ((ma 16)), .double bb, .int bf, .int (nI (nw A)), .ref ((ma 20)), .ref ((ma 21)), .ref ((ma 22)), .ref ((ma 23)), .int (nI (np A)), .ref ((ma 25)), .ref ((ma 26))] := by rw [ef_57]; exact va_up_self _ _ _
                have hF_59 : f_57 ((ma 3)) = eI K 6 (fun j => nI ((A.1 3) j)) := by rw [ef_57]; exact (va_up_ne _ _ (mne hmi (by decide) (by decide) (show 3 ≠ 0 by decide))).trans hg3
                have hF_60 : f_57 ((ma 4)) = eI K 24 (fun j => nI ((A.1 4) j)) := by rw [ef_57]; exact (va_up_ne _ _ (mne hmi (by decide) (by decide) (show 4 ≠ 0 by decide))).trans hg4
                have hF_61 : f_57 ((ma 5)) = eI K 24 (fun j => nI ((A.1 5) j)) := by rw [ef_57]; exact (va_up_ne _ _ (mne hmi (by decide) (by decide) (show 5 ≠ 0 by decide))).trans hg5
                have hF_62 : f_57 ((ma 6)) = eI K 24 (fun j => nI ((A.1 6) j)) := by rw [ef_57]; exact (va_up_ne _ _ (mne hmi (by decide) (by decide) (show 6 ≠ 0 by decide))).trans hg6
                have hF_63 : f_57 ((ma 7)) = eI K 24 (fun j => nI ((A.1 7) j)) := by rw [ef_57]; exact (va_up_ne _ _ (mne hmi (by decide) (by decide) (show 7 ≠ 0 by decide))).trans hg7
                refine lv_aload_n hx hb dX7_planet_96 rfl (lv_at hl 1 rfl) ?_
                refine z_get hC hM (hmm 0 (by decide)) hF_58 zcl_X7 (by decide) zl_X7_75 rfl dX7_planet_97 ?_
                refine z_if_le (tgt := 105) hx hb (nI_toInt (by decide)) dX7_planet_100 (by decide) (fun c_100 => ?_) (fun c_100 => ?_)
                · exact absurd c_100 (by omega)
                · refine lv_iconst (v := nI 0) hx hb dX7_planet_103 (by decide) ?_
                  rw [← hQ]
                  exact z_iret hC hM hr hlk rfl (by decide) (by decide) (mr_x (kl2 c_62 (fun z => c_46 z.2.2.2.2)) (fun z => if_neg z) (mr_t hmm hmi hop hmc hF_58 (fun q h9 => by rw [ef_57]; simp only [va_up, h9, if_false])) (by decide)) dX7_planet_104
            · refine lv_iconst (v := nI 1) hx hb dX7_planet_65 (by decide) ?_
              refine lv_goto (tgt := 93) hx hb dX7_planet_66 (by decide) ?_
              refine z_put (fs' := [.int (nI 1), .int (nI (ns A)), .ref ((ma 2)), .ref ((ma 3)), .ref ((ma 4)), .ref ((ma 5)), .ref ((ma 6)), .ref ((ma 7)), .ref ((ma 8)), .ref ((ma 9)), .ref ((ma 10)), .ref ((ma 11)), .ref ((ma 12)), .ref ((ma 13)), .ref ((ma 14)), .ref ((ma 15)), .ref ((ma 16)), .double bb, .int bf, .int (nI (nw A)), .ref ((ma 20)), .ref ((ma 21)), .ref ((ma 22)), .ref ((ma 23)), .int (nI (np A)), .ref ((ma 25)), .ref ((ma 26))]) hC hM (hmm 0 (by decide)) hg0 zcl_X7 (by decide) zl_X7_75 rfl rfl (by rfl) (Nat.le_of_ble_eq_true rfl) rfl dX7_planet_93 (fun H locs hM => ?_)
              obtain ⟨f_64, ef_64⟩ : ∃ z9, z9 = va_up f ((ma 0)) (eS 8 [.int (nI 1), .int (nI (ns A)), .ref ((ma 2)), .ref ((ma 3)), .ref ((ma 4)), .ref ((ma 5)), .ref ((ma 6)), .ref ((ma 7)), .ref ((ma 8)), .ref ((ma 9)), .ref ((ma 10)), .ref ((ma 11)), .ref ((ma 12)), .ref ((ma 13)), .ref ((ma 14)), .ref ((ma 15)), .ref ((ma 16)), .double bb, .int bf, .int (nI (nw A)), .ref ((ma 20)), .ref ((ma 21)), .ref ((ma 22)), .ref ((ma 23)), .int (nI (np A)), .ref ((ma 25)), .ref ((ma 26))]) := ⟨_, rfl⟩
              rw [← ef_64] at hM
              have hF_65 : f_64 ((ma 0)) = eS 8 [.int (nI 1), .int (nI (ns A)), .ref ((ma 2)), .ref ((ma 3)), .ref ((ma 4)), .ref ((ma 5)), .ref ((ma 6)), .ref ((ma 7)), .ref ((ma 8)), .ref ((ma 9)), .ref ((ma 10)), .ref ((ma 11)), .ref ((ma 12)), .ref ((ma 13)), .ref ((ma 14)), .ref ((ma 15)), .ref ((ma 16)), .double bb, .int bf, .int (nI (nw A)), .ref ((ma 20)), .ref ((ma 21)), .ref ((ma 22)), .ref ((ma 23)), .int (nI (np A)), .ref ((ma 25)), .ref ((ma 26))] := by rw [ef_64]; exact va_up_self _ _ _
              have hF_66 : f_64 ((ma 3)) = eI K 6 (fun j => nI ((A.1 3) j)) := by rw [ef_64]; exact (va_up_ne _ _ (mne hmi (by decide) (by decide) (show 3 ≠ 0 by decide))).trans hg3
              have hF_67 : f_64 ((ma 4)) = eI K 24 (fun j => nI ((A.1 4) j)) := by rw [ef_64]; exact (va_up_ne _ _ (mne hmi (by decide) (by decide) (show 4 ≠ 0 by decide))).trans hg4
              have hF_68 : f_64 ((ma 5)) = eI K 24 (fun j => nI ((A.1 5) j)) := by rw [ef_64]; exact (va_up_ne _ _ (mne hmi (by decide) (by decide) (show 5 ≠ 0 by decide))).trans hg5
              have hF_69 : f_64 ((ma 6)) = eI K 24 (fun j => nI ((A.1 6) j)) := by rw [ef_64]; exact (va_up_ne _ _ (mne hmi (by decide) (by decide) (show 6 ≠ 0 by decide))).trans hg6
              have hF_70 : f_64 ((ma 7)) = eI K 24 (fun j => nI ((A.1 7) j)) := by rw [ef_64]; exact (va_up_ne _ _ (mne hmi (by decide) (by decide) (show 7 ≠ 0 by decide))).trans hg7
              refine lv_aload_n hx hb dX7_planet_96 rfl (lv_at hl 1 rfl) ?_
              refine z_get hC hM (hmm 0 (by decide)) hF_65 zcl_X7 (by decide) zl_X7_75 rfl dX7_planet_97 ?_
              refine z_if_le (tgt := 105) hx hb (nI_toInt (by decide)) dX7_planet_100 (by decide) (fun c_100 => ?_) (fun c_100 => ?_)
              · exact absurd c_100 (by omega)
              · refine lv_iconst (v := nI 0) hx hb dX7_planet_103 (by decide) ?_
                rw [← hQ]
                exact z_iret hC hM hr hlk rfl (by decide) (by decide) (mr_x (kl1 c_62) (fun z => if_neg z) (mr_t hmm hmi hop hmc hF_65 (fun q h9 => by rw [ef_64]; simp only [va_up, h9, if_false])) (by decide)) dX7_planet_104
          · skip
            obtain ⟨k, hk1, hk2, hxk⟩ := nI_of_range (by decide) c_46.1 c_46.2
            subst hxk
            have hivk := iv_nI (i := k) (by omega)
            have hpl9 : plG (nI a) (nI b) (nI d) (nI k) := ⟨c_7, ⟨c_18.1, by rw [nI_toInt (n := a) (by omega)]; exact c_18.2⟩, c_28, by rw [nI_toInt (n := a) (by omega), nI_toInt (n := d) (by omega)]; omega, c_46⟩
            refine lv_iconst (v := nI 1) hx hb dX7_planet_49 (by decide) ?_
            refine lv_goto (tgt := 54) hx hb dX7_planet_50 (by decide) ?_
            refine lv_istore (lv' := [(6, .int (nI 1)), (0, .ref ((ma 0))), (1, .int x), (2, .int (nI a)), (3, .int (nI b)), (4, .int (nI d)), (5, .int (nI k))]) hx hb dX7_planet_54 hl (by decide) rfl (fun ls hl => ?_)
            refine lv_aload_n hx hb dX7_planet_56 rfl (lv_at hl 1 rfl) ?_
            refine lv_aload_n hx hb dX7_planet_57 rfl (lv_at hl 1 rfl) ?_
            refine lv_iload_n hx hb dX7_planet_58 rfl (lv_at hl 2 rfl) ?_
            refine z_fcalli (z_runV hC hM (c_isStar hV hMI x) zy_X7_isStar zm_X7_87 (hmm 0 (by decide)) hg0 zcl_X7 rfl rfl rfl hl.1 (Nat.le_of_ble_eq_true rfl) ⟨by decide, by decide⟩ ⟨by decide, by decide⟩ dX7_planet_59) hM (fun H locs hM => ?_)
            refine z_if_neB (tgt := 69) hx hb dX7_planet_62 (by decide) (fun c_62 => ?_) (fun c_62 => ?_)
            · skip
              obtain ⟨i, hi0, hi9, hxi⟩ := nI_of_range (Int.le_refl 0) c_62.1 c_62.2
              subst hxi
              have hi : i < ns A := by omega
              have hiv := iv_nI (i := i) (by omega)
              obtain ⟨w1, w2, w3, w4, w5, w6, w7, w8⟩ := hvS i hi
              have hkl := fN_le (gk A i) 1000
              refine lv_iload hx hb dX7_planet_69 (lv_at hl 0 rfl) ?_
              refine z_if_ne (tgt := 78) hx hb (nI_toInt (by decide)) dX7_planet_71 (by decide) (fun c_71 => ?_) (fun c_71 => ?_)
              · refine lv_aload_n hx hb dX7_planet_78 rfl (lv_at hl 1 rfl) ?_
                refine z_get hC hM (hmm 0 (by decide)) hg0 zcl_X7 (by decide) zl_X7_13 rfl dX7_planet_79 ?_
                refine lv_iload_n hx hb dX7_planet_82 rfl (lv_at hl 2 rfl) ?_
                refine z_iald hC hM (hmm 3 (by decide)) hg3 (by omega) (by omega) dX7_planet_83 ?_
                refine lv_iconst (v := nI 4) hx hb dX7_planet_84 (by decide) ?_
                refine z_icmp_ne (tgt := 92) hx hb (nI_toInt (by omega)) (nI_toInt (by decide)) dX7_planet_85 (by decide) (fun c_85 => ?_) (fun c_85 => ?_)
                · refine lv_iconst (v := nI 0) hx hb dX7_planet_92 (by decide) ?_
                  refine z_put (fs' := [.int (nI 0), .int (nI (ns A)), .ref ((ma 2)), .ref ((ma 3)), .ref ((ma 4)), .ref ((ma 5)), .ref ((ma 6)), .ref ((ma 7)), .ref ((ma 8)), .ref ((ma 9)), .ref ((ma 10)), .ref ((ma 11)), .ref ((ma 12)), .ref ((ma 13)), .ref ((ma 14)), .ref ((ma 15)), .ref ((ma 16)), .double bb, .int bf, .int (nI (nw A)), .ref ((ma 20)), .ref ((ma 21)), .ref ((ma 22)), .ref ((ma 23)), .int (nI (np A)), .ref ((ma 25)), .ref ((ma 26))]) hC hM (hmm 0 (by decide)) hg0 zcl_X7 (by decide) zl_X7_75 rfl rfl (by rfl) (Nat.le_of_ble_eq_true rfl) rfl dX7_planet_93 (fun H locs hM => ?_)
                  obtain ⟨f_71, ef_71⟩ : ∃ z9, z9 = va_up f ((ma 0)) (eS 8 [.int (nI 0), .int (nI (ns A)), .ref ((ma 2)), .ref ((ma 3)), .ref ((ma 4)), .ref ((ma 5)), .ref ((ma 6)), .ref ((ma 7)), .ref ((ma 8)), .ref ((ma 9)), .ref ((ma 10)), .ref ((ma 11)), .ref ((ma 12)), .ref ((ma 13)), .ref ((ma 14)), .ref ((ma 15)), .ref ((ma 16)), .double bb, .int bf, .int (nI (nw A)), .ref ((ma 20)), .ref ((ma 21)), .ref ((ma 22)), .ref ((ma 23)), .int (nI (np A)), .ref ((ma 25)), .ref ((ma 26))]) := ⟨_, rfl⟩
                  rw [← ef_71] at hM
                  have hF_72 : f_71 ((ma 0)) = eS 8 [.int (nI 0), .int (nI (ns A)), .ref ((ma 2)), .ref ((ma 3)), .ref ((ma 4)), .ref ((ma 5)), .ref ((ma 6)), .ref ((ma 7)), .ref ((ma 8)), .ref ((ma 9)), .ref ((ma 10)), .ref ((ma 11)), .ref ((ma 12)), .ref ((ma 13)), .ref ((ma 14)), .ref ((ma 15)), .ref ((ma 16)), .double bb, .int bf, .int (nI (nw A)), .ref ((ma 20)), .ref ((ma 21)), .ref ((ma 22)), .ref ((ma 23)), .int (nI (np A)), .ref ((ma 25)), .ref ((ma 26))] := by rw [ef_71]; exact va_up_self _ _ _
                  have hF_73 : f_71 ((ma 3)) = eI K 6 (fun j => nI ((A.1 3) j)) := by rw [ef_71]; exact (va_up_ne _ _ (mne hmi (by decide) (by decide) (show 3 ≠ 0 by decide))).trans hg3
                  have hF_74 : f_71 ((ma 4)) = eI K 24 (fun j => nI ((A.1 4) j)) := by rw [ef_71]; exact (va_up_ne _ _ (mne hmi (by decide) (by decide) (show 4 ≠ 0 by decide))).trans hg4
                  have hF_75 : f_71 ((ma 5)) = eI K 24 (fun j => nI ((A.1 5) j)) := by rw [ef_71]; exact (va_up_ne _ _ (mne hmi (by decide) (by decide) (show 5 ≠ 0 by decide))).trans hg5
                  have hF_76 : f_71 ((ma 6)) = eI K 24 (fun j => nI ((A.1 6) j)) := by rw [ef_71]; exact (va_up_ne _ _ (mne hmi (by decide) (by decide) (show 6 ≠ 0 by decide))).trans hg6
                  have hF_77 : f_71 ((ma 7)) = eI K 24 (fun j => nI ((A.1 7) j)) := by rw [ef_71]; exact (va_up_ne _ _ (mne hmi (by decide) (by decide) (show 7 ≠ 0 by decide))).trans hg7
                  refine lv_aload_n hx hb dX7_planet_96 rfl (lv_at hl 1 rfl) ?_
                  refine z_get hC hM (hmm 0 (by decide)) hF_72 zcl_X7 (by decide) zl_X7_75 rfl dX7_planet_97 ?_
                  refine z_if_le (tgt := 105) hx hb (nI_toInt (by decide)) dX7_planet_100 (by decide) (fun c_100 => ?_) (fun c_100 => ?_)
                  · refine lv_iconst (v := nI 4) hx hb dX7_planet_105 (by decide) ?_
                    refine lv_iload_n hx hb dX7_planet_106 rfl (lv_at hl 2 rfl) ?_
                    refine z_imul hx hb dX7_planet_107 ?_
                    refine lv_aload_n hx hb dX7_planet_108 rfl (lv_at hl 1 rfl) ?_
                    refine z_get hC hM (hmm 0 (by decide)) hF_72 zcl_X7 (by decide) zl_X7_13 rfl dX7_planet_109 ?_
                    refine lv_iload_n hx hb dX7_planet_112 rfl (lv_at hl 2 rfl) ?_
                    refine z_iald hC hM (hmm 3 (by decide)) hF_73 (by omega) (by omega) dX7_planet_113 ?_
                    refine z_iadd hx hb dX7_planet_114 ?_
                    refine lv_istore (lv' := [(7, .int (nI ((4 * i) + ((A.1 3) i)))), (6, .int (nI 1)), (0, .ref ((ma 0))), (1, .int (nI i)), (2, .int (nI a)), (3, .int (nI b)), (4, .int (nI d)), (5, .int (nI k))]) hx hb dX7_planet_115 hl (by decide) rfl (fun ls hl => ?_)
                    refine lv_aload_n hx hb dX7_planet_117 rfl (lv_at hl 2 rfl) ?_
                    refine z_get hC hM (hmm 0 (by decide)) hF_72 zcl_X7 (by decide) zl_X7_16 rfl dX7_planet_118 ?_
                    refine lv_iload hx hb dX7_planet_121 (lv_at hl 0 rfl) ?_
                    refine lv_iload_n hx hb dX7_planet_123 rfl (lv_at hl 4 rfl) ?_
                    refine z_iast hC hM (hmm 4 (by decide)) hF_74 (by omega) (by omega) dX7_planet_124 (fun H locs hM => ?_)
                    rw [up_nI] at hM
                    obtain ⟨f_78, ef_78⟩ : ∃ z9, z9 = va_up f_71 ((ma 4)) (eI K 24 (fun j => nI ((va_up (A.1 4) ((4 * i) + ((A.1 3) i)) a) j))) := ⟨_, rfl⟩
                    rw [← ef_78] at hM
                    have hF_79 : f_78 ((ma 0)) = eS 8 [.int (nI 0), .int (nI (ns A)), .ref ((ma 2)), .ref ((ma 3)), .ref ((ma 4)), .ref ((ma 5)), .ref ((ma 6)), .ref ((ma 7)), .ref ((ma 8)), .ref ((ma 9)), .ref ((ma 10)), .ref ((ma 11)), .ref ((ma 12)), .ref ((ma 13)), .ref ((ma 14)), .ref ((ma 15)), .ref ((ma 16)), .double bb, .int bf, .int (nI (nw A)), .ref ((ma 20)), .ref ((ma 21)), .ref ((ma 22)), .ref ((ma 23)), .int (nI (np A)), .ref ((ma 25)), .ref ((ma 26))] := by rw [ef_78]; exact (va_up_ne _ _ (mne hmi (by decide) (by decide) (show 0 ≠ 4 by decide))).trans hF_72
                    have hF_80 : f_78 ((ma 3)) = eI K 6 (fun j => nI ((A.1 3) j)) := by rw [ef_78]; exact (va_up_ne _ _ (mne hmi (by decide) (by decide) (show 3 ≠ 4 by decide))).trans hF_73
                    have hF_81 : f_78 ((ma 4)) = eI K 24 (fun j => nI ((va_up (A.1 4) ((4 * i) + ((A.1 3) i)) a) j)) := by rw [ef_78]; exact va_up_self _ _ _
                    have hF_82 : f_78 ((ma 5)) = eI K 24 (fun j => nI ((A.1 5) j)) := by rw [ef_78]; exact (va_up_ne _ _ (mne hmi (by decide) (by decide) (show 5 ≠ 4 by decide))).trans hF_75
                    have hF_83 : f_78 ((ma 6)) = eI K 24 (fun j => nI ((A.1 6) j)) := by rw [ef_78]; exact (va_up_ne _ _ (mne hmi (by decide) (by decide) (show 6 ≠ 4 by decide))).trans hF_76
                    have hF_84 : f_78 ((ma 7)) = eI K 24 (fun j => nI ((A.1 7) j)) := by rw [ef_78]; exact (va_up_ne _ _ (mne hmi (by decide) (by decide) (show 7 ≠ 4 by decide))).trans hF_77
                    refine lv_aload_n hx hb dX7_planet_125 rfl (lv_at hl 2 rfl) ?_
                    refine z_get hC hM (hmm 0 (by decide)) hF_79 zcl_X7 (by decide) zl_X7_19 rfl dX7_planet_126 ?_
                    refine lv_iload hx hb dX7_planet_129 (lv_at hl 0 rfl) ?_
                    refine lv_iload_n hx hb dX7_planet_131 rfl (lv_at hl 5 rfl) ?_
                    refine z_iast hC hM (hmm 5 (by decide)) hF_82 (by omega) (by omega) dX7_planet_132 (fun H locs hM => ?_)
                    rw [up_nI] at hM
                    obtain ⟨f_85, ef_85⟩ : ∃ z9, z9 = va_up f_78 ((ma 5)) (eI K 24 (fun j => nI ((va_up (A.1 5) ((4 * i) + ((A.1 3) i)) b) j))) := ⟨_, rfl⟩
                    rw [← ef_85] at hM
                    have hF_86 : f_85 ((ma 0)) = eS 8 [.int (nI 0), .int (nI (ns A)), .ref ((ma 2)), .ref ((ma 3)), .ref ((ma 4)), .ref ((ma 5)), .ref ((ma 6)), .ref ((ma 7)), .ref ((ma 8)), .ref ((ma 9)), .ref ((ma 10)), .ref ((ma 11)), .ref ((ma 12)), .ref ((ma 13)), .ref ((ma 14)), .ref ((ma 15)), .ref ((ma 16)), .double bb, .int bf, .int (nI (nw A)), .ref ((ma 20)), .ref ((ma 21)), .ref ((ma 22)), .ref ((ma 23)), .int (nI (np A)), .ref ((ma 25)), .ref ((ma 26))] := by rw [ef_85]; exact (va_up_ne _ _ (mne hmi (by decide) (by decide) (show 0 ≠ 5 by decide))).trans hF_79
                    have hF_87 : f_85 ((ma 3)) = eI K 6 (fun j => nI ((A.1 3) j)) := by rw [ef_85]; exact (va_up_ne _ _ (mne hmi (by decide) (by decide) (show 3 ≠ 5 by decide))).trans hF_80
                    have hF_88 : f_85 ((ma 4)) = eI K 24 (fun j => nI ((va_up (A.1 4) ((4 * i) + ((A.1 3) i)) a) j)) := by rw [ef_85]; exact (va_up_ne _ _ (mne hmi (by decide) (by decide) (show 4 ≠ 5 by decide))).trans hF_81
                    have hF_89 : f_85 ((ma 5)) = eI K 24 (fun j => nI ((va_up (A.1 5) ((4 * i) + ((A.1 3) i)) b) j)) := by rw [ef_85]; exact va_up_self _ _ _
                    have hF_90 : f_85 ((ma 6)) = eI K 24 (fun j => nI ((A.1 6) j)) := by rw [ef_85]; exact (va_up_ne _ _ (mne hmi (by decide) (by decide) (show 6 ≠ 5 by decide))).trans hF_83
                    have hF_91 : f_85 ((ma 7)) = eI K 24 (fun j => nI ((A.1 7) j)) := by rw [ef_85]; exact (va_up_ne _ _ (mne hmi (by decide) (by decide) (show 7 ≠ 5 by decide))).trans hF_84
                    refine lv_aload_n hx hb dX7_planet_133 rfl (lv_at hl 2 rfl) ?_
                    refine z_get hC hM (hmm 0 (by decide)) hF_86 zcl_X7 (by decide) zl_X7_22 rfl dX7_planet_134 ?_
                    refine lv_iload hx hb dX7_planet_137 (lv_at hl 0 rfl) ?_
                    refine lv_iload hx hb dX7_planet_139 (lv_at hl 6 rfl) ?_
                    refine z_iast hC hM (hmm 6 (by decide)) hF_90 (by omega) (by omega) dX7_planet_141 (fun H locs hM => ?_)
                    rw [up_nI] at hM
                    obtain ⟨f_92, ef_92⟩ : ∃ z9, z9 = va_up f_85 ((ma 6)) (eI K 24 (fun j => nI ((va_up (A.1 6) ((4 * i) + ((A.1 3) i)) d) j))) := ⟨_, rfl⟩
                    rw [← ef_92] at hM
                    have hF_93 : f_92 ((ma 0)) = eS 8 [.int (nI 0), .int (nI (ns A)), .ref ((ma 2)), .ref ((ma 3)), .ref ((ma 4)), .ref ((ma 5)), .ref ((ma 6)), .ref ((ma 7)), .ref ((ma 8)), .ref ((ma 9)), .ref ((ma 10)), .ref ((ma 11)), .ref ((ma 12)), .ref ((ma 13)), .ref ((ma 14)), .ref ((ma 15)), .ref ((ma 16)), .double bb, .int bf, .int (nI (nw A)), .ref ((ma 20)), .ref ((ma 21)), .ref ((ma 22)), .ref ((ma 23)), .int (nI (np A)), .ref ((ma 25)), .ref ((ma 26))] := by rw [ef_92]; exact (va_up_ne _ _ (mne hmi (by decide) (by decide) (show 0 ≠ 6 by decide))).trans hF_86
                    have hF_94 : f_92 ((ma 3)) = eI K 6 (fun j => nI ((A.1 3) j)) := by rw [ef_92]; exact (va_up_ne _ _ (mne hmi (by decide) (by decide) (show 3 ≠ 6 by decide))).trans hF_87
                    have hF_95 : f_92 ((ma 4)) = eI K 24 (fun j => nI ((va_up (A.1 4) ((4 * i) + ((A.1 3) i)) a) j)) := by rw [ef_92]; exact (va_up_ne _ _ (mne hmi (by decide) (by decide) (show 4 ≠ 6 by decide))).trans hF_88
                    have hF_96 : f_92 ((ma 5)) = eI K 24 (fun j => nI ((va_up (A.1 5) ((4 * i) + ((A.1 3) i)) b) j)) := by rw [ef_92]; exact (va_up_ne _ _ (mne hmi (by decide) (by decide) (show 5 ≠ 6 by decide))).trans hF_89
                    have hF_97 : f_92 ((ma 6)) = eI K 24 (fun j => nI ((va_up (A.1 6) ((4 * i) + ((A.1 3) i)) d) j)) := by rw [ef_92]; exact va_up_self _ _ _
                    have hF_98 : f_92 ((ma 7)) = eI K 24 (fun j => nI ((A.1 7) j)) := by rw [ef_92]; exact (va_up_ne _ _ (mne hmi (by decide) (by decide) (show 7 ≠ 6 by decide))).trans hF_91
                    refine lv_aload_n hx hb dX7_planet_142 rfl (lv_at hl 2 rfl) ?_
                    refine z_get hC hM (hmm 0 (by decide)) hF_93 zcl_X7 (by decide) zl_X7_25 rfl dX7_planet_143 ?_
                    refine lv_iload hx hb dX7_planet_146 (lv_at hl 0 rfl) ?_
                    refine lv_iload hx hb dX7_planet_148 (lv_at hl 7 rfl) ?_
                    refine z_iast hC hM (hmm 7 (by decide)) hF_98 (by omega) (by omega) dX7_planet_150 (fun H locs hM => ?_)
                    rw [up_nI] at hM
                    obtain ⟨f_99, ef_99⟩ : ∃ z9, z9 = va_up f_92 ((ma 7)) (eI K 24 (fun j => nI ((va_up (A.1 7) ((4 * i) + ((A.1 3) i)) k) j))) := ⟨_, rfl⟩
                    rw [← ef_99] at hM
                    have hF_100 : f_99 ((ma 0)) = eS 8 [.int (nI 0), .int (nI (ns A)), .ref ((ma 2)), .ref ((ma 3)), .ref ((ma 4)), .ref ((ma 5)), .ref ((ma 6)), .ref ((ma 7)), .ref ((ma 8)), .ref ((ma 9)), .ref ((ma 10)), .ref ((ma 11)), .ref ((ma 12)), .ref ((ma 13)), .ref ((ma 14)), .ref ((ma 15)), .ref ((ma 16)), .double bb, .int bf, .int (nI (nw A)), .ref ((ma 20)), .ref ((ma 21)), .ref ((ma 22)), .ref ((ma 23)), .int (nI (np A)), .ref ((ma 25)), .ref ((ma 26))] := by rw [ef_99]; exact (va_up_ne _ _ (mne hmi (by decide) (by decide) (show 0 ≠ 7 by decide))).trans hF_93
                    have hF_101 : f_99 ((ma 3)) = eI K 6 (fun j => nI ((A.1 3) j)) := by rw [ef_99]; exact (va_up_ne _ _ (mne hmi (by decide) (by decide) (show 3 ≠ 7 by decide))).trans hF_94
                    have hF_102 : f_99 ((ma 4)) = eI K 24 (fun j => nI ((va_up (A.1 4) ((4 * i) + ((A.1 3) i)) a) j)) := by rw [ef_99]; exact (va_up_ne _ _ (mne hmi (by decide) (by decide) (show 4 ≠ 7 by decide))).trans hF_95
                    have hF_103 : f_99 ((ma 5)) = eI K 24 (fun j => nI ((va_up (A.1 5) ((4 * i) + ((A.1 3) i)) b) j)) := by rw [ef_99]; exact (va_up_ne _ _ (mne hmi (by decide) (by decide) (show 5 ≠ 7 by decide))).trans hF_96
                    have hF_104 : f_99 ((ma 6)) = eI K 24 (fun j => nI ((va_up (A.1 6) ((4 * i) + ((A.1 3) i)) d) j)) := by rw [ef_99]; exact (va_up_ne _ _ (mne hmi (by decide) (by decide) (show 6 ≠ 7 by decide))).trans hF_97
                    have hF_105 : f_99 ((ma 7)) = eI K 24 (fun j => nI ((va_up (A.1 7) ((4 * i) + ((A.1 3) i)) k) j)) := by rw [ef_99]; exact va_up_self _ _ _
                    refine lv_aload_n hx hb dX7_planet_151 rfl (lv_at hl 2 rfl) ?_
                    refine z_get hC hM (hmm 0 (by decide)) hF_100 zcl_X7 (by decide) zl_X7_13 rfl dX7_planet_152 ?_
                    refine lv_iload_n hx hb dX7_planet_155 rfl (lv_at hl 3 rfl) ?_
                    refine lv_dup2_11 hx hb dX7_planet_156 rfl rfl ?_
                    refine z_iald hC hM (hmm 3 (by decide)) hF_101 (by omega) (by omega) dX7_planet_157 ?_
                    refine lv_iconst (v := nI 1) hx hb dX7_planet_158 (by decide) ?_
                    refine z_iadd hx hb dX7_planet_159 ?_
                    refine z_iast hC hM (hmm 3 (by decide)) hF_101 (by omega) (by omega) dX7_planet_160 (fun H locs hM => ?_)
                    rw [up_nI] at hM
                    obtain ⟨f_106, ef_106⟩ : ∃ z9, z9 = va_up f_99 ((ma 3)) (eI K 6 (fun j => nI ((va_up (A.1 3) i (((A.1 3) i) + 1)) j))) := ⟨_, rfl⟩
                    rw [← ef_106] at hM
                    have hF_107 : f_106 ((ma 0)) = eS 8 [.int (nI 0), .int (nI (ns A)), .ref ((ma 2)), .ref ((ma 3)), .ref ((ma 4)), .ref ((ma 5)), .ref ((ma 6)), .ref ((ma 7)), .ref ((ma 8)), .ref ((ma 9)), .ref ((ma 10)), .ref ((ma 11)), .ref ((ma 12)), .ref ((ma 13)), .ref ((ma 14)), .ref ((ma 15)), .ref ((ma 16)), .double bb, .int bf, .int (nI (nw A)), .ref ((ma 20)), .ref ((ma 21)), .ref ((ma 22)), .ref ((ma 23)), .int (nI (np A)), .ref ((ma 25)), .ref ((ma 26))] := by rw [ef_106]; exact (va_up_ne _ _ (mne hmi (by decide) (by decide) (show 0 ≠ 3 by decide))).trans hF_100
                    have hF_108 : f_106 ((ma 3)) = eI K 6 (fun j => nI ((va_up (A.1 3) i (((A.1 3) i) + 1)) j)) := by rw [ef_106]; exact va_up_self _ _ _
                    have hF_109 : f_106 ((ma 4)) = eI K 24 (fun j => nI ((va_up (A.1 4) ((4 * i) + ((A.1 3) i)) a) j)) := by rw [ef_106]; exact (va_up_ne _ _ (mne hmi (by decide) (by decide) (show 4 ≠ 3 by decide))).trans hF_102
                    have hF_110 : f_106 ((ma 5)) = eI K 24 (fun j => nI ((va_up (A.1 5) ((4 * i) + ((A.1 3) i)) b) j)) := by rw [ef_106]; exact (va_up_ne _ _ (mne hmi (by decide) (by decide) (show 5 ≠ 3 by decide))).trans hF_103
                    have hF_111 : f_106 ((ma 6)) = eI K 24 (fun j => nI ((va_up (A.1 6) ((4 * i) + ((A.1 3) i)) d) j)) := by rw [ef_106]; exact (va_up_ne _ _ (mne hmi (by decide) (by decide) (show 6 ≠ 3 by decide))).trans hF_104
                    have hF_112 : f_106 ((ma 7)) = eI K 24 (fun j => nI ((va_up (A.1 7) ((4 * i) + ((A.1 3) i)) k) j)) := by rw [ef_106]; exact (va_up_ne _ _ (mne hmi (by decide) (by decide) (show 7 ≠ 3 by decide))).trans hF_105
                    refine lv_aload_n hx hb dX7_planet_161 rfl (lv_at hl 2 rfl) ?_
                    refine z_get hC hM (hmm 0 (by decide)) hF_107 zcl_X7 (by decide) zl_X7_13 rfl dX7_planet_162 ?_
                    refine lv_iload_n hx hb dX7_planet_165 rfl (lv_at hl 3 rfl) ?_
                    refine z_iald hC hM (hmm 3 (by decide)) hF_108 (by omega) (by omega) dX7_planet_166 ?_
                    have hfu9 : ∀ k, mk k → k ≠ 0 → k ≠ 3 → k ≠ 4 → k ≠ 5 → k ≠ 6 → k ≠ 7 → f_106 (ma k) = f (ma k) := fun k hk n0 n3 n4 n5 n6 n7 => by
                      have m0 := mne hmi hk (show mk 0 by decide) n0
                      have m3 := mne hmi hk (show mk 3 by decide) n3
                      have m4 := mne hmi hk (show mk 4 by decide) n4
                      have m5 := mne hmi hk (show mk 5 by decide) n5
                      have m6 := mne hmi hk (show mk 6 by decide) n6
                      have m7 := mne hmi hk (show mk 7 by decide) n7
                      rw [ef_106, ef_99, ef_92, ef_85, ef_78, ef_71]
                      simp only [va_up, m0, m3, m4, m5, m6, m7, if_false]
                    have hfr9 : ∀ q, (∀ k, mk k → q ≠ ma k) → f_106 q = f q := fun q hq => by
                      have m0 := hq 0 (by decide)
                      have m3 := hq 3 (by decide)
                      have m4 := hq 4 (by decide)
                      have m5 := hq 5 (by decide)
                      have m6 := hq 6 (by decide)
                      have m7 := hq 7 (by decide)
                      rw [ef_106, ef_99, ef_92, ef_85, ef_78, ef_71]
                      simp only [va_up, m0, m3, m4, m5, m6, m7, if_false]
                    have hMR9 : MR K A ma L f (plA A i a b d k) (nI 0) L f_106 := mr_ok (x' := (sg, cg, bb, bf)) (op' := op) hmm hmi hop (mk_all hF_107 ((hfu9 2 (by decide) (by decide) (by decide) (by decide) (by decide) (by decide) (by decide)).trans (hmc 2 (by decide))) hF_108 hF_109 hF_110 hF_111 hF_112 ((hfu9 8 (by decide) (by decide) (by decide) (by decide) (by decide) (by decide) (by decide)).trans (hmc 8 (by decide))) ((hfu9 9 (by decide) (by decide) (by decide) (by decide) (by decide) (by decide) (by decide)).trans (hmc 9 (by decide))) ((hfu9 10 (by decide) (by decide) (by decide) (by decide) (by decide) (by decide) (by decide)).trans (hmc 10 (by decide))) ((hfu9 11 (by decide) (by decide) (by decide) (by decide) (by decide) (by decide) (by decide)).trans (hmc 11 (by decide))) ((hfu9 12 (by decide) (by decide) (by decide) (by decide) (by decide) (by decide) (by decide)).trans (hmc 12 (by decide))) ((hfu9 13 (by decide) (by decide) (by decide) (by decide) (by decide) (by decide) (by decide)).trans (hmc 13 (by decide))) ((hfu9 14 (by decide) (by decide) (by decide) (by decide) (by decide) (by decide) (by decide)).trans (hmc 14 (by decide))) ((hfu9 15 (by decide) (by decide) (by decide) (by decide) (by decide) (by decide) (by decide)).trans (hmc 15 (by decide))) ((hfu9 16 (by decide) (by decide) (by decide) (by decide) (by decide) (by decide) (by decide)).trans (hmc 16 (by decide))) ((hfu9 20 (by decide) (by decide) (by decide) (by decide) (by decide) (by decide) (by decide)).trans (hmc 20 (by decide))) ((hfu9 21 (by decide) (by decide) (by decide) (by decide) (by decide) (by decide) (by decide)).trans (hmc 21 (by decide))) ((hfu9 22 (by decide) (by decide) (by decide) (by decide) (by decide) (by decide) (by decide)).trans (hmc 22 (by decide))) ((hfu9 23 (by decide) (by decide) (by decide) (by decide) (by decide) (by decide) (by decide)).trans (hmc 23 (by decide))) ((hfu9 25 (by decide) (by decide) (by decide) (by decide) (by decide) (by decide) (by decide)).trans (hmc 25 (by decide))) ((hfu9 26 (by decide) (by decide) (by decide) (by decide) (by decide) (by decide) (by decide)).trans (hmc 26 (by decide)))) hfr9
                    rw [← hQ]
                    exact z_iret hC hM hr hlk rfl (by decide) (by decide) (mr_0 (kl0 c_62 hpl9 (by rw [hiv]; omega)) (by rw [hiv]; exact congrArg nI (va_up_self _ _ _)) (by rw [a_planet, if_pos (kl0 c_62 hpl9 (by rw [hiv]; omega)), hiv, hiva, hivb, hivd, hivk]) hMR9) dX7_planet_167
                  · exact absurd c_100 (by omega)
                · refine lv_iconst (v := nI 3) hx hb dX7_planet_88 (by decide) ?_
                  refine lv_goto (tgt := 93) hx hb dX7_planet_89 (by decide) ?_
                  refine z_put (fs' := [.int (nI 3), .int (nI (ns A)), .ref ((ma 2)), .ref ((ma 3)), .ref ((ma 4)), .ref ((ma 5)), .ref ((ma 6)), .ref ((ma 7)), .ref ((ma 8)), .ref ((ma 9)), .ref ((ma 10)), .ref ((ma 11)), .ref ((ma 12)), .ref ((ma 13)), .ref ((ma 14)), .ref ((ma 15)), .ref ((ma 16)), .double bb, .int bf, .int (nI (nw A)), .ref ((ma 20)), .ref ((ma 21)), .ref ((ma 22)), .ref ((ma 23)), .int (nI (np A)), .ref ((ma 25)), .ref ((ma 26))]) hC hM (hmm 0 (by decide)) hg0 zcl_X7 (by decide) zl_X7_75 rfl rfl (by rfl) (Nat.le_of_ble_eq_true rfl) rfl dX7_planet_93 (fun H locs hM => ?_)
                  obtain ⟨f_113, ef_113⟩ : ∃ z9, z9 = va_up f ((ma 0)) (eS 8 [.int (nI 3), .int (nI (ns A)), .ref ((ma 2)), .ref ((ma 3)), .ref ((ma 4)), .ref ((ma 5)), .ref ((ma 6)), .ref ((ma 7)), .ref ((ma 8)), .ref ((ma 9)), .ref ((ma 10)), .ref ((ma 11)), .ref ((ma 12)), .ref ((ma 13)), .ref ((ma 14)), .ref ((ma 15)), .ref ((ma 16)), .double bb, .int bf, .int (nI (nw A)), .ref ((ma 20)), .ref ((ma 21)), .ref ((ma 22)), .ref ((ma 23)), .int (nI (np A)), .ref ((ma 25)), .ref ((ma 26))]) := ⟨_, rfl⟩
                  rw [← ef_113] at hM
                  have hF_114 : f_113 ((ma 0)) = eS 8 [.int (nI 3), .int (nI (ns A)), .ref ((ma 2)), .ref ((ma 3)), .ref ((ma 4)), .ref ((ma 5)), .ref ((ma 6)), .ref ((ma 7)), .ref ((ma 8)), .ref ((ma 9)), .ref ((ma 10)), .ref ((ma 11)), .ref ((ma 12)), .ref ((ma 13)), .ref ((ma 14)), .ref ((ma 15)), .ref ((ma 16)), .double bb, .int bf, .int (nI (nw A)), .ref ((ma 20)), .ref ((ma 21)), .ref ((ma 22)), .ref ((ma 23)), .int (nI (np A)), .ref ((ma 25)), .ref ((ma 26))] := by rw [ef_113]; exact va_up_self _ _ _
                  have hF_115 : f_113 ((ma 3)) = eI K 6 (fun j => nI ((A.1 3) j)) := by rw [ef_113]; exact (va_up_ne _ _ (mne hmi (by decide) (by decide) (show 3 ≠ 0 by decide))).trans hg3
                  have hF_116 : f_113 ((ma 4)) = eI K 24 (fun j => nI ((A.1 4) j)) := by rw [ef_113]; exact (va_up_ne _ _ (mne hmi (by decide) (by decide) (show 4 ≠ 0 by decide))).trans hg4
                  have hF_117 : f_113 ((ma 5)) = eI K 24 (fun j => nI ((A.1 5) j)) := by rw [ef_113]; exact (va_up_ne _ _ (mne hmi (by decide) (by decide) (show 5 ≠ 0 by decide))).trans hg5
                  have hF_118 : f_113 ((ma 6)) = eI K 24 (fun j => nI ((A.1 6) j)) := by rw [ef_113]; exact (va_up_ne _ _ (mne hmi (by decide) (by decide) (show 6 ≠ 0 by decide))).trans hg6
                  have hF_119 : f_113 ((ma 7)) = eI K 24 (fun j => nI ((A.1 7) j)) := by rw [ef_113]; exact (va_up_ne _ _ (mne hmi (by decide) (by decide) (show 7 ≠ 0 by decide))).trans hg7
                  refine lv_aload_n hx hb dX7_planet_96 rfl (lv_at hl 1 rfl) ?_
                  refine z_get hC hM (hmm 0 (by decide)) hF_114 zcl_X7 (by decide) zl_X7_75 rfl dX7_planet_97 ?_
                  refine z_if_le (tgt := 105) hx hb (nI_toInt (by decide)) dX7_planet_100 (by decide) (fun c_100 => ?_) (fun c_100 => ?_)
                  · exact absurd c_100 (by omega)
                  · refine lv_iconst (v := nI 0) hx hb dX7_planet_103 (by decide) ?_
                    rw [← hQ]
                    exact z_iret hC hM hr hlk rfl (by decide) (by decide) (mr_x (kl3 c_62 hpl9 (by rw [hiv]; omega)) (fun z => if_neg z) (mr_t hmm hmi hop hmc hF_114 (fun q h9 => by rw [ef_113]; simp only [va_up, h9, if_false])) (by decide)) dX7_planet_104
              · exact absurd c_71 (by omega)
            · refine lv_iconst (v := nI 1) hx hb dX7_planet_65 (by decide) ?_
              refine lv_goto (tgt := 93) hx hb dX7_planet_66 (by decide) ?_
              refine z_put (fs' := [.int (nI 1), .int (nI (ns A)), .ref ((ma 2)), .ref ((ma 3)), .ref ((ma 4)), .ref ((ma 5)), .ref ((ma 6)), .ref ((ma 7)), .ref ((ma 8)), .ref ((ma 9)), .ref ((ma 10)), .ref ((ma 11)), .ref ((ma 12)), .ref ((ma 13)), .ref ((ma 14)), .ref ((ma 15)), .ref ((ma 16)), .double bb, .int bf, .int (nI (nw A)), .ref ((ma 20)), .ref ((ma 21)), .ref ((ma 22)), .ref ((ma 23)), .int (nI (np A)), .ref ((ma 25)), .ref ((ma 26))]) hC hM (hmm 0 (by decide)) hg0 zcl_X7 (by decide) zl_X7_75 rfl rfl (by rfl) (Nat.le_of_ble_eq_true rfl) rfl dX7_planet_93 (fun H locs hM => ?_)
              obtain ⟨f_120, ef_120⟩ : ∃ z9, z9 = va_up f ((ma 0)) (eS 8 [.int (nI 1), .int (nI (ns A)), .ref ((ma 2)), .ref ((ma 3)), .ref ((ma 4)), .ref ((ma 5)), .ref ((ma 6)), .ref ((ma 7)), .ref ((ma 8)), .ref ((ma 9)), .ref ((ma 10)), .ref ((ma 11)), .ref ((ma 12)), .ref ((ma 13)), .ref ((ma 14)), .ref ((ma 15)), .ref ((ma 16)), .double bb, .int bf, .int (nI (nw A)), .ref ((ma 20)), .ref ((ma 21)), .ref ((ma 22)), .ref ((ma 23)), .int (nI (np A)), .ref ((ma 25)), .ref ((ma 26))]) := ⟨_, rfl⟩
              rw [← ef_120] at hM
              have hF_121 : f_120 ((ma 0)) = eS 8 [.int (nI 1), .int (nI (ns A)), .ref ((ma 2)), .ref ((ma 3)), .ref ((ma 4)), .ref ((ma 5)), .ref ((ma 6)), .ref ((ma 7)), .ref ((ma 8)), .ref ((ma 9)), .ref ((ma 10)), .ref ((ma 11)), .ref ((ma 12)), .ref ((ma 13)), .ref ((ma 14)), .ref ((ma 15)), .ref ((ma 16)), .double bb, .int bf, .int (nI (nw A)), .ref ((ma 20)), .ref ((ma 21)), .ref ((ma 22)), .ref ((ma 23)), .int (nI (np A)), .ref ((ma 25)), .ref ((ma 26))] := by rw [ef_120]; exact va_up_self _ _ _
              have hF_122 : f_120 ((ma 3)) = eI K 6 (fun j => nI ((A.1 3) j)) := by rw [ef_120]; exact (va_up_ne _ _ (mne hmi (by decide) (by decide) (show 3 ≠ 0 by decide))).trans hg3
              have hF_123 : f_120 ((ma 4)) = eI K 24 (fun j => nI ((A.1 4) j)) := by rw [ef_120]; exact (va_up_ne _ _ (mne hmi (by decide) (by decide) (show 4 ≠ 0 by decide))).trans hg4
              have hF_124 : f_120 ((ma 5)) = eI K 24 (fun j => nI ((A.1 5) j)) := by rw [ef_120]; exact (va_up_ne _ _ (mne hmi (by decide) (by decide) (show 5 ≠ 0 by decide))).trans hg5
              have hF_125 : f_120 ((ma 6)) = eI K 24 (fun j => nI ((A.1 6) j)) := by rw [ef_120]; exact (va_up_ne _ _ (mne hmi (by decide) (by decide) (show 6 ≠ 0 by decide))).trans hg6
              have hF_126 : f_120 ((ma 7)) = eI K 24 (fun j => nI ((A.1 7) j)) := by rw [ef_120]; exact (va_up_ne _ _ (mne hmi (by decide) (by decide) (show 7 ≠ 0 by decide))).trans hg7
              refine lv_aload_n hx hb dX7_planet_96 rfl (lv_at hl 1 rfl) ?_
              refine z_get hC hM (hmm 0 (by decide)) hF_121 zcl_X7 (by decide) zl_X7_75 rfl dX7_planet_97 ?_
              refine z_if_le (tgt := 105) hx hb (nI_toInt (by decide)) dX7_planet_100 (by decide) (fun c_100 => ?_) (fun c_100 => ?_)
              · exact absurd c_100 (by omega)
              · refine lv_iconst (v := nI 0) hx hb dX7_planet_103 (by decide) ?_
                rw [← hQ]
                exact z_iret hC hM hr hlk rfl (by decide) (by decide) (mr_x (kl1 c_62) (fun z => if_neg z) (mr_t hmm hmi hop hmc hF_121 (fun q h9 => by rw [ef_120]; simp only [va_up, h9, if_false])) (by decide)) dX7_planet_104
set_option maxHeartbeats 400000 in
set_option maxRecDepth 100000 in
theorem m_spots {l : Launch} {base : Nat} {K : zK} {L : List Nat} {f : Nat → va_E} {A : zA} {ma : Nat → Nat} {t : Int32} (hV : VA A) (hMI : MI K L f A ma t) (x y1 y2 : Int32) : zMet l yX7_spots cX7_spots 5 (some .int) (zr 2 0 0 43) base K L f [.ref ((ma 0)), .int x, .int y1, .int y2] (zQi base K (fun r L1 f1 => (k_spots A x y1 y2 = 0 → r = nI (A.1 9 (iv x))) ∧ MR K A ma L f (a_spots A x y1 y2) (nI (k_spots A x y1 y2)) L1 f1)) := by
  have hMI9 := hMI
  obtain ⟨hmm, hmi, ⟨sg, cg, bb, bf⟩, op, hop, hmc⟩ := hMI9
  have hV9 := hV
  obtain ⟨hv1, hv2, hv3, hvS, hvO, hvK, hvK1, hvL, hv11, hvW, hv23, hvW0, hvP⟩ := hV9
  have hg0 : f (ma 0) = eS 8 [.int t, .int (nI (ns A)), .ref ((ma 2)), .ref ((ma 3)), .ref ((ma 4)), .ref ((ma 5)), .ref ((ma 6)), .ref ((ma 7)), .ref ((ma 8)), .ref ((ma 9)), .ref ((ma 10)), .ref ((ma 11)), .ref ((ma 12)), .ref ((ma 13)), .ref ((ma 14)), .ref ((ma 15)), .ref ((ma 16)), .double bb, .int bf, .int (nI (nw A)), .ref ((ma 20)), .ref ((ma 21)), .ref ((ma 22)), .ref ((ma 23)), .int (nI (np A)), .ref ((ma 25)), .ref ((ma 26))] := hmc 0 (by decide)
  have hg8 : f (ma 8) = eI K 6 (fun j => nI ((A.1 8) j)) := hmc 8 (by decide)
  have hg9 : f (ma 9) = eI K 6 (fun j => nI ((A.1 9) j)) := hmc 9 (by decide)
  refine z_met (by decide) (Nat.le_of_ble_eq_true rfl) (fun p e s m below meth c ls hC hM hr hlk hnm hl => ?_)
  have hx := hC.1
  have hb := hC.2.1
  have hml := hC.2.2.1
  have hown := hC.2.2.2.1
  have hts := hC.2.2.2.2.1
  generalize hA : ([.ref ((ma 0)), .int x, .int y1, .int y2] : List Value).toArray = args at hC ⊢
  generalize hQ : MQ _ _ _ _ _ _ _ = Q
  obtain ⟨locs, hlocs⟩ : ∃ z : List Loc, z = [] := ⟨_, rfl⟩
  obtain ⟨H, hH⟩ : ∃ z : Heap, z = s.heap := ⟨_, rfl⟩
  rw [← hlocs, ← hH] at hM ⊢
  have hl : lv_has ls 5 [(0, .ref ((ma 0))), (1, .int x), (2, .int y1), (3, .int y2)] := hl
  refine lv_aload_n hx hb dX7_spots_0 rfl (lv_at hl 0 rfl) ?_
  refine lv_aload_n hx hb dX7_spots_1 rfl (lv_at hl 0 rfl) ?_
  refine lv_iload_n hx hb dX7_spots_2 rfl (lv_at hl 1 rfl) ?_
  refine z_fcalli (z_runV hC hM (c_isStar hV hMI x) zy_X7_isStar zm_X7_87 (hmm 0 (by decide)) hg0 zcl_X7 rfl rfl rfl hl.1 (Nat.le_of_ble_eq_true rfl) ⟨by decide, by decide⟩ ⟨by decide, by decide⟩ dX7_spots_3) hM (fun H locs hM => ?_)
  refine z_if_neB (tgt := 13) hx hb dX7_spots_6 (by decide) (fun c_6 => ?_) (fun c_6 => ?_)
  · skip
    obtain ⟨i, hi0, hi9, hxi⟩ := nI_of_range (Int.le_refl 0) c_6.1 c_6.2
    subst hxi
    have hi : i < ns A := by omega
    have hiv := iv_nI (i := i) (by omega)
    obtain ⟨w1, w2, w3, w4, w5, w6, w7, w8⟩ := hvS i hi
    have hkl := fN_le (gk A i) 1000
    refine lv_iload_n hx hb dX7_spots_13 rfl (lv_at hl 2 rfl) ?_
    refine lv_iconst (v := nI 4) hx hb dX7_spots_14 (by decide) ?_
    refine lv_bipush (v := nI 60) hx hb dX7_spots_15 (by decide) ?_
    refine z_fcalli (z_runS hC hM (c_isIn (x := y1) (ea := 4) (eb := 60) (by decide) (by decide)) zy_X7_isIn zm_X7_82 rfl rfl hl.1 (Nat.le_of_ble_eq_true rfl) ⟨by decide, by decide⟩ ⟨by decide, by decide⟩ dX7_spots_17) hM (fun H locs hM => ?_)
    refine z_if_eqB (tgt := 33) hx hb dX7_spots_20 (by decide) (fun c_20 => ?_) (fun c_20 => ?_)
    · refine lv_iconst (v := nI 2) hx hb dX7_spots_33 (by decide) ?_
      refine lv_goto (tgt := 38) hx hb dX7_spots_34 (by decide) ?_
      refine z_put (fs' := [.int (nI 2), .int (nI (ns A)), .ref ((ma 2)), .ref ((ma 3)), .ref ((ma 4)), .ref ((ma 5)), .ref ((ma 6)), .ref ((ma 7)), .ref ((ma 8)), .ref ((ma 9)), .ref ((ma 10)), .ref ((ma 11)), .ref ((ma 12)), .ref ((ma 13)), .ref ((ma 14)), .ref ((ma 15)), .ref ((ma 16)), .double bb, .int bf, .int (nI (nw A)), .ref ((ma 20)), .ref ((ma 21)), .ref ((ma 22)), .ref ((ma 23)), .int (nI (np A)), .ref ((ma 25)), .ref ((ma 26))]) hC hM (hmm 0 (by decide)) hg0 zcl_X7 (by decide) zl_X7_75 rfl rfl (by rfl) (Nat.le_of_ble_eq_true rfl) rfl dX7_spots_38 (fun H locs hM => ?_)
      obtain ⟨f_1, ef_1⟩ : ∃ z9, z9 = va_up f ((ma 0)) (eS 8 [.int (nI 2), .int (nI (ns A)), .ref ((ma 2)), .ref ((ma 3)), .ref ((ma 4)), .ref ((ma 5)), .ref ((ma 6)), .ref ((ma 7)), .ref ((ma 8)), .ref ((ma 9)), .ref ((ma 10)), .ref ((ma 11)), .ref ((ma 12)), .ref ((ma 13)), .ref ((ma 14)), .ref ((ma 15)), .ref ((ma 16)), .double bb, .int bf, .int (nI (nw A)), .ref ((ma 20)), .ref ((ma 21)), .ref ((ma 22)), .ref ((ma 23)), .int (nI (np A)), .ref ((ma 25)), .ref ((ma 26))]) := ⟨_, rfl⟩
      rw [← ef_1] at hM
      have hF_2 : f_1 ((ma 0)) = eS 8 [.int (nI 2), .int (nI (ns A)), .ref ((ma 2)), .ref ((ma 3)), .ref ((ma 4)), .ref ((ma 5)), .ref ((ma 6)), .ref ((ma 7)), .ref ((ma 8)), .ref ((ma 9)), .ref ((ma 10)), .ref ((ma 11)), .ref ((ma 12)), .ref ((ma 13)), .ref ((ma 14)), .ref ((ma 15)), .ref ((ma 16)), .double bb, .int bf, .int (nI (nw A)), .ref ((ma 20)), .ref ((ma 21)), .ref ((ma 22)), .ref ((ma 23)), .int (nI (np A)), .ref ((ma 25)), .ref ((ma 26))] := by rw [ef_1]; exact va_up_self _ _ _
      have hF_3 : f_1 ((ma 8)) = eI K 6 (fun j => nI ((A.1 8) j)) := by rw [ef_1]; exact (va_up_ne _ _ (mne hmi (by decide) (by decide) (show 8 ≠ 0 by decide))).trans hg8
      have hF_4 : f_1 ((ma 9)) = eI K 6 (fun j => nI ((A.1 9) j)) := by rw [ef_1]; exact (va_up_ne _ _ (mne hmi (by decide) (by decide) (show 9 ≠ 0 by decide))).trans hg9
      refine lv_aload_n hx hb dX7_spots_41 rfl (lv_at hl 0 rfl) ?_
      refine z_get hC hM (hmm 0 (by decide)) hF_2 zcl_X7 (by decide) zl_X7_75 rfl dX7_spots_42 ?_
      refine z_if_le (tgt := 50) hx hb (nI_toInt (by decide)) dX7_spots_45 (by decide) (fun c_45 => ?_) (fun c_45 => ?_)
      · exact absurd c_45 (by omega)
      · refine lv_iconst (v := nI 0) hx hb dX7_spots_48 (by decide) ?_
        rw [← hQ]
        exact z_iret hC hM hr hlk rfl (by decide) (by decide) (mr_x (qsp2 c_6 (fun z => c_20 z.1)) (fun z => if_neg z) (mr_t hmm hmi hop hmc hF_2 (fun q h9 => by rw [ef_1]; simp only [va_up, h9, if_false])) (by decide)) dX7_spots_49
    · skip
      obtain ⟨a, ha1, ha2, hxa⟩ := nI_of_range (by decide) c_20.1 c_20.2
      subst hxa
      have hiva := iv_nI (i := a) (by omega)
      refine lv_iload_n hx hb dX7_spots_23 rfl (lv_at hl 3 rfl) ?_
      refine lv_iconst (v := nI 0) hx hb dX7_spots_24 (by decide) ?_
      refine lv_bipush (v := nI 100) hx hb dX7_spots_25 (by decide) ?_
      refine z_fcalli (z_runS hC hM (c_isIn (x := y2) (ea := 0) (eb := 100) (by decide) (by decide)) zy_X7_isIn zm_X7_82 rfl rfl hl.1 (Nat.le_of_ble_eq_true rfl) ⟨by decide, by decide⟩ ⟨by decide, by decide⟩ dX7_spots_27) hM (fun H locs hM => ?_)
      refine z_if_neB (tgt := 37) hx hb dX7_spots_30 (by decide) (fun c_30 => ?_) (fun c_30 => ?_)
      · skip
        obtain ⟨b, hb1, hb2, hxb⟩ := nI_of_range (by decide) c_30.1 c_30.2
        subst hxb
        have hivb := iv_nI (i := b) (by omega)
        refine lv_iconst (v := nI 0) hx hb dX7_spots_37 (by decide) ?_
        refine z_put (fs' := [.int (nI 0), .int (nI (ns A)), .ref ((ma 2)), .ref ((ma 3)), .ref ((ma 4)), .ref ((ma 5)), .ref ((ma 6)), .ref ((ma 7)), .ref ((ma 8)), .ref ((ma 9)), .ref ((ma 10)), .ref ((ma 11)), .ref ((ma 12)), .ref ((ma 13)), .ref ((ma 14)), .ref ((ma 15)), .ref ((ma 16)), .double bb, .int bf, .int (nI (nw A)), .ref ((ma 20)), .ref ((ma 21)), .ref ((ma 22)), .ref ((ma 23)), .int (nI (np A)), .ref ((ma 25)), .ref ((ma 26))]) hC hM (hmm 0 (by decide)) hg0 zcl_X7 (by decide) zl_X7_75 rfl rfl (by rfl) (Nat.le_of_ble_eq_true rfl) rfl dX7_spots_38 (fun H locs hM => ?_)
        obtain ⟨f_5, ef_5⟩ : ∃ z9, z9 = va_up f ((ma 0)) (eS 8 [.int (nI 0), .int (nI (ns A)), .ref ((ma 2)), .ref ((ma 3)), .ref ((ma 4)), .ref ((ma 5)), .ref ((ma 6)), .ref ((ma 7)), .ref ((ma 8)), .ref ((ma 9)), .ref ((ma 10)), .ref ((ma 11)), .ref ((ma 12)), .ref ((ma 13)), .ref ((ma 14)), .ref ((ma 15)), .ref ((ma 16)), .double bb, .int bf, .int (nI (nw A)), .ref ((ma 20)), .ref ((ma 21)), .ref ((ma 22)), .ref ((ma 23)), .int (nI (np A)), .ref ((ma 25)), .ref ((ma 26))]) := ⟨_, rfl⟩
        rw [← ef_5] at hM
        have hF_6 : f_5 ((ma 0)) = eS 8 [.int (nI 0), .int (nI (ns A)), .ref ((ma 2)), .ref ((ma 3)), .ref ((ma 4)), .ref ((ma 5)), .ref ((ma 6)), .ref ((ma 7)), .ref ((ma 8)), .ref ((ma 9)), .ref ((ma 10)), .ref ((ma 11)), .ref ((ma 12)), .ref ((ma 13)), .ref ((ma 14)), .ref ((ma 15)), .ref ((ma 16)), .double bb, .int bf, .int (nI (nw A)), .ref ((ma 20)), .ref ((ma 21)), .ref ((ma 22)), .ref ((ma 23)), .int (nI (np A)), .ref ((ma 25)), .ref ((ma 26))] := by rw [ef_5]; exact va_up_self _ _ _
        have hF_7 : f_5 ((ma 8)) = eI K 6 (fun j => nI ((A.1 8) j)) := by rw [ef_5]; exact (va_up_ne _ _ (mne hmi (by decide) (by decide) (show 8 ≠ 0 by decide))).trans hg8
        have hF_8 : f_5 ((ma 9)) = eI K 6 (fun j => nI ((A.1 9) j)) := by rw [ef_5]; exact (va_up_ne _ _ (mne hmi (by decide) (by decide) (show 9 ≠ 0 by decide))).trans hg9
        refine lv_aload_n hx hb dX7_spots_41 rfl (lv_at hl 0 rfl) ?_
        refine z_get hC hM (hmm 0 (by decide)) hF_6 zcl_X7 (by decide) zl_X7_75 rfl dX7_spots_42 ?_
        refine z_if_le (tgt := 50) hx hb (nI_toInt (by decide)) dX7_spots_45 (by decide) (fun c_45 => ?_) (fun c_45 => ?_)
        · refine lv_aload_n hx hb dX7_spots_50 rfl (lv_at hl 0 rfl) ?_
          refine z_get hC hM (hmm 0 (by decide)) hF_6 zcl_X7 (by decide) zl_X7_31 rfl dX7_spots_51 ?_
          refine lv_iload_n hx hb dX7_spots_54 rfl (lv_at hl 1 rfl) ?_
          refine z_iald hC hM (hmm 9 (by decide)) hF_8 (by omega) (by omega) dX7_spots_55 ?_
          refine lv_istore (lv' := [(4, .int (nI ((A.1 9) i))), (0, .ref ((ma 0))), (1, .int (nI i)), (2, .int (nI a)), (3, .int (nI b))]) hx hb dX7_spots_56 hl (by decide) rfl (fun ls hl => ?_)
          refine lv_aload_n hx hb dX7_spots_58 rfl (lv_at hl 1 rfl) ?_
          refine z_get hC hM (hmm 0 (by decide)) hF_6 zcl_X7 (by decide) zl_X7_28 rfl dX7_spots_59 ?_
          refine lv_iload_n hx hb dX7_spots_62 rfl (lv_at hl 2 rfl) ?_
          refine lv_iload_n hx hb dX7_spots_63 rfl (lv_at hl 3 rfl) ?_
          refine z_iast hC hM (hmm 8 (by decide)) hF_7 (by omega) (by omega) dX7_spots_64 (fun H locs hM => ?_)
          rw [up_nI] at hM
          obtain ⟨f_9, ef_9⟩ : ∃ z9, z9 = va_up f_5 ((ma 8)) (eI K 6 (fun j => nI ((va_up (A.1 8) i a) j))) := ⟨_, rfl⟩
          rw [← ef_9] at hM
          have hF_10 : f_9 ((ma 0)) = eS 8 [.int (nI 0), .int (nI (ns A)), .ref ((ma 2)), .ref ((ma 3)), .ref ((ma 4)), .ref ((ma 5)), .ref ((ma 6)), .ref ((ma 7)), .ref ((ma 8)), .ref ((ma 9)), .ref ((ma 10)), .ref ((ma 11)), .ref ((ma 12)), .ref ((ma 13)), .ref ((ma 14)), .ref ((ma 15)), .ref ((ma 16)), .double bb, .int bf, .int (nI (nw A)), .ref ((ma 20)), .ref ((ma 21)), .ref ((ma 22)), .ref ((ma 23)), .int (nI (np A)), .ref ((ma 25)), .ref ((ma 26))] := by rw [ef_9]; exact (va_up_ne _ _ (mne hmi (by decide) (by decide) (show 0 ≠ 8 by decide))).trans hF_6
          have hF_11 : f_9 ((ma 8)) = eI K 6 (fun j => nI ((va_up (A.1 8) i a) j)) := by rw [ef_9]; exact va_up_self _ _ _
          have hF_12 : f_9 ((ma 9)) = eI K 6 (fun j => nI ((A.1 9) j)) := by rw [ef_9]; exact (va_up_ne _ _ (mne hmi (by decide) (by decide) (show 9 ≠ 8 by decide))).trans hF_8
          refine lv_aload_n hx hb dX7_spots_65 rfl (lv_at hl 1 rfl) ?_
          refine z_get hC hM (hmm 0 (by decide)) hF_10 zcl_X7 (by decide) zl_X7_31 rfl dX7_spots_66 ?_
          refine lv_iload_n hx hb dX7_spots_69 rfl (lv_at hl 2 rfl) ?_
          refine lv_iload_n hx hb dX7_spots_70 rfl (lv_at hl 4 rfl) ?_
          refine z_iast hC hM (hmm 9 (by decide)) hF_12 (by omega) (by omega) dX7_spots_71 (fun H locs hM => ?_)
          rw [up_nI] at hM
          obtain ⟨f_13, ef_13⟩ : ∃ z9, z9 = va_up f_9 ((ma 9)) (eI K 6 (fun j => nI ((va_up (A.1 9) i b) j))) := ⟨_, rfl⟩
          rw [← ef_13] at hM
          have hF_14 : f_13 ((ma 0)) = eS 8 [.int (nI 0), .int (nI (ns A)), .ref ((ma 2)), .ref ((ma 3)), .ref ((ma 4)), .ref ((ma 5)), .ref ((ma 6)), .ref ((ma 7)), .ref ((ma 8)), .ref ((ma 9)), .ref ((ma 10)), .ref ((ma 11)), .ref ((ma 12)), .ref ((ma 13)), .ref ((ma 14)), .ref ((ma 15)), .ref ((ma 16)), .double bb, .int bf, .int (nI (nw A)), .ref ((ma 20)), .ref ((ma 21)), .ref ((ma 22)), .ref ((ma 23)), .int (nI (np A)), .ref ((ma 25)), .ref ((ma 26))] := by rw [ef_13]; exact (va_up_ne _ _ (mne hmi (by decide) (by decide) (show 0 ≠ 9 by decide))).trans hF_10
          have hF_15 : f_13 ((ma 8)) = eI K 6 (fun j => nI ((va_up (A.1 8) i a) j)) := by rw [ef_13]; exact (va_up_ne _ _ (mne hmi (by decide) (by decide) (show 8 ≠ 9 by decide))).trans hF_11
          have hF_16 : f_13 ((ma 9)) = eI K 6 (fun j => nI ((va_up (A.1 9) i b) j)) := by rw [ef_13]; exact va_up_self _ _ _
          refine lv_iload hx hb dX7_spots_72 (lv_at hl 0 rfl) ?_
          have hfu9 : ∀ k, mk k → k ≠ 0 → k ≠ 8 → k ≠ 9 → f_13 (ma k) = f (ma k) := fun k hk n0 n8 n9 => by
            have m0 := mne hmi hk (show mk 0 by decide) n0
            have m8 := mne hmi hk (show mk 8 by decide) n8
            have m9 := mne hmi hk (show mk 9 by decide) n9
            rw [ef_13, ef_9, ef_5]
            simp only [va_up, m0, m8, m9, if_false]
          have hfr9 : ∀ q, (∀ k, mk k → q ≠ ma k) → f_13 q = f q := fun q hq => by
            have m0 := hq 0 (by decide)
            have m8 := hq 8 (by decide)
            have m9 := hq 9 (by decide)
            rw [ef_13, ef_9, ef_5]
            simp only [va_up, m0, m8, m9, if_false]
          have hMR9 : MR K A ma L f (stA A i a b (A.1 10 i)) (nI 0) L f_13 := mr_ok (x' := (sg, cg, bb, bf)) (op' := op) hmm hmi hop (mk_all hF_14 ((hfu9 2 (by decide) (by decide) (by decide) (by decide)).trans (hmc 2 (by decide))) ((hfu9 3 (by decide) (by decide) (by decide) (by decide)).trans (hmc 3 (by decide))) ((hfu9 4 (by decide) (by decide) (by decide) (by decide)).trans (hmc 4 (by decide))) ((hfu9 5 (by decide) (by decide) (by decide) (by decide)).trans (hmc 5 (by decide))) ((hfu9 6 (by decide) (by decide) (by decide) (by decide)).trans (hmc 6 (by decide))) ((hfu9 7 (by decide) (by decide) (by decide) (by decide)).trans (hmc 7 (by decide))) hF_15 hF_16 (((hfu9 10 (by decide) (by decide) (by decide) (by decide)).trans (hmc 10 (by decide))).trans (congrArg (fun z : Nat → Nat => eI K 6 (fun j => nI (z j))) (up_id (A.1 10) i rfl).symm)) ((hfu9 11 (by decide) (by decide) (by decide) (by decide)).trans (hmc 11 (by decide))) ((hfu9 12 (by decide) (by decide) (by decide) (by decide)).trans (hmc 12 (by decide))) ((hfu9 13 (by decide) (by decide) (by decide) (by decide)).trans (hmc 13 (by decide))) ((hfu9 14 (by decide) (by decide) (by decide) (by decide)).trans (hmc 14 (by decide))) ((hfu9 15 (by decide) (by decide) (by decide) (by decide)).trans (hmc 15 (by decide))) ((hfu9 16 (by decide) (by decide) (by decide) (by decide)).trans (hmc 16 (by decide))) ((hfu9 20 (by decide) (by decide) (by decide) (by decide)).trans (hmc 20 (by decide))) ((hfu9 21 (by decide) (by decide) (by decide) (by decide)).trans (hmc 21 (by decide))) ((hfu9 22 (by decide) (by decide) (by decide) (by decide)).trans (hmc 22 (by decide))) ((hfu9 23 (by decide) (by decide) (by decide) (by decide)).trans (hmc 23 (by decide))) ((hfu9 25 (by decide) (by decide) (by decide) (by decide)).trans (hmc 25 (by decide))) ((hfu9 26 (by decide) (by decide) (by decide) (by decide)).trans (hmc 26 (by decide)))) hfr9
          rw [← hQ]
          exact z_iret hC hM hr hlk rfl (by decide) (by decide) (mr_0 (qsp0 c_6 ⟨c_20, c_30⟩) (by rw [hiv]) (by rw [a_spots, if_pos (qsp0 c_6 ⟨c_20, c_30⟩), hiv, hiva, hivb]) hMR9) dX7_spots_74
        · exact absurd c_45 (by omega)
      · refine lv_iconst (v := nI 2) hx hb dX7_spots_33 (by decide) ?_
        refine lv_goto (tgt := 38) hx hb dX7_spots_34 (by decide) ?_
        refine z_put (fs' := [.int (nI 2), .int (nI (ns A)), .ref ((ma 2)), .ref ((ma 3)), .ref ((ma 4)), .ref ((ma 5)), .ref ((ma 6)), .ref ((ma 7)), .ref ((ma 8)), .ref ((ma 9)), .ref ((ma 10)), .ref ((ma 11)), .ref ((ma 12)), .ref ((ma 13)), .ref ((ma 14)), .ref ((ma 15)), .ref ((ma 16)), .double bb, .int bf, .int (nI (nw A)), .ref ((ma 20)), .ref ((ma 21)), .ref ((ma 22)), .ref ((ma 23)), .int (nI (np A)), .ref ((ma 25)), .ref ((ma 26))]) hC hM (hmm 0 (by decide)) hg0 zcl_X7 (by decide) zl_X7_75 rfl rfl (by rfl) (Nat.le_of_ble_eq_true rfl) rfl dX7_spots_38 (fun H locs hM => ?_)
        obtain ⟨f_17, ef_17⟩ : ∃ z9, z9 = va_up f ((ma 0)) (eS 8 [.int (nI 2), .int (nI (ns A)), .ref ((ma 2)), .ref ((ma 3)), .ref ((ma 4)), .ref ((ma 5)), .ref ((ma 6)), .ref ((ma 7)), .ref ((ma 8)), .ref ((ma 9)), .ref ((ma 10)), .ref ((ma 11)), .ref ((ma 12)), .ref ((ma 13)), .ref ((ma 14)), .ref ((ma 15)), .ref ((ma 16)), .double bb, .int bf, .int (nI (nw A)), .ref ((ma 20)), .ref ((ma 21)), .ref ((ma 22)), .ref ((ma 23)), .int (nI (np A)), .ref ((ma 25)), .ref ((ma 26))]) := ⟨_, rfl⟩
        rw [← ef_17] at hM
        have hF_18 : f_17 ((ma 0)) = eS 8 [.int (nI 2), .int (nI (ns A)), .ref ((ma 2)), .ref ((ma 3)), .ref ((ma 4)), .ref ((ma 5)), .ref ((ma 6)), .ref ((ma 7)), .ref ((ma 8)), .ref ((ma 9)), .ref ((ma 10)), .ref ((ma 11)), .ref ((ma 12)), .ref ((ma 13)), .ref ((ma 14)), .ref ((ma 15)), .ref ((ma 16)), .double bb, .int bf, .int (nI (nw A)), .ref ((ma 20)), .ref ((ma 21)), .ref ((ma 22)), .ref ((ma 23)), .int (nI (np A)), .ref ((ma 25)), .ref ((ma 26))] := by rw [ef_17]; exact va_up_self _ _ _
        have hF_19 : f_17 ((ma 8)) = eI K 6 (fun j => nI ((A.1 8) j)) := by rw [ef_17]; exact (va_up_ne _ _ (mne hmi (by decide) (by decide) (show 8 ≠ 0 by decide))).trans hg8
        have hF_20 : f_17 ((ma 9)) = eI K 6 (fun j => nI ((A.1 9) j)) := by rw [ef_17]; exact (va_up_ne _ _ (mne hmi (by decide) (by decide) (show 9 ≠ 0 by decide))).trans hg9
        refine lv_aload_n hx hb dX7_spots_41 rfl (lv_at hl 0 rfl) ?_
        refine z_get hC hM (hmm 0 (by decide)) hF_18 zcl_X7 (by decide) zl_X7_75 rfl dX7_spots_42 ?_
        refine z_if_le (tgt := 50) hx hb (nI_toInt (by decide)) dX7_spots_45 (by decide) (fun c_45 => ?_) (fun c_45 => ?_)
        · exact absurd c_45 (by omega)
        · refine lv_iconst (v := nI 0) hx hb dX7_spots_48 (by decide) ?_
          rw [← hQ]
          exact z_iret hC hM hr hlk rfl (by decide) (by decide) (mr_x (qsp2 c_6 (fun z => c_30 z.2)) (fun z => if_neg z) (mr_t hmm hmi hop hmc hF_18 (fun q h9 => by rw [ef_17]; simp only [va_up, h9, if_false])) (by decide)) dX7_spots_49
  · refine lv_iconst (v := nI 1) hx hb dX7_spots_9 (by decide) ?_
    refine lv_goto (tgt := 38) hx hb dX7_spots_10 (by decide) ?_
    refine z_put (fs' := [.int (nI 1), .int (nI (ns A)), .ref ((ma 2)), .ref ((ma 3)), .ref ((ma 4)), .ref ((ma 5)), .ref ((ma 6)), .ref ((ma 7)), .ref ((ma 8)), .ref ((ma 9)), .ref ((ma 10)), .ref ((ma 11)), .ref ((ma 12)), .ref ((ma 13)), .ref ((ma 14)), .ref ((ma 15)), .ref ((ma 16)), .double bb, .int bf, .int (nI (nw A)), .ref ((ma 20)), .ref ((ma 21)), .ref ((ma 22)), .ref ((ma 23)), .int (nI (np A)), .ref ((ma 25)), .ref ((ma 26))]) hC hM (hmm 0 (by decide)) hg0 zcl_X7 (by decide) zl_X7_75 rfl rfl (by rfl) (Nat.le_of_ble_eq_true rfl) rfl dX7_spots_38 (fun H locs hM => ?_)
    obtain ⟨f_21, ef_21⟩ : ∃ z9, z9 = va_up f ((ma 0)) (eS 8 [.int (nI 1), .int (nI (ns A)), .ref ((ma 2)), .ref ((ma 3)), .ref ((ma 4)), .ref ((ma 5)), .ref ((ma 6)), .ref ((ma 7)), .ref ((ma 8)), .ref ((ma 9)), .ref ((ma 10)), .ref ((ma 11)), .ref ((ma 12)), .ref ((ma 13)), .ref ((ma 14)), .ref ((ma 15)), .ref ((ma 16)), .double bb, .int bf, .int (nI (nw A)), .ref ((ma 20)), .ref ((ma 21)), .ref ((ma 22)), .ref ((ma 23)), .int (nI (np A)), .ref ((ma 25)), .ref ((ma 26))]) := ⟨_, rfl⟩
    rw [← ef_21] at hM
    have hF_22 : f_21 ((ma 0)) = eS 8 [.int (nI 1), .int (nI (ns A)), .ref ((ma 2)), .ref ((ma 3)), .ref ((ma 4)), .ref ((ma 5)), .ref ((ma 6)), .ref ((ma 7)), .ref ((ma 8)), .ref ((ma 9)), .ref ((ma 10)), .ref ((ma 11)), .ref ((ma 12)), .ref ((ma 13)), .ref ((ma 14)), .ref ((ma 15)), .ref ((ma 16)), .double bb, .int bf, .int (nI (nw A)), .ref ((ma 20)), .ref ((ma 21)), .ref ((ma 22)), .ref ((ma 23)), .int (nI (np A)), .ref ((ma 25)), .ref ((ma 26))] := by rw [ef_21]; exact va_up_self _ _ _
    have hF_23 : f_21 ((ma 8)) = eI K 6 (fun j => nI ((A.1 8) j)) := by rw [ef_21]; exact (va_up_ne _ _ (mne hmi (by decide) (by decide) (show 8 ≠ 0 by decide))).trans hg8
    have hF_24 : f_21 ((ma 9)) = eI K 6 (fun j => nI ((A.1 9) j)) := by rw [ef_21]; exact (va_up_ne _ _ (mne hmi (by decide) (by decide) (show 9 ≠ 0 by decide))).trans hg9
    refine lv_aload_n hx hb dX7_spots_41 rfl (lv_at hl 0 rfl) ?_
    refine z_get hC hM (hmm 0 (by decide)) hF_22 zcl_X7 (by decide) zl_X7_75 rfl dX7_spots_42 ?_
    refine z_if_le (tgt := 50) hx hb (nI_toInt (by decide)) dX7_spots_45 (by decide) (fun c_45 => ?_) (fun c_45 => ?_)
    · exact absurd c_45 (by omega)
    · refine lv_iconst (v := nI 0) hx hb dX7_spots_48 (by decide) ?_
      rw [← hQ]
      exact z_iret hC hM hr hlk rfl (by decide) (by decide) (mr_x (qsp1 c_6) (fun z => if_neg z) (mr_t hmm hmi hop hmc hF_22 (fun q h9 => by rw [ef_21]; simp only [va_up, h9, if_false])) (by decide)) dX7_spots_49
set_option maxHeartbeats 400000 in
set_option maxRecDepth 100000 in
theorem m_blend {l : Launch} {base : Nat} {K : zK} {L : List Nat} {f : Nat → va_E} {A : zA} {ma : Nat → Nat} {t : Int32} (hV : VA A) (hMI : MI K L f A ma t) (x y1 : Int32) : zMet l yX7_blend cX7_blend 4 (some .int) (zr 2 0 0 43) base K L f [.ref ((ma 0)), .int x, .int y1] (zQi base K (fun r L1 f1 => (k_blend A x y1 = 0 → r = nI (A.1 10 (iv x))) ∧ MR K A ma L f (a_blend A x y1) (nI (k_blend A x y1)) L1 f1)) := by
  have hMI9 := hMI
  obtain ⟨hmm, hmi, ⟨sg, cg, bb, bf⟩, op, hop, hmc⟩ := hMI9
  have hV9 := hV
  obtain ⟨hv1, hv2, hv3, hvS, hvO, hvK, hvK1, hvL, hv11, hvW, hv23, hvW0, hvP⟩ := hV9
  have hg0 : f (ma 0) = eS 8 [.int t, .int (nI (ns A)), .ref ((ma 2)), .ref ((ma 3)), .ref ((ma 4)), .ref ((ma 5)), .ref ((ma 6)), .ref ((ma 7)), .ref ((ma 8)), .ref ((ma 9)), .ref ((ma 10)), .ref ((ma 11)), .ref ((ma 12)), .ref ((ma 13)), .ref ((ma 14)), .ref ((ma 15)), .ref ((ma 16)), .double bb, .int bf, .int (nI (nw A)), .ref ((ma 20)), .ref ((ma 21)), .ref ((ma 22)), .ref ((ma 23)), .int (nI (np A)), .ref ((ma 25)), .ref ((ma 26))] := hmc 0 (by decide)
  have hg10 : f (ma 10) = eI K 6 (fun j => nI ((A.1 10) j)) := hmc 10 (by decide)
  refine z_met (by decide) (Nat.le_of_ble_eq_true rfl) (fun p e s m below meth c ls hC hM hr hlk hnm hl => ?_)
  have hx := hC.1
  have hb := hC.2.1
  have hml := hC.2.2.1
  have hown := hC.2.2.2.1
  have hts := hC.2.2.2.2.1
  generalize hA : ([.ref ((ma 0)), .int x, .int y1] : List Value).toArray = args at hC ⊢
  generalize hQ : MQ _ _ _ _ _ _ _ = Q
  obtain ⟨locs, hlocs⟩ : ∃ z : List Loc, z = [] := ⟨_, rfl⟩
  obtain ⟨H, hH⟩ : ∃ z : Heap, z = s.heap := ⟨_, rfl⟩
  rw [← hlocs, ← hH] at hM ⊢
  have hl : lv_has ls 4 [(0, .ref ((ma 0))), (1, .int x), (2, .int y1)] := hl
  refine lv_aload_n hx hb dX7_blend_0 rfl (lv_at hl 0 rfl) ?_
  refine lv_aload_n hx hb dX7_blend_1 rfl (lv_at hl 0 rfl) ?_
  refine lv_iload_n hx hb dX7_blend_2 rfl (lv_at hl 1 rfl) ?_
  refine z_fcalli (z_runV hC hM (c_isStar hV hMI x) zy_X7_isStar zm_X7_87 (hmm 0 (by decide)) hg0 zcl_X7 rfl rfl rfl hl.1 (Nat.le_of_ble_eq_true rfl) ⟨by decide, by decide⟩ ⟨by decide, by decide⟩ dX7_blend_3) hM (fun H locs hM => ?_)
  refine z_if_neB (tgt := 13) hx hb dX7_blend_6 (by decide) (fun c_6 => ?_) (fun c_6 => ?_)
  · skip
    obtain ⟨i, hi0, hi9, hxi⟩ := nI_of_range (Int.le_refl 0) c_6.1 c_6.2
    subst hxi
    have hi : i < ns A := by omega
    have hiv := iv_nI (i := i) (by omega)
    obtain ⟨w1, w2, w3, w4, w5, w6, w7, w8⟩ := hvS i hi
    have hkl := fN_le (gk A i) 1000
    refine lv_iload_n hx hb dX7_blend_13 rfl (lv_at hl 2 rfl) ?_
    refine lv_iconst (v := nI 0) hx hb dX7_blend_14 (by decide) ?_
    refine lv_ldc (v := nI 1000000) hx hb hown (hts _ zk_X7_86) dX7_blend_15 ?_
    refine z_fcalli (z_runS hC hM (c_isIn (x := y1) (ea := 0) (eb := 1000000) (by decide) (by decide)) zy_X7_isIn zm_X7_82 rfl rfl hl.1 (Nat.le_of_ble_eq_true rfl) ⟨by decide, by decide⟩ ⟨by decide, by decide⟩ dX7_blend_17) hM (fun H locs hM => ?_)
    refine z_if_neB (tgt := 27) hx hb dX7_blend_20 (by decide) (fun c_20 => ?_) (fun c_20 => ?_)
    · skip
      obtain ⟨a, ha1, ha2, hxa⟩ := nI_of_range (by decide) c_20.1 c_20.2
      subst hxa
      have hiva := iv_nI (i := a) (by omega)
      refine lv_iconst (v := nI 0) hx hb dX7_blend_27 (by decide) ?_
      refine z_put (fs' := [.int (nI 0), .int (nI (ns A)), .ref ((ma 2)), .ref ((ma 3)), .ref ((ma 4)), .ref ((ma 5)), .ref ((ma 6)), .ref ((ma 7)), .ref ((ma 8)), .ref ((ma 9)), .ref ((ma 10)), .ref ((ma 11)), .ref ((ma 12)), .ref ((ma 13)), .ref ((ma 14)), .ref ((ma 15)), .ref ((ma 16)), .double bb, .int bf, .int (nI (nw A)), .ref ((ma 20)), .ref ((ma 21)), .ref ((ma 22)), .ref ((ma 23)), .int (nI (np A)), .ref ((ma 25)), .ref ((ma 26))]) hC hM (hmm 0 (by decide)) hg0 zcl_X7 (by decide) zl_X7_75 rfl rfl (by rfl) (Nat.le_of_ble_eq_true rfl) rfl dX7_blend_28 (fun H locs hM => ?_)
      obtain ⟨f_1, ef_1⟩ : ∃ z9, z9 = va_up f ((ma 0)) (eS 8 [.int (nI 0), .int (nI (ns A)), .ref ((ma 2)), .ref ((ma 3)), .ref ((ma 4)), .ref ((ma 5)), .ref ((ma 6)), .ref ((ma 7)), .ref ((ma 8)), .ref ((ma 9)), .ref ((ma 10)), .ref ((ma 11)), .ref ((ma 12)), .ref ((ma 13)), .ref ((ma 14)), .ref ((ma 15)), .ref ((ma 16)), .double bb, .int bf, .int (nI (nw A)), .ref ((ma 20)), .ref ((ma 21)), .ref ((ma 22)), .ref ((ma 23)), .int (nI (np A)), .ref ((ma 25)), .ref ((ma 26))]) := ⟨_, rfl⟩
      rw [← ef_1] at hM
      have hF_2 : f_1 ((ma 0)) = eS 8 [.int (nI 0), .int (nI (ns A)), .ref ((ma 2)), .ref ((ma 3)), .ref ((ma 4)), .ref ((ma 5)), .ref ((ma 6)), .ref ((ma 7)), .ref ((ma 8)), .ref ((ma 9)), .ref ((ma 10)), .ref ((ma 11)), .ref ((ma 12)), .ref ((ma 13)), .ref ((ma 14)), .ref ((ma 15)), .ref ((ma 16)), .double bb, .int bf, .int (nI (nw A)), .ref ((ma 20)), .ref ((ma 21)), .ref ((ma 22)), .ref ((ma 23)), .int (nI (np A)), .ref ((ma 25)), .ref ((ma 26))] := by rw [ef_1]; exact va_up_self _ _ _
      have hF_3 : f_1 ((ma 10)) = eI K 6 (fun j => nI ((A.1 10) j)) := by rw [ef_1]; exact (va_up_ne _ _ (mne hmi (by decide) (by decide) (show 10 ≠ 0 by decide))).trans hg10
      refine lv_aload_n hx hb dX7_blend_31 rfl (lv_at hl 0 rfl) ?_
      refine z_get hC hM (hmm 0 (by decide)) hF_2 zcl_X7 (by decide) zl_X7_75 rfl dX7_blend_32 ?_
      refine z_if_le (tgt := 40) hx hb (nI_toInt (by decide)) dX7_blend_35 (by decide) (fun c_35 => ?_) (fun c_35 => ?_)
      · refine lv_aload_n hx hb dX7_blend_40 rfl (lv_at hl 0 rfl) ?_
        refine z_get hC hM (hmm 0 (by decide)) hF_2 zcl_X7 (by decide) zl_X7_34 rfl dX7_blend_41 ?_
        refine lv_iload_n hx hb dX7_blend_44 rfl (lv_at hl 1 rfl) ?_
        refine z_iald hC hM (hmm 10 (by decide)) hF_3 (by omega) (by omega) dX7_blend_45 ?_
        refine lv_istore_n (lv' := [(3, .int (nI ((A.1 10) i))), (0, .ref ((ma 0))), (1, .int (nI i)), (2, .int (nI a))]) hx hb dX7_blend_46 rfl hl (by decide) rfl (fun ls hl => ?_)
        refine lv_aload_n hx hb dX7_blend_47 rfl (lv_at hl 1 rfl) ?_
        refine z_get hC hM (hmm 0 (by decide)) hF_2 zcl_X7 (by decide) zl_X7_34 rfl dX7_blend_48 ?_
        refine lv_iload_n hx hb dX7_blend_51 rfl (lv_at hl 2 rfl) ?_
        refine lv_iload_n hx hb dX7_blend_52 rfl (lv_at hl 3 rfl) ?_
        refine z_iast hC hM (hmm 10 (by decide)) hF_3 (by omega) (by omega) dX7_blend_53 (fun H locs hM => ?_)
        rw [up_nI] at hM
        obtain ⟨f_4, ef_4⟩ : ∃ z9, z9 = va_up f_1 ((ma 10)) (eI K 6 (fun j => nI ((va_up (A.1 10) i a) j))) := ⟨_, rfl⟩
        rw [← ef_4] at hM
        have hF_5 : f_4 ((ma 0)) = eS 8 [.int (nI 0), .int (nI (ns A)), .ref ((ma 2)), .ref ((ma 3)), .ref ((ma 4)), .ref ((ma 5)), .ref ((ma 6)), .ref ((ma 7)), .ref ((ma 8)), .ref ((ma 9)), .ref ((ma 10)), .ref ((ma 11)), .ref ((ma 12)), .ref ((ma 13)), .ref ((ma 14)), .ref ((ma 15)), .ref ((ma 16)), .double bb, .int bf, .int (nI (nw A)), .ref ((ma 20)), .ref ((ma 21)), .ref ((ma 22)), .ref ((ma 23)), .int (nI (np A)), .ref ((ma 25)), .ref ((ma 26))] := by rw [ef_4]; exact (va_up_ne _ _ (mne hmi (by decide) (by decide) (show 0 ≠ 10 by decide))).trans hF_2
        have hF_6 : f_4 ((ma 10)) = eI K 6 (fun j => nI ((va_up (A.1 10) i a) j)) := by rw [ef_4]; exact va_up_self _ _ _
        refine lv_iload_n hx hb dX7_blend_54 rfl (lv_at hl 0 rfl) ?_
        have hfu9 : ∀ k, mk k → k ≠ 0 → k ≠ 10 → f_4 (ma k) = f (ma k) := fun k hk n0 n10 => by
          have m0 := mne hmi hk (show mk 0 by decide) n0
          have m10 := mne hmi hk (show mk 10 by decide) n10
          rw [ef_4, ef_1]
          simp only [va_up, m0, m10, if_false]
        have hfr9 : ∀ q, (∀ k, mk k → q ≠ ma k) → f_4 q = f q := fun q hq => by
          have m0 := hq 0 (by decide)
          have m10 := hq 10 (by decide)
          rw [ef_4, ef_1]
          simp only [va_up, m0, m10, if_false]
        have hMR9 : MR K A ma L f (stA A i (A.1 8 i) (A.1 9 i) a) (nI 0) L f_4 := mr_ok (x' := (sg, cg, bb, bf)) (op' := op) hmm hmi hop (mk_all hF_5 ((hfu9 2 (by decide) (by decide) (by decide)).trans (hmc 2 (by decide))) ((hfu9 3 (by decide) (by decide) (by decide)).trans (hmc 3 (by decide))) ((hfu9 4 (by decide) (by decide) (by decide)).trans (hmc 4 (by decide))) ((hfu9 5 (by decide) (by decide) (by decide)).trans (hmc 5 (by decide))) ((hfu9 6 (by decide) (by decide) (by decide)).trans (hmc 6 (by decide))) ((hfu9 7 (by decide) (by decide) (by decide)).trans (hmc 7 (by decide))) (((hfu9 8 (by decide) (by decide) (by decide)).trans (hmc 8 (by decide))).trans (congrArg (fun z : Nat → Nat => eI K 6 (fun j => nI (z j))) (up_id (A.1 8) i rfl).symm)) (((hfu9 9 (by decide) (by decide) (by decide)).trans (hmc 9 (by decide))).trans (congrArg (fun z : Nat → Nat => eI K 6 (fun j => nI (z j))) (up_id (A.1 9) i rfl).symm)) hF_6 ((hfu9 11 (by decide) (by decide) (by decide)).trans (hmc 11 (by decide))) ((hfu9 12 (by decide) (by decide) (by decide)).trans (hmc 12 (by decide))) ((hfu9 13 (by decide) (by decide) (by decide)).trans (hmc 13 (by decide))) ((hfu9 14 (by decide) (by decide) (by decide)).trans (hmc 14 (by decide))) ((hfu9 15 (by decide) (by decide) (by decide)).trans (hmc 15 (by decide))) ((hfu9 16 (by decide) (by decide) (by decide)).trans (hmc 16 (by decide))) ((hfu9 20 (by decide) (by decide) (by decide)).trans (hmc 20 (by decide))) ((hfu9 21 (by decide) (by decide) (by decide)).trans (hmc 21 (by decide))) ((hfu9 22 (by decide) (by decide) (by decide)).trans (hmc 22 (by decide))) ((hfu9 23 (by decide) (by decide) (by decide)).trans (hmc 23 (by decide))) ((hfu9 25 (by decide) (by decide) (by decide)).trans (hmc 25 (by decide))) ((hfu9 26 (by decide) (by decide) (by decide)).trans (hmc 26 (by decide)))) hfr9
        rw [← hQ]
        exact z_iret hC hM hr hlk rfl (by decide) (by decide) (mr_0 (qbl0 c_6 c_20) (by rw [hiv]) (by rw [a_blend, if_pos (qbl0 c_6 c_20), hiv, hiva]) hMR9) dX7_blend_55
      · exact absurd c_35 (by omega)
    · refine lv_iconst (v := nI 2) hx hb dX7_blend_23 (by decide) ?_
      refine lv_goto (tgt := 28) hx hb dX7_blend_24 (by decide) ?_
      refine z_put (fs' := [.int (nI 2), .int (nI (ns A)), .ref ((ma 2)), .ref ((ma 3)), .ref ((ma 4)), .ref ((ma 5)), .ref ((ma 6)), .ref ((ma 7)), .ref ((ma 8)), .ref ((ma 9)), .ref ((ma 10)), .ref ((ma 11)), .ref ((ma 12)), .ref ((ma 13)), .ref ((ma 14)), .ref ((ma 15)), .ref ((ma 16)), .double bb, .int bf, .int (nI (nw A)), .ref ((ma 20)), .ref ((ma 21)), .ref ((ma 22)), .ref ((ma 23)), .int (nI (np A)), .ref ((ma 25)), .ref ((ma 26))]) hC hM (hmm 0 (by decide)) hg0 zcl_X7 (by decide) zl_X7_75 rfl rfl (by rfl) (Nat.le_of_ble_eq_true rfl) rfl dX7_blend_28 (fun H locs hM => ?_)
      obtain ⟨f_7, ef_7⟩ : ∃ z9, z9 = va_up f ((ma 0)) (eS 8 [.int (nI 2), .int (nI (ns A)), .ref ((ma 2)), .ref ((ma 3)), .ref ((ma 4)), .ref ((ma 5)), .ref ((ma 6)), .ref ((ma 7)), .ref ((ma 8)), .ref ((ma 9)), .ref ((ma 10)), .ref ((ma 11)), .ref ((ma 12)), .ref ((ma 13)), .ref ((ma 14)), .ref ((ma 15)), .ref ((ma 16)), .double bb, .int bf, .int (nI (nw A)), .ref ((ma 20)), .ref ((ma 21)), .ref ((ma 22)), .ref ((ma 23)), .int (nI (np A)), .ref ((ma 25)), .ref ((ma 26))]) := ⟨_, rfl⟩
      rw [← ef_7] at hM
      have hF_8 : f_7 ((ma 0)) = eS 8 [.int (nI 2), .int (nI (ns A)), .ref ((ma 2)), .ref ((ma 3)), .ref ((ma 4)), .ref ((ma 5)), .ref ((ma 6)), .ref ((ma 7)), .ref ((ma 8)), .ref ((ma 9)), .ref ((ma 10)), .ref ((ma 11)), .ref ((ma 12)), .ref ((ma 13)), .ref ((ma 14)), .ref ((ma 15)), .ref ((ma 16)), .double bb, .int bf, .int (nI (nw A)), .ref ((ma 20)), .ref ((ma 21)), .ref ((ma 22)), .ref ((ma 23)), .int (nI (np A)), .ref ((ma 25)), .ref ((ma 26))] := by rw [ef_7]; exact va_up_self _ _ _
      have hF_9 : f_7 ((ma 10)) = eI K 6 (fun j => nI ((A.1 10) j)) := by rw [ef_7]; exact (va_up_ne _ _ (mne hmi (by decide) (by decide) (show 10 ≠ 0 by decide))).trans hg10
      refine lv_aload_n hx hb dX7_blend_31 rfl (lv_at hl 0 rfl) ?_
      refine z_get hC hM (hmm 0 (by decide)) hF_8 zcl_X7 (by decide) zl_X7_75 rfl dX7_blend_32 ?_
      refine z_if_le (tgt := 40) hx hb (nI_toInt (by decide)) dX7_blend_35 (by decide) (fun c_35 => ?_) (fun c_35 => ?_)
      · exact absurd c_35 (by omega)
      · refine lv_iconst (v := nI 0) hx hb dX7_blend_38 (by decide) ?_
        rw [← hQ]
        exact z_iret hC hM hr hlk rfl (by decide) (by decide) (mr_x (qbl2 c_6 c_20) (fun z => if_neg z) (mr_t hmm hmi hop hmc hF_8 (fun q h9 => by rw [ef_7]; simp only [va_up, h9, if_false])) (by decide)) dX7_blend_39
  · refine lv_iconst (v := nI 1) hx hb dX7_blend_9 (by decide) ?_
    refine lv_goto (tgt := 28) hx hb dX7_blend_10 (by decide) ?_
    refine z_put (fs' := [.int (nI 1), .int (nI (ns A)), .ref ((ma 2)), .ref ((ma 3)), .ref ((ma 4)), .ref ((ma 5)), .ref ((ma 6)), .ref ((ma 7)), .ref ((ma 8)), .ref ((ma 9)), .ref ((ma 10)), .ref ((ma 11)), .ref ((ma 12)), .ref ((ma 13)), .ref ((ma 14)), .ref ((ma 15)), .ref ((ma 16)), .double bb, .int bf, .int (nI (nw A)), .ref ((ma 20)), .ref ((ma 21)), .ref ((ma 22)), .ref ((ma 23)), .int (nI (np A)), .ref ((ma 25)), .ref ((ma 26))]) hC hM (hmm 0 (by decide)) hg0 zcl_X7 (by decide) zl_X7_75 rfl rfl (by rfl) (Nat.le_of_ble_eq_true rfl) rfl dX7_blend_28 (fun H locs hM => ?_)
    obtain ⟨f_10, ef_10⟩ : ∃ z9, z9 = va_up f ((ma 0)) (eS 8 [.int (nI 1), .int (nI (ns A)), .ref ((ma 2)), .ref ((ma 3)), .ref ((ma 4)), .ref ((ma 5)), .ref ((ma 6)), .ref ((ma 7)), .ref ((ma 8)), .ref ((ma 9)), .ref ((ma 10)), .ref ((ma 11)), .ref ((ma 12)), .ref ((ma 13)), .ref ((ma 14)), .ref ((ma 15)), .ref ((ma 16)), .double bb, .int bf, .int (nI (nw A)), .ref ((ma 20)), .ref ((ma 21)), .ref ((ma 22)), .ref ((ma 23)), .int (nI (np A)), .ref ((ma 25)), .ref ((ma 26))]) := ⟨_, rfl⟩
    rw [← ef_10] at hM
    have hF_11 : f_10 ((ma 0)) = eS 8 [.int (nI 1), .int (nI (ns A)), .ref ((ma 2)), .ref ((ma 3)), .ref ((ma 4)), .ref ((ma 5)), .ref ((ma 6)), .ref ((ma 7)), .ref ((ma 8)), .ref ((ma 9)), .ref ((ma 10)), .ref ((ma 11)), .ref ((ma 12)), .ref ((ma 13)), .ref ((ma 14)), .ref ((ma 15)), .ref ((ma 16)), .double bb, .int bf, .int (nI (nw A)), .ref ((ma 20)), .ref ((ma 21)), .ref ((ma 22)), .ref ((ma 23)), .int (nI (np A)), .ref ((ma 25)), .ref ((ma 26))] := by rw [ef_10]; exact va_up_self _ _ _
    have hF_12 : f_10 ((ma 10)) = eI K 6 (fun j => nI ((A.1 10) j)) := by rw [ef_10]; exact (va_up_ne _ _ (mne hmi (by decide) (by decide) (show 10 ≠ 0 by decide))).trans hg10
    refine lv_aload_n hx hb dX7_blend_31 rfl (lv_at hl 0 rfl) ?_
    refine z_get hC hM (hmm 0 (by decide)) hF_11 zcl_X7 (by decide) zl_X7_75 rfl dX7_blend_32 ?_
    refine z_if_le (tgt := 40) hx hb (nI_toInt (by decide)) dX7_blend_35 (by decide) (fun c_35 => ?_) (fun c_35 => ?_)
    · exact absurd c_35 (by omega)
    · refine lv_iconst (v := nI 0) hx hb dX7_blend_38 (by decide) ?_
      rw [← hQ]
      exact z_iret hC hM hr hlk rfl (by decide) (by decide) (mr_x (qbl1 c_6) (fun z => if_neg z) (mr_t hmm hmi hop hmc hF_11 (fun q h9 => by rw [ef_10]; simp only [va_up, h9, if_false])) (by decide)) dX7_blend_39
set_option maxHeartbeats 400000 in
set_option maxRecDepth 100000 in
theorem m_light {l : Launch} {base : Nat} {K : zK} {L : List Nat} {f : Nat → va_E} {A : zA} {ma : Nat → Nat} {t : Int32} (hV : VA A) (hMI : MI K L f A ma t) (x y1 : Int32) : zMet l yX7_light cX7_light 3 (some .long) (zr 2 0 0 47) base K L f [.ref ((ma 0)), .int x, .int y1] (zQl base K (fun r L1 f1 => (k_light A x y1 = 0 → r = v_light A x y1) ∧ MR K A ma L f A (nI (k_light A x y1)) L1 f1)) := by
  have hMI9 := hMI
  obtain ⟨hmm, hmi, ⟨sg, cg, bb, bf⟩, op, hop, hmc⟩ := hMI9
  have hV9 := hV
  obtain ⟨hv1, hv2, hv3, hvS, hvO, hvK, hvK1, hvL, hv11, hvW, hv23, hvW0, hvP⟩ := hV9
  have hg0 : f (ma 0) = eS 8 [.int t, .int (nI (ns A)), .ref ((ma 2)), .ref ((ma 3)), .ref ((ma 4)), .ref ((ma 5)), .ref ((ma 6)), .ref ((ma 7)), .ref ((ma 8)), .ref ((ma 9)), .ref ((ma 10)), .ref ((ma 11)), .ref ((ma 12)), .ref ((ma 13)), .ref ((ma 14)), .ref ((ma 15)), .ref ((ma 16)), .double bb, .int bf, .int (nI (nw A)), .ref ((ma 20)), .ref ((ma 21)), .ref ((ma 22)), .ref ((ma 23)), .int (nI (np A)), .ref ((ma 25)), .ref ((ma 26))] := hmc 0 (by decide)
  refine z_met (by decide) (Nat.le_of_ble_eq_true rfl) (fun p e s m below meth c ls hC hM hr hlk hnm hl => ?_)
  have hx := hC.1
  have hb := hC.2.1
  have hml := hC.2.2.1
  have hown := hC.2.2.2.1
  have hts := hC.2.2.2.2.1
  generalize hA : ([.ref ((ma 0)), .int x, .int y1] : List Value).toArray = args at hC ⊢
  generalize hQ : MQ _ _ _ _ _ _ _ = Q
  obtain ⟨locs, hlocs⟩ : ∃ z : List Loc, z = [] := ⟨_, rfl⟩
  obtain ⟨H, hH⟩ : ∃ z : Heap, z = s.heap := ⟨_, rfl⟩
  rw [← hlocs, ← hH] at hM ⊢
  have hl : lv_has ls 3 [(0, .ref ((ma 0))), (1, .int x), (2, .int y1)] := hl
  refine lv_aload_n hx hb dX7_light_0 rfl (lv_at hl 0 rfl) ?_
  refine lv_aload_n hx hb dX7_light_1 rfl (lv_at hl 0 rfl) ?_
  refine lv_iload_n hx hb dX7_light_2 rfl (lv_at hl 1 rfl) ?_
  refine z_fcalli (z_runV hC hM (c_isStar hV hMI x) zy_X7_isStar zm_X7_87 (hmm 0 (by decide)) hg0 zcl_X7 rfl rfl rfl hl.1 (Nat.le_of_ble_eq_true rfl) ⟨by decide, by decide⟩ ⟨by decide, by decide⟩ dX7_light_3) hM (fun H locs hM => ?_)
  refine z_if_eqB (tgt := 20) hx hb dX7_light_6 (by decide) (fun c_6 => ?_) (fun c_6 => ?_)
  · refine lv_iconst (v := nI 1) hx hb dX7_light_20 (by decide) ?_
    refine z_put (fs' := [.int (nI 1), .int (nI (ns A)), .ref ((ma 2)), .ref ((ma 3)), .ref ((ma 4)), .ref ((ma 5)), .ref ((ma 6)), .ref ((ma 7)), .ref ((ma 8)), .ref ((ma 9)), .ref ((ma 10)), .ref ((ma 11)), .ref ((ma 12)), .ref ((ma 13)), .ref ((ma 14)), .ref ((ma 15)), .ref ((ma 16)), .double bb, .int bf, .int (nI (nw A)), .ref ((ma 20)), .ref ((ma 21)), .ref ((ma 22)), .ref ((ma 23)), .int (nI (np A)), .ref ((ma 25)), .ref ((ma 26))]) hC hM (hmm 0 (by decide)) hg0 zcl_X7 (by decide) zl_X7_75 rfl rfl (by rfl) (Nat.le_of_ble_eq_true rfl) rfl dX7_light_21 (fun H locs hM => ?_)
    obtain ⟨f_1, ef_1⟩ : ∃ z9, z9 = va_up f ((ma 0)) (eS 8 [.int (nI 1), .int (nI (ns A)), .ref ((ma 2)), .ref ((ma 3)), .ref ((ma 4)), .ref ((ma 5)), .ref ((ma 6)), .ref ((ma 7)), .ref ((ma 8)), .ref ((ma 9)), .ref ((ma 10)), .ref ((ma 11)), .ref ((ma 12)), .ref ((ma 13)), .ref ((ma 14)), .ref ((ma 15)), .ref ((ma 16)), .double bb, .int bf, .int (nI (nw A)), .ref ((ma 20)), .ref ((ma 21)), .ref ((ma 22)), .ref ((ma 23)), .int (nI (np A)), .ref ((ma 25)), .ref ((ma 26))]) := ⟨_, rfl⟩
    rw [← ef_1] at hM
    have hF_2 : f_1 ((ma 0)) = eS 8 [.int (nI 1), .int (nI (ns A)), .ref ((ma 2)), .ref ((ma 3)), .ref ((ma 4)), .ref ((ma 5)), .ref ((ma 6)), .ref ((ma 7)), .ref ((ma 8)), .ref ((ma 9)), .ref ((ma 10)), .ref ((ma 11)), .ref ((ma 12)), .ref ((ma 13)), .ref ((ma 14)), .ref ((ma 15)), .ref ((ma 16)), .double bb, .int bf, .int (nI (nw A)), .ref ((ma 20)), .ref ((ma 21)), .ref ((ma 22)), .ref ((ma 23)), .int (nI (np A)), .ref ((ma 25)), .ref ((ma 26))] := by rw [ef_1]; exact va_up_self _ _ _
    refine lv_aload_n hx hb dX7_light_24 rfl (lv_at hl 0 rfl) ?_
    refine z_get hC hM (hmm 0 (by decide)) hF_2 zcl_X7 (by decide) zl_X7_75 rfl dX7_light_25 ?_
    refine z_if_le (tgt := 35) hx hb (nI_toInt (by decide)) dX7_light_28 (by decide) (fun c_28 => ?_) (fun c_28 => ?_)
    · exact absurd c_28 (by omega)
    · refine lv_lconst (v := 0) hx hb dX7_light_31 (by decide) ?_
      refine lv_goto (tgt := 44) hx hb dX7_light_32 (by decide) ?_
      rw [← hQ]
      exact z_lret hC hM hr hlk (by decide) (by decide) (mr_xl (qli1 (fun z => c_6 z.1)) (fun _ => rfl) (mr_t hmm hmi hop hmc hF_2 (fun q h9 => by rw [ef_1]; simp only [va_up, h9, if_false])) (by decide)) dX7_light_44
  · skip
    obtain ⟨i, hi0, hi9, hxi⟩ := nI_of_range (Int.le_refl 0) c_6.1 c_6.2
    subst hxi
    have hi : i < ns A := by omega
    have hiv := iv_nI (i := i) (by omega)
    obtain ⟨w1, w2, w3, w4, w5, w6, w7, w8⟩ := hvS i hi
    have hkl := fN_le (gk A i) 1000
    refine lv_iload_n hx hb dX7_light_9 rfl (lv_at hl 2 rfl) ?_
    refine z_fcalli (z_runS hC hM (c_isHour y1) zy_X7_isHour zm_X7_97 rfl rfl hl.1 (Nat.le_of_ble_eq_true rfl) ⟨by decide, by decide⟩ ⟨by decide, by decide⟩ dX7_light_10) hM (fun H locs hM => ?_)
    refine z_if_eqB (tgt := 20) hx hb dX7_light_13 (by decide) (fun c_13 => ?_) (fun c_13 => ?_)
    · refine lv_iconst (v := nI 1) hx hb dX7_light_20 (by decide) ?_
      refine z_put (fs' := [.int (nI 1), .int (nI (ns A)), .ref ((ma 2)), .ref ((ma 3)), .ref ((ma 4)), .ref ((ma 5)), .ref ((ma 6)), .ref ((ma 7)), .ref ((ma 8)), .ref ((ma 9)), .ref ((ma 10)), .ref ((ma 11)), .ref ((ma 12)), .ref ((ma 13)), .ref ((ma 14)), .ref ((ma 15)), .ref ((ma 16)), .double bb, .int bf, .int (nI (nw A)), .ref ((ma 20)), .ref ((ma 21)), .ref ((ma 22)), .ref ((ma 23)), .int (nI (np A)), .ref ((ma 25)), .ref ((ma 26))]) hC hM (hmm 0 (by decide)) hg0 zcl_X7 (by decide) zl_X7_75 rfl rfl (by rfl) (Nat.le_of_ble_eq_true rfl) rfl dX7_light_21 (fun H locs hM => ?_)
      obtain ⟨f_3, ef_3⟩ : ∃ z9, z9 = va_up f ((ma 0)) (eS 8 [.int (nI 1), .int (nI (ns A)), .ref ((ma 2)), .ref ((ma 3)), .ref ((ma 4)), .ref ((ma 5)), .ref ((ma 6)), .ref ((ma 7)), .ref ((ma 8)), .ref ((ma 9)), .ref ((ma 10)), .ref ((ma 11)), .ref ((ma 12)), .ref ((ma 13)), .ref ((ma 14)), .ref ((ma 15)), .ref ((ma 16)), .double bb, .int bf, .int (nI (nw A)), .ref ((ma 20)), .ref ((ma 21)), .ref ((ma 22)), .ref ((ma 23)), .int (nI (np A)), .ref ((ma 25)), .ref ((ma 26))]) := ⟨_, rfl⟩
      rw [← ef_3] at hM
      have hF_4 : f_3 ((ma 0)) = eS 8 [.int (nI 1), .int (nI (ns A)), .ref ((ma 2)), .ref ((ma 3)), .ref ((ma 4)), .ref ((ma 5)), .ref ((ma 6)), .ref ((ma 7)), .ref ((ma 8)), .ref ((ma 9)), .ref ((ma 10)), .ref ((ma 11)), .ref ((ma 12)), .ref ((ma 13)), .ref ((ma 14)), .ref ((ma 15)), .ref ((ma 16)), .double bb, .int bf, .int (nI (nw A)), .ref ((ma 20)), .ref ((ma 21)), .ref ((ma 22)), .ref ((ma 23)), .int (nI (np A)), .ref ((ma 25)), .ref ((ma 26))] := by rw [ef_3]; exact va_up_self _ _ _
      refine lv_aload_n hx hb dX7_light_24 rfl (lv_at hl 0 rfl) ?_
      refine z_get hC hM (hmm 0 (by decide)) hF_4 zcl_X7 (by decide) zl_X7_75 rfl dX7_light_25 ?_
      refine z_if_le (tgt := 35) hx hb (nI_toInt (by decide)) dX7_light_28 (by decide) (fun c_28 => ?_) (fun c_28 => ?_)
      · exact absurd c_28 (by omega)
      · refine lv_lconst (v := 0) hx hb dX7_light_31 (by decide) ?_
        refine lv_goto (tgt := 44) hx hb dX7_light_32 (by decide) ?_
        rw [← hQ]
        exact z_lret hC hM hr hlk (by decide) (by decide) (mr_xl (qli1 (fun z => c_13 z.2)) (fun _ => rfl) (mr_t hmm hmi hop hmc hF_4 (fun q h9 => by rw [ef_3]; simp only [va_up, h9, if_false])) (by decide)) dX7_light_44
    · skip
      obtain ⟨a, ha1, ha2, hxa⟩ := nI_of_range (by decide) c_13.1 c_13.2
      subst hxa
      have hiva := iv_nI (i := a) (by omega)
      refine lv_iconst (v := nI 0) hx hb dX7_light_16 (by decide) ?_
      refine lv_goto (tgt := 21) hx hb dX7_light_17 (by decide) ?_
      refine z_put (fs' := [.int (nI 0), .int (nI (ns A)), .ref ((ma 2)), .ref ((ma 3)), .ref ((ma 4)), .ref ((ma 5)), .ref ((ma 6)), .ref ((ma 7)), .ref ((ma 8)), .ref ((ma 9)), .ref ((ma 10)), .ref ((ma 11)), .ref ((ma 12)), .ref ((ma 13)), .ref ((ma 14)), .ref ((ma 15)), .ref ((ma 16)), .double bb, .int bf, .int (nI (nw A)), .ref ((ma 20)), .ref ((ma 21)), .ref ((ma 22)), .ref ((ma 23)), .int (nI (np A)), .ref ((ma 25)), .ref ((ma 26))]) hC hM (hmm 0 (by decide)) hg0 zcl_X7 (by decide) zl_X7_75 rfl rfl (by rfl) (Nat.le_of_ble_eq_true rfl) rfl dX7_light_21 (fun H locs hM => ?_)
      obtain ⟨f_5, ef_5⟩ : ∃ z9, z9 = va_up f ((ma 0)) (eS 8 [.int (nI 0), .int (nI (ns A)), .ref ((ma 2)), .ref ((ma 3)), .ref ((ma 4)), .ref ((ma 5)), .ref ((ma 6)), .ref ((ma 7)), .ref ((ma 8)), .ref ((ma 9)), .ref ((ma 10)), .ref ((ma 11)), .ref ((ma 12)), .ref ((ma 13)), .ref ((ma 14)), .ref ((ma 15)), .ref ((ma 16)), .double bb, .int bf, .int (nI (nw A)), .ref ((ma 20)), .ref ((ma 21)), .ref ((ma 22)), .ref ((ma 23)), .int (nI (np A)), .ref ((ma 25)), .ref ((ma 26))]) := ⟨_, rfl⟩
      rw [← ef_5] at hM
      have hF_6 : f_5 ((ma 0)) = eS 8 [.int (nI 0), .int (nI (ns A)), .ref ((ma 2)), .ref ((ma 3)), .ref ((ma 4)), .ref ((ma 5)), .ref ((ma 6)), .ref ((ma 7)), .ref ((ma 8)), .ref ((ma 9)), .ref ((ma 10)), .ref ((ma 11)), .ref ((ma 12)), .ref ((ma 13)), .ref ((ma 14)), .ref ((ma 15)), .ref ((ma 16)), .double bb, .int bf, .int (nI (nw A)), .ref ((ma 20)), .ref ((ma 21)), .ref ((ma 22)), .ref ((ma 23)), .int (nI (np A)), .ref ((ma 25)), .ref ((ma 26))] := by rw [ef_5]; exact va_up_self _ _ _
      refine lv_aload_n hx hb dX7_light_24 rfl (lv_at hl 0 rfl) ?_
      refine z_get hC hM (hmm 0 (by decide)) hF_6 zcl_X7 (by decide) zl_X7_75 rfl dX7_light_25 ?_
      refine z_if_le (tgt := 35) hx hb (nI_toInt (by decide)) dX7_light_28 (by decide) (fun c_28 => ?_) (fun c_28 => ?_)
      · have hMRc := mr_t (t' := nI 0) hmm hmi hop hmc hF_6 (fun q h9 => by rw [ef_5]; simp only [va_up, h9, if_false])
        have hMIc := hMRc.2.1
        refine lv_aload_n hx hb dX7_light_35 rfl (lv_at hl 0 rfl) ?_
        refine lv_iload_n hx hb dX7_light_36 rfl (lv_at hl 1 rfl) ?_
        refine lv_iload_n hx hb dX7_light_37 rfl (lv_at hl 2 rfl) ?_
        refine z_fcalld (z_runV hC hM (m_lightOf hV hMIc.light hi (by omega)) zy_X7_lightOf zm_X7_100 (hmm 0 (by decide)) hF_6 zcl_X7 rfl rfl rfl hl.1 (Nat.le_of_ble_eq_true rfl) ⟨by decide, by decide⟩ ⟨by decide, by decide⟩ dX7_light_38) hM (fun H locs hM => ?_)
        refine z_fcalll (z_runS hC hM (c_d2l (Lb_bits (lt_ok hV hi a).2).n64) zy_Jxe99ae_doubleToLongBits_ccdee zm_X7_104 rfl rfl hl.1 (Nat.le_of_ble_eq_true rfl) ⟨by decide, by decide⟩ ⟨by decide, by decide⟩ dX7_light_41) hM (fun H locs hM => ?_)
        rw [← hQ]
        exact z_lret hC hM hr hlk (by decide) (by decide) (mr_0l (qli0 ⟨c_6, c_13⟩) (by rw [v_light, hiv, hiva]) rfl (mr_t hmm hmi hop hmc hF_6 (fun q h9 => by rw [ef_5]; simp only [va_up, h9, if_false]))) dX7_light_44
      · exact absurd c_28 (by omega)
set_option maxHeartbeats 400000 in
set_option maxRecDepth 100000 in
theorem m_kept {l : Launch} {base : Nat} {K : zK} {L : List Nat} {f : Nat → va_E} {A : zA} {ma : Nat → Nat} {t : Int32} (hV : VA A) (hMI : MI K L f A ma t) (x y1 : Int32) : zMet l yX7_kept cX7_kept 3 (some .long) (zr 2 0 0 43) base K L f [.ref ((ma 0)), .int x, .int y1] (zQl base K (fun r L1 f1 => (k_kept A x y1 = 0 → r = v_kept A x y1) ∧ MR K A ma L f A (nI (k_kept A x y1)) L1 f1)) := by
  have hMI9 := hMI
  obtain ⟨hmm, hmi, ⟨sg, cg, bb, bf⟩, op, hop, hmc⟩ := hMI9
  have hV9 := hV
  obtain ⟨hv1, hv2, hv3, hvS, hvO, hvK, hvK1, hvL, hv11, hvW, hv23, hvW0, hvP⟩ := hV9
  have hg0 : f (ma 0) = eS 8 [.int t, .int (nI (ns A)), .ref ((ma 2)), .ref ((ma 3)), .ref ((ma 4)), .ref ((ma 5)), .ref ((ma 6)), .ref ((ma 7)), .ref ((ma 8)), .ref ((ma 9)), .ref ((ma 10)), .ref ((ma 11)), .ref ((ma 12)), .ref ((ma 13)), .ref ((ma 14)), .ref ((ma 15)), .ref ((ma 16)), .double bb, .int bf, .int (nI (nw A)), .ref ((ma 20)), .ref ((ma 21)), .ref ((ma 22)), .ref ((ma 23)), .int (nI (np A)), .ref ((ma 25)), .ref ((ma 26))] := hmc 0 (by decide)
  have hg12 : f (ma 12) = eZ K 6000 (fun j => nI ((A.1 12) j)) := hmc 12 (by decide)
  have hg13 : f (ma 13) = eD K 6000 A.2 := hmc 13 (by decide)
  refine z_met (by decide) (Nat.le_of_ble_eq_true rfl) (fun p e s m below meth c ls hC hM hr hlk hnm hl => ?_)
  have hx := hC.1
  have hb := hC.2.1
  have hml := hC.2.2.1
  have hown := hC.2.2.2.1
  have hts := hC.2.2.2.2.1
  generalize hA : ([.ref ((ma 0)), .int x, .int y1] : List Value).toArray = args at hC ⊢
  generalize hQ : MQ _ _ _ _ _ _ _ = Q
  obtain ⟨locs, hlocs⟩ : ∃ z : List Loc, z = [] := ⟨_, rfl⟩
  obtain ⟨H, hH⟩ : ∃ z : Heap, z = s.heap := ⟨_, rfl⟩
  rw [← hlocs, ← hH] at hM ⊢
  have hl : lv_has ls 3 [(0, .ref ((ma 0))), (1, .int x), (2, .int y1)] := hl
  refine lv_aload_n hx hb dX7_kept_0 rfl (lv_at hl 0 rfl) ?_
  refine lv_aload_n hx hb dX7_kept_1 rfl (lv_at hl 0 rfl) ?_
  refine lv_iload_n hx hb dX7_kept_2 rfl (lv_at hl 1 rfl) ?_
  refine z_fcalli (z_runV hC hM (c_isStar hV hMI x) zy_X7_isStar zm_X7_87 (hmm 0 (by decide)) hg0 zcl_X7 rfl rfl rfl hl.1 (Nat.le_of_ble_eq_true rfl) ⟨by decide, by decide⟩ ⟨by decide, by decide⟩ dX7_kept_3) hM (fun H locs hM => ?_)
  refine z_if_eqB (tgt := 20) hx hb dX7_kept_6 (by decide) (fun c_6 => ?_) (fun c_6 => ?_)
  · refine lv_iconst (v := nI 1) hx hb dX7_kept_20 (by decide) ?_
    refine z_put (fs' := [.int (nI 1), .int (nI (ns A)), .ref ((ma 2)), .ref ((ma 3)), .ref ((ma 4)), .ref ((ma 5)), .ref ((ma 6)), .ref ((ma 7)), .ref ((ma 8)), .ref ((ma 9)), .ref ((ma 10)), .ref ((ma 11)), .ref ((ma 12)), .ref ((ma 13)), .ref ((ma 14)), .ref ((ma 15)), .ref ((ma 16)), .double bb, .int bf, .int (nI (nw A)), .ref ((ma 20)), .ref ((ma 21)), .ref ((ma 22)), .ref ((ma 23)), .int (nI (np A)), .ref ((ma 25)), .ref ((ma 26))]) hC hM (hmm 0 (by decide)) hg0 zcl_X7 (by decide) zl_X7_75 rfl rfl (by rfl) (Nat.le_of_ble_eq_true rfl) rfl dX7_kept_21 (fun H locs hM => ?_)
    obtain ⟨f_1, ef_1⟩ : ∃ z9, z9 = va_up f ((ma 0)) (eS 8 [.int (nI 1), .int (nI (ns A)), .ref ((ma 2)), .ref ((ma 3)), .ref ((ma 4)), .ref ((ma 5)), .ref ((ma 6)), .ref ((ma 7)), .ref ((ma 8)), .ref ((ma 9)), .ref ((ma 10)), .ref ((ma 11)), .ref ((ma 12)), .ref ((ma 13)), .ref ((ma 14)), .ref ((ma 15)), .ref ((ma 16)), .double bb, .int bf, .int (nI (nw A)), .ref ((ma 20)), .ref ((ma 21)), .ref ((ma 22)), .ref ((ma 23)), .int (nI (np A)), .ref ((ma 25)), .ref ((ma 26))]) := ⟨_, rfl⟩
    rw [← ef_1] at hM
    have hF_2 : f_1 ((ma 0)) = eS 8 [.int (nI 1), .int (nI (ns A)), .ref ((ma 2)), .ref ((ma 3)), .ref ((ma 4)), .ref ((ma 5)), .ref ((ma 6)), .ref ((ma 7)), .ref ((ma 8)), .ref ((ma 9)), .ref ((ma 10)), .ref ((ma 11)), .ref ((ma 12)), .ref ((ma 13)), .ref ((ma 14)), .ref ((ma 15)), .ref ((ma 16)), .double bb, .int bf, .int (nI (nw A)), .ref ((ma 20)), .ref ((ma 21)), .ref ((ma 22)), .ref ((ma 23)), .int (nI (np A)), .ref ((ma 25)), .ref ((ma 26))] := by rw [ef_1]; exact va_up_self _ _ _
    have hF_3 : f_1 ((ma 12)) = eZ K 6000 (fun j => nI ((A.1 12) j)) := by rw [ef_1]; exact (va_up_ne _ _ (mne hmi (by decide) (by decide) (show 12 ≠ 0 by decide))).trans hg12
    have hF_4 : f_1 ((ma 13)) = eD K 6000 A.2 := by rw [ef_1]; exact (va_up_ne _ _ (mne hmi (by decide) (by decide) (show 13 ≠ 0 by decide))).trans hg13
    refine lv_aload_n hx hb dX7_kept_24 rfl (lv_at hl 0 rfl) ?_
    refine z_get hC hM (hmm 0 (by decide)) hF_2 zcl_X7 (by decide) zl_X7_75 rfl dX7_kept_25 ?_
    refine z_if_le (tgt := 33) hx hb (nI_toInt (by decide)) dX7_kept_28 (by decide) (fun c_28 => ?_) (fun c_28 => ?_)
    · exact absurd c_28 (by omega)
    · refine lv_lconst (v := 0) hx hb dX7_kept_31 (by decide) ?_
      rw [← hQ]
      exact z_lret hC hM hr hlk (by decide) (by decide) (mr_xl (qke1 (fun z => c_6 z.1)) (fun _ => rfl) (mr_t hmm hmi hop hmc hF_2 (fun q h9 => by rw [ef_1]; simp only [va_up, h9, if_false])) (by decide)) dX7_kept_32
  · skip
    obtain ⟨i, hi0, hi9, hxi⟩ := nI_of_range (Int.le_refl 0) c_6.1 c_6.2
    subst hxi
    have hi : i < ns A := by omega
    have hiv := iv_nI (i := i) (by omega)
    obtain ⟨w1, w2, w3, w4, w5, w6, w7, w8⟩ := hvS i hi
    have hkl := fN_le (gk A i) 1000
    refine lv_iload_n hx hb dX7_kept_9 rfl (lv_at hl 2 rfl) ?_
    refine z_fcalli (z_runS hC hM (c_isHour y1) zy_X7_isHour zm_X7_97 rfl rfl hl.1 (Nat.le_of_ble_eq_true rfl) ⟨by decide, by decide⟩ ⟨by decide, by decide⟩ dX7_kept_10) hM (fun H locs hM => ?_)
    refine z_if_eqB (tgt := 20) hx hb dX7_kept_13 (by decide) (fun c_13 => ?_) (fun c_13 => ?_)
    · refine lv_iconst (v := nI 1) hx hb dX7_kept_20 (by decide) ?_
      refine z_put (fs' := [.int (nI 1), .int (nI (ns A)), .ref ((ma 2)), .ref ((ma 3)), .ref ((ma 4)), .ref ((ma 5)), .ref ((ma 6)), .ref ((ma 7)), .ref ((ma 8)), .ref ((ma 9)), .ref ((ma 10)), .ref ((ma 11)), .ref ((ma 12)), .ref ((ma 13)), .ref ((ma 14)), .ref ((ma 15)), .ref ((ma 16)), .double bb, .int bf, .int (nI (nw A)), .ref ((ma 20)), .ref ((ma 21)), .ref ((ma 22)), .ref ((ma 23)), .int (nI (np A)), .ref ((ma 25)), .ref ((ma 26))]) hC hM (hmm 0 (by decide)) hg0 zcl_X7 (by decide) zl_X7_75 rfl rfl (by rfl) (Nat.le_of_ble_eq_true rfl) rfl dX7_kept_21 (fun H locs hM => ?_)
      obtain ⟨f_5, ef_5⟩ : ∃ z9, z9 = va_up f ((ma 0)) (eS 8 [.int (nI 1), .int (nI (ns A)), .ref ((ma 2)), .ref ((ma 3)), .ref ((ma 4)), .ref ((ma 5)), .ref ((ma 6)), .ref ((ma 7)), .ref ((ma 8)), .ref ((ma 9)), .ref ((ma 10)), .ref ((ma 11)), .ref ((ma 12)), .ref ((ma 13)), .ref ((ma 14)), .ref ((ma 15)), .ref ((ma 16)), .double bb, .int bf, .int (nI (nw A)), .ref ((ma 20)), .ref ((ma 21)), .ref ((ma 22)), .ref ((ma 23)), .int (nI (np A)), .ref ((ma 25)), .ref ((ma 26))]) := ⟨_, rfl⟩
      rw [← ef_5] at hM
      have hF_6 : f_5 ((ma 0)) = eS 8 [.int (nI 1), .int (nI (ns A)), .ref ((ma 2)), .ref ((ma 3)), .ref ((ma 4)), .ref ((ma 5)), .ref ((ma 6)), .ref ((ma 7)), .ref ((ma 8)), .ref ((ma 9)), .ref ((ma 10)), .ref ((ma 11)), .ref ((ma 12)), .ref ((ma 13)), .ref ((ma 14)), .ref ((ma 15)), .ref ((ma 16)), .double bb, .int bf, .int (nI (nw A)), .ref ((ma 20)), .ref ((ma 21)), .ref ((ma 22)), .ref ((ma 23)), .int (nI (np A)), .ref ((ma 25)), .ref ((ma 26))] := by rw [ef_5]; exact va_up_self _ _ _
      have hF_7 : f_5 ((ma 12)) = eZ K 6000 (fun j => nI ((A.1 12) j)) := by rw [ef_5]; exact (va_up_ne _ _ (mne hmi (by decide) (by decide) (show 12 ≠ 0 by decide))).trans hg12
      have hF_8 : f_5 ((ma 13)) = eD K 6000 A.2 := by rw [ef_5]; exact (va_up_ne _ _ (mne hmi (by decide) (by decide) (show 13 ≠ 0 by decide))).trans hg13
      refine lv_aload_n hx hb dX7_kept_24 rfl (lv_at hl 0 rfl) ?_
      refine z_get hC hM (hmm 0 (by decide)) hF_6 zcl_X7 (by decide) zl_X7_75 rfl dX7_kept_25 ?_
      refine z_if_le (tgt := 33) hx hb (nI_toInt (by decide)) dX7_kept_28 (by decide) (fun c_28 => ?_) (fun c_28 => ?_)
      · exact absurd c_28 (by omega)
      · refine lv_lconst (v := 0) hx hb dX7_kept_31 (by decide) ?_
        rw [← hQ]
        exact z_lret hC hM hr hlk (by decide) (by decide) (mr_xl (qke1 (fun z => c_13 z.2)) (fun _ => rfl) (mr_t hmm hmi hop hmc hF_6 (fun q h9 => by rw [ef_5]; simp only [va_up, h9, if_false])) (by decide)) dX7_kept_32
    · skip
      obtain ⟨a, ha1, ha2, hxa⟩ := nI_of_range (by decide) c_13.1 c_13.2
      subst hxa
      have hiva := iv_nI (i := a) (by omega)
      refine lv_iconst (v := nI 0) hx hb dX7_kept_16 (by decide) ?_
      refine lv_goto (tgt := 21) hx hb dX7_kept_17 (by decide) ?_
      refine z_put (fs' := [.int (nI 0), .int (nI (ns A)), .ref ((ma 2)), .ref ((ma 3)), .ref ((ma 4)), .ref ((ma 5)), .ref ((ma 6)), .ref ((ma 7)), .ref ((ma 8)), .ref ((ma 9)), .ref ((ma 10)), .ref ((ma 11)), .ref ((ma 12)), .ref ((ma 13)), .ref ((ma 14)), .ref ((ma 15)), .ref ((ma 16)), .double bb, .int bf, .int (nI (nw A)), .ref ((ma 20)), .ref ((ma 21)), .ref ((ma 22)), .ref ((ma 23)), .int (nI (np A)), .ref ((ma 25)), .ref ((ma 26))]) hC hM (hmm 0 (by decide)) hg0 zcl_X7 (by decide) zl_X7_75 rfl rfl (by rfl) (Nat.le_of_ble_eq_true rfl) rfl dX7_kept_21 (fun H locs hM => ?_)
      obtain ⟨f_9, ef_9⟩ : ∃ z9, z9 = va_up f ((ma 0)) (eS 8 [.int (nI 0), .int (nI (ns A)), .ref ((ma 2)), .ref ((ma 3)), .ref ((ma 4)), .ref ((ma 5)), .ref ((ma 6)), .ref ((ma 7)), .ref ((ma 8)), .ref ((ma 9)), .ref ((ma 10)), .ref ((ma 11)), .ref ((ma 12)), .ref ((ma 13)), .ref ((ma 14)), .ref ((ma 15)), .ref ((ma 16)), .double bb, .int bf, .int (nI (nw A)), .ref ((ma 20)), .ref ((ma 21)), .ref ((ma 22)), .ref ((ma 23)), .int (nI (np A)), .ref ((ma 25)), .ref ((ma 26))]) := ⟨_, rfl⟩
      rw [← ef_9] at hM
      have hF_10 : f_9 ((ma 0)) = eS 8 [.int (nI 0), .int (nI (ns A)), .ref ((ma 2)), .ref ((ma 3)), .ref ((ma 4)), .ref ((ma 5)), .ref ((ma 6)), .ref ((ma 7)), .ref ((ma 8)), .ref ((ma 9)), .ref ((ma 10)), .ref ((ma 11)), .ref ((ma 12)), .ref ((ma 13)), .ref ((ma 14)), .ref ((ma 15)), .ref ((ma 16)), .double bb, .int bf, .int (nI (nw A)), .ref ((ma 20)), .ref ((ma 21)), .ref ((ma 22)), .ref ((ma 23)), .int (nI (np A)), .ref ((ma 25)), .ref ((ma 26))] := by rw [ef_9]; exact va_up_self _ _ _
      have hF_11 : f_9 ((ma 12)) = eZ K 6000 (fun j => nI ((A.1 12) j)) := by rw [ef_9]; exact (va_up_ne _ _ (mne hmi (by decide) (by decide) (show 12 ≠ 0 by decide))).trans hg12
      have hF_12 : f_9 ((ma 13)) = eD K 6000 A.2 := by rw [ef_9]; exact (va_up_ne _ _ (mne hmi (by decide) (by decide) (show 13 ≠ 0 by decide))).trans hg13
      refine lv_aload_n hx hb dX7_kept_24 rfl (lv_at hl 0 rfl) ?_
      refine z_get hC hM (hmm 0 (by decide)) hF_10 zcl_X7 (by decide) zl_X7_75 rfl dX7_kept_25 ?_
      refine z_if_le (tgt := 33) hx hb (nI_toInt (by decide)) dX7_kept_28 (by decide) (fun c_28 => ?_) (fun c_28 => ?_)
      · refine lv_aload_n hx hb dX7_kept_33 rfl (lv_at hl 0 rfl) ?_
        refine z_get hC hM (hmm 0 (by decide)) hF_10 zcl_X7 (by decide) zl_X7_41 rfl dX7_kept_34 ?_
        refine lv_sipush (v := nI 1000) hx hb dX7_kept_37 (by decide) ?_
        refine lv_iload_n hx hb dX7_kept_40 rfl (lv_at hl 1 rfl) ?_
        refine z_imul hx hb dX7_kept_41 ?_
        refine lv_iload_n hx hb dX7_kept_42 rfl (lv_at hl 2 rfl) ?_
        refine z_iadd hx hb dX7_kept_43 ?_
        refine z_zald hC hM (hmm 12 (by decide)) hF_11 (by omega) (by omega) dX7_kept_44 ?_
        have hk1 := hvK1 (1000 * i + a)
        refine z_if_eq (tgt := 66) hx hb (nI_toInt (by omega)) dX7_kept_45 (by decide) (fun c_45 => ?_) (fun c_45 => ?_)
        · refine lv_ldc2 (v := (-1)) hx hb hown (hts _ zk_X7_110) dX7_kept_66 ?_
          rw [← hQ]
          exact z_lret hC hM hr hlk (by decide) (by decide) (mr_0l (qke0 ⟨c_6, c_13⟩) (by rw [v_kept, hiv, hiva, if_neg (by omega)]) rfl (mr_t hmm hmi hop hmc hF_10 (fun q h9 => by rw [ef_9]; simp only [va_up, h9, if_false]))) dX7_kept_69
        · refine lv_aload_n hx hb dX7_kept_48 rfl (lv_at hl 0 rfl) ?_
          refine z_get hC hM (hmm 0 (by decide)) hF_10 zcl_X7 (by decide) zl_X7_44 rfl dX7_kept_49 ?_
          refine lv_sipush (v := nI 1000) hx hb dX7_kept_52 (by decide) ?_
          refine lv_iload_n hx hb dX7_kept_55 rfl (lv_at hl 1 rfl) ?_
          refine z_imul hx hb dX7_kept_56 ?_
          refine lv_iload_n hx hb dX7_kept_57 rfl (lv_at hl 2 rfl) ?_
          refine z_iadd hx hb dX7_kept_58 ?_
          refine z_dald hC hM (hmm 13 (by decide)) hF_12 (by omega) (by omega) dX7_kept_59 ?_
          refine z_fcalll (z_runS hC hM (c_d2l (Lb_bits (hvL _ (by omega))).n64) zy_Jxe99ae_doubleToLongBits_ccdee zm_X7_104 rfl rfl hl.1 (Nat.le_of_ble_eq_true rfl) ⟨by decide, by decide⟩ ⟨by decide, by decide⟩ dX7_kept_60) hM (fun H locs hM => ?_)
          refine lv_goto (tgt := 69) hx hb dX7_kept_63 (by decide) ?_
          rw [← hQ]
          exact z_lret hC hM hr hlk (by decide) (by decide) (mr_0l (qke0 ⟨c_6, c_13⟩) (by rw [v_kept, hiv, hiva, if_pos (by omega)]) rfl (mr_t hmm hmi hop hmc hF_10 (fun q h9 => by rw [ef_9]; simp only [va_up, h9, if_false]))) dX7_kept_69
      · exact absurd c_28 (by omega)
