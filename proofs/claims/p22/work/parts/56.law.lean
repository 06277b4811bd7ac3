/-! THE LAW'S PIECES, third part: nights (rows laid by wip/p22/lawp3.py) -/
theorem ob_no {A : zA} {tm a i : Nat} {bl kt : Nat → Nat} (hP : PG (obA A 0 a i) tm bl (obK A kt tm a i)) (ha : a + i < 1000) (c : A.1 11 (a + i) = 1 ∨ obK A kt tm a i (a + i) ≠ 0) : obA A 0 a (i + 1) = obA A 0 a i ∧ obK A kt tm a (i + 1) = obK A kt tm a i := by
  have hk := hP.2.2.2.2.2.2.2.2.2.1 (a + i) ha
  have e11 : (obA A 0 a i).1 11 = A.1 11 := ob_same i 11 (by decide) (by decide)
  refine ⟨?_, ?_⟩
  · rw [obA, e11, show 1000 * 0 + (a + i) = a + i by omega, if_pos (c.imp id hk.mpr)]
  · rw [obK, if_pos c]
theorem ob_yes {A : zA} {tm a i : Nat} {bl kt : Nat → Nat} (hP : PG (obA A 0 a i) tm bl (obK A kt tm a i)) (ha : a + i < 1000) (c1 : ¬ A.1 11 (a + i) = 1) (c2 : obK A kt tm a i (a + i) = 0) : (obA A 0 a (i + 1)).1 14 0 - A.1 14 0 = (obA A 0 a i).1 14 0 - A.1 14 0 + 1 ∧ obK A kt tm a (i + 1) = va_up (obK A kt tm a i) (a + i) (tm + 1) := by
  have hk := hP.2.2.2.2.2.2.2.2.2.1 (a + i) ha
  have e11 : (obA A 0 a i).1 11 = A.1 11 := ob_same i 11 (by decide) (by decide)
  have h14 := ob_14 (A := A) (i := 0) (a := a) i
  refine ⟨?_, ?_⟩
  · rw [obA, e11, show 1000 * 0 + (a + i) = a + i by omega, if_neg (fun z => z.elim c1 (fun z => hk.mp z c2)), kpA_14, va_up_self]
    omega
  · rw [obK, if_neg (fun z => z.elim c1 (fun z => z c2))]
set_option maxHeartbeats 1000000 in
set_option maxRecDepth 100000 in
theorem k_ob {p : Program} {l : Launch} {e : Env} {s : State} {m : MethodId} {below : List Frame} {meth : Method} {c : Code} {K : zK} (hst : l.stackTraces = false) {b L9 : Nat} {xs : Nat → Int32} (hC : zC p s #[Value.ref b] m c cL_law 23 RL s.heap.size K) (hX : va_X b L9 xs s s.heap) (hbl : b < s.heap.size) (hL9 : L9 ≤ 3072) {B : Nat → Nat} {A : zA} {tm : Nat} {bl kt : Nat → Nat} {ad : Nat → Nat} {L : List Nat} {f : Nat → va_E} {H : Heap} {locs : List Loc} {ls : Array Slot} {cl sl tn : Nat} {v w : Int32} (hcl : cl + 200 ≤ 600086) (hsl : sl + 3500 ≤ 7301442) (hI : INV K A B tm bl kt L f ad) (hM : zM s.heap.size K L f s H locs)  (hl : lv_has ls 23 [(0, .ref b), (1, .ref ((ad 1))), (2, .ref ((B 2))), (3, .ref ((B 3))), (4, .ref ((B 4))), (5, .ref ((B 5))), (6, .ref ((B 6))), (7, .ref ((B 7))), (8, .ref ((B 8))), (9, .ref ((B 9))), (10, .ref ((B 10))), (11, .int (nI (nw A))), (12, .int (nI (np A))), (13, .int (nI tm)), (14, .int (nI tn)), (15, .int v), (16, .int w)]) {Q : State → Prop} (KK : ∀ (A : zA) (tm : Nat) (bl kt : Nat → Nat) (ad : Nat → Nat) (L : List Nat) (f : Nat → va_E) (H : Heap) (locs : List Loc) (ls : Array Slot), INV K A B tm bl kt L f ad → lv_has ls 23 [(0, .ref b), (1, .ref ((ad 1))), (2, .ref ((B 2))), (3, .ref ((B 3))), (4, .ref ((B 4))), (5, .ref ((B 5))), (6, .ref ((B 6))), (7, .ref ((B 7))), (8, .ref ((B 8))), (9, .ref ((B 9))), (10, .ref ((B 10))), (11, .int (nI (nw A))), (12, .int (nI (np A))), (13, .int (nI tm)), (14, .int (nI tn)), (15, .int v), (16, .int w)] → zM s.heap.size K L f s H locs → W p l e room_1 s m #[Value.ref b] below meth c H locs (cl + 40) (sl + 2000) Q (F0 m 1167 ls [])) : W p l e room_1 s m #[Value.ref b] below meth c H locs cl sl Q (F0 m 574 ls []) := by
  have hx := hC.1
  have hb := hC.2.1
  have hown := hC.2.2.2.1
  have hts := hC.2.2.2.2.1
  obtain ⟨pv, kb, gb, pe, ow, ci, fa, hS, hP, hpa, hkb, hgb, hpe, hpp⟩ := hI
  have hV : VA A := hS.1.1
  have ht2 := hP.2.2.2.2.1
  refine lv_iload hx hb dL_law_574 (lv_at hl 16 rfl) ?_
  refine lv_sipush (v := nI 1000) hx hb dL_law_576 (by decide) ?_
  refine z_fcalli (z_runS hC hM (c_low w 1000 (by decide) (by decide)) zy_L_low zm_L_64 rfl rfl hl.1 (Nat.le_of_ble_eq_true rfl) ⟨by decide, by decide⟩ ⟨by show cl + 0 ≤ 600086; omega, by show sl + 0 ≤ 7301442; omega⟩ dL_law_579) hM (fun H locs hM => ?_)
  have hlo1 := lowN_lt (v := w) (n := 1000) (by decide)
  obtain ⟨a, ha⟩ : ∃ x, x = lowN w 1000 := ⟨_, rfl⟩
  rw [← ha]
  have ha9 : a < 1000 := by omega
  refine lv_istore (lv' := [(18, .int (nI a)), (0, .ref b), (1, .ref ((ad 1))), (2, .ref ((B 2))), (3, .ref ((B 3))), (4, .ref ((B 4))), (5, .ref ((B 5))), (6, .ref ((B 6))), (7, .ref ((B 7))), (8, .ref ((B 8))), (9, .ref ((B 9))), (10, .ref ((B 10))), (11, .int (nI (nw A))), (12, .int (nI (np A))), (13, .int (nI tm)), (14, .int (nI tn)), (15, .int v), (16, .int w)]) hx hb dL_law_582 hl (by decide) rfl (fun ls hl => ?_)
  have JOIN603 : ∀ (y9 : Nat) (ls : Array Slot) (H : Heap) (locs : List Loc), 1 ≤ y9 ∧ y9 ≤ 400 → lv_has ls 23 [(0, .ref b), (1, .ref ((ad 1))), (2, .ref ((B 2))), (3, .ref ((B 3))), (4, .ref ((B 4))), (5, .ref ((B 5))), (6, .ref ((B 6))), (7, .ref ((B 7))), (8, .ref ((B 8))), (9, .ref ((B 9))), (10, .ref ((B 10))), (11, .int (nI (nw A))), (12, .int (nI (np A))), (13, .int (nI tm)), (14, .int (nI tn)), (15, .int v), (16, .int w), (18, .int (nI a))] → zM s.heap.size K L f s H locs → W p l e room_1 s m #[Value.ref b] below meth c H locs (cl + 0) (sl + 0) Q (F0 m 603 ls [.int (nI y9)]) := by
    intro y9 ls H locs hy9 hl hM
    refine lv_istore (lv' := [(19, .int (nI y9)), (0, .ref b), (1, .ref ((ad 1))), (2, .ref ((B 2))), (3, .ref ((B 3))), (4, .ref ((B 4))), (5, .ref ((B 5))), (6, .ref ((B 6))), (7, .ref ((B 7))), (8, .ref ((B 8))), (9, .ref ((B 9))), (10, .ref ((B 10))), (11, .int (nI (nw A))), (12, .int (nI (np A))), (13, .int (nI tm)), (14, .int (nI tn)), (15, .int v), (16, .int w), (18, .int (nI a))]) hx hb dL_law_603 hl (by decide) rfl (fun ls hl => ?_)
    have JOIN634 : ∀ (z9 : Nat) (ls : Array Slot) (H : Heap) (locs : List Loc), 1 ≤ z9 ∧ a + z9 ≤ 1000 → lv_has ls 23 [(0, .ref b), (1, .ref ((ad 1))), (2, .ref ((B 2))), (3, .ref ((B 3))), (4, .ref ((B 4))), (5, .ref ((B 5))), (6, .ref ((B 6))), (7, .ref ((B 7))), (8, .ref ((B 8))), (9, .ref ((B 9))), (10, .ref ((B 10))), (11, .int (nI (nw A))), (12, .int (nI (np A))), (13, .int (nI tm)), (14, .int (nI tn)), (15, .int v), (16, .int w), (18, .int (nI a))] → zM s.heap.size K L f s H locs → W p l e room_1 s m #[Value.ref b] below meth c H locs (cl + 0) (sl + 0) Q (F0 m 634 ls [.int (nI z9), .int (w >>> (nI 10 &&& 31)), .int (nI a)]) := by
      intro z9 ls H locs hz9 hl hM
      refine z_fcalli (z_runS hC hM (c_low ((w >>> (nI 10 &&& 31))) z9 (show 0 < z9 by omega) (show z9 < 2 ^ 31 by omega)) zy_L_low zm_L_64 rfl rfl hl.1 (Nat.le_of_ble_eq_true rfl) ⟨by decide, by decide⟩ ⟨by show cl + 0 + 0 ≤ 600086; omega, by show sl + 0 + 0 ≤ 7301442; omega⟩ dL_law_634) hM (fun H locs hM => ?_)
      have hlo2 := lowN_lt (v := (w >>> (nI 10 &&& 31))) (n := z9) (show 0 < z9 by omega)
      obtain ⟨d, hd⟩ : ∃ x, x = lowN (w >>> (nI 10 &&& 31)) z9 := ⟨_, rfl⟩
      rw [← hd]
      have hd9 : a + d < 1000 := by omega
      refine z_iadd hx hb dL_law_637 ?_
      refine lv_istore (lv' := [(20, .int (nI (a + d))), (0, .ref b), (1, .ref ((ad 1))), (2, .ref ((B 2))), (3, .ref ((B 3))), (4, .ref ((B 4))), (5, .ref ((B 5))), (6, .ref ((B 6))), (7, .ref ((B 7))), (8, .ref ((B 8))), (9, .ref ((B 9))), (10, .ref ((B 10))), (11, .int (nI (nw A))), (12, .int (nI (np A))), (13, .int (nI tm)), (14, .int (nI tn)), (15, .int v), (16, .int w), (18, .int (nI a))]) hx hb dL_law_638 hl (by decide) rfl (fun ls hl => ?_)
      refine lv_iconst (v := nI 0) hx hb dL_law_640 (by decide) ?_
      refine lv_istore (lv' := [(21, .int (nI 0)), (20, .int (nI (a + d))), (0, .ref b), (1, .ref ((ad 1))), (2, .ref ((B 2))), (3, .ref ((B 3))), (4, .ref ((B 4))), (5, .ref ((B 5))), (6, .ref ((B 6))), (7, .ref ((B 7))), (8, .ref ((B 8))), (9, .ref ((B 9))), (10, .ref ((B 10))), (11, .int (nI (nw A))), (12, .int (nI (np A))), (13, .int (nI tm)), (14, .int (nI tn)), (15, .int v), (16, .int w), (18, .int (nI a))]) hx hb dL_law_641 hl (by decide) rfl (fun ls hl => ?_)
      refine lv_iload hx hb dL_law_643 (lv_at hl 19 rfl) ?_
      refine lv_istore (lv' := [(22, .int (nI a)), (21, .int (nI 0)), (20, .int (nI (a + d))), (0, .ref b), (1, .ref ((ad 1))), (2, .ref ((B 2))), (3, .ref ((B 3))), (4, .ref ((B 4))), (5, .ref ((B 5))), (6, .ref ((B 6))), (7, .ref ((B 7))), (8, .ref ((B 8))), (9, .ref ((B 9))), (10, .ref ((B 10))), (11, .int (nI (nw A))), (12, .int (nI (np A))), (13, .int (nI tm)), (14, .int (nI tn)), (15, .int v), (16, .int w), (18, .int (nI a))]) hx hb dL_law_645 hl (by decide) rfl (fun ls hl => ?_)
      have LOOP647 : ∀ i : Nat, ∀ (ls : Array Slot) (H : Heap) (locs : List Loc) (f : Nat → va_E) (kb : Nat → Int64), lv_has ls 23 [(22, .int (nI (a + i))), (21, .int (nI ((obA A 0 a i).1 14 0 - A.1 14 0))), (0, .ref b), (1, .ref ((ad 1))), (2, .ref ((B 2))), (3, .ref ((B 3))), (4, .ref ((B 4))), (5, .ref ((B 5))), (6, .ref ((B 6))), (7, .ref ((B 7))), (8, .ref ((B 8))), (9, .ref ((B 9))), (10, .ref ((B 10))), (11, .int (nI (nw A))), (12, .int (nI (np A))), (13, .int (nI tm)), (14, .int (nI tn)), (15, .int v), (16, .int w), (18, .int (nI a)), (20, .int (nI (a + d)))] → zM s.heap.size K L f s H locs → (LSt K A B (FF K pv bl kb gb pe (A.1 23) ow ci fa) L f ad) → (KBok kb (obK A kt tm a i)) → (i ≤ d + 1) → W p l e room_1 s m #[Value.ref b] below meth c H locs (cl + 0 + 0) (sl + 0 + 0) Q (F0 m 647 ls []) := by
        refine z_lp (d + 1) 1 (by decide) (fun i ih => ?_)
        intro ls H locs f kb hl hM hS hkb hi9
        have hPi := PG.obs (a := a) hV hP i (by omega)
        have hk3 := hkb.2 (a + i)
        refine lv_iload hx hb dL_law_647 (lv_at hl 0 rfl) ?_
        refine lv_iload hx hb dL_law_649 (lv_at hl 20 rfl) ?_
        refine z_icmp_gt (tgt := 721) hx hb (nI_toInt (by omega)) (nI_toInt (by omega)) dL_law_651 (by decide) (fun c_651 => ?_) (fun c_651 => ?_)
        · skip
          obtain rfl : i = d + 1 := by omega
          have hl : lv_has ls 23 [(21, .int (nI ((obA A 0 a (d + 1)).1 14 0 - A.1 14 0))), (0, .ref b), (1, .ref ((ad 1))), (2, .ref ((B 2))), (3, .ref ((B 3))), (4, .ref ((B 4))), (5, .ref ((B 5))), (6, .ref ((B 6))), (7, .ref ((B 7))), (8, .ref ((B 8))), (9, .ref ((B 9))), (10, .ref ((B 10))), (11, .int (nI (nw A))), (12, .int (nI (np A))), (13, .int (nI tm)), (14, .int (nI tn)), (15, .int v), (16, .int w), (18, .int (nI a)), (20, .int (nI (a + d)))] := lv_sub hl [1, 2, 3, 4, 5, 6, 7, 8, 9, 10, 11, 12, 13, 14, 15, 16, 17, 18, 19, 20] rfl
          obtain ⟨hk9, ha9⟩ := kob_0 (A := A) hP.1 hd9
          refine lv_aload_n hx hb dL_law_721 rfl (lv_at hl 2 rfl) ?_
          refine lv_iconst (v := nI 0) hx hb dL_law_722 (by decide) ?_
          refine lv_iload hx hb dL_law_723 (lv_at hl 18 rfl) ?_
          refine lv_iload hx hb dL_law_725 (lv_at hl 19 rfl) ?_
          refine z_xq (av := #[]) (val := fun r : Int32 => some (.int r)) (post := fun r u => k_observe A (nI 0) (nI a) (nI (a + d)) = 0 ∧ r = v_observe A (nI 0) (nI a) (nI (a + d)) ∧ CR K A ad L f (a_observe A (nI 0) (nI a) (nI (a + d))) u.1 u.2) (z_xrunV hC hM (p_observe hst hS.1 (nI 0) (nI a) (nI (a + d))) zy_X6_observe zm_L_116 (ci_1 hS.1) (cx_at hS.1) zcl_X6 rfl rfl rfl hl.1 (Nat.le_of_ble_eq_true rfl) ⟨by decide, by decide⟩ ⟨by show cl + 0 + 0 + 4 ≤ 600086; omega, by show sl + 0 + 0 + 24 ≤ 7301442; omega⟩ dL_law_727) (fun st o t ⟨⟨r, u, h1, h2, h3⟩, h4⟩ => ⟨r, u, h1, h2, h3, h4⟩) hM (fun E ce q9 L1 f1 H locs hp hM _ _ _ => absurd hp.1.1 (by omega)) (fun r L f H locs hp hM => ?_)
          obtain ⟨-, hv9, hCR⟩ := hp
          rw [ha9] at hCR
          obtain ⟨ad, had, hS⟩ := hS.cr hCR
          rw [← had] at hl
          rw [hv9, show v_observe A (nI 0) (nI a) (nI (a + d)) = nI ((obA A 0 a (d + 1)).1 14 0 - A.1 14 0) from by unfold v_observe; rw [ha9, iv_0]]
          have hPn := PG.obs (a := a) hV hP (d + 1) (by omega)
          have h14 := hG_A hS.1.1 hPn
          have h15 : hG (obK A kt tm a (d + 1)) ≤ 1000 := cN_le _ 1 1000 0
          refine lv_iload hx hb dL_law_730 (lv_at hl 0 rfl) ?_
          refine z_icmp_eq (tgt := 737) hx hb (nI_toInt (by omega)) (nI_toInt (by omega)) dL_law_732 (by decide) (fun c_732 => ?_) (fun c_732 => ?_)
          · refine lv_goto (tgt := 1167) hx hb dL_law_737 (by decide) ?_
            refine W.widen (k := cl + 40) (n := sl + 2000) (by show cl + 0 + 0 + 4 ≤ cl + 40; omega) (by show sl + 0 + 0 + 24 ≤ sl + 2000; omega) ?_
            exact KK (obA A 0 a (d + 1)) tm bl (obK A kt tm a (d + 1)) ad L f H locs ls ⟨pv, kb, gb, pe, ow, ci, fa, by rw [ob_same _ 23 (by decide) (by decide)]; exact hS, hPn, hpa.congr (fun k hk => ob_same _ k (by omega) (by omega)), hkb, (fun x hx => by rw [ob_same _ 11 (by decide) (by decide)]; exact hgb x hx), (fun x hx => by rw [ob_same _ 21 (by decide) (by decide)]; exact hpe x (by rw [← show nw (obA A 0 a (d + 1)) = nw A from congrFun (ob_same _ 0 (by decide) (by decide)) 1]; exact hx)), hpp.congr (congrFun (ob_same _ 0 (by decide) (by decide)) 2) (ob_same _ 23 (by decide) (by decide)) (ob_same _ 25 (by decide) (by decide)) (ob_same _ 26 (by decide) (by decide))⟩ (by rw [show nw (obA A 0 a (d + 1)) = nw A from congrFun (ob_same _ 0 (by decide) (by decide)) 1, show np (obA A 0 a (d + 1)) = np A from congrFun (ob_same _ 0 (by decide) (by decide)) 2]; exact lv_sub hl [1, 2, 3, 4, 5, 6, 7, 8, 9, 10, 11, 12, 13, 14, 15, 16, 17] rfl) hM
          · exact absurd rfl c_732
        · refine lv_aload hx hb dL_law_654 (lv_at hl 7 rfl) ?_
          refine lv_iload hx hb dL_law_656 (lv_at hl 0 rfl) ?_
          refine lv_bipush (v := nI 64) hx hb dL_law_658 (by decide) ?_
          refine z_idiv hx hb (by omega) (by omega) (by omega) dL_law_660 ?_
          refine z_lald hC hM (hS.m (by decide) (by decide)) hS.s5 (by omega) (by omega) dL_law_661 ?_
          refine lv_iload hx hb dL_law_662 (lv_at hl 0 rfl) ?_
          refine lv_bipush (v := nI 64) hx hb dL_law_664 (by decide) ?_
          refine z_irem hx hb (by omega) (by omega) (by omega) dL_law_666 ?_
          refine lv_lshr hx hb dL_law_667 rfl ?_
          refine lv_lconst (v := lN 1) hx hb dL_law_668 (by decide) ?_
          refine lv_land hx hb dL_law_669 ?_
          rw [jB_tst _ (by omega), hgb (a + i) (by omega)]
          by_cases hc : A.1 11 (a + i) = 1
          · rw [btrue hc]
            refine lv_lconst (v := lN 1) hx hb dL_law_670 (by decide) ?_
            refine z_lif_eq (tgt := 715) hx hb (jN_toInt (by decide)) (jN_toInt (by decide)) dL_law_671 dL_law_672 (by decide) (fun c_671 => ?_) (fun c_671 => ?_)
            · refine lv_iinc (v := nI ((a + i) + 1)) (lv' := [(22, .int (nI ((a + i) + 1))), (21, .int (nI ((obA A 0 a i).1 14 0 - A.1 14 0))), (0, .ref b), (1, .ref ((ad 1))), (2, .ref ((B 2))), (3, .ref ((B 3))), (4, .ref ((B 4))), (5, .ref ((B 5))), (6, .ref ((B 6))), (7, .ref ((B 7))), (8, .ref ((B 8))), (9, .ref ((B 9))), (10, .ref ((B 10))), (11, .int (nI (nw A))), (12, .int (nI (np A))), (13, .int (nI tm)), (14, .int (nI tn)), (15, .int v), (16, .int w), (18, .int (nI a)), (20, .int (nI (a + d)))]) hx hb dL_law_715 hl (k := 0) rfl (nI_add (a + i) 1) (by decide) rfl (fun ls hl => ?_)
              refine lv_goto (tgt := 647) hx hb dL_law_718 (by decide) ?_
              obtain ⟨e8, e9⟩ := ob_no hPi (by omega) (Or.inl hc)
              exact ih (by omega) ls H locs f kb (by rw [e8]; exact lv_sub hl [0, 1, 2, 3, 4, 5, 6, 7, 8, 9, 10, 11, 12, 13, 14, 15, 16, 17, 18, 19, 20] rfl) hM hS (by rw [e9]; exact hkb) (by omega)
            · exact absurd rfl c_671
          · rw [bfalse hc]
            refine lv_lconst (v := lN 1) hx hb dL_law_670 (by decide) ?_
            refine z_lif_eq (tgt := 715) hx hb (jN_toInt (by decide)) (jN_toInt (by decide)) dL_law_671 dL_law_672 (by decide) (fun c_671 => ?_) (fun c_671 => ?_)
            · exact absurd c_671 (by decide)
            · refine lv_aload hx hb dL_law_675 (lv_at hl 6 rfl) ?_
              refine lv_iload hx hb dL_law_677 (lv_at hl 0 rfl) ?_
              refine z_fcalli (z_runS hC hM (c_when (hS.m (by decide) (by decide)) hS.s4 hkb (a + i) (by omega)) zy_L_when zm_L_40 rfl rfl hl.1 (Nat.le_of_ble_eq_true rfl) ⟨by decide, by decide⟩ ⟨by show cl + 0 + 0 + 0 ≤ 600086; omega, by show sl + 0 + 0 + 0 ≤ 7301442; omega⟩ dL_law_679) hM (fun H locs hM => ?_)
              refine z_if_lt (tgt := 688) hx hb rfl dL_law_682 (by decide) (fun c_682 => ?_) (fun c_682 => ?_)
              · skip
                rw [wnV_toInt (by omega)] at c_682
                refine lv_aload hx hb dL_law_688 (lv_at hl 6 rfl) ?_
                refine lv_bipush (v := nI 16) hx hb dL_law_690 (by decide) ?_
                refine lv_iload hx hb dL_law_692 (lv_at hl 15 rfl) ?_
                refine z_imul hx hb dL_law_694 ?_
                refine lv_iload hx hb dL_law_695 (lv_at hl 0 rfl) ?_
                refine lv_bipush (v := nI 64) hx hb dL_law_697 (by decide) ?_
                refine z_idiv hx hb (by omega) (by omega) (by omega) dL_law_699 ?_
                refine z_iadd hx hb dL_law_700 ?_
                refine lv_dup2_11 hx hb dL_law_701 rfl rfl ?_
                refine z_lald hC hM (hS.m (by decide) (by decide)) hS.s4 (by omega) (by omega) dL_law_702 ?_
                refine lv_lconst (v := lN 1) hx hb dL_law_703 (by decide) ?_
                refine lv_iload hx hb dL_law_704 (lv_at hl 0 rfl) ?_
                refine lv_bipush (v := nI 64) hx hb dL_law_706 (by decide) ?_
                refine z_irem hx hb (by omega) (by omega) (by omega) dL_law_708 ?_
                refine lv_lshl hx hb dL_law_709 rfl ?_
                refine lv_lor hx hb dL_law_710 ?_
                refine z_last hC hM (hS.m (by decide) (by decide)) hS.s4 (by omega) (by omega) dL_law_711 (fun H locs hM => ?_)
                obtain ⟨kb2, hkb2⟩ : ∃ g9, g9 = va_up kb ((16 * tm) + ((a + i) / 64)) ((kb ((16 * tm) + ((a + i) / 64))) ||| ((lN 1) <<< ((nI ((a + i) % 64)).toInt64 &&& 63))) := ⟨_, rfl⟩
                rw [← hkb2] at hM
                have hS := hS.u4 kb2
                generalize va_up f (B 4) (eJ K 48 kb2) = f at hM hS
                refine lv_iinc (v := nI (((obA A 0 a i).1 14 0 - A.1 14 0) + 1)) (lv' := [(21, .int (nI (((obA A 0 a i).1 14 0 - A.1 14 0) + 1))), (22, .int (nI (a + i))), (0, .ref b), (1, .ref ((ad 1))), (2, .ref ((B 2))), (3, .ref ((B 3))), (4, .ref ((B 4))), (5, .ref ((B 5))), (6, .ref ((B 6))), (7, .ref ((B 7))), (8, .ref ((B 8))), (9, .ref ((B 9))), (10, .ref ((B 10))), (11, .int (nI (nw A))), (12, .int (nI (np A))), (13, .int (nI tm)), (14, .int (nI tn)), (15, .int v), (16, .int w), (18, .int (nI a)), (20, .int (nI (a + d)))]) hx hb dL_law_712 hl (k := 1) rfl (nI_add ((obA A 0 a i).1 14 0 - A.1 14 0) 1) (by decide) rfl (fun ls hl => ?_)
                refine lv_iinc (v := nI ((a + i) + 1)) (lv' := [(22, .int (nI ((a + i) + 1))), (21, .int (nI (((obA A 0 a i).1 14 0 - A.1 14 0) + 1))), (0, .ref b), (1, .ref ((ad 1))), (2, .ref ((B 2))), (3, .ref ((B 3))), (4, .ref ((B 4))), (5, .ref ((B 5))), (6, .ref ((B 6))), (7, .ref ((B 7))), (8, .ref ((B 8))), (9, .ref ((B 9))), (10, .ref ((B 10))), (11, .int (nI (nw A))), (12, .int (nI (np A))), (13, .int (nI tm)), (14, .int (nI tn)), (15, .int v), (16, .int w), (18, .int (nI a)), (20, .int (nI (a + d)))]) hx hb dL_law_715 hl (k := 1) rfl (nI_add (a + i) 1) (by decide) rfl (fun ls hl => ?_)
                refine lv_goto (tgt := 647) hx hb dL_law_718 (by decide) ?_
                obtain ⟨e8, e9⟩ := ob_yes hPi (by omega) hc (by omega)
                exact ih (by omega) ls H locs f kb2 (by rw [e8]; exact lv_sub hl [0, 1, 2, 3, 4, 5, 6, 7, 8, 9, 10, 11, 12, 13, 14, 15, 16, 17, 18, 19, 20] rfl) hM hS (by rw [hkb2, e9]; exact hkb.keep hP.2.2.2.2.1 (by omega) (by omega)) (by omega)
              · skip
                rw [wnV_toInt (by omega)] at c_682
                refine lv_goto (tgt := 715) hx hb dL_law_685 (by decide) ?_
                refine lv_iinc (v := nI ((a + i) + 1)) (lv' := [(22, .int (nI ((a + i) + 1))), (21, .int (nI ((obA A 0 a i).1 14 0 - A.1 14 0))), (0, .ref b), (1, .ref ((ad 1))), (2, .ref ((B 2))), (3, .ref ((B 3))), (4, .ref ((B 4))), (5, .ref ((B 5))), (6, .ref ((B 6))), (7, .ref ((B 7))), (8, .ref ((B 8))), (9, .ref ((B 9))), (10, .ref ((B 10))), (11, .int (nI (nw A))), (12, .int (nI (np A))), (13, .int (nI tm)), (14, .int (nI tn)), (15, .int v), (16, .int w), (18, .int (nI a)), (20, .int (nI (a + d)))]) hx hb dL_law_715 hl (k := 0) rfl (nI_add (a + i) 1) (by decide) rfl (fun ls hl => ?_)
                refine lv_goto (tgt := 647) hx hb dL_law_718 (by decide) ?_
                obtain ⟨e8, e9⟩ := ob_no hPi (by omega) (Or.inr (by omega))
                exact ih (by omega) ls H locs f kb (by rw [e8]; exact lv_sub hl [0, 1, 2, 3, 4, 5, 6, 7, 8, 9, 10, 11, 12, 13, 14, 15, 16, 17, 18, 19, 20] rfl) hM hS (by rw [e9]; exact hkb) (by omega)
      exact LOOP647 0 ls H locs f kb (by rw [show (obA A 0 a 0).1 14 0 - A.1 14 0 = 0 from Nat.sub_self _]; exact lv_sub hl [0, 1, 3, 4, 5, 6, 7, 8, 9, 10, 11, 12, 13, 14, 15, 16, 17, 18, 19, 20, 2] rfl) hM hS hkb (by omega)
    refine lv_iload hx hb dL_law_605 (lv_at hl 18 rfl) ?_
    refine lv_iload hx hb dL_law_607 (lv_at hl 17 rfl) ?_
    refine lv_bipush (v := nI 10) hx hb dL_law_609 (by decide) ?_
    refine lv_ishr hx hb dL_law_611 ?_
    refine lv_sipush (v := nI 1000) hx hb dL_law_612 (by decide) ?_
    refine lv_iload hx hb dL_law_615 (lv_at hl 18 rfl) ?_
    refine z_isub hx hb (by omega) dL_law_617 ?_
    refine lv_iload hx hb dL_law_618 (lv_at hl 0 rfl) ?_
    refine z_icmp_le (tgt := 628) hx hb (nI_toInt (by omega)) (nI_toInt (by omega)) dL_law_620 (by decide) (fun c_620 => ?_) (fun c_620 => ?_)
    · refine lv_sipush (v := nI 1000) hx hb dL_law_628 (by decide) ?_
      refine lv_iload hx hb dL_law_631 (lv_at hl 18 rfl) ?_
      refine z_isub hx hb (by omega) dL_law_633 ?_
      refine W.widen (k := cl + 0) (n := sl + 0) (by show cl + 0 ≤ cl + 0; omega) (by show sl + 0 ≤ sl + 0; omega) ?_
      exact JOIN634 (1000 - a) ls H locs (by omega) (lv_sub hl [1, 2, 3, 4, 5, 6, 7, 8, 9, 10, 11, 12, 13, 14, 15, 16, 17, 18] rfl) hM
    · refine lv_iload hx hb dL_law_623 (lv_at hl 0 rfl) ?_
      refine lv_goto (tgt := 634) hx hb dL_law_625 (by decide) ?_
      refine W.widen (k := cl + 0) (n := sl + 0) (by show cl + 0 ≤ cl + 0; omega) (by show sl + 0 ≤ sl + 0; omega) ?_
      exact JOIN634 y9 ls H locs (by omega) (lv_sub hl [1, 2, 3, 4, 5, 6, 7, 8, 9, 10, 11, 12, 13, 14, 15, 16, 17, 18] rfl) hM
  refine lv_iload hx hb dL_law_584 (lv_at hl 16 rfl) ?_
  refine lv_iconst (v := nI 5) hx hb dL_law_586 (by decide) ?_
  refine lv_ishr hx hb dL_law_587 ?_
  refine lv_iconst (v := nI 3) hx hb dL_law_588 (by decide) ?_
  refine z_fcalli (z_runS hC hM (c_low ((v >>> (nI 5 &&& 31))) 3 (by decide) (by decide)) zy_L_low zm_L_64 rfl rfl hl.1 (Nat.le_of_ble_eq_true rfl) ⟨by decide, by decide⟩ ⟨by show cl + 0 + 0 ≤ 600086; omega, by show sl + 0 + 0 ≤ 7301442; omega⟩ dL_law_589) hM (fun H locs hM => ?_)
  have hlo3 := lowN_lt (v := (v >>> (nI 5 &&& 31))) (n := 3) (by decide)
  refine z_if_ne (tgt := 601) hx hb (nI_toInt (by omega)) dL_law_592 (by decide) (fun c_592 => ?_) (fun c_592 => ?_)
  · refine lv_bipush (v := nI 40) hx hb dL_law_601 (by decide) ?_
    refine W.widen (k := cl + 0) (n := sl + 0) (by show cl + 0 + 0 ≤ cl + 0; omega) (by show sl + 0 + 0 ≤ sl + 0; omega) ?_
    exact JOIN603 40 ls H locs (by omega) (lv_sub hl [1, 2, 3, 4, 5, 6, 7, 8, 9, 10, 11, 12, 13, 14, 15, 16, 17, 0] rfl) hM
  · refine lv_sipush (v := nI 400) hx hb dL_law_595 (by decide) ?_
    refine lv_goto (tgt := 603) hx hb dL_law_598 (by decide) ?_
    refine W.widen (k := cl + 0) (n := sl + 0) (by show cl + 0 + 0 ≤ cl + 0; omega) (by show sl + 0 + 0 ≤ sl + 0; omega) ?_
    exact JOIN603 400 ls H locs (by omega) (lv_sub hl [1, 2, 3, 4, 5, 6, 7, 8, 9, 10, 11, 12, 13, 14, 15, 16, 17, 0] rfl) hM
