/-! THE LAW'S PIECES, second part: clouds, nights (rows laid by wip/p22/lawp2.py) -/
theorem kcl_0 {A : zA} {a d : Nat} (h : a + d < 1000) : k_cloud (nI a) (nI (a + d)) = 0 ∧ a_cloud A (nI a) (nI (a + d)) = clA A a (d + 1) := by
  have e1 : (nI a).toInt = a := nI_toInt (by omega)
  have e2 : (nI (a + d)).toInt = ((a + d : Nat) : Int) := nI_toInt (by omega)
  have hk : k_cloud (nI a) (nI (a + d)) = 0 := by
    unfold k_cloud
    rw [if_neg (fun z => z ⟨iR_n (by omega) (by omega) (by omega), iR_n (by omega) (by omega) (by omega)⟩), if_neg (by omega)]
  refine ⟨hk, ?_⟩
  unfold a_cloud
  rw [if_pos hk, iv_n (by omega), iv_n (by omega), show a + d + 1 - a = d + 1 by omega]
theorem kob_0 {A : zA} {a d : Nat} (h1 : ns A = 1) (h : a + d < 1000) : k_observe A (nI 0) (nI a) (nI (a + d)) = 0 ∧ a_observe A (nI 0) (nI a) (nI (a + d)) = obA A 0 a (d + 1) := by
  have e1 : (nI a).toInt = a := nI_toInt (by omega)
  have e2 : (nI (a + d)).toInt = ((a + d : Nat) : Int) := nI_toInt (by omega)
  have hk : k_observe A (nI 0) (nI a) (nI (a + d)) = 0 := by
    unfold k_observe
    rw [if_neg (fun z => z ⟨isS_0 h1, iR_n (by omega) (by omega) (by omega), iR_n (by omega) (by omega) (by omega)⟩), if_neg (by omega)]
  refine ⟨hk, ?_⟩
  unfold a_observe
  rw [if_pos hk, iv_0, iv_n (by omega), iv_n (by omega), show a + d + 1 - a = d + 1 by omega]
theorem hN_le (A : zA) : ∀ n, hN A n ≤ n
  | 0 => Nat.le_refl 0
  | n + 1 => by
    have := hN_le A n
    unfold hN
    split <;> omega
set_option maxHeartbeats 1000000 in
set_option maxRecDepth 100000 in
theorem k_cl {p : Program} {l : Launch} {e : Env} {s : State} {m : MethodId} {below : List Frame} {meth : Method} {c : Code} {K : zK} (hst : l.stackTraces = false) {b L9 : Nat} {xs : Nat → Int32} (hC : zC p s #[Value.ref b] m c cL_law 23 RL s.heap.size K) (hX : va_X b L9 xs s s.heap) (hbl : b < s.heap.size) (hL9 : L9 ≤ 3072) {B : Nat → Nat} {A : zA} {tm : Nat} {bl kt : Nat → Nat} {ad : Nat → Nat} {L : List Nat} {f : Nat → va_E} {H : Heap} {locs : List Loc} {ls : Array Slot} {cl sl tn : Nat} {v w : Int32} (hcl : cl + 200 ≤ 600086) (hsl : sl + 3500 ≤ 7301442) (hI : INV K A B tm bl kt L f ad) (hM : zM s.heap.size K L f s H locs)  (hl : lv_has ls 23 [(0, .ref b), (1, .ref ((ad 1))), (2, .ref ((B 2))), (3, .ref ((B 3))), (4, .ref ((B 4))), (5, .ref ((B 5))), (6, .ref ((B 6))), (7, .ref ((B 7))), (8, .ref ((B 8))), (9, .ref ((B 9))), (10, .ref ((B 10))), (11, .int (nI (nw A))), (12, .int (nI (np A))), (13, .int (nI tm)), (14, .int (nI tn)), (15, .int v), (16, .int w)]) {Q : State → Prop} (KK : ∀ (A : zA) (tm : Nat) (bl kt : Nat → Nat) (ad : Nat → Nat) (L : List Nat) (f : Nat → va_E) (H : Heap) (locs : List Loc) (ls : Array Slot), INV K A B tm bl kt L f ad → lv_has ls 23 [(0, .ref b), (1, .ref ((ad 1))), (2, .ref ((B 2))), (3, .ref ((B 3))), (4, .ref ((B 4))), (5, .ref ((B 5))), (6, .ref ((B 6))), (7, .ref ((B 7))), (8, .ref ((B 8))), (9, .ref ((B 9))), (10, .ref ((B 10))), (11, .int (nI (nw A))), (12, .int (nI (np A))), (13, .int (nI tm)), (14, .int (nI tn)), (15, .int v), (16, .int w)] → zM s.heap.size K L f s H locs → W p l e room_1 s m #[Value.ref b] below meth c H locs (cl + 40) (sl + 2000) Q (F0 m 1167 ls [])) : W p l e room_1 s m #[Value.ref b] below meth c H locs cl sl Q (F0 m 418 ls []) := by
  have hx := hC.1
  have hb := hC.2.1
  have hown := hC.2.2.2.1
  have hts := hC.2.2.2.2.1
  obtain ⟨pv, kb, gb, pe, ow, ci, fa, hS, hP, hpa, hkb, hgb, hpe, hpp⟩ := hI
  have hV : VA A := hS.1.1
  refine lv_iload hx hb dL_law_418 (lv_at hl 16 rfl) ?_
  refine lv_sipush (v := nI 1000) hx hb dL_law_420 (by decide) ?_
  refine z_fcalli (z_runS hC hM (c_low w 1000 (by decide) (by decide)) zy_L_low zm_L_64 rfl rfl hl.1 (Nat.le_of_ble_eq_true rfl) ⟨by decide, by decide⟩ ⟨by show cl + 0 ≤ 600086; omega, by show sl + 0 ≤ 7301442; omega⟩ dL_law_423) hM (fun H locs hM => ?_)
  have hlo1 := lowN_lt (v := w) (n := 1000) (by decide)
  obtain ⟨a, ha⟩ : ∃ x, x = lowN w 1000 := ⟨_, rfl⟩
  rw [← ha]
  have ha9 : a < 1000 := by omega
  refine lv_istore (lv' := [(18, .int (nI a)), (0, .ref b), (1, .ref ((ad 1))), (2, .ref ((B 2))), (3, .ref ((B 3))), (4, .ref ((B 4))), (5, .ref ((B 5))), (6, .ref ((B 6))), (7, .ref ((B 7))), (8, .ref ((B 8))), (9, .ref ((B 9))), (10, .ref ((B 10))), (11, .int (nI (nw A))), (12, .int (nI (np A))), (13, .int (nI tm)), (14, .int (nI tn)), (15, .int v), (16, .int w)]) hx hb dL_law_426 hl (by decide) rfl (fun ls hl => ?_)
  have JOIN457 : ∀ (z9 : Nat) (ls : Array Slot) (H : Heap) (locs : List Loc), 1 ≤ z9 ∧ a + z9 ≤ 1000 → lv_has ls 23 [(0, .ref b), (1, .ref ((ad 1))), (2, .ref ((B 2))), (3, .ref ((B 3))), (4, .ref ((B 4))), (5, .ref ((B 5))), (6, .ref ((B 6))), (7, .ref ((B 7))), (8, .ref ((B 8))), (9, .ref ((B 9))), (10, .ref ((B 10))), (11, .int (nI (nw A))), (12, .int (nI (np A))), (13, .int (nI tm)), (14, .int (nI tn)), (15, .int v), (16, .int w), (18, .int (nI a))] → zM s.heap.size K L f s H locs → W p l e room_1 s m #[Value.ref b] below meth c H locs (cl + 0) (sl + 0) Q (F0 m 457 ls [.int (nI z9), .int (w >>> (nI 10 &&& 31)), .int (nI a)]) := by
    intro z9 ls H locs hz9 hl hM
    refine z_fcalli (z_runS hC hM (c_low ((w >>> (nI 10 &&& 31))) z9 (show 0 < z9 by omega) (show z9 < 2 ^ 31 by omega)) zy_L_low zm_L_64 rfl rfl hl.1 (Nat.le_of_ble_eq_true rfl) ⟨by decide, by decide⟩ ⟨by show cl + 0 + 0 ≤ 600086; omega, by show sl + 0 + 0 ≤ 7301442; omega⟩ dL_law_457) hM (fun H locs hM => ?_)
    have hlo2 := lowN_lt (v := (w >>> (nI 10 &&& 31))) (n := z9) (show 0 < z9 by omega)
    obtain ⟨d, hd⟩ : ∃ x, x = lowN (w >>> (nI 10 &&& 31)) z9 := ⟨_, rfl⟩
    rw [← hd]
    have hd9 : a + d < 1000 := by omega
    refine z_iadd hx hb dL_law_460 ?_
    refine lv_istore (lv' := [(19, .int (nI (a + d))), (0, .ref b), (1, .ref ((ad 1))), (2, .ref ((B 2))), (3, .ref ((B 3))), (4, .ref ((B 4))), (5, .ref ((B 5))), (6, .ref ((B 6))), (7, .ref ((B 7))), (8, .ref ((B 8))), (9, .ref ((B 9))), (10, .ref ((B 10))), (11, .int (nI (nw A))), (12, .int (nI (np A))), (13, .int (nI tm)), (14, .int (nI tn)), (15, .int v), (16, .int w), (18, .int (nI a))]) hx hb dL_law_461 hl (by decide) rfl (fun ls hl => ?_)
    refine lv_iconst (v := nI 0) hx hb dL_law_463 (by decide) ?_
    refine lv_istore (lv' := [(20, .int (nI 0)), (19, .int (nI (a + d))), (0, .ref b), (1, .ref ((ad 1))), (2, .ref ((B 2))), (3, .ref ((B 3))), (4, .ref ((B 4))), (5, .ref ((B 5))), (6, .ref ((B 6))), (7, .ref ((B 7))), (8, .ref ((B 8))), (9, .ref ((B 9))), (10, .ref ((B 10))), (11, .int (nI (nw A))), (12, .int (nI (np A))), (13, .int (nI tm)), (14, .int (nI tn)), (15, .int v), (16, .int w), (18, .int (nI a))]) hx hb dL_law_464 hl (by decide) rfl (fun ls hl => ?_)
    refine lv_iload hx hb dL_law_466 (lv_at hl 19 rfl) ?_
    refine lv_istore (lv' := [(21, .int (nI a)), (20, .int (nI 0)), (19, .int (nI (a + d))), (0, .ref b), (1, .ref ((ad 1))), (2, .ref ((B 2))), (3, .ref ((B 3))), (4, .ref ((B 4))), (5, .ref ((B 5))), (6, .ref ((B 6))), (7, .ref ((B 7))), (8, .ref ((B 8))), (9, .ref ((B 9))), (10, .ref ((B 10))), (11, .int (nI (nw A))), (12, .int (nI (np A))), (13, .int (nI tm)), (14, .int (nI tn)), (15, .int v), (16, .int w), (18, .int (nI a))]) hx hb dL_law_468 hl (by decide) rfl (fun ls hl => ?_)
    have LOOP470 : ∀ i : Nat, ∀ (ls : Array Slot) (H : Heap) (locs : List Loc) (f : Nat → va_E) (gb : Nat → Int64), lv_has ls 23 [(21, .int (nI (a + i))), (20, .int (nI 0)), (0, .ref b), (1, .ref ((ad 1))), (2, .ref ((B 2))), (3, .ref ((B 3))), (4, .ref ((B 4))), (5, .ref ((B 5))), (6, .ref ((B 6))), (7, .ref ((B 7))), (8, .ref ((B 8))), (9, .ref ((B 9))), (10, .ref ((B 10))), (11, .int (nI (nw A))), (12, .int (nI (np A))), (13, .int (nI tm)), (14, .int (nI tn)), (15, .int v), (16, .int w), (18, .int (nI a)), (19, .int (nI (a + d)))] → zM s.heap.size K L f s H locs → (LSt K A B (FF K pv bl kb gb pe (A.1 23) ow ci fa) L f ad) → (HBok (clA A a i) gb) → (i ≤ d + 1) → W p l e room_1 s m #[Value.ref b] below meth c H locs (cl + 0 + 0) (sl + 0 + 0) Q (F0 m 470 ls []) := by
      refine z_lp (d + 1) 1 (by decide) (fun i ih => ?_)
      intro ls H locs f gb hl hM hS hgb hi9
      refine lv_iload hx hb dL_law_470 (lv_at hl 0 rfl) ?_
      refine lv_iload hx hb dL_law_472 (lv_at hl 20 rfl) ?_
      refine z_icmp_gt (tgt := 501) hx hb (nI_toInt (by omega)) (nI_toInt (by omega)) dL_law_474 (by decide) (fun c_474 => ?_) (fun c_474 => ?_)
      · skip
        obtain rfl : i = d + 1 := by omega
        have hl : lv_has ls 23 [(20, .int (nI 0)), (0, .ref b), (1, .ref ((ad 1))), (2, .ref ((B 2))), (3, .ref ((B 3))), (4, .ref ((B 4))), (5, .ref ((B 5))), (6, .ref ((B 6))), (7, .ref ((B 7))), (8, .ref ((B 8))), (9, .ref ((B 9))), (10, .ref ((B 10))), (11, .int (nI (nw A))), (12, .int (nI (np A))), (13, .int (nI tm)), (14, .int (nI tn)), (15, .int v), (16, .int w), (18, .int (nI a)), (19, .int (nI (a + d)))] := lv_sub hl [1, 2, 3, 4, 5, 6, 7, 8, 9, 10, 11, 12, 13, 14, 15, 16, 17, 18, 19, 20] rfl
        refine lv_iconst (v := nI 0) hx hb dL_law_501 (by decide) ?_
        refine lv_istore (lv' := [(21, .int (nI 0)), (20, .int (nI 0)), (0, .ref b), (1, .ref ((ad 1))), (2, .ref ((B 2))), (3, .ref ((B 3))), (4, .ref ((B 4))), (5, .ref ((B 5))), (6, .ref ((B 6))), (7, .ref ((B 7))), (8, .ref ((B 8))), (9, .ref ((B 9))), (10, .ref ((B 10))), (11, .int (nI (nw A))), (12, .int (nI (np A))), (13, .int (nI tm)), (14, .int (nI tn)), (15, .int v), (16, .int w), (18, .int (nI a)), (19, .int (nI (a + d)))]) hx hb dL_law_502 hl (by decide) rfl (fun ls hl => ?_)
        have LOOP504 : ∀ j : Nat, ∀ (ls : Array Slot) (H : Heap) (locs : List Loc), lv_has ls 23 [(21, .int (nI j)), (20, .int (nI (hN (clA A a (d + 1)) j))), (0, .ref b), (1, .ref ((ad 1))), (2, .ref ((B 2))), (3, .ref ((B 3))), (4, .ref ((B 4))), (5, .ref ((B 5))), (6, .ref ((B 6))), (7, .ref ((B 7))), (8, .ref ((B 8))), (9, .ref ((B 9))), (10, .ref ((B 10))), (11, .int (nI (nw A))), (12, .int (nI (np A))), (13, .int (nI tm)), (14, .int (nI tn)), (15, .int v), (16, .int w), (18, .int (nI a)), (19, .int (nI (a + d)))] → zM s.heap.size K L f s H locs → (j ≤ 1000) → W p l e room_1 s m #[Value.ref b] below meth c H locs (cl + 0 + 0) (sl + 0 + 0) Q (F0 m 504 ls []) := by
          refine z_lp 1000 1 (by decide) (fun j ih => ?_)
          intro ls H locs hl hM hi9
          have hn8 := hN_le (clA A a (d + 1)) j
          refine lv_iload hx hb dL_law_504 (lv_at hl 0 rfl) ?_
          refine lv_sipush (v := nI 1000) hx hb dL_law_506 (by decide) ?_
          refine z_icmp_ge (tgt := 549) hx hb (nI_toInt (by omega)) (nI_toInt (by decide)) dL_law_509 (by decide) (fun c_509 => ?_) (fun c_509 => ?_)
          · skip
            obtain rfl : j = 1000 := by omega
            have hl : lv_has ls 23 [(20, .int (nI (hN (clA A a (d + 1)) 1000))), (0, .ref b), (1, .ref ((ad 1))), (2, .ref ((B 2))), (3, .ref ((B 3))), (4, .ref ((B 4))), (5, .ref ((B 5))), (6, .ref ((B 6))), (7, .ref ((B 7))), (8, .ref ((B 8))), (9, .ref ((B 9))), (10, .ref ((B 10))), (11, .int (nI (nw A))), (12, .int (nI (np A))), (13, .int (nI tm)), (14, .int (nI tn)), (15, .int v), (16, .int w), (18, .int (nI a)), (19, .int (nI (a + d)))] := lv_sub hl [1, 2, 3, 4, 5, 6, 7, 8, 9, 10, 11, 12, 13, 14, 15, 16, 17, 18, 19, 20] rfl
            obtain ⟨hk9, ha9⟩ := kcl_0 (A := A) hd9
            refine lv_aload_n hx hb dL_law_549 rfl (lv_at hl 2 rfl) ?_
            refine lv_iload hx hb dL_law_550 (lv_at hl 18 rfl) ?_
            refine lv_iload hx hb dL_law_552 (lv_at hl 19 rfl) ?_
            refine z_xq (av := #[]) (val := fun r : Int32 => some (.int r)) (post := fun r u => k_cloud (nI a) (nI (a + d)) = 0 ∧ r = v_cloud A (nI a) (nI (a + d)) ∧ CR K A ad L f (a_cloud A (nI a) (nI (a + d))) u.1 u.2) (z_xrunV hC hM (p_cloud hst hS.1 (nI a) (nI (a + d))) zy_X6_cloud zm_L_113 (ci_1 hS.1) (cx_at hS.1) zcl_X6 rfl rfl rfl hl.1 (Nat.le_of_ble_eq_true rfl) ⟨by decide, by decide⟩ ⟨by show cl + 0 + 0 + 3 ≤ 600086; omega, by show sl + 0 + 0 + 18 ≤ 7301442; omega⟩ dL_law_554) (fun st o t ⟨⟨r, u, h1, h2, h3⟩, h4⟩ => ⟨r, u, h1, h2, h3, h4⟩) hM (fun E ce q9 L1 f1 H locs hp hM _ _ _ => absurd hp.1.1 (by omega)) (fun r L f H locs hp hM => ?_)
            obtain ⟨-, hv9, hCR⟩ := hp
            rw [ha9] at hCR
            obtain ⟨ad, had, hS⟩ := hS.cr hCR
            rw [← had] at hl
            rw [hv9, show v_cloud A (nI a) (nI (a + d)) = nI (hN (clA A a (d + 1)) 1000) from by unfold v_cloud; rw [ha9]]
            refine lv_iload hx hb dL_law_557 (lv_at hl 0 rfl) ?_
            refine z_icmp_eq (tgt := 564) hx hb (nI_toInt (by omega)) (nI_toInt (by omega)) dL_law_559 (by decide) (fun c_559 => ?_) (fun c_559 => ?_)
            · refine lv_goto (tgt := 1167) hx hb dL_law_564 (by decide) ?_
              refine W.widen (k := cl + 40) (n := sl + 2000) (by show cl + 0 + 0 + 3 ≤ cl + 40; omega) (by show sl + 0 + 0 + 18 ≤ sl + 2000; omega) ?_
              exact KK (clA A a (d + 1)) tm bl kt ad L f H locs ls ⟨pv, kb, gb, pe, ow, ci, fa, by rw [cl_same _ 23 (by decide)]; exact hS, hP.congr (cl_same _ 0 (by decide)) (fun k hk => cl_same _ k (by omega)) (cl_2 _), hpa.congr (fun k hk => cl_same _ k (by omega)), hkb, hgb, (fun x hx => by rw [cl_same _ 21 (by decide)]; exact hpe x (by rw [← show nw (clA A a (d + 1)) = nw A from congrFun (cl_same _ 0 (by decide)) 1]; exact hx)), hpp.congr (congrFun (cl_same _ 0 (by decide)) 2) (cl_same _ 23 (by decide)) (cl_same _ 25 (by decide)) (cl_same _ 26 (by decide))⟩ (by rw [show nw (clA A a (d + 1)) = nw A from congrFun (cl_same _ 0 (by decide)) 1, show np (clA A a (d + 1)) = np A from congrFun (cl_same _ 0 (by decide)) 2]; exact lv_sub hl [1, 2, 3, 4, 5, 6, 7, 8, 9, 10, 11, 12, 13, 14, 15, 16, 17] rfl) hM
            · exact absurd rfl c_559
          · refine lv_iload hx hb dL_law_512 (lv_at hl 1 rfl) ?_
            refine lv_aload hx hb dL_law_514 (lv_at hl 7 rfl) ?_
            refine lv_iload hx hb dL_law_516 (lv_at hl 0 rfl) ?_
            refine lv_bipush (v := nI 64) hx hb dL_law_518 (by decide) ?_
            refine z_idiv hx hb (by omega) (by omega) (by omega) dL_law_520 ?_
            refine z_lald hC hM (hS.m (by decide) (by decide)) hS.s5 (by omega) (by omega) dL_law_521 ?_
            refine lv_iload hx hb dL_law_522 (lv_at hl 0 rfl) ?_
            refine lv_bipush (v := nI 64) hx hb dL_law_524 (by decide) ?_
            refine z_irem hx hb (by omega) (by omega) (by omega) dL_law_526 ?_
            refine lv_lshr hx hb dL_law_527 rfl ?_
            refine lv_lconst (v := lN 1) hx hb dL_law_528 (by decide) ?_
            refine lv_land hx hb dL_law_529 ?_
            rw [jB_tst _ (by omega), hgb j (by omega)]
            by_cases hc : (clA A a (d + 1)).1 11 j = 1
            · rw [btrue hc]
              refine lv_lconst (v := lN 1) hx hb dL_law_530 (by decide) ?_
              refine z_lif_ne (tgt := 539) hx hb (jN_toInt (by decide)) (jN_toInt (by decide)) dL_law_531 dL_law_532 (by decide) (fun c_531 => ?_) (fun c_531 => ?_)
              · exact absurd rfl c_531
              · refine lv_iconst (v := nI 1) hx hb dL_law_535 (by decide) ?_
                refine lv_goto (tgt := 540) hx hb dL_law_536 (by decide) ?_
                refine z_iadd hx hb dL_law_540 ?_
                refine lv_istore (lv' := [(20, .int (nI ((hN (clA A a (d + 1)) j) + 1))), (21, .int (nI j)), (0, .ref b), (1, .ref ((ad 1))), (2, .ref ((B 2))), (3, .ref ((B 3))), (4, .ref ((B 4))), (5, .ref ((B 5))), (6, .ref ((B 6))), (7, .ref ((B 7))), (8, .ref ((B 8))), (9, .ref ((B 9))), (10, .ref ((B 10))), (11, .int (nI (nw A))), (12, .int (nI (np A))), (13, .int (nI tm)), (14, .int (nI tn)), (15, .int v), (16, .int w), (18, .int (nI a)), (19, .int (nI (a + d)))]) hx hb dL_law_541 hl (by decide) rfl (fun ls hl => ?_)
                refine lv_iinc (v := nI (j + 1)) (lv' := [(21, .int (nI (j + 1))), (20, .int (nI ((hN (clA A a (d + 1)) j) + 1))), (0, .ref b), (1, .ref ((ad 1))), (2, .ref ((B 2))), (3, .ref ((B 3))), (4, .ref ((B 4))), (5, .ref ((B 5))), (6, .ref ((B 6))), (7, .ref ((B 7))), (8, .ref ((B 8))), (9, .ref ((B 9))), (10, .ref ((B 10))), (11, .int (nI (nw A))), (12, .int (nI (np A))), (13, .int (nI tm)), (14, .int (nI tn)), (15, .int v), (16, .int w), (18, .int (nI a)), (19, .int (nI (a + d)))]) hx hb dL_law_543 hl (k := 1) rfl (nI_add j 1) (by decide) rfl (fun ls hl => ?_)
                refine lv_goto (tgt := 504) hx hb dL_law_546 (by decide) ?_
                have e9 : hN (clA A a (d + 1)) (j + 1) = hN (clA A a (d + 1)) j + 1 := by rw [hN, if_pos hc]
                exact ih (by omega) ls H locs (by rw [e9]; exact lv_sub hl [0, 1, 2, 3, 4, 5, 6, 7, 8, 9, 10, 11, 12, 13, 14, 15, 16, 17, 18, 19, 20] rfl) hM (by omega)
            · rw [bfalse hc]
              refine lv_lconst (v := lN 1) hx hb dL_law_530 (by decide) ?_
              refine z_lif_ne (tgt := 539) hx hb (jN_toInt (by decide)) (jN_toInt (by decide)) dL_law_531 dL_law_532 (by decide) (fun c_531 => ?_) (fun c_531 => ?_)
              · refine lv_iconst (v := nI 0) hx hb dL_law_539 (by decide) ?_
                refine z_iadd hx hb dL_law_540 ?_
                refine lv_istore (lv' := [(20, .int (nI ((hN (clA A a (d + 1)) j) + 0))), (21, .int (nI j)), (0, .ref b), (1, .ref ((ad 1))), (2, .ref ((B 2))), (3, .ref ((B 3))), (4, .ref ((B 4))), (5, .ref ((B 5))), (6, .ref ((B 6))), (7, .ref ((B 7))), (8, .ref ((B 8))), (9, .ref ((B 9))), (10, .ref ((B 10))), (11, .int (nI (nw A))), (12, .int (nI (np A))), (13, .int (nI tm)), (14, .int (nI tn)), (15, .int v), (16, .int w), (18, .int (nI a)), (19, .int (nI (a + d)))]) hx hb dL_law_541 hl (by decide) rfl (fun ls hl => ?_)
                refine lv_iinc (v := nI (j + 1)) (lv' := [(21, .int (nI (j + 1))), (20, .int (nI ((hN (clA A a (d + 1)) j) + 0))), (0, .ref b), (1, .ref ((ad 1))), (2, .ref ((B 2))), (3, .ref ((B 3))), (4, .ref ((B 4))), (5, .ref ((B 5))), (6, .ref ((B 6))), (7, .ref ((B 7))), (8, .ref ((B 8))), (9, .ref ((B 9))), (10, .ref ((B 10))), (11, .int (nI (nw A))), (12, .int (nI (np A))), (13, .int (nI tm)), (14, .int (nI tn)), (15, .int v), (16, .int w), (18, .int (nI a)), (19, .int (nI (a + d)))]) hx hb dL_law_543 hl (k := 1) rfl (nI_add j 1) (by decide) rfl (fun ls hl => ?_)
                refine lv_goto (tgt := 504) hx hb dL_law_546 (by decide) ?_
                have e9 : hN (clA A a (d + 1)) (j + 1) = hN (clA A a (d + 1)) j := by rw [hN, if_neg hc]
                exact ih (by omega) ls H locs (by rw [e9]; exact lv_sub hl [0, 1, 2, 3, 4, 5, 6, 7, 8, 9, 10, 11, 12, 13, 14, 15, 16, 17, 18, 19, 20] rfl) hM (by omega)
              · exact absurd c_531 (by decide)
        exact LOOP504 0 ls H locs (lv_sub hl [0, 1, 2, 3, 4, 5, 6, 7, 8, 9, 10, 11, 12, 13, 14, 15, 16, 17, 18, 19, 20] rfl) hM (by omega)
      · refine lv_aload hx hb dL_law_477 (lv_at hl 7 rfl) ?_
        refine lv_iload hx hb dL_law_479 (lv_at hl 0 rfl) ?_
        refine lv_bipush (v := nI 64) hx hb dL_law_481 (by decide) ?_
        refine z_idiv hx hb (by omega) (by omega) (by omega) dL_law_483 ?_
        refine lv_dup2_11 hx hb dL_law_484 rfl rfl ?_
        refine z_lald hC hM (hS.m (by decide) (by decide)) hS.s5 (by omega) (by omega) dL_law_485 ?_
        refine lv_lconst (v := lN 1) hx hb dL_law_486 (by decide) ?_
        refine lv_iload hx hb dL_law_487 (lv_at hl 0 rfl) ?_
        refine lv_bipush (v := nI 64) hx hb dL_law_489 (by decide) ?_
        refine z_irem hx hb (by omega) (by omega) (by omega) dL_law_491 ?_
        refine lv_lshl hx hb dL_law_492 rfl ?_
        refine lv_lor hx hb dL_law_493 ?_
        refine z_last hC hM (hS.m (by decide) (by decide)) hS.s5 (by omega) (by omega) dL_law_494 (fun H locs hM => ?_)
        obtain ⟨gb2, hgb2⟩ : ∃ g9, g9 = va_up gb ((a + i) / 64) ((gb ((a + i) / 64)) ||| ((lN 1) <<< ((nI ((a + i) % 64)).toInt64 &&& 63))) := ⟨_, rfl⟩
        rw [← hgb2] at hM
        have hS := hS.u5 gb2
        generalize va_up f (B 5) (eJ K 16 gb2) = f at hM hS
        refine lv_iinc (v := nI ((a + i) + 1)) (lv' := [(21, .int (nI ((a + i) + 1))), (20, .int (nI 0)), (0, .ref b), (1, .ref ((ad 1))), (2, .ref ((B 2))), (3, .ref ((B 3))), (4, .ref ((B 4))), (5, .ref ((B 5))), (6, .ref ((B 6))), (7, .ref ((B 7))), (8, .ref ((B 8))), (9, .ref ((B 9))), (10, .ref ((B 10))), (11, .int (nI (nw A))), (12, .int (nI (np A))), (13, .int (nI tm)), (14, .int (nI tn)), (15, .int v), (16, .int w), (18, .int (nI a)), (19, .int (nI (a + d)))]) hx hb dL_law_495 hl (k := 0) rfl (nI_add (a + i) 1) (by decide) rfl (fun ls hl => ?_)
        refine lv_goto (tgt := 470) hx hb dL_law_498 (by decide) ?_
        exact ih (by omega) ls H locs f gb2 (lv_sub hl [0, 1, 2, 3, 4, 5, 6, 7, 8, 9, 10, 11, 12, 13, 14, 15, 16, 17, 18, 19, 20] rfl) hM hS (by rw [hgb2]; exact hgb.cloud (by omega)) (by omega)
    exact LOOP470 0 ls H locs f gb (lv_sub hl [0, 1, 3, 4, 5, 6, 7, 8, 9, 10, 11, 12, 13, 14, 15, 16, 17, 18, 19, 20, 2] rfl) hM hS hgb (by omega)
  refine lv_iload hx hb dL_law_428 (lv_at hl 0 rfl) ?_
  refine lv_iload hx hb dL_law_430 (lv_at hl 17 rfl) ?_
  refine lv_bipush (v := nI 10) hx hb dL_law_432 (by decide) ?_
  refine lv_ishr hx hb dL_law_434 ?_
  refine lv_sipush (v := nI 1000) hx hb dL_law_435 (by decide) ?_
  refine lv_iload hx hb dL_law_438 (lv_at hl 0 rfl) ?_
  refine z_isub hx hb (by omega) dL_law_440 ?_
  refine lv_bipush (v := nI 60) hx hb dL_law_441 (by decide) ?_
  refine z_icmp_le (tgt := 451) hx hb (nI_toInt (by omega)) (nI_toInt (by decide)) dL_law_443 (by decide) (fun c_443 => ?_) (fun c_443 => ?_)
  · refine lv_sipush (v := nI 1000) hx hb dL_law_451 (by decide) ?_
    refine lv_iload hx hb dL_law_454 (lv_at hl 0 rfl) ?_
    refine z_isub hx hb (by omega) dL_law_456 ?_
    refine W.widen (k := cl + 0) (n := sl + 0) (by show cl + 0 ≤ cl + 0; omega) (by show sl + 0 ≤ sl + 0; omega) ?_
    exact JOIN457 (1000 - a) ls H locs (by omega) (lv_sub hl [1, 2, 3, 4, 5, 6, 7, 8, 9, 10, 11, 12, 13, 14, 15, 16, 17, 0] rfl) hM
  · refine lv_bipush (v := nI 60) hx hb dL_law_446 (by decide) ?_
    refine lv_goto (tgt := 457) hx hb dL_law_448 (by decide) ?_
    refine W.widen (k := cl + 0) (n := sl + 0) (by show cl + 0 ≤ cl + 0; omega) (by show sl + 0 ≤ sl + 0; omega) ?_
    exact JOIN457 60 ls H locs (by omega) (lv_sub hl [1, 2, 3, 4, 5, 6, 7, 8, 9, 10, 11, 12, 13, 14, 15, 16, 17, 0] rfl) hM
