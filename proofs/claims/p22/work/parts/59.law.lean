/-! THE LAW'S PIECES, sixth part: what is asked behind each call (rows laid by wip/p22/lawp6.py) -/
theorem kli_0 {A : zA} {x : Nat} (h1 : ns A = 1) (hx : x < 1000) : k_light A (nI 0) (nI x) = 0 ∧ k_kept A (nI 0) (nI x) = 0 := by
  unfold k_light k_kept
  rw [if_pos ⟨isS_0 h1, iR_n (by omega) (by omega) (by omega)⟩]
  exact ⟨rfl, rfl⟩
theorem vli {A : zA} {tm x : Nat} {bl kt : Nat → Nat} (hV : VA A) (hP : PG A tm bl kt) (hx : x < 1000) : v_light A (nI 0) (nI x) = lN (nD (lwA A x (bl tm))).toNat := by
  unfold v_light
  rw [iv_0, iv_n (by omega), ltV_A hV hP, hP.2.2.2.2.2.1]
  exact u_long _
theorem vke {A : zA} {tm x : Nat} {bl kt : Nat → Nat} (hP : PG A tm bl kt) (hx : x < 1000) : (kt x = 0 → v_kept A (nI 0) (nI x) = -1) ∧ (kt x ≠ 0 → v_kept A (nI 0) (nI x) = lN (nD (lwA A x (bl (kt x - 1)))).toNat) := by
  have hk := hP.2.2.2.2.2.2.2.2.2.1 x hx
  have hl := hP.2.2.2.2.2.2.2.2.2.2.1 x hx
  unfold v_kept
  rw [iv_0, iv_n (by omega), show 1000 * 0 + x = x by omega]
  constructor
  · intro c
    exact if_neg (fun z => hk.mp z c)
  · intro c
    rw [if_pos (hk.mpr c), hl c]
    exact u_long _
theorem kan_0 {A : zA} {w : Nat} (hw : w < nw A) (h12 : nw A ≤ 12) : k_anew A (nI w) = 0 ∧ v_anew A (nI w) = nI (A.1 21 w) := by
  refine ⟨if_pos (iR_n (by omega) (by omega) (by omega)), ?_⟩
  unfold v_anew
  rw [iv_n (by omega)]
theorem kfa_0 {A : zA} {j : Nat} (hj : j < np A) (h30 : np A ≤ 30) : k_fallen A (nI j) = 0 ∧ v_fallen A (nI j) = nI (b2 (fell A j)) := by
  refine ⟨if_pos (iR_n (by omega) (by omega) (by omega)), ?_⟩
  unfold v_fallen
  rw [iv_n (by omega)]
set_option maxHeartbeats 1000000 in
set_option maxRecDepth 100000 in
theorem k_ch {p : Program} {l : Launch} {e : Env} {s : State} {m : MethodId} {below : List Frame} {meth : Method} {c : Code} {K : zK} (hst : l.stackTraces = false) {b L9 : Nat} {xs : Nat → Int32} (hC : zC p s #[Value.ref b] m c cL_law 23 RL s.heap.size K) (hX : va_X b L9 xs s s.heap) (hbl : b < s.heap.size) (hL9 : L9 ≤ 3072) {B : Nat → Nat} {A : zA} {tm : Nat} {bl kt : Nat → Nat} {ad : Nat → Nat} {L : List Nat} {f : Nat → va_E} {H : Heap} {locs : List Loc} {ls : Array Slot} {cl sl tn : Nat} {v w : Int32} (hcl : cl + 130 ≤ 600086) (hsl : sl + 800 ≤ 7301442) (hI : INV K A B tm bl kt L f ad) (hM : zM s.heap.size K L f s H locs) (htn : tn < 44) (hl : lv_has ls 23 [(0, .ref b), (1, .ref ((ad 1))), (2, .ref ((B 2))), (3, .ref ((B 3))), (4, .ref ((B 4))), (5, .ref ((B 5))), (6, .ref ((B 6))), (7, .ref ((B 7))), (8, .ref ((B 8))), (9, .ref ((B 9))), (10, .ref ((B 10))), (11, .int (nI (nw A))), (12, .int (nI (np A))), (13, .int (nI tm)), (14, .int (nI tn)), (15, .int v), (16, .int w)]) {Q : State → Prop} (KK : ∀ (A : zA) (tm : Nat) (bl kt : Nat → Nat) (ad : Nat → Nat) (L : List Nat) (f : Nat → va_E) (H : Heap) (locs : List Loc) (ls : Array Slot), INV K A B tm bl kt L f ad → lv_has ls 23 [(0, .ref b), (1, .ref ((ad 1))), (2, .ref ((B 2))), (3, .ref ((B 3))), (4, .ref ((B 4))), (5, .ref ((B 5))), (6, .ref ((B 6))), (7, .ref ((B 7))), (8, .ref ((B 8))), (9, .ref ((B 9))), (10, .ref ((B 10))), (11, .int (nI (nw A))), (12, .int (nI (np A))), (13, .int (nI tm)), (14, .int (nI tn)), (15, .int v), (16, .int w)] → zM s.heap.size K L f s H locs → W p l e room_1 s m #[Value.ref b] below meth c H locs (cl + 130) (sl + 800) Q (F0 m 1392 ls [])) : W p l e room_1 s m #[Value.ref b] below meth c H locs cl sl Q (F0 m 1167 ls []) := by
  have hx := hC.1
  have hb := hC.2.1
  have hown := hC.2.2.2.1
  have hts := hC.2.2.2.2.1
  obtain ⟨pv, kb, gb, pe, ow, ci, fa, hS, hP, hpa, hkb, hgb, hpe, hpp⟩ := hI
  have hV : VA A := hS.1.1
  have h12 : nw A ≤ 12 := hV.2.1
  have h30 : np A ≤ 30 := hV.2.2.1
  have ht2 := hP.2.2.2.2.1
  have hbl3 := hP.2.2.2.2.2.2.1 tm
  refine lv_iconst (v := nI 0) hx hb dL_law_1167 (by decide) ?_
  refine lv_istore (lv' := [(18, .int (nI 0)), (0, .ref b), (1, .ref ((ad 1))), (2, .ref ((B 2))), (3, .ref ((B 3))), (4, .ref ((B 4))), (5, .ref ((B 5))), (6, .ref ((B 6))), (7, .ref ((B 7))), (8, .ref ((B 8))), (9, .ref ((B 9))), (10, .ref ((B 10))), (11, .int (nI (nw A))), (12, .int (nI (np A))), (13, .int (nI tm)), (14, .int (nI tn)), (15, .int v), (16, .int w)]) hx hb dL_law_1168 hl (by decide) rfl (fun ls hl => ?_)
  have LOOP1170 : ∀ i : Nat, ∀ (ls : Array Slot) (H : Heap) (locs : List Loc) (L : List Nat) (f : Nat → va_E) (ad : Nat → Nat), lv_has ls 23 [(18, .int (nI i)), (0, .ref b), (1, .ref ((ad 1))), (2, .ref ((B 2))), (3, .ref ((B 3))), (4, .ref ((B 4))), (5, .ref ((B 5))), (6, .ref ((B 6))), (7, .ref ((B 7))), (8, .ref ((B 8))), (9, .ref ((B 9))), (10, .ref ((B 10))), (11, .int (nI (nw A))), (12, .int (nI (np A))), (13, .int (nI tm)), (14, .int (nI tn)), (15, .int v), (16, .int w)] → zM s.heap.size K L f s H locs → (LSt K A B (FF K pv bl kb gb pe (A.1 23) ow ci fa) L f ad) → (i ≤ 8) → W p l e room_1 s m #[Value.ref b] below meth c H locs (cl + 4 * i) (sl + 24 * i) Q (F0 m 1170 ls []) := by
    refine z_lp 8 1 (by decide) (fun i ih => ?_)
    intro ls H locs L f ad hl hM hS hi9
    refine lv_iload hx hb dL_law_1170 (lv_at hl 0 rfl) ?_
    refine lv_bipush (v := nI 8) hx hb dL_law_1172 (by decide) ?_
    refine z_icmp_ge (tgt := 1277) hx hb (nI_toInt (by omega)) (nI_toInt (by decide)) dL_law_1174 (by decide) (fun c_1174 => ?_) (fun c_1174 => ?_)
    · skip
      obtain rfl : i = 8 := by omega
      have hl : lv_has ls 23 [(0, .ref b), (1, .ref ((ad 1))), (2, .ref ((B 2))), (3, .ref ((B 3))), (4, .ref ((B 4))), (5, .ref ((B 5))), (6, .ref ((B 6))), (7, .ref ((B 7))), (8, .ref ((B 8))), (9, .ref ((B 9))), (10, .ref ((B 10))), (11, .int (nI (nw A))), (12, .int (nI (np A))), (13, .int (nI tm)), (14, .int (nI tn)), (15, .int v), (16, .int w)] := lv_sub hl [1, 2, 3, 4, 5, 6, 7, 8, 9, 10, 11, 12, 13, 14, 15, 16, 17] rfl
      refine lv_iconst (v := nI 0) hx hb dL_law_1277 (by decide) ?_
      refine lv_istore (lv' := [(18, .int (nI 0)), (0, .ref b), (1, .ref ((ad 1))), (2, .ref ((B 2))), (3, .ref ((B 3))), (4, .ref ((B 4))), (5, .ref ((B 5))), (6, .ref ((B 6))), (7, .ref ((B 7))), (8, .ref ((B 8))), (9, .ref ((B 9))), (10, .ref ((B 10))), (11, .int (nI (nw A))), (12, .int (nI (np A))), (13, .int (nI tm)), (14, .int (nI tn)), (15, .int v), (16, .int w)]) hx hb dL_law_1278 hl (by decide) rfl (fun ls hl => ?_)
      have LOOP1280 : ∀ i8 : Nat, ∀ (ls : Array Slot) (H : Heap) (locs : List Loc) (L : List Nat) (f : Nat → va_E) (ad : Nat → Nat), lv_has ls 23 [(18, .int (nI i8)), (0, .ref b), (1, .ref ((ad 1))), (2, .ref ((B 2))), (3, .ref ((B 3))), (4, .ref ((B 4))), (5, .ref ((B 5))), (6, .ref ((B 6))), (7, .ref ((B 7))), (8, .ref ((B 8))), (9, .ref ((B 9))), (10, .ref ((B 10))), (11, .int (nI (nw A))), (12, .int (nI (np A))), (13, .int (nI tm)), (14, .int (nI tn)), (15, .int v), (16, .int w)] → zM s.heap.size K L f s H locs → (LSt K A B (FF K pv bl kb gb pe (A.1 23) ow ci fa) L f ad) → (i8 ≤ nw A) → W p l e room_1 s m #[Value.ref b] below meth c H locs (cl + 4 * 8 + 3 * i8) (sl + 24 * 8 + 18 * i8) Q (F0 m 1280 ls []) := by
        refine z_lp (nw A) 1 (by decide) (fun i8 ih => ?_)
        intro ls H locs L f ad hl hM hS hi9
        refine lv_iload hx hb dL_law_1280 (lv_at hl 0 rfl) ?_
        refine lv_iload hx hb dL_law_1282 (lv_at hl 12 rfl) ?_
        refine z_icmp_ge (tgt := 1324) hx hb (nI_toInt (by omega)) (nI_toInt (by omega)) dL_law_1284 (by decide) (fun c_1284 => ?_) (fun c_1284 => ?_)
        · skip
          refine W.widen (k := cl + 4 * 8 + 3 * 12) (n := sl + 24 * 8 + 18 * 12) (by show cl + 4 * 8 + 3 * i8 ≤ cl + 4 * 8 + 3 * 12; omega) (by show sl + 24 * 8 + 18 * i8 ≤ sl + 24 * 8 + 18 * 12; omega) ?_
          have hl : lv_has ls 23 [(0, .ref b), (1, .ref ((ad 1))), (2, .ref ((B 2))), (3, .ref ((B 3))), (4, .ref ((B 4))), (5, .ref ((B 5))), (6, .ref ((B 6))), (7, .ref ((B 7))), (8, .ref ((B 8))), (9, .ref ((B 9))), (10, .ref ((B 10))), (11, .int (nI (nw A))), (12, .int (nI (np A))), (13, .int (nI tm)), (14, .int (nI tn)), (15, .int v), (16, .int w)] := lv_sub hl [1, 2, 3, 4, 5, 6, 7, 8, 9, 10, 11, 12, 13, 14, 15, 16, 17] rfl
          refine lv_iconst (v := nI 0) hx hb dL_law_1324 (by decide) ?_
          refine lv_istore (lv' := [(18, .int (nI 0)), (0, .ref b), (1, .ref ((ad 1))), (2, .ref ((B 2))), (3, .ref ((B 3))), (4, .ref ((B 4))), (5, .ref ((B 5))), (6, .ref ((B 6))), (7, .ref ((B 7))), (8, .ref ((B 8))), (9, .ref ((B 9))), (10, .ref ((B 10))), (11, .int (nI (nw A))), (12, .int (nI (np A))), (13, .int (nI tm)), (14, .int (nI tn)), (15, .int v), (16, .int w)]) hx hb dL_law_1325 hl (by decide) rfl (fun ls hl => ?_)
          have LOOP1327 : ∀ i7 : Nat, ∀ (ls : Array Slot) (H : Heap) (locs : List Loc) (L : List Nat) (f : Nat → va_E) (ad : Nat → Nat), lv_has ls 23 [(18, .int (nI i7)), (0, .ref b), (1, .ref ((ad 1))), (2, .ref ((B 2))), (3, .ref ((B 3))), (4, .ref ((B 4))), (5, .ref ((B 5))), (6, .ref ((B 6))), (7, .ref ((B 7))), (8, .ref ((B 8))), (9, .ref ((B 9))), (10, .ref ((B 10))), (11, .int (nI (nw A))), (12, .int (nI (np A))), (13, .int (nI tm)), (14, .int (nI tn)), (15, .int v), (16, .int w)] → zM s.heap.size K L f s H locs → (LSt K A B (FF K pv bl kb gb pe (A.1 23) ow ci fa) L f ad) → (i7 ≤ np A) → W p l e room_1 s m #[Value.ref b] below meth c H locs (cl + 4 * 8 + 3 * 12 + 1 * i7) (sl + 24 * 8 + 18 * 12 + 6 * i7) Q (F0 m 1327 ls []) := by
            refine z_lp (np A) 1 (by decide) (fun i7 ih => ?_)
            intro ls H locs L f ad hl hM hS hi9
            refine lv_iload hx hb dL_law_1327 (lv_at hl 0 rfl) ?_
            refine lv_iload hx hb dL_law_1329 (lv_at hl 13 rfl) ?_
            refine z_icmp_ge (tgt := 1365) hx hb (nI_toInt (by omega)) (nI_toInt (by omega)) dL_law_1331 (by decide) (fun c_1331 => ?_) (fun c_1331 => ?_)
            · skip
              refine W.widen (k := cl + 4 * 8 + 3 * 12 + 1 * 30) (n := sl + 24 * 8 + 18 * 12 + 6 * 30) (by show cl + 4 * 8 + 3 * 12 + 1 * i7 ≤ cl + 4 * 8 + 3 * 12 + 1 * 30; omega) (by show sl + 24 * 8 + 18 * 12 + 6 * i7 ≤ sl + 24 * 8 + 18 * 12 + 6 * 30; omega) ?_
              have hl : lv_has ls 23 [(0, .ref b), (1, .ref ((ad 1))), (2, .ref ((B 2))), (3, .ref ((B 3))), (4, .ref ((B 4))), (5, .ref ((B 5))), (6, .ref ((B 6))), (7, .ref ((B 7))), (8, .ref ((B 8))), (9, .ref ((B 9))), (10, .ref ((B 10))), (11, .int (nI (nw A))), (12, .int (nI (np A))), (13, .int (nI tm)), (14, .int (nI tn)), (15, .int v), (16, .int w)] := lv_sub hl [1, 2, 3, 4, 5, 6, 7, 8, 9, 10, 11, 12, 13, 14, 15, 16, 17] rfl
              refine lv_iload hx hb dL_law_1365 (lv_at hl 14 rfl) ?_
              refine lv_bipush (v := nI 6) hx hb dL_law_1367 (by decide) ?_
              refine z_irem hx hb (by omega) (by omega) (by omega) dL_law_1369 ?_
              refine lv_iconst (v := nI 5) hx hb dL_law_1370 (by decide) ?_
              refine z_icmp_ne (tgt := 1392) hx hb (nI_toInt (by omega)) (nI_toInt (by decide)) dL_law_1371 (by decide) (fun c_1371 => ?_) (fun c_1371 => ?_)
              · refine W.widen (k := cl + 130) (n := sl + 800) (by show cl + 4 * 8 + 3 * 12 + 1 * 30 ≤ cl + 130; omega) (by show sl + 24 * 8 + 18 * 12 + 6 * 30 ≤ sl + 800; omega) ?_
                exact KK _ _ _ _ _ _ _ _ _ _ ⟨pv, kb, gb, pe, ow, ci, fa, hS, hP, hpa, hkb, hgb, hpe, hpp⟩ (lv_sub hl [0, 1, 2, 3, 4, 5, 6, 7, 8, 9, 10, 11, 12, 13, 14, 15, 16] rfl) hM
              · refine lv_aload_n hx hb dL_law_1374 rfl (lv_at hl 1 rfl) ?_
                refine lv_aload_n hx hb dL_law_1375 rfl (lv_at hl 2 rfl) ?_
                refine lv_aload_n hx hb dL_law_1376 rfl (lv_at hl 3 rfl) ?_
                refine lv_aload hx hb dL_law_1377 (lv_at hl 4 rfl) ?_
                refine lv_iload hx hb dL_law_1379 (lv_at hl 15 rfl) ?_
                refine lv_iload hx hb dL_law_1381 (lv_at hl 16 rfl) ?_
                refine lv_ixor hx hb dL_law_1383 ?_
                refine z_calli (z_runS hC hM (c_asked hst hS.1 hP hpa (hS.lw hP hpa hkb) (fun t ht => ⟨(hS.2.1 2 (by decide) (by decide)).2.2 t ht, (hS.2.1 3 (by decide) (by decide)).2.2 t ht, (hS.2.1 4 (by decide) (by decide)).2.2 t ht⟩) (v ^^^ w)) zy_L_asked zm_L_150 rfl rfl hl.1 (Nat.le_of_ble_eq_true rfl) ⟨by decide, by decide⟩ ⟨by show cl + 4 * 8 + 3 * 12 + 1 * 30 + 24 ≤ 600086; omega, by show sl + 24 * 8 + 18 * 12 + 6 * 30 + 160 ≤ 7301442; omega⟩ dL_law_1384) hM (fun r L f H locs hp hM => ?_)
                obtain ⟨hv9, hCR⟩ := hp
                obtain ⟨ad, had, hS⟩ := hS.cr hCR
                rw [← had] at hl
                rw [hv9]
                refine z_if_ne (tgt := 1392) hx hb (nI_toInt (by decide)) dL_law_1387 (by decide) (fun c_1387 => ?_) (fun c_1387 => ?_)
                · refine W.widen (k := cl + 130) (n := sl + 800) (by show cl + 4 * 8 + 3 * 12 + 1 * 30 + 24 ≤ cl + 130; omega) (by show sl + 24 * 8 + 18 * 12 + 6 * 30 + 160 ≤ sl + 800; omega) ?_
                  exact KK _ _ _ _ _ _ _ _ _ _ ⟨pv, kb, gb, pe, ow, ci, fa, hS, hP, hpa, hkb, hgb, hpe, hpp⟩ (lv_sub hl [0, 1, 2, 3, 4, 5, 6, 7, 8, 9, 10, 11, 12, 13, 14, 15, 16] rfl) hM
                · exact absurd c_1387 (by omega)
            · skip
              obtain ⟨hk4, hk5⟩ := kfa_0 (A := A) (j := i7) (by omega) h30
              have hb9 := (b2_is (fell A i7)).2.2
              refine lv_aload_n hx hb dL_law_1334 rfl (lv_at hl 2 rfl) ?_
              refine lv_iload hx hb dL_law_1335 (lv_at hl 0 rfl) ?_
              refine z_xq (av := #[]) (val := fun r : Int32 => some (.int r)) (post := fun r u => k_fallen A (nI i7) = 0 ∧ r = v_fallen A (nI i7) ∧ CR K A ad L f A u.1 u.2) (z_xrunV hC hM (p_fallen hst hS.1 (nI i7)) zy_X6_hasFallen zm_L_146 (ci_1 hS.1) (cx_at hS.1) zcl_X6 rfl rfl rfl hl.1 (Nat.le_of_ble_eq_true rfl) ⟨by decide, by decide⟩ ⟨by show cl + 4 * 8 + 3 * 12 + 1 * i7 + 1 ≤ 600086; omega, by show sl + 24 * 8 + 18 * 12 + 6 * i7 + 6 ≤ 7301442; omega⟩ dL_law_1337) (fun st o t ⟨⟨r, u, h1, h2, h3⟩, h4⟩ => ⟨r, u, h1, h2, h3, h4⟩) hM (fun E ce q9 L1 f1 H locs hp hM _ _ _ => absurd hp.1.1 (by omega)) (fun r L f H locs hp hM => ?_)
              obtain ⟨-, hv9, hCR⟩ := hp
              obtain ⟨ad, had, hS⟩ := hS.cr hCR
              rw [← had] at hl
              rw [hv9, hk5]
              refine lv_aload hx hb dL_law_1340 (lv_at hl 11 rfl) ?_
              refine lv_iload hx hb dL_law_1342 (lv_at hl 0 rfl) ?_
              refine z_iald hC hM (hS.m (by decide) (by decide)) hS.s10 (by omega) (by omega) dL_law_1344 ?_
              have hfi : fa i7 = b2 (fell A i7) := by rw [hpp.2 i7, if_pos (by omega)]
              rw [hfi]
              have hbi := b2_is (fell A i7)
              refine lv_iconst (v := nI 1) hx hb dL_law_1345 (by decide) ?_
              refine z_icmp_ne (tgt := 1353) hx hb (nI_toInt (by omega)) (nI_toInt (by decide)) dL_law_1346 (by decide) (fun c_1346 => ?_) (fun c_1346 => ?_)
              · refine lv_iconst (v := nI 0) hx hb dL_law_1353 (by decide) ?_
                refine z_icmp_eq (tgt := 1359) hx hb (nI_toInt (by omega)) (nI_toInt (by decide)) dL_law_1354 (by decide) (fun c_1354 => ?_) (fun c_1354 => ?_)
                · refine lv_iinc (v := nI (i7 + 1)) (lv' := [(18, .int (nI (i7 + 1))), (0, .ref b), (1, .ref ((ad 1))), (2, .ref ((B 2))), (3, .ref ((B 3))), (4, .ref ((B 4))), (5, .ref ((B 5))), (6, .ref ((B 6))), (7, .ref ((B 7))), (8, .ref ((B 8))), (9, .ref ((B 9))), (10, .ref ((B 10))), (11, .int (nI (nw A))), (12, .int (nI (np A))), (13, .int (nI tm)), (14, .int (nI tn)), (15, .int v), (16, .int w)]) hx hb dL_law_1359 hl (k := 0) rfl (nI_add i7 1) (by decide) rfl (fun ls hl => ?_)
                  refine lv_goto (tgt := 1327) hx hb dL_law_1362 (by decide) ?_
                  refine W.widen (k := cl + 4 * 8 + 3 * 12 + 1 * (i7 + 1)) (n := sl + 24 * 8 + 18 * 12 + 6 * (i7 + 1)) (by show cl + 4 * 8 + 3 * 12 + 1 * i7 + 1 ≤ cl + 4 * 8 + 3 * 12 + 1 * (i7 + 1); omega) (by show sl + 24 * 8 + 18 * 12 + 6 * i7 + 6 ≤ sl + 24 * 8 + 18 * 12 + 6 * (i7 + 1); omega) ?_
                  exact ih (by omega) ls H locs L f ad (lv_sub hl [0, 1, 2, 3, 4, 5, 6, 7, 8, 9, 10, 11, 12, 13, 14, 15, 16, 17] rfl) hM hS (by omega)
                · exact absurd c_1354 (by omega)
              · refine lv_iconst (v := nI 1) hx hb dL_law_1349 (by decide) ?_
                refine lv_goto (tgt := 1354) hx hb dL_law_1350 (by decide) ?_
                refine z_icmp_eq (tgt := 1359) hx hb (nI_toInt (by omega)) (nI_toInt (by decide)) dL_law_1354 (by decide) (fun c_1354 => ?_) (fun c_1354 => ?_)
                · refine lv_iinc (v := nI (i7 + 1)) (lv' := [(18, .int (nI (i7 + 1))), (0, .ref b), (1, .ref ((ad 1))), (2, .ref ((B 2))), (3, .ref ((B 3))), (4, .ref ((B 4))), (5, .ref ((B 5))), (6, .ref ((B 6))), (7, .ref ((B 7))), (8, .ref ((B 8))), (9, .ref ((B 9))), (10, .ref ((B 10))), (11, .int (nI (nw A))), (12, .int (nI (np A))), (13, .int (nI tm)), (14, .int (nI tn)), (15, .int v), (16, .int w)]) hx hb dL_law_1359 hl (k := 0) rfl (nI_add i7 1) (by decide) rfl (fun ls hl => ?_)
                  refine lv_goto (tgt := 1327) hx hb dL_law_1362 (by decide) ?_
                  refine W.widen (k := cl + 4 * 8 + 3 * 12 + 1 * (i7 + 1)) (n := sl + 24 * 8 + 18 * 12 + 6 * (i7 + 1)) (by show cl + 4 * 8 + 3 * 12 + 1 * i7 + 1 ≤ cl + 4 * 8 + 3 * 12 + 1 * (i7 + 1); omega) (by show sl + 24 * 8 + 18 * 12 + 6 * i7 + 6 ≤ sl + 24 * 8 + 18 * 12 + 6 * (i7 + 1); omega) ?_
                  exact ih (by omega) ls H locs L f ad (lv_sub hl [0, 1, 2, 3, 4, 5, 6, 7, 8, 9, 10, 11, 12, 13, 14, 15, 16, 17] rfl) hM hS (by omega)
                · exact absurd c_1354 (by omega)
          refine W.widen (k := cl + 4 * 8 + 3 * 12 + 1 * 0) (n := sl + 24 * 8 + 18 * 12 + 6 * 0) (by show cl + 4 * 8 + 3 * 12 ≤ cl + 4 * 8 + 3 * 12 + 1 * 0; omega) (by show sl + 24 * 8 + 18 * 12 ≤ sl + 24 * 8 + 18 * 12 + 6 * 0; omega) ?_
          exact LOOP1327 0 ls H locs L f ad (lv_sub hl [0, 1, 2, 3, 4, 5, 6, 7, 8, 9, 10, 11, 12, 13, 14, 15, 16, 17] rfl) hM hS (by omega)
        · skip
          obtain ⟨hk4, hk5⟩ := kan_0 (A := A) (w := i8) (by omega) h12
          have hk6 := kab_0 (A := A) (w := i8) (x := 3) (by omega) h12 (by decide)
          have h60 := (hV.2.2.2.2.2.2.2.2.2.1 i8 (by omega)).2.2.1
          have hg1 := hV.2.2.2.2.2.2.2.2.2.2.1 i8
          refine lv_aload_n hx hb dL_law_1287 rfl (lv_at hl 2 rfl) ?_
          refine lv_iload hx hb dL_law_1288 (lv_at hl 0 rfl) ?_
          refine z_xq (av := #[]) (val := fun r : Int32 => some (.int r)) (post := fun r u => k_anew A (nI i8) = 0 ∧ r = v_anew A (nI i8) ∧ CR K A ad L f A u.1 u.2) (z_xrunV hC hM (p_anew hst hS.1 (nI i8)) zy_X6_periodAnew zm_L_143 (ci_1 hS.1) (cx_at hS.1) zcl_X6 rfl rfl rfl hl.1 (Nat.le_of_ble_eq_true rfl) ⟨by decide, by decide⟩ ⟨by show cl + 4 * 8 + 3 * i8 + 1 ≤ 600086; omega, by show sl + 24 * 8 + 18 * i8 + 6 ≤ 7301442; omega⟩ dL_law_1290) (fun st o t ⟨⟨r, u, h1, h2, h3⟩, h4⟩ => ⟨r, u, h1, h2, h3, h4⟩) hM (fun E ce q9 L1 f1 H locs hp hM _ _ _ => absurd hp.1.1 (by omega)) (fun r L f H locs hp hM => ?_)
          obtain ⟨-, hv9, hCR⟩ := hp
          obtain ⟨ad, had, hS⟩ := hS.cr hCR
          rw [← had] at hl
          rw [hv9, hk5]
          refine lv_aload hx hb dL_law_1293 (lv_at hl 7 rfl) ?_
          refine lv_iload hx hb dL_law_1295 (lv_at hl 0 rfl) ?_
          refine z_iald hC hM (hS.m (by decide) (by decide)) hS.s6 (by omega) (by omega) dL_law_1297 ?_
          rw [hpe i8 (by omega)]
          refine z_icmp_ne (tgt := 1316) hx hb (nI_toInt (by omega)) (nI_toInt (by omega)) dL_law_1298 (by decide) (fun c_1298 => ?_) (fun c_1298 => ?_)
          · exact absurd rfl c_1298
          · refine lv_aload_n hx hb dL_law_1301 rfl (lv_at hl 2 rfl) ?_
            refine lv_iload hx hb dL_law_1302 (lv_at hl 0 rfl) ?_
            refine lv_iconst (v := nI 3) hx hb dL_law_1304 (by decide) ?_
            refine z_xq (av := #[]) (val := fun r : Int32 => some (.int r)) (post := fun r u => k_about A (nI i8) (nI 3) = 0 ∧ r = v_about A (nI i8) (nI 3) ∧ CR K A ad L f A u.1 u.2) (z_xrunV hC hM (p_about hst hS.1 (nI i8) (nI 3)) zy_X6_about zm_L_122 (ci_1 hS.1) (cx_at hS.1) zcl_X6 rfl rfl rfl hl.1 (Nat.le_of_ble_eq_true rfl) ⟨by decide, by decide⟩ ⟨by show cl + 4 * 8 + 3 * i8 + 1 + 2 ≤ 600086; omega, by show sl + 24 * 8 + 18 * i8 + 6 + 12 ≤ 7301442; omega⟩ dL_law_1305) (fun st o t ⟨⟨r, u, h1, h2, h3⟩, h4⟩ => ⟨r, u, h1, h2, h3, h4⟩) hM (fun E ce q9 L1 f1 H locs hp hM _ _ _ => absurd hp.1.1 (by omega)) (fun r L f H locs hp hM => ?_)
            obtain ⟨-, hv9, hCR⟩ := hp
            obtain ⟨ad, had, hS⟩ := hS.cr hCR
            rw [← had] at hl
            rw [hv9, (vab (by omega)).2.2.2]
            refine lv_aload hx hb dL_law_1308 (lv_at hl 8 rfl) ?_
            refine lv_iload hx hb dL_law_1310 (lv_at hl 0 rfl) ?_
            refine z_iald hC hM (hS.m (by decide) (by decide)) hS.s7 (by omega) (by omega) dL_law_1312 ?_
            refine z_icmp_eq (tgt := 1318) hx hb (nI_toInt (by omega)) (nI_toInt (by omega)) dL_law_1313 (by decide) (fun c_1313 => ?_) (fun c_1313 => ?_)
            · refine lv_iinc (v := nI (i8 + 1)) (lv' := [(18, .int (nI (i8 + 1))), (0, .ref b), (1, .ref ((ad 1))), (2, .ref ((B 2))), (3, .ref ((B 3))), (4, .ref ((B 4))), (5, .ref ((B 5))), (6, .ref ((B 6))), (7, .ref ((B 7))), (8, .ref ((B 8))), (9, .ref ((B 9))), (10, .ref ((B 10))), (11, .int (nI (nw A))), (12, .int (nI (np A))), (13, .int (nI tm)), (14, .int (nI tn)), (15, .int v), (16, .int w)]) hx hb dL_law_1318 hl (k := 0) rfl (nI_add i8 1) (by decide) rfl (fun ls hl => ?_)
              refine lv_goto (tgt := 1280) hx hb dL_law_1321 (by decide) ?_
              refine W.widen (k := cl + 4 * 8 + 3 * (i8 + 1)) (n := sl + 24 * 8 + 18 * (i8 + 1)) (by show cl + 4 * 8 + 3 * i8 + 1 + 2 ≤ cl + 4 * 8 + 3 * (i8 + 1); omega) (by show sl + 24 * 8 + 18 * i8 + 6 + 12 ≤ sl + 24 * 8 + 18 * (i8 + 1); omega) ?_
              exact ih (by omega) ls H locs L f ad (lv_sub hl [0, 1, 2, 3, 4, 5, 6, 7, 8, 9, 10, 11, 12, 13, 14, 15, 16, 17] rfl) hM hS (by omega)
            · exact absurd rfl c_1313
      refine W.widen (k := cl + 4 * 8 + 3 * 0) (n := sl + 24 * 8 + 18 * 0) (by show cl + 4 * 8 ≤ cl + 4 * 8 + 3 * 0; omega) (by show sl + 24 * 8 ≤ sl + 24 * 8 + 18 * 0; omega) ?_
      exact LOOP1280 0 ls H locs L f ad (lv_sub hl [0, 1, 2, 3, 4, 5, 6, 7, 8, 9, 10, 11, 12, 13, 14, 15, 16, 17] rfl) hM hS (by omega)
    · refine lv_iload hx hb dL_law_1177 (lv_at hl 17 rfl) ?_
      refine lv_iload hx hb dL_law_1179 (lv_at hl 0 rfl) ?_
      refine lv_ishr hx hb dL_law_1181 ?_
      refine lv_sipush (v := nI 1000) hx hb dL_law_1182 (by decide) ?_
      refine z_fcalli (z_runS hC hM (c_low ((w >>> (nI i &&& 31))) 1000 (by decide) (by decide)) zy_L_low zm_L_64 rfl rfl hl.1 (Nat.le_of_ble_eq_true rfl) ⟨by decide, by decide⟩ ⟨by show cl + 4 * i + 0 ≤ 600086; omega, by show sl + 24 * i + 0 ≤ 7301442; omega⟩ dL_law_1185) hM (fun H locs hM => ?_)
      have hlo1 := lowN_lt (v := (w >>> (nI i &&& 31))) (n := 1000) (by decide)
      obtain ⟨x9, hx9⟩ : ∃ x, x = lowN (w >>> (nI i &&& 31)) 1000 := ⟨_, rfl⟩
      rw [← hx9]
      have hx1 : x9 < 1000 := by rw [hx9]; exact hlo1
      obtain ⟨hk4, hk5⟩ := kli_0 (A := A) hP.1 hx1
      have hvl := vli hV hP hx1
      have hk3 := hkb.2 x9
      have hlb := lwA_b hV hP x9 (hP.2.2.2.2.2.2.1 tm)
      obtain ⟨h63, b8, b1, b2, b3, b4⟩ := nD_bits hlb.1 (show lwA A x9 (bl tm) < 2 ^ 31 by omega)
      refine lv_istore (lv' := [(19, .int (nI x9)), (18, .int (nI i)), (0, .ref b), (1, .ref ((ad 1))), (2, .ref ((B 2))), (3, .ref ((B 3))), (4, .ref ((B 4))), (5, .ref ((B 5))), (6, .ref ((B 6))), (7, .ref ((B 7))), (8, .ref ((B 8))), (9, .ref ((B 9))), (10, .ref ((B 10))), (11, .int (nI (nw A))), (12, .int (nI (np A))), (13, .int (nI tm)), (14, .int (nI tn)), (15, .int v), (16, .int w)]) hx hb dL_law_1188 hl (by decide) rfl (fun ls hl => ?_)
      refine lv_aload hx hb dL_law_1190 (lv_at hl 6 rfl) ?_
      refine lv_iload hx hb dL_law_1192 (lv_at hl 0 rfl) ?_
      refine z_fcalli (z_runS hC hM (c_when (hS.m (by decide) (by decide)) hS.s4 hkb x9 hx1) zy_L_when zm_L_40 rfl rfl hl.1 (Nat.le_of_ble_eq_true rfl) ⟨by decide, by decide⟩ ⟨by show cl + 4 * i + 0 + 0 ≤ 600086; omega, by show sl + 24 * i + 0 + 0 ≤ 7301442; omega⟩ dL_law_1194) hM (fun H locs hM => ?_)
      refine lv_istore (lv' := [(20, .int (wnV (kt x9))), (19, .int (nI x9)), (18, .int (nI i)), (0, .ref b), (1, .ref ((ad 1))), (2, .ref ((B 2))), (3, .ref ((B 3))), (4, .ref ((B 4))), (5, .ref ((B 5))), (6, .ref ((B 6))), (7, .ref ((B 7))), (8, .ref ((B 8))), (9, .ref ((B 9))), (10, .ref ((B 10))), (11, .int (nI (nw A))), (12, .int (nI (np A))), (13, .int (nI tm)), (14, .int (nI tn)), (15, .int v), (16, .int w)]) hx hb dL_law_1197 hl (by decide) rfl (fun ls hl => ?_)
      refine lv_aload_n hx hb dL_law_1199 rfl (lv_at hl 4 rfl) ?_
      refine lv_iconst (v := nI 0) hx hb dL_law_1200 (by decide) ?_
      refine lv_iload hx hb dL_law_1201 (lv_at hl 1 rfl) ?_
      refine z_xq (av := #[]) (val := fun r : Int64 => some (.long r)) (post := fun r u => k_light A (nI 0) (nI x9) = 0 ∧ r = v_light A (nI 0) (nI x9) ∧ CR K A ad L f A u.1 u.2) (z_xrunV hC hM (p_light hst hS.1 (nI 0) (nI x9)) zy_X6_light zm_L_132 (ci_1 hS.1) (cx_at hS.1) zcl_X6 rfl rfl rfl hl.1 (Nat.le_of_ble_eq_true rfl) ⟨by decide, by decide⟩ ⟨by show cl + 4 * i + 0 + 0 + 2 ≤ 600086; omega, by show sl + 24 * i + 0 + 0 + 12 ≤ 7301442; omega⟩ dL_law_1203) (fun st o t ⟨⟨r, u, h1, h2, h3⟩, h4⟩ => ⟨r, u, h1, h2, h3, h4⟩) hM (fun E ce q9 L1 f1 H locs hp hM _ _ _ => absurd hp.1.1 (by omega)) (fun r L f H locs hp hM => ?_)
      obtain ⟨-, hv9, hCR⟩ := hp
      obtain ⟨ad, had, hS⟩ := hS.cr hCR
      rw [← had] at hl
      rw [hv9, hvl]
      refine lv_aload_n hx hb dL_law_1206 rfl (lv_at hl 5 rfl) ?_
      refine lv_aload_n hx hb dL_law_1207 rfl (lv_at hl 6 rfl) ?_
      refine lv_iload hx hb dL_law_1208 (lv_at hl 16 rfl) ?_
      refine z_iald hC hM (hS.m (by decide) (by decide)) hS.s3 (by omega) (by omega) dL_law_1210 ?_
      refine lv_iload hx hb dL_law_1211 (lv_at hl 1 rfl) ?_
      refine z_fcalll (z_runS hC hM (c_light (hS.m (by decide) (by decide)) hS.s2 (hpa.ok hV hP) (bl tm) x9 (by omega) hx1) zy_L_light zm_L_44 rfl rfl hl.1 (Nat.le_of_ble_eq_true rfl) ⟨by decide, by decide⟩ ⟨by show cl + 4 * i + 0 + 0 + 2 + 0 ≤ 600086; omega, by show sl + 24 * i + 0 + 0 + 12 + 0 ≤ 7301442; omega⟩ dL_law_1213) hM (fun H locs hM => ?_)
      rw [lwP_eq hpa]
      refine z_fcalli (z_runS hC hM (c_isWhole (nD (lwA A x9 (bl tm))).toNat (lwA A x9 (bl tm)) b8 h63 (by omega) b1 b2 b3 b4) zy_L_isWhole zm_L_134 rfl rfl hl.1 (Nat.le_of_ble_eq_true rfl) ⟨by decide, by decide⟩ ⟨by show cl + 4 * i + 0 + 0 + 2 + 0 + 0 ≤ 600086; omega, by show sl + 24 * i + 0 + 0 + 12 + 0 + 0 ≤ 7301442; omega⟩ dL_law_1216) hM (fun H locs hM => ?_)
      refine z_if_eq (tgt := 1269) hx hb (nI_toInt (by decide)) dL_law_1219 (by decide) (fun c_1219 => ?_) (fun c_1219 => ?_)
      · exact absurd c_1219 (by omega)
      · refine lv_iload hx hb dL_law_1222 (lv_at hl 0 rfl) ?_
        refine z_if_ge (tgt := 1241) hx hb rfl dL_law_1224 (by decide) (fun c_1224 => ?_) (fun c_1224 => ?_)
        · skip
          rw [wnV_toInt (by omega)] at c_1224
          obtain ⟨hk6, hk7⟩ := vke hP hx1
          rw [wnV_p (show 0 < kt x9 by omega)] at hl
          have hvk : v_kept A (nI 0) (nI x9) = lN (nD (lwA A x9 (bl (kt x9 - 1)))).toNat := hk7 (by omega)
          have hlb2 := lwA_b hV hP x9 (hP.2.2.2.2.2.2.1 (kt x9 - 1))
          obtain ⟨c63, b7, d1, d2, d3, d4⟩ := nD_bits hlb2.1 (show lwA A x9 (bl (kt x9 - 1)) < 2 ^ 31 by omega)
          have hbl3 := hP.2.2.2.2.2.2.1 (kt x9 - 1)
          refine lv_iload hx hb dL_law_1241 (lv_at hl 0 rfl) ?_
          refine z_if_lt (tgt := 1271) hx hb (nI_toInt (by omega)) dL_law_1243 (by decide) (fun c_1243 => ?_) (fun c_1243 => ?_)
          · exact absurd c_1243 (by omega)
          · refine lv_aload_n hx hb dL_law_1246 rfl (lv_at hl 4 rfl) ?_
            refine lv_iconst (v := nI 0) hx hb dL_law_1247 (by decide) ?_
            refine lv_iload hx hb dL_law_1248 (lv_at hl 1 rfl) ?_
            refine z_xq (av := #[]) (val := fun r : Int64 => some (.long r)) (post := fun r u => k_kept A (nI 0) (nI x9) = 0 ∧ r = v_kept A (nI 0) (nI x9) ∧ CR K A ad L f A u.1 u.2) (z_xrunV hC hM (p_kept hst hS.1 (nI 0) (nI x9)) zy_X6_kept zm_L_138 (ci_1 hS.1) (cx_at hS.1) zcl_X6 rfl rfl rfl hl.1 (Nat.le_of_ble_eq_true rfl) ⟨by decide, by decide⟩ ⟨by show cl + 4 * i + 0 + 0 + 2 + 0 + 0 + 2 ≤ 600086; omega, by show sl + 24 * i + 0 + 0 + 12 + 0 + 0 + 12 ≤ 7301442; omega⟩ dL_law_1250) (fun st o t ⟨⟨r, u, h1, h2, h3⟩, h4⟩ => ⟨r, u, h1, h2, h3, h4⟩) hM (fun E ce q9 L1 f1 H locs hp hM _ _ _ => absurd hp.1.1 (by omega)) (fun r L f H locs hp hM => ?_)
            obtain ⟨-, hv9, hCR⟩ := hp
            obtain ⟨ad, had, hS⟩ := hS.cr hCR
            rw [← had] at hl
            rw [hv9, hvk]
            refine lv_aload_n hx hb dL_law_1253 rfl (lv_at hl 5 rfl) ?_
            refine lv_aload_n hx hb dL_law_1254 rfl (lv_at hl 6 rfl) ?_
            refine lv_iload hx hb dL_law_1255 (lv_at hl 0 rfl) ?_
            refine z_iald hC hM (hS.m (by decide) (by decide)) hS.s3 (by omega) (by omega) dL_law_1257 ?_
            refine lv_iload hx hb dL_law_1258 (lv_at hl 1 rfl) ?_
            refine z_fcalll (z_runS hC hM (c_light (hS.m (by decide) (by decide)) hS.s2 (hpa.ok hV hP) (bl (kt x9 - 1)) x9 (by omega) hx1) zy_L_light zm_L_44 rfl rfl hl.1 (Nat.le_of_ble_eq_true rfl) ⟨by decide, by decide⟩ ⟨by show cl + 4 * i + 0 + 0 + 2 + 0 + 0 + 2 + 0 ≤ 600086; omega, by show sl + 24 * i + 0 + 0 + 12 + 0 + 0 + 12 + 0 ≤ 7301442; omega⟩ dL_law_1260) hM (fun H locs hM => ?_)
            rw [lwP_eq hpa]
            refine z_fcalli (z_runS hC hM (c_isWhole (nD (lwA A x9 (bl (kt x9 - 1)))).toNat (lwA A x9 (bl (kt x9 - 1))) b7 c63 (by omega) d1 d2 d3 d4) zy_L_isWhole zm_L_134 rfl rfl hl.1 (Nat.le_of_ble_eq_true rfl) ⟨by decide, by decide⟩ ⟨by show cl + 4 * i + 0 + 0 + 2 + 0 + 0 + 2 + 0 + 0 ≤ 600086; omega, by show sl + 24 * i + 0 + 0 + 12 + 0 + 0 + 12 + 0 + 0 ≤ 7301442; omega⟩ dL_law_1263) hM (fun H locs hM => ?_)
            refine z_if_ne (tgt := 1271) hx hb (nI_toInt (by decide)) dL_law_1266 (by decide) (fun c_1266 => ?_) (fun c_1266 => ?_)
            · refine lv_iinc (v := nI (i + 1)) (lv' := [(18, .int (nI (i + 1))), (20, .int (nI (kt x9 - 1))), (19, .int (nI x9)), (0, .ref b), (1, .ref ((ad 1))), (2, .ref ((B 2))), (3, .ref ((B 3))), (4, .ref ((B 4))), (5, .ref ((B 5))), (6, .ref ((B 6))), (7, .ref ((B 7))), (8, .ref ((B 8))), (9, .ref ((B 9))), (10, .ref ((B 10))), (11, .int (nI (nw A))), (12, .int (nI (np A))), (13, .int (nI tm)), (14, .int (nI tn)), (15, .int v), (16, .int w)]) hx hb dL_law_1271 hl (k := 2) rfl (nI_add i 1) (by decide) rfl (fun ls hl => ?_)
              refine lv_goto (tgt := 1170) hx hb dL_law_1274 (by decide) ?_
              refine W.widen (k := cl + 4 * (i + 1)) (n := sl + 24 * (i + 1)) (by show cl + 4 * i + 0 + 0 + 2 + 0 + 0 + 2 + 0 + 0 ≤ cl + 4 * (i + 1); omega) (by show sl + 24 * i + 0 + 0 + 12 + 0 + 0 + 12 + 0 + 0 ≤ sl + 24 * (i + 1); omega) ?_
              exact ih (by omega) ls H locs L f ad (lv_sub hl [0, 3, 4, 5, 6, 7, 8, 9, 10, 11, 12, 13, 14, 15, 16, 17, 18, 19] rfl) hM hS (by omega)
            · exact absurd c_1266 (by omega)
        · skip
          rw [wnV_toInt (by omega)] at c_1224
          obtain ⟨hk6, hk7⟩ := vke hP hx1
          have hvk : v_kept A (nI 0) (nI x9) = -1 := hk6 (by omega)
          refine lv_aload_n hx hb dL_law_1227 rfl (lv_at hl 4 rfl) ?_
          refine lv_iconst (v := nI 0) hx hb dL_law_1228 (by decide) ?_
          refine lv_iload hx hb dL_law_1229 (lv_at hl 1 rfl) ?_
          refine z_xq (av := #[]) (val := fun r : Int64 => some (.long r)) (post := fun r u => k_kept A (nI 0) (nI x9) = 0 ∧ r = v_kept A (nI 0) (nI x9) ∧ CR K A ad L f A u.1 u.2) (z_xrunV hC hM (p_kept hst hS.1 (nI 0) (nI x9)) zy_X6_kept zm_L_138 (ci_1 hS.1) (cx_at hS.1) zcl_X6 rfl rfl rfl hl.1 (Nat.le_of_ble_eq_true rfl) ⟨by decide, by decide⟩ ⟨by show cl + 4 * i + 0 + 0 + 2 + 0 + 0 + 2 ≤ 600086; omega, by show sl + 24 * i + 0 + 0 + 12 + 0 + 0 + 12 ≤ 7301442; omega⟩ dL_law_1231) (fun st o t ⟨⟨r, u, h1, h2, h3⟩, h4⟩ => ⟨r, u, h1, h2, h3, h4⟩) hM (fun E ce q9 L1 f1 H locs hp hM _ _ _ => absurd hp.1.1 (by omega)) (fun r L f H locs hp hM => ?_)
          obtain ⟨-, hv9, hCR⟩ := hp
          obtain ⟨ad, had, hS⟩ := hS.cr hCR
          rw [← had] at hl
          rw [hv9, hvk]
          refine lv_ldc2 (v := (-1)) hx hb hown (hts _ zk_L_141) dL_law_1234 ?_
          refine z_lif_ne (tgt := 1269) hx hb rfl rfl dL_law_1237 dL_law_1238 (by decide) (fun c_1237 => ?_) (fun c_1237 => ?_)
          · exact absurd rfl c_1237
          · refine lv_iload hx hb dL_law_1241 (lv_at hl 0 rfl) ?_
            refine z_if_lt (tgt := 1271) hx hb rfl dL_law_1243 (by decide) (fun c_1243 => ?_) (fun c_1243 => ?_)
            · refine lv_iinc (v := nI (i + 1)) (lv' := [(18, .int (nI (i + 1))), (20, .int (wnV (kt x9))), (19, .int (nI x9)), (0, .ref b), (1, .ref ((ad 1))), (2, .ref ((B 2))), (3, .ref ((B 3))), (4, .ref ((B 4))), (5, .ref ((B 5))), (6, .ref ((B 6))), (7, .ref ((B 7))), (8, .ref ((B 8))), (9, .ref ((B 9))), (10, .ref ((B 10))), (11, .int (nI (nw A))), (12, .int (nI (np A))), (13, .int (nI tm)), (14, .int (nI tn)), (15, .int v), (16, .int w)]) hx hb dL_law_1271 hl (k := 2) rfl (nI_add i 1) (by decide) rfl (fun ls hl => ?_)
              refine lv_goto (tgt := 1170) hx hb dL_law_1274 (by decide) ?_
              refine W.widen (k := cl + 4 * (i + 1)) (n := sl + 24 * (i + 1)) (by show cl + 4 * i + 0 + 0 + 2 + 0 + 0 + 2 ≤ cl + 4 * (i + 1); omega) (by show sl + 24 * i + 0 + 0 + 12 + 0 + 0 + 12 ≤ sl + 24 * (i + 1); omega) ?_
              exact ih (by omega) ls H locs L f ad (lv_sub hl [0, 3, 4, 5, 6, 7, 8, 9, 10, 11, 12, 13, 14, 15, 16, 17, 18, 19] rfl) hM hS (by omega)
            · exact absurd c_1243 (by rw [wnV_toInt (by omega)]; omega)
  refine W.widen (k := cl + 4 * 0) (n := sl + 24 * 0) (by show cl ≤ cl + 4 * 0; omega) (by show sl ≤ sl + 24 * 0; omega) ?_
  exact LOOP1170 0 ls H locs L f ad (lv_sub hl [0, 1, 2, 3, 4, 5, 6, 7, 8, 9, 10, 11, 12, 13, 14, 15, 16, 17] rfl) hM hS (by omega)
