/-! THE LAW'S PIECES, fourth part: worlds (rows laid by wip/p22/lawp4.py) -/
theorem kwo {A : zA} {x : Nat} (h1 : ns A = 1) (hx : x ≤ 1000000) : k_world A (nI 0) (nI x) = if nw A = 12 ∨ pdT (gk A 0) (nI x) = 0 then 3 else 0 := by
  unfold k_world
  rw [if_neg (fun z => z (isS_0 h1)), if_neg (fun z => z (iR_n (by omega) (by omega) (by omega))), iv_0]
theorem kwo_E {A : zA} {x : Nat} (h1 : ns A = 1) (hx : x ≤ 1000000) (E : String) (h : xE [xIO, xIA, xIS] (k_world A (nI 0) (nI x)) E) : E = xIS := by
  rw [kwo h1 hx] at h
  split at h
  · exact (Option.some.inj h.2).symm
  · exact absurd h.1 (Nat.lt_irrefl 0)
theorem kab_0 {A : zA} {w x : Nat} (hw : w < nw A) (h12 : nw A ≤ 12) (hx : x ≤ 3) : k_about A (nI w) (nI x) = 0 := by
  unfold k_about
  rw [if_neg (fun z => z (iR_n (by omega) (by omega) (by omega))), if_neg (fun z => z (iR_n (by omega) (by omega) (by omega)))]
theorem vab {A : zA} {w : Nat} (hw : w < 2 ^ 31) : v_about A (nI w) (nI 0) = nI (A.1 20 w) ∧ v_about A (nI w) (nI 1) = nI (A.1 21 w) ∧ v_about A (nI w) (nI 2) = nI (A.1 22 w) ∧ v_about A (nI w) (nI 3) = nI (A.1 23 w) := by
  unfold v_about
  rw [iv_n hw, iv_n (by decide), iv_n (by decide), iv_n (by decide), iv_n (by decide)]
  exact ⟨rfl, rfl, rfl, rfl⟩
theorem pd_20 {g : Nat → UInt64} {x : Int32} (h : pdT g x ≠ 0) : 20 ≤ fN g 1000 := by
  apply Nat.le_of_not_lt
  intro c
  exact h (if_pos c)
theorem pd_60 {g : Nat → UInt64} {x : Int32} : pdT g x ≤ 60 ∧ (pdT g x ≠ 0 → 2 ≤ pdT g x) := by
  have key : ∀ k, 2 ≤ (pdS g k).1 ∧ (pdS g k).1 ≤ k + 2 := by
    intro k
    induction k with
    | zero => exact ⟨Nat.le_refl 2, Nat.le_refl 2⟩
    | succ k ih =>
      rw [pdS]
      split
      · exact ⟨by show 2 ≤ k + 3; omega, Nat.le_refl _⟩
      · exact ⟨ih.1, by omega⟩
  have := key 58
  unfold pdT
  split
  · exact ⟨by omega, fun z => absurd rfl z⟩
  · split
    · exact ⟨by omega, fun _ => this.1⟩
    · exact ⟨by omega, fun z => absurd rfl z⟩
set_option maxHeartbeats 1000000 in
set_option maxRecDepth 100000 in
theorem k_wn {p : Program} {l : Launch} {e : Env} {s : State} {m : MethodId} {below : List Frame} {meth : Method} {c : Code} {K : zK} (hst : l.stackTraces = false) {b L9 : Nat} {xs : Nat → Int32} (hC : zC p s #[Value.ref b] m c cL_law 23 RL s.heap.size K) (hX : va_X b L9 xs s s.heap) (hbl : b < s.heap.size) (hL9 : L9 ≤ 3072) {B : Nat → Nat} {A : zA} {tm : Nat} {bl kt : Nat → Nat} {ad : Nat → Nat} {L : List Nat} {f : Nat → va_E} {H : Heap} {locs : List Loc} {ls : Array Slot} {cl sl tn : Nat} {v w : Int32} (hcl : cl + 200 ≤ 600086) (hsl : sl + 3500 ≤ 7301442) (hI : INV K A B tm bl kt L f ad) (hM : zM s.heap.size K L f s H locs) (hc : nw A = 12 ∨ pdT (gk A 0) (nI (lowN w 300)) = 0) (hl : lv_has ls 23 [(0, .ref b), (1, .ref ((ad 1))), (2, .ref ((B 2))), (3, .ref ((B 3))), (4, .ref ((B 4))), (5, .ref ((B 5))), (6, .ref ((B 6))), (7, .ref ((B 7))), (8, .ref ((B 8))), (9, .ref ((B 9))), (10, .ref ((B 10))), (11, .int (nI (nw A))), (12, .int (nI (np A))), (13, .int (nI tm)), (14, .int (nI tn)), (15, .int v), (16, .int w)]) {Q : State → Prop} (KK : ∀ (A : zA) (tm : Nat) (bl kt : Nat → Nat) (ad : Nat → Nat) (L : List Nat) (f : Nat → va_E) (H : Heap) (locs : List Loc) (ls : Array Slot), INV K A B tm bl kt L f ad → lv_has ls 23 [(0, .ref b), (1, .ref ((ad 1))), (2, .ref ((B 2))), (3, .ref ((B 3))), (4, .ref ((B 4))), (5, .ref ((B 5))), (6, .ref ((B 6))), (7, .ref ((B 7))), (8, .ref ((B 8))), (9, .ref ((B 9))), (10, .ref ((B 10))), (11, .int (nI (nw A))), (12, .int (nI (np A))), (13, .int (nI tm)), (14, .int (nI tn)), (15, .int v), (16, .int w)] → zM s.heap.size K L f s H locs → W p l e room_1 s m #[Value.ref b] below meth c H locs (cl + 40) (sl + 2000) Q (F0 m 1167 ls [])) : W p l e room_1 s m #[Value.ref b] below meth c H locs cl sl Q (F0 m 747 ls []) := by
  have hx := hC.1
  have hb := hC.2.1
  have hown := hC.2.2.2.1
  have hts := hC.2.2.2.2.1
  obtain ⟨pv, kb, gb, pe, ow, ci, fa, hS, hP, hpa, hkb, hgb, hpe, hpp⟩ := hI
  have hV : VA A := hS.1.1
  have h12 : nw A ≤ 12 := hV.2.1
  obtain ⟨x, hxw⟩ : ∃ x, x = lowN w 300 := ⟨_, rfl⟩
  have hx9 : x ≤ 1000000 := by have := lowN_lt (v := w) (n := 300) (by decide); omega
  obtain ⟨q, hq⟩ : ∃ q, q = pdT (gk A 0) (nI x) := ⟨_, rfl⟩
  have hq60 : q ≤ 60 ∧ (q ≠ 0 → 2 ≤ q) := by rw [hq]; exact pd_60
  rw [← hxw, ← hq] at hc
  have hP1 := hP
  have hq1 : pdT (gk A 0) (nI x) = q := hq.symm
  have hk9 : k_world A (nI 0) (nI x) = 3 := by rw [kwo hP.1 hx9, hq1, if_pos hc]
  have ha9 : a_world A (nI 0) (nI x) = A := by unfold a_world; rw [if_neg (by omega)]
  refine lv_aload_n hx hb dL_law_747 rfl (lv_at hl 1 rfl) ?_
  refine lv_iload hx hb dL_law_748 (lv_at hl 16 rfl) ?_
  refine lv_sipush (v := nI 300) hx hb dL_law_750 (by decide) ?_
  refine z_fcalli (z_runS hC hM (c_low w 300 (by decide) (by decide)) zy_L_low zm_L_64 rfl rfl hl.1 (Nat.le_of_ble_eq_true rfl) ⟨by decide, by decide⟩ ⟨by show cl + 0 ≤ 600086; omega, by show sl + 0 ≤ 7301442; omega⟩ dL_law_753) hM (fun H locs hM => ?_)
  rw [← hxw]
  refine z_xq (av := #[]) (val := fun r : Int32 => some (.int r)) (post := fun r u => r = (if k_world A (nI 0) (nI x) = 0 then nI (nw A) else -1) ∧ CR K A ad L f (a_world A (nI 0) (nI x)) u.1 u.2) (z_xrunSH hC hM (w_listed hst hS.1 (nI x) (kwo_E hP.1 hx9)) zyH_listed zm_L_119 rfl rfl hl.1 (Nat.le_of_ble_eq_true rfl) ⟨by decide, by decide⟩ ⟨by show cl + 0 + 12 ≤ 600086; omega, by show sl + 0 + 1200 ≤ 7301442; omega⟩ dL_law_756) (fun st o t ⟨⟨r, u, h1, h2, h3⟩, h4⟩ => ⟨r, u, h1, h2, h3, h4⟩) hM (fun E ce q9 L1 f1 H locs hp hM _ _ _ => hp.elim) (fun r L f H locs hp hM => ?_)
  obtain ⟨hv9, hCR⟩ := hp
  rw [ha9] at hCR
  obtain ⟨ad, had, hS⟩ := hS.cr hCR
  rw [← had] at hl
  rw [hv9, if_neg (by omega)]
  refine lv_istore (lv' := [(18, .int ((-1))), (0, .ref b), (1, .ref ((ad 1))), (2, .ref ((B 2))), (3, .ref ((B 3))), (4, .ref ((B 4))), (5, .ref ((B 5))), (6, .ref ((B 6))), (7, .ref ((B 7))), (8, .ref ((B 8))), (9, .ref ((B 9))), (10, .ref ((B 10))), (11, .int (nI (nw A))), (12, .int (nI (np A))), (13, .int (nI tm)), (14, .int (nI tn)), (15, .int v), (16, .int w)]) hx hb dL_law_759 hl (by decide) rfl (fun ls hl => ?_)
  refine lv_iload hx hb dL_law_761 (lv_at hl 0 rfl) ?_
  refine lv_aload_n hx hb dL_law_763 rfl (lv_at hl 2 rfl) ?_
  refine lv_iload hx hb dL_law_764 (lv_at hl 17 rfl) ?_
  refine lv_sipush (v := nI 300) hx hb dL_law_766 (by decide) ?_
  refine z_fcalli (z_runS hC hM (c_low w 300 (by decide) (by decide)) zy_L_low zm_L_64 rfl rfl hl.1 (Nat.le_of_ble_eq_true rfl) ⟨by decide, by decide⟩ ⟨by show cl + 0 + 12 + 0 ≤ 600086; omega, by show sl + 0 + 1200 + 0 ≤ 7301442; omega⟩ dL_law_769) hM (fun H locs hM => ?_)
  rw [← hxw]
  refine z_xq (av := #[]) (val := fun r : Int32 => some (.int r)) (post := fun r u => r = (if k_period A (nI 0) (nI x) = 0 then v_period A (nI 0) (nI x) else nI 0) ∧ CR K A ad L f A u.1 u.2) (z_xrunSH hC hM (w_found hst hS.1 (nI x) (kp_E hP1.1 hx9)) zyH_found zm_L_72 rfl rfl hl.1 (Nat.le_of_ble_eq_true rfl) ⟨by decide, by decide⟩ ⟨by show cl + 0 + 12 + 0 + 3 ≤ 600086; omega, by show sl + 0 + 1200 + 0 + 18 ≤ 7301442; omega⟩ dL_law_772) (fun st o t ⟨⟨r, u, h1, h2, h3⟩, h4⟩ => ⟨r, u, h1, h2, h3, h4⟩) hM (fun E ce q9 L1 f1 H locs hp hM _ _ _ => hp.elim) (fun r L f H locs hp hM => ?_)
  obtain ⟨hv9, hCR⟩ := hp
  obtain ⟨ad, had, hS⟩ := hS.cr hCR
  rw [← had] at hl
  rw [hv9, kp_v hP1.1 hx9, hq1]
  refine z_if_eq (tgt := 785) hx hb (nI_toInt (by omega)) dL_law_775 (by decide) (fun c_775 => ?_) (fun c_775 => ?_)
  · refine lv_iconst (v := (-1)) hx hb dL_law_785 (by decide) ?_
    refine lv_goto (tgt := 791) hx hb dL_law_786 (by decide) ?_
    refine z_icmp_eq (tgt := 796) hx hb m1_toInt m1_toInt dL_law_791 (by decide) (fun c_791 => ?_) (fun c_791 => ?_)
    · refine lv_iload hx hb dL_law_796 (lv_at hl 0 rfl) ?_
      refine z_if_lt (tgt := 869) hx hb m1_toInt dL_law_798 (by decide) (fun c_798 => ?_) (fun c_798 => ?_)
      · refine lv_goto (tgt := 1167) hx hb dL_law_869 (by decide) ?_
        refine W.widen (k := cl + 40) (n := sl + 2000) (by show cl + 0 + 12 + 0 + 3 ≤ cl + 40; omega) (by show sl + 0 + 1200 + 0 + 18 ≤ sl + 2000; omega) ?_
        exact KK _ _ _ _ _ _ _ _ _ _ ⟨pv, kb, gb, pe, ow, ci, fa, hS, hP, hpa, hkb, hgb, hpe, hpp⟩ (lv_sub hl [1, 2, 3, 4, 5, 6, 7, 8, 9, 10, 11, 12, 13, 14, 15, 16, 17] rfl) hM
      · exact absurd c_798 (by decide)
    · exact absurd rfl c_791
  · refine lv_iload hx hb dL_law_778 (lv_at hl 12 rfl) ?_
    refine lv_bipush (v := nI 12) hx hb dL_law_780 (by decide) ?_
    refine z_icmp_ne (tgt := 789) hx hb (nI_toInt (by omega)) (nI_toInt (by decide)) dL_law_782 (by decide) (fun c_782 => ?_) (fun c_782 => ?_)
    · exact absurd c_782 (by omega)
    · refine lv_iconst (v := (-1)) hx hb dL_law_785 (by decide) ?_
      refine lv_goto (tgt := 791) hx hb dL_law_786 (by decide) ?_
      refine z_icmp_eq (tgt := 796) hx hb m1_toInt m1_toInt dL_law_791 (by decide) (fun c_791 => ?_) (fun c_791 => ?_)
      · refine lv_iload hx hb dL_law_796 (lv_at hl 0 rfl) ?_
        refine z_if_lt (tgt := 869) hx hb m1_toInt dL_law_798 (by decide) (fun c_798 => ?_) (fun c_798 => ?_)
        · refine lv_goto (tgt := 1167) hx hb dL_law_869 (by decide) ?_
          refine W.widen (k := cl + 40) (n := sl + 2000) (by show cl + 0 + 12 + 0 + 3 ≤ cl + 40; omega) (by show sl + 0 + 1200 + 0 + 18 ≤ sl + 2000; omega) ?_
          exact KK _ _ _ _ _ _ _ _ _ _ ⟨pv, kb, gb, pe, ow, ci, fa, hS, hP, hpa, hkb, hgb, hpe, hpp⟩ (lv_sub hl [1, 2, 3, 4, 5, 6, 7, 8, 9, 10, 11, 12, 13, 14, 15, 16, 17] rfl) hM
        · exact absurd c_798 (by decide)
      · exact absurd rfl c_791
set_option maxHeartbeats 1000000 in
set_option maxRecDepth 100000 in
theorem k_wy {p : Program} {l : Launch} {e : Env} {s : State} {m : MethodId} {below : List Frame} {meth : Method} {c : Code} {K : zK} (hst : l.stackTraces = false) {b L9 : Nat} {xs : Nat → Int32} (hC : zC p s #[Value.ref b] m c cL_law 23 RL s.heap.size K) (hX : va_X b L9 xs s s.heap) (hbl : b < s.heap.size) (hL9 : L9 ≤ 3072) {B : Nat → Nat} {A : zA} {tm : Nat} {bl kt : Nat → Nat} {ad : Nat → Nat} {L : List Nat} {f : Nat → va_E} {H : Heap} {locs : List Loc} {ls : Array Slot} {cl sl tn : Nat} {v w : Int32} (hcl : cl + 200 ≤ 600086) (hsl : sl + 3500 ≤ 7301442) (hI : INV K A B tm bl kt L f ad) (hM : zM s.heap.size K L f s H locs) (hc : ¬ (nw A = 12 ∨ pdT (gk A 0) (nI (lowN w 300)) = 0)) (hl : lv_has ls 23 [(0, .ref b), (1, .ref ((ad 1))), (2, .ref ((B 2))), (3, .ref ((B 3))), (4, .ref ((B 4))), (5, .ref ((B 5))), (6, .ref ((B 6))), (7, .ref ((B 7))), (8, .ref ((B 8))), (9, .ref ((B 9))), (10, .ref ((B 10))), (11, .int (nI (nw A))), (12, .int (nI (np A))), (13, .int (nI tm)), (14, .int (nI tn)), (15, .int v), (16, .int w)]) {Q : State → Prop} (KK : ∀ (A : zA) (tm : Nat) (bl kt : Nat → Nat) (ad : Nat → Nat) (L : List Nat) (f : Nat → va_E) (H : Heap) (locs : List Loc) (ls : Array Slot), INV K A B tm bl kt L f ad → lv_has ls 23 [(0, .ref b), (1, .ref ((ad 1))), (2, .ref ((B 2))), (3, .ref ((B 3))), (4, .ref ((B 4))), (5, .ref ((B 5))), (6, .ref ((B 6))), (7, .ref ((B 7))), (8, .ref ((B 8))), (9, .ref ((B 9))), (10, .ref ((B 10))), (11, .int (nI (nw A))), (12, .int (nI (np A))), (13, .int (nI tm)), (14, .int (nI tn)), (15, .int v), (16, .int w)] → zM s.heap.size K L f s H locs → W p l e room_1 s m #[Value.ref b] below meth c H locs (cl + 40) (sl + 2000) Q (F0 m 1167 ls [])) : W p l e room_1 s m #[Value.ref b] below meth c H locs cl sl Q (F0 m 747 ls []) := by
  have hx := hC.1
  have hb := hC.2.1
  have hown := hC.2.2.2.1
  have hts := hC.2.2.2.2.1
  obtain ⟨pv, kb, gb, pe, ow, ci, fa, hS, hP, hpa, hkb, hgb, hpe, hpp⟩ := hI
  have hV : VA A := hS.1.1
  have h12 : nw A ≤ 12 := hV.2.1
  obtain ⟨x, hxw⟩ : ∃ x, x = lowN w 300 := ⟨_, rfl⟩
  have hx9 : x ≤ 1000000 := by have := lowN_lt (v := w) (n := 300) (by decide); omega
  obtain ⟨q, hq⟩ : ∃ q, q = pdT (gk A 0) (nI x) := ⟨_, rfl⟩
  have hq60 : q ≤ 60 ∧ (q ≠ 0 → 2 ≤ q) := by rw [hq]; exact pd_60
  rw [← hxw, ← hq] at hc
  have hP1 : PG (woA A 0 q (phN (gk A 0) q)) tm bl kt := hP.world
  have hq1 : pdT (gk (woA A 0 q (phN (gk A 0) q)) 0) (nI x) = q := hq.symm
  have hq0 : q ≠ 0 := fun z => hc (Or.inr z)
  have hk9 : k_world A (nI 0) (nI x) = 0 := by rw [kwo hP.1 hx9, ← hq, if_neg hc]
  have ha9 : a_world A (nI 0) (nI x) = (woA A 0 q (phN (gk A 0) q)) := by unfold a_world; rw [if_pos hk9, iv_0, ← hq]
  have hn12 : nw A < 12 := by omega
  have hwn : nw (woA A 0 q (phN (gk A 0) q)) = nw A + 1 := rfl
  have h20 : 20 ≤ A.1 14 0 := by
    have h8 := pd_20 (g := gk A 0) (x := nI x) (by rw [← hq]; exact hq0)
    have hV8 := hV
    obtain ⟨-, -, -, hs8, -⟩ := hV8
    rw [(hs8 0 (by have := hP.1; omega)).2.2.2.2.2.2.1]
    exact h8
  have hk2 : k_period (woA A 0 q (phN (gk A 0) q)) (nI 0) (nI x) = 0 := by rw [kp_x hP1.1 hx9, hq1, if_neg hq0]
  have hvp : v_period (woA A 0 q (phN (gk A 0) q)) (nI 0) (nI x) = nI q := by unfold v_period; rw [iv_0, hq1]
  have hk3 : k_fold (woA A 0 q (phN (gk A 0) q)) (nI 0) (nI q) = 0 := kf_0 hP1.1 (hq60.2 hq0) hq60.1 h20
  have hgt := GT_GA hV hP
  have hh0 : 0 < hG kt := by rw [← hG_A hV hP]; omega
  obtain ⟨b9, hb1, hb2, hb3, hb4, hb5⟩ := bf_facts hgt hh0 (show 0 < q by omega)
  rw [← gk_GA hP] at hb1
  have hph : phN (gk A 0) q = b9 := by unfold phN; rw [hb1]
  have hvh : v_phase (woA A 0 q (phN (gk A 0) q)) (nI 0) (nI q) = nI b9 := by
    unfold v_phase
    rw [iv_0, iv_n (by omega), show gk (woA A 0 q (phN (gk A 0) q)) 0 = gk A 0 from rfl, hb1]
    rfl
  have hka := kab_0 (A := (woA A 0 q (phN (gk A 0) q))) (w := nw A) (x := 0) (by omega) (by omega) (by decide)
  have hkb9 := kab_0 (A := (woA A 0 q (phN (gk A 0) q))) (w := nw A) (x := 1) (by omega) (by omega) (by decide)
  have hkc := kab_0 (A := (woA A 0 q (phN (gk A 0) q))) (w := nw A) (x := 2) (by omega) (by omega) (by decide)
  have hf21 : ((woA A 0 q (phN (gk A 0) q))).1 21 (nw A) = q := by rw [woA_21, va_up_self]
  have hf22 : ((woA A 0 q (phN (gk A 0) q))).1 22 (nw A) = b9 := by rw [woA_22, va_up_self, hph]
  have hf20 : ((woA A 0 q (phN (gk A 0) q))).1 20 (nw A) = 0 := by rw [woA_20, va_up_self]
  refine lv_aload_n hx hb dL_law_747 rfl (lv_at hl 1 rfl) ?_
  refine lv_iload hx hb dL_law_748 (lv_at hl 16 rfl) ?_
  refine lv_sipush (v := nI 300) hx hb dL_law_750 (by decide) ?_
  refine z_fcalli (z_runS hC hM (c_low w 300 (by decide) (by decide)) zy_L_low zm_L_64 rfl rfl hl.1 (Nat.le_of_ble_eq_true rfl) ⟨by decide, by decide⟩ ⟨by show cl + 0 ≤ 600086; omega, by show sl + 0 ≤ 7301442; omega⟩ dL_law_753) hM (fun H locs hM => ?_)
  rw [← hxw]
  refine z_xq (av := #[]) (val := fun r : Int32 => some (.int r)) (post := fun r u => r = (if k_world A (nI 0) (nI x) = 0 then nI (nw A) else -1) ∧ CR K A ad L f (a_world A (nI 0) (nI x)) u.1 u.2) (z_xrunSH hC hM (w_listed hst hS.1 (nI x) (kwo_E hP.1 hx9)) zyH_listed zm_L_119 rfl rfl hl.1 (Nat.le_of_ble_eq_true rfl) ⟨by decide, by decide⟩ ⟨by show cl + 0 + 12 ≤ 600086; omega, by show sl + 0 + 1200 ≤ 7301442; omega⟩ dL_law_756) (fun st o t ⟨⟨r, u, h1, h2, h3⟩, h4⟩ => ⟨r, u, h1, h2, h3, h4⟩) hM (fun E ce q9 L1 f1 H locs hp hM _ _ _ => hp.elim) (fun r L f H locs hp hM => ?_)
  obtain ⟨hv9, hCR⟩ := hp
  rw [ha9] at hCR
  obtain ⟨ad, had, hS⟩ := hS.cr hCR
  rw [← had] at hl
  rw [hv9, if_pos hk9]
  refine lv_istore (lv' := [(18, .int (nI (nw A))), (0, .ref b), (1, .ref ((ad 1))), (2, .ref ((B 2))), (3, .ref ((B 3))), (4, .ref ((B 4))), (5, .ref ((B 5))), (6, .ref ((B 6))), (7, .ref ((B 7))), (8, .ref ((B 8))), (9, .ref ((B 9))), (10, .ref ((B 10))), (11, .int (nI (nw A))), (12, .int (nI (np A))), (13, .int (nI tm)), (14, .int (nI tn)), (15, .int v), (16, .int w)]) hx hb dL_law_759 hl (by decide) rfl (fun ls hl => ?_)
  refine lv_iload hx hb dL_law_761 (lv_at hl 0 rfl) ?_
  refine lv_aload_n hx hb dL_law_763 rfl (lv_at hl 2 rfl) ?_
  refine lv_iload hx hb dL_law_764 (lv_at hl 17 rfl) ?_
  refine lv_sipush (v := nI 300) hx hb dL_law_766 (by decide) ?_
  refine z_fcalli (z_runS hC hM (c_low w 300 (by decide) (by decide)) zy_L_low zm_L_64 rfl rfl hl.1 (Nat.le_of_ble_eq_true rfl) ⟨by decide, by decide⟩ ⟨by show cl + 0 + 12 + 0 ≤ 600086; omega, by show sl + 0 + 1200 + 0 ≤ 7301442; omega⟩ dL_law_769) hM (fun H locs hM => ?_)
  rw [← hxw]
  refine z_xq (av := #[]) (val := fun r : Int32 => some (.int r)) (post := fun r u => r = (if k_period (woA A 0 q (phN (gk A 0) q)) (nI 0) (nI x) = 0 then v_period (woA A 0 q (phN (gk A 0) q)) (nI 0) (nI x) else nI 0) ∧ CR K ((woA A 0 q (phN (gk A 0) q))) ad L f ((woA A 0 q (phN (gk A 0) q))) u.1 u.2) (z_xrunSH hC hM (w_found hst hS.1 (nI x) (kp_E hP1.1 hx9)) zyH_found zm_L_72 rfl rfl hl.1 (Nat.le_of_ble_eq_true rfl) ⟨by decide, by decide⟩ ⟨by show cl + 0 + 12 + 0 + 3 ≤ 600086; omega, by show sl + 0 + 1200 + 0 + 18 ≤ 7301442; omega⟩ dL_law_772) (fun st o t ⟨⟨r, u, h1, h2, h3⟩, h4⟩ => ⟨r, u, h1, h2, h3, h4⟩) hM (fun E ce q9 L1 f1 H locs hp hM _ _ _ => hp.elim) (fun r L f H locs hp hM => ?_)
  obtain ⟨hv9, hCR⟩ := hp
  obtain ⟨ad, had, hS⟩ := hS.cr hCR
  rw [← had] at hl
  rw [hv9, kp_v hP1.1 hx9, hq1]
  refine z_if_eq (tgt := 785) hx hb (nI_toInt (by omega)) dL_law_775 (by decide) (fun c_775 => ?_) (fun c_775 => ?_)
  · exact absurd c_775 (by omega)
  · refine lv_iload hx hb dL_law_778 (lv_at hl 12 rfl) ?_
    refine lv_bipush (v := nI 12) hx hb dL_law_780 (by decide) ?_
    refine z_icmp_ne (tgt := 789) hx hb (nI_toInt (by omega)) (nI_toInt (by decide)) dL_law_782 (by decide) (fun c_782 => ?_) (fun c_782 => ?_)
    · refine lv_iload hx hb dL_law_789 (lv_at hl 12 rfl) ?_
      refine z_icmp_eq (tgt := 796) hx hb (nI_toInt (by omega)) (nI_toInt (by omega)) dL_law_791 (by decide) (fun c_791 => ?_) (fun c_791 => ?_)
      · refine lv_iload hx hb dL_law_796 (lv_at hl 0 rfl) ?_
        refine z_if_lt (tgt := 869) hx hb (nI_toInt (by omega)) dL_law_798 (by decide) (fun c_798 => ?_) (fun c_798 => ?_)
        · exact absurd c_798 (by omega)
        · refine lv_aload hx hb dL_law_801 (lv_at hl 7 rfl) ?_
          refine lv_iload hx hb dL_law_803 (lv_at hl 12 rfl) ?_
          refine lv_aload_n hx hb dL_law_805 rfl (lv_at hl 2 rfl) ?_
          refine lv_iconst (v := nI 0) hx hb dL_law_806 (by decide) ?_
          refine lv_iload hx hb dL_law_807 (lv_at hl 17 rfl) ?_
          refine lv_sipush (v := nI 300) hx hb dL_law_809 (by decide) ?_
          refine z_fcalli (z_runS hC hM (c_low w 300 (by decide) (by decide)) zy_L_low zm_L_64 rfl rfl hl.1 (Nat.le_of_ble_eq_true rfl) ⟨by decide, by decide⟩ ⟨by show cl + 0 + 12 + 0 + 3 + 0 ≤ 600086; omega, by show sl + 0 + 1200 + 0 + 18 + 0 ≤ 7301442; omega⟩ dL_law_812) hM (fun H locs hM => ?_)
          rw [← hxw]
          refine z_xq (av := #[]) (val := fun r : Int32 => some (.int r)) (post := fun r u => k_period (woA A 0 q (phN (gk A 0) q)) (nI 0) (nI x) = 0 ∧ r = v_period (woA A 0 q (phN (gk A 0) q)) (nI 0) (nI x) ∧ CR K ((woA A 0 q (phN (gk A 0) q))) ad L f ((woA A 0 q (phN (gk A 0) q))) u.1 u.2) (z_xrunV hC hM (p_period hst hS.1 (nI 0) (nI x)) zy_X6_period zm_L_10 (ci_1 hS.1) (cx_at hS.1) zcl_X6 rfl rfl rfl hl.1 (Nat.le_of_ble_eq_true rfl) ⟨by decide, by decide⟩ ⟨by show cl + 0 + 12 + 0 + 3 + 0 + 3 ≤ 600086; omega, by show sl + 0 + 1200 + 0 + 18 + 0 + 18 ≤ 7301442; omega⟩ dL_law_815) (fun st o t ⟨⟨r, u, h1, h2, h3⟩, h4⟩ => ⟨r, u, h1, h2, h3, h4⟩) hM (fun E ce q9 L1 f1 H locs hp hM _ _ _ => absurd hp.1.1 (by omega)) (fun r L f H locs hp hM => ?_)
          obtain ⟨-, hv9, hCR⟩ := hp
          obtain ⟨ad, had, hS⟩ := hS.cr hCR
          rw [← had] at hl
          rw [hv9, hvp]
          refine z_iast hC hM (hS.m (by decide) (by decide)) hS.s6 (by omega) (by omega) dL_law_818 (fun H locs hM => ?_)
          obtain ⟨pe2, hpe2⟩ : ∃ g9, g9 = va_up pe (nw A) q := ⟨_, rfl⟩
          rw [up_nI, ← hpe2] at hM
          have hS := hS.u6 pe2
          generalize va_up f (B 6) (eI K 12 (fun j => nI (pe2 j))) = f at hM hS
          refine lv_aload_n hx hb dL_law_819 rfl (lv_at hl 2 rfl) ?_
          refine lv_iload hx hb dL_law_820 (lv_at hl 0 rfl) ?_
          refine lv_iconst (v := nI 1) hx hb dL_law_822 (by decide) ?_
          refine z_xq (av := #[]) (val := fun r : Int32 => some (.int r)) (post := fun r u => k_about (woA A 0 q (phN (gk A 0) q)) (nI (nw A)) (nI 1) = 0 ∧ r = v_about (woA A 0 q (phN (gk A 0) q)) (nI (nw A)) (nI 1) ∧ CR K ((woA A 0 q (phN (gk A 0) q))) ad L f ((woA A 0 q (phN (gk A 0) q))) u.1 u.2) (z_xrunV hC hM (p_about hst hS.1 (nI (nw A)) (nI 1)) zy_X6_about zm_L_122 (ci_1 hS.1) (cx_at hS.1) zcl_X6 rfl rfl rfl hl.1 (Nat.le_of_ble_eq_true rfl) ⟨by decide, by decide⟩ ⟨by show cl + 0 + 12 + 0 + 3 + 0 + 3 + 2 ≤ 600086; omega, by show sl + 0 + 1200 + 0 + 18 + 0 + 18 + 12 ≤ 7301442; omega⟩ dL_law_823) (fun st o t ⟨⟨r, u, h1, h2, h3⟩, h4⟩ => ⟨r, u, h1, h2, h3, h4⟩) hM (fun E ce q9 L1 f1 H locs hp hM _ _ _ => absurd hp.1.1 (by omega)) (fun r L f H locs hp hM => ?_)
          obtain ⟨-, hv9, hCR⟩ := hp
          obtain ⟨ad, had, hS⟩ := hS.cr hCR
          rw [← had] at hl
          rw [hv9, (vab (by omega)).2.1, hf21]
          refine lv_aload hx hb dL_law_826 (lv_at hl 7 rfl) ?_
          refine lv_iload hx hb dL_law_828 (lv_at hl 12 rfl) ?_
          refine z_iald hC hM (hS.m (by decide) (by decide)) hS.s6 (by omega) (by omega) dL_law_830 ?_
          rw [hpe2, va_up_self]
          refine z_icmp_ne (tgt := 864) hx hb (nI_toInt (by omega)) (nI_toInt (by omega)) dL_law_831 (by decide) (fun c_831 => ?_) (fun c_831 => ?_)
          · exact absurd rfl c_831
          · refine lv_aload_n hx hb dL_law_834 rfl (lv_at hl 2 rfl) ?_
            refine lv_iload hx hb dL_law_835 (lv_at hl 0 rfl) ?_
            refine lv_iconst (v := nI 2) hx hb dL_law_837 (by decide) ?_
            refine z_xq (av := #[]) (val := fun r : Int32 => some (.int r)) (post := fun r u => k_about (woA A 0 q (phN (gk A 0) q)) (nI (nw A)) (nI 2) = 0 ∧ r = v_about (woA A 0 q (phN (gk A 0) q)) (nI (nw A)) (nI 2) ∧ CR K ((woA A 0 q (phN (gk A 0) q))) ad L f ((woA A 0 q (phN (gk A 0) q))) u.1 u.2) (z_xrunV hC hM (p_about hst hS.1 (nI (nw A)) (nI 2)) zy_X6_about zm_L_122 (ci_1 hS.1) (cx_at hS.1) zcl_X6 rfl rfl rfl hl.1 (Nat.le_of_ble_eq_true rfl) ⟨by decide, by decide⟩ ⟨by show cl + 0 + 12 + 0 + 3 + 0 + 3 + 2 + 2 ≤ 600086; omega, by show sl + 0 + 1200 + 0 + 18 + 0 + 18 + 12 + 12 ≤ 7301442; omega⟩ dL_law_838) (fun st o t ⟨⟨r, u, h1, h2, h3⟩, h4⟩ => ⟨r, u, h1, h2, h3, h4⟩) hM (fun E ce q9 L1 f1 H locs hp hM _ _ _ => absurd hp.1.1 (by omega)) (fun r L f H locs hp hM => ?_)
            obtain ⟨-, hv9, hCR⟩ := hp
            obtain ⟨ad, had, hS⟩ := hS.cr hCR
            rw [← had] at hl
            rw [hv9, (vab (by omega)).2.2.1, hf22]
            refine lv_aload_n hx hb dL_law_841 rfl (lv_at hl 2 rfl) ?_
            refine lv_iconst (v := nI 0) hx hb dL_law_842 (by decide) ?_
            refine lv_aload hx hb dL_law_843 (lv_at hl 7 rfl) ?_
            refine lv_iload hx hb dL_law_845 (lv_at hl 12 rfl) ?_
            refine z_iald hC hM (hS.m (by decide) (by decide)) hS.s6 (by omega) (by omega) dL_law_847 ?_
            rw [hpe2, va_up_self]
            refine z_xq (av := #[]) (val := fun r : Int32 => some (.int r)) (post := fun r u => k_fold (woA A 0 q (phN (gk A 0) q)) (nI 0) (nI q) = 0 ∧ r = v_phase (woA A 0 q (phN (gk A 0) q)) (nI 0) (nI q) ∧ CR K ((woA A 0 q (phN (gk A 0) q))) ad L f ((woA A 0 q (phN (gk A 0) q))) u.1 u.2) (z_xrunV hC hM (p_phase hst hS.1 (nI 0) (nI q)) zy_X6_phase zm_L_76 (ci_1 hS.1) (cx_at hS.1) zcl_X6 rfl rfl rfl hl.1 (Nat.le_of_ble_eq_true rfl) ⟨by decide, by decide⟩ ⟨by show cl + 0 + 12 + 0 + 3 + 0 + 3 + 2 + 2 + 3 ≤ 600086; omega, by show sl + 0 + 1200 + 0 + 18 + 0 + 18 + 12 + 12 + 18 ≤ 7301442; omega⟩ dL_law_848) (fun st o t ⟨⟨r, u, h1, h2, h3⟩, h4⟩ => ⟨r, u, h1, h2, h3, h4⟩) hM (fun E ce q9 L1 f1 H locs hp hM _ _ _ => absurd hp.1.1 (by omega)) (fun r L f H locs hp hM => ?_)
            obtain ⟨-, hv9, hCR⟩ := hp
            obtain ⟨ad, had, hS⟩ := hS.cr hCR
            rw [← had] at hl
            rw [hv9, hvh]
            refine z_icmp_ne (tgt := 864) hx hb (nI_toInt (by omega)) (nI_toInt (by omega)) dL_law_851 (by decide) (fun c_851 => ?_) (fun c_851 => ?_)
            · exact absurd rfl c_851
            · refine lv_aload_n hx hb dL_law_854 rfl (lv_at hl 2 rfl) ?_
              refine lv_iload hx hb dL_law_855 (lv_at hl 0 rfl) ?_
              refine lv_iconst (v := nI 0) hx hb dL_law_857 (by decide) ?_
              refine z_xq (av := #[]) (val := fun r : Int32 => some (.int r)) (post := fun r u => k_about (woA A 0 q (phN (gk A 0) q)) (nI (nw A)) (nI 0) = 0 ∧ r = v_about (woA A 0 q (phN (gk A 0) q)) (nI (nw A)) (nI 0) ∧ CR K ((woA A 0 q (phN (gk A 0) q))) ad L f ((woA A 0 q (phN (gk A 0) q))) u.1 u.2) (z_xrunV hC hM (p_about hst hS.1 (nI (nw A)) (nI 0)) zy_X6_about zm_L_122 (ci_1 hS.1) (cx_at hS.1) zcl_X6 rfl rfl rfl hl.1 (Nat.le_of_ble_eq_true rfl) ⟨by decide, by decide⟩ ⟨by show cl + 0 + 12 + 0 + 3 + 0 + 3 + 2 + 2 + 3 + 2 ≤ 600086; omega, by show sl + 0 + 1200 + 0 + 18 + 0 + 18 + 12 + 12 + 18 + 12 ≤ 7301442; omega⟩ dL_law_858) (fun st o t ⟨⟨r, u, h1, h2, h3⟩, h4⟩ => ⟨r, u, h1, h2, h3, h4⟩) hM (fun E ce q9 L1 f1 H locs hp hM _ _ _ => absurd hp.1.1 (by omega)) (fun r L f H locs hp hM => ?_)
              obtain ⟨-, hv9, hCR⟩ := hp
              obtain ⟨ad, had, hS⟩ := hS.cr hCR
              rw [← had] at hl
              rw [hv9, (vab (by omega)).1, hf20]
              refine z_if_eq (tgt := 866) hx hb (nI_toInt (by decide)) dL_law_861 (by decide) (fun c_861 => ?_) (fun c_861 => ?_)
              · refine lv_iinc (v := nI ((nw A) + 1)) (lv' := [(11, .int (nI ((nw A) + 1))), (18, .int (nI (nw A))), (0, .ref b), (1, .ref ((ad 1))), (2, .ref ((B 2))), (3, .ref ((B 3))), (4, .ref ((B 4))), (5, .ref ((B 5))), (6, .ref ((B 6))), (7, .ref ((B 7))), (8, .ref ((B 8))), (9, .ref ((B 9))), (10, .ref ((B 10))), (12, .int (nI (np A))), (13, .int (nI tm)), (14, .int (nI tn)), (15, .int v), (16, .int w)]) hx hb dL_law_866 hl (k := 12) rfl (nI_add (nw A) 1) (by decide) rfl (fun ls hl => ?_)
                refine lv_goto (tgt := 1167) hx hb dL_law_869 (by decide) ?_
                have hpe9 : ∀ y, y < nw (woA A 0 q (phN (gk A 0) q)) → pe2 y = ((woA A 0 q (phN (gk A 0) q))).1 21 y := by
                  intro y hy
                  rw [woA_w] at hy
                  rw [hpe2, woA_21]
                  by_cases e : y = nw A
                  · subst e; rw [va_up_self, va_up_self]
                  · rw [va_up_ne _ _ e, va_up_ne _ _ e]; exact hpe y (by omega)
                refine W.widen (k := cl + 40) (n := sl + 2000) (by show cl + 0 + 12 + 0 + 3 + 0 + 3 + 2 + 2 + 3 + 2 ≤ cl + 40; omega) (by show sl + 0 + 1200 + 0 + 18 + 0 + 18 + 12 + 12 + 18 + 12 ≤ sl + 2000; omega) ?_
                exact KK _ _ _ _ _ _ _ _ _ _ ⟨pv, kb, gb, pe2, ow, ci, fa, hS, hP1, hpa.congr (fun k hk => by rcases hk with h | h | h | h | h <;> subst h <;> rfl), hkb, hgb, hpe9, hpp.congr rfl rfl rfl rfl⟩ (lv_sub hl [2, 3, 4, 5, 6, 7, 8, 9, 10, 11, 12, 0, 13, 14, 15, 16, 17] rfl) hM
              · exact absurd c_861 (by omega)
      · exact absurd rfl c_791
    · exact absurd c_782 (by omega)
