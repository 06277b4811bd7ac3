/-! THE LAW'S TURN: which piece, what is asked behind it (rows laid by wip/p22/lawp7.py) -/
set_option maxHeartbeats 1000000 in
set_option maxRecDepth 100000 in
theorem k_di {p : Program} {l : Launch} {e : Env} {s : State} {m : MethodId} {below : List Frame} {meth : Method} {c : Code} {K : zK} (hst : l.stackTraces = false) {b L9 : Nat} {xs : Nat → Int32} (hC : zC p s #[Value.ref b] m c cL_law 23 RL s.heap.size K) (hX : va_X b L9 xs s s.heap) (hbl : b < s.heap.size) (hL9 : L9 ≤ 3072) {B : Nat → Nat} {A : zA} {tm : Nat} {bl kt : Nat → Nat} {ad : Nat → Nat} {L : List Nat} {f : Nat → va_E} {H : Heap} {locs : List Loc} {ls : Array Slot} {cl sl tn : Nat} {v w : Int32} {kd : Nat} (hkd : kd < 11) (hcl : cl + 200 ≤ 600086) (hsl : sl + 3500 ≤ 7301442) (hI : INV K A B tm bl kt L f ad) (hM : zM s.heap.size K L f s H locs)  (hl : lv_has ls 23 [(0, .ref b), (1, .ref ((ad 1))), (2, .ref ((B 2))), (3, .ref ((B 3))), (4, .ref ((B 4))), (5, .ref ((B 5))), (6, .ref ((B 6))), (7, .ref ((B 7))), (8, .ref ((B 8))), (9, .ref ((B 9))), (10, .ref ((B 10))), (11, .int (nI (nw A))), (12, .int (nI (np A))), (13, .int (nI tm)), (14, .int (nI tn)), (15, .int v), (16, .int w), (17, .int (nI kd))]) {Q : State → Prop} (KK : ∀ (A : zA) (tm : Nat) (bl kt : Nat → Nat) (ad : Nat → Nat) (L : List Nat) (f : Nat → va_E) (H : Heap) (locs : List Loc) (ls : Array Slot), INV K A B tm bl kt L f ad → lv_has ls 23 [(0, .ref b), (1, .ref ((ad 1))), (2, .ref ((B 2))), (3, .ref ((B 3))), (4, .ref ((B 4))), (5, .ref ((B 5))), (6, .ref ((B 6))), (7, .ref ((B 7))), (8, .ref ((B 8))), (9, .ref ((B 9))), (10, .ref ((B 10))), (11, .int (nI (nw A))), (12, .int (nI (np A))), (13, .int (nI tm)), (14, .int (nI tn)), (15, .int v), (16, .int w)] → zM s.heap.size K L f s H locs → W p l e room_1 s m #[Value.ref b] below meth c H locs (cl + 40) (sl + 2000) Q (F0 m 1167 ls [])) : W p l e room_1 s m #[Value.ref b] below meth c H locs cl sl Q (F0 m 153 ls []) := by
  have hx := hC.1
  have hb := hC.2.1
  have hown := hC.2.2.2.1
  have hts := hC.2.2.2.2.1
  have hI9 := hI
  obtain ⟨pv, kb, gb, pe, ow, ci, fa, hS, hP, hpa, hkb, hgb, hpe, hpp⟩ := hI
  have hV : VA A := hS.1.1
  have h12 : nw A ≤ 12 := hV.2.1
  have h30 : np A ≤ 30 := hV.2.2.1
  have ht2 := hP.2.2.2.2.1
  have h13 := hpa.2.1
  have hpl := (hV.pl hP.1).1
  have hcn := cN_le kt 1 1000 0
  refine lv_iload hx hb dL_law_153 (lv_at hl 17 rfl) ?_
  refine lv_iconst (v := nI 2) hx hb dL_law_155 (by decide) ?_
  refine z_icmp_ge (tgt := 319) hx hb (nI_toInt (by omega)) (nI_toInt (by decide)) dL_law_156 (by decide) (fun c_156 => ?_) (fun c_156 => ?_)
  · refine lv_iload hx hb dL_law_319 (lv_at hl 17 rfl) ?_
    refine lv_iconst (v := nI 2) hx hb dL_law_321 (by decide) ?_
    refine z_icmp_ne (tgt := 412) hx hb (nI_toInt (by omega)) (nI_toInt (by decide)) dL_law_322 (by decide) (fun c_322 => ?_) (fun c_322 => ?_)
    · refine lv_iload hx hb dL_law_412 (lv_at hl 17 rfl) ?_
      refine lv_iconst (v := nI 3) hx hb dL_law_414 (by decide) ?_
      refine z_icmp_ne (tgt := 567) hx hb (nI_toInt (by omega)) (nI_toInt (by decide)) dL_law_415 (by decide) (fun c_415 => ?_) (fun c_415 => ?_)
      · refine lv_iload hx hb dL_law_567 (lv_at hl 17 rfl) ?_
        refine lv_bipush (v := nI 7) hx hb dL_law_569 (by decide) ?_
        refine z_icmp_ge (tgt := 740) hx hb (nI_toInt (by omega)) (nI_toInt (by decide)) dL_law_571 (by decide) (fun c_571 => ?_) (fun c_571 => ?_)
        · refine lv_iload hx hb dL_law_740 (lv_at hl 17 rfl) ?_
          refine lv_bipush (v := nI 7) hx hb dL_law_742 (by decide) ?_
          refine z_icmp_ne (tgt := 872) hx hb (nI_toInt (by omega)) (nI_toInt (by decide)) dL_law_744 (by decide) (fun c_744 => ?_) (fun c_744 => ?_)
          · refine lv_iload hx hb dL_law_872 (lv_at hl 17 rfl) ?_
            refine lv_bipush (v := nI 10) hx hb dL_law_874 (by decide) ?_
            refine z_icmp_ge (tgt := 1009) hx hb (nI_toInt (by omega)) (nI_toInt (by decide)) dL_law_876 (by decide) (fun c_876 => ?_) (fun c_876 => ?_)
            · refine lv_iload hx hb dL_law_1009 (lv_at hl 11 rfl) ?_
              refine z_if_le (tgt := 1167) hx hb (nI_toInt (by omega)) dL_law_1011 (by decide) (fun c_1011 => ?_) (fun c_1011 => ?_)
              · refine W.widen (k := cl + 40) (n := sl + 2000) (by show cl ≤ cl + 40; omega) (by show sl ≤ sl + 2000; omega) ?_
                exact KK _ _ _ _ _ _ _ _ _ _ hI9 (lv_sub hl [0, 1, 2, 3, 4, 5, 6, 7, 8, 9, 10, 11, 12, 13, 14, 15, 16] rfl) hM
              · refine lv_iload hx hb dL_law_1014 (lv_at hl 16 rfl) ?_
                refine lv_iconst (v := nI 3) hx hb dL_law_1016 (by decide) ?_
                refine z_fcalli (z_runS hC hM (c_low w 3 (by decide) (by decide)) zy_L_low zm_L_64 rfl rfl hl.1 (Nat.le_of_ble_eq_true rfl) ⟨by decide, by decide⟩ ⟨by show cl + 0 ≤ 600086; omega, by show sl + 0 ≤ 7301442; omega⟩ dL_law_1017) hM (fun H locs hM => ?_)
                have hlo9 := lowN_lt (v := w) (n := 3) (by decide)
                refine z_if_ne (tgt := 1167) hx hb (nI_toInt (by omega)) dL_law_1020 (by decide) (fun c_1020 => ?_) (fun c_1020 => ?_)
                · refine W.widen (k := cl + 40) (n := sl + 2000) (by show cl + 0 ≤ cl + 40; omega) (by show sl + 0 ≤ sl + 2000; omega) ?_
                  exact KK _ _ _ _ _ _ _ _ _ _ hI9 (lv_sub hl [0, 1, 2, 3, 4, 5, 6, 7, 8, 9, 10, 11, 12, 13, 14, 15, 16] rfl) hM
                · refine W.widen (k := cl) (n := sl) (by show cl + 0 ≤ cl; omega) (by show sl + 0 ≤ sl; omega) ?_
                  exact k_wd hst hC hX hbl hL9 hcl hsl hI9 hM (by omega) (lv_sub hl [0, 1, 2, 3, 4, 5, 6, 7, 8, 9, 10, 11, 12, 13, 14, 15, 16] rfl) KK
            · refine lv_iload hx hb dL_law_879 (lv_at hl 11 rfl) ?_
              refine z_if_le (tgt := 1009) hx hb (nI_toInt (by omega)) dL_law_881 (by decide) (fun c_881 => ?_) (fun c_881 => ?_)
              · refine lv_iload hx hb dL_law_1009 (lv_at hl 11 rfl) ?_
                refine z_if_le (tgt := 1167) hx hb (nI_toInt (by omega)) dL_law_1011 (by decide) (fun c_1011 => ?_) (fun c_1011 => ?_)
                · refine W.widen (k := cl + 40) (n := sl + 2000) (by show cl ≤ cl + 40; omega) (by show sl ≤ sl + 2000; omega) ?_
                  exact KK _ _ _ _ _ _ _ _ _ _ hI9 (lv_sub hl [0, 1, 2, 3, 4, 5, 6, 7, 8, 9, 10, 11, 12, 13, 14, 15, 16] rfl) hM
                · refine lv_iload hx hb dL_law_1014 (lv_at hl 16 rfl) ?_
                  refine lv_iconst (v := nI 3) hx hb dL_law_1016 (by decide) ?_
                  refine z_fcalli (z_runS hC hM (c_low w 3 (by decide) (by decide)) zy_L_low zm_L_64 rfl rfl hl.1 (Nat.le_of_ble_eq_true rfl) ⟨by decide, by decide⟩ ⟨by show cl + 0 ≤ 600086; omega, by show sl + 0 ≤ 7301442; omega⟩ dL_law_1017) hM (fun H locs hM => ?_)
                  have hlo9 := lowN_lt (v := w) (n := 3) (by decide)
                  refine z_if_ne (tgt := 1167) hx hb (nI_toInt (by omega)) dL_law_1020 (by decide) (fun c_1020 => ?_) (fun c_1020 => ?_)
                  · refine W.widen (k := cl + 40) (n := sl + 2000) (by show cl + 0 ≤ cl + 40; omega) (by show sl + 0 ≤ sl + 2000; omega) ?_
                    exact KK _ _ _ _ _ _ _ _ _ _ hI9 (lv_sub hl [0, 1, 2, 3, 4, 5, 6, 7, 8, 9, 10, 11, 12, 13, 14, 15, 16] rfl) hM
                  · refine W.widen (k := cl) (n := sl) (by show cl + 0 ≤ cl; omega) (by show sl + 0 ≤ sl; omega) ?_
                    exact k_wd hst hC hX hbl hL9 hcl hsl hI9 hM (by omega) (lv_sub hl [0, 1, 2, 3, 4, 5, 6, 7, 8, 9, 10, 11, 12, 13, 14, 15, 16] rfl) KK
              · refine W.widen (k := cl) (n := sl) (by show cl ≤ cl; omega) (by show sl ≤ sl; omega) ?_
                exact k_pa hst hC hX hbl hL9 hcl hsl hI9 hM (by omega) (lv_sub hl [0, 1, 2, 3, 4, 5, 6, 7, 8, 9, 10, 11, 12, 13, 14, 15, 16] rfl) KK
          · refine W.widen (k := cl) (n := sl) (by show cl ≤ cl; omega) (by show sl ≤ sl; omega) ?_
            by_cases hc9 : nw A = 12 ∨ pdT (gk A 0) (nI (lowN w 300)) = 0
            · exact k_wn hst hC hX hbl hL9 hcl hsl hI9 hM hc9 (lv_sub hl [0, 1, 2, 3, 4, 5, 6, 7, 8, 9, 10, 11, 12, 13, 14, 15, 16] rfl) KK
            · exact k_wy hst hC hX hbl hL9 hcl hsl hI9 hM hc9 (lv_sub hl [0, 1, 2, 3, 4, 5, 6, 7, 8, 9, 10, 11, 12, 13, 14, 15, 16] rfl) KK
        · refine W.widen (k := cl) (n := sl) (by show cl ≤ cl; omega) (by show sl ≤ sl; omega) ?_
          exact k_ob hst hC hX hbl hL9 hcl hsl hI9 hM  (lv_sub hl [0, 1, 2, 3, 4, 5, 6, 7, 8, 9, 10, 11, 12, 13, 14, 15, 16] rfl) KK
      · refine W.widen (k := cl) (n := sl) (by show cl ≤ cl; omega) (by show sl ≤ sl; omega) ?_
        exact k_cl hst hC hX hbl hL9 hcl hsl hI9 hM  (lv_sub hl [0, 1, 2, 3, 4, 5, 6, 7, 8, 9, 10, 11, 12, 13, 14, 15, 16] rfl) KK
    · refine lv_iload hx hb dL_law_325 (lv_at hl 13 rfl) ?_
      refine lv_iconst (v := nI 2) hx hb dL_law_327 (by decide) ?_
      refine z_icmp_ge (tgt := 412) hx hb (nI_toInt (by omega)) (nI_toInt (by decide)) dL_law_328 (by decide) (fun c_328 => ?_) (fun c_328 => ?_)
      · refine lv_iload hx hb dL_law_412 (lv_at hl 17 rfl) ?_
        refine lv_iconst (v := nI 3) hx hb dL_law_414 (by decide) ?_
        refine z_icmp_ne (tgt := 567) hx hb (nI_toInt (by omega)) (nI_toInt (by decide)) dL_law_415 (by decide) (fun c_415 => ?_) (fun c_415 => ?_)
        · refine lv_iload hx hb dL_law_567 (lv_at hl 17 rfl) ?_
          refine lv_bipush (v := nI 7) hx hb dL_law_569 (by decide) ?_
          refine z_icmp_ge (tgt := 740) hx hb (nI_toInt (by omega)) (nI_toInt (by decide)) dL_law_571 (by decide) (fun c_571 => ?_) (fun c_571 => ?_)
          · refine lv_iload hx hb dL_law_740 (lv_at hl 17 rfl) ?_
            refine lv_bipush (v := nI 7) hx hb dL_law_742 (by decide) ?_
            refine z_icmp_ne (tgt := 872) hx hb (nI_toInt (by omega)) (nI_toInt (by decide)) dL_law_744 (by decide) (fun c_744 => ?_) (fun c_744 => ?_)
            · refine lv_iload hx hb dL_law_872 (lv_at hl 17 rfl) ?_
              refine lv_bipush (v := nI 10) hx hb dL_law_874 (by decide) ?_
              refine z_icmp_ge (tgt := 1009) hx hb (nI_toInt (by omega)) (nI_toInt (by decide)) dL_law_876 (by decide) (fun c_876 => ?_) (fun c_876 => ?_)
              · refine lv_iload hx hb dL_law_1009 (lv_at hl 11 rfl) ?_
                refine z_if_le (tgt := 1167) hx hb (nI_toInt (by omega)) dL_law_1011 (by decide) (fun c_1011 => ?_) (fun c_1011 => ?_)
                · refine W.widen (k := cl + 40) (n := sl + 2000) (by show cl ≤ cl + 40; omega) (by show sl ≤ sl + 2000; omega) ?_
                  exact KK _ _ _ _ _ _ _ _ _ _ hI9 (lv_sub hl [0, 1, 2, 3, 4, 5, 6, 7, 8, 9, 10, 11, 12, 13, 14, 15, 16] rfl) hM
                · refine lv_iload hx hb dL_law_1014 (lv_at hl 16 rfl) ?_
                  refine lv_iconst (v := nI 3) hx hb dL_law_1016 (by decide) ?_
                  refine z_fcalli (z_runS hC hM (c_low w 3 (by decide) (by decide)) zy_L_low zm_L_64 rfl rfl hl.1 (Nat.le_of_ble_eq_true rfl) ⟨by decide, by decide⟩ ⟨by show cl + 0 ≤ 600086; omega, by show sl + 0 ≤ 7301442; omega⟩ dL_law_1017) hM (fun H locs hM => ?_)
                  have hlo9 := lowN_lt (v := w) (n := 3) (by decide)
                  refine z_if_ne (tgt := 1167) hx hb (nI_toInt (by omega)) dL_law_1020 (by decide) (fun c_1020 => ?_) (fun c_1020 => ?_)
                  · refine W.widen (k := cl + 40) (n := sl + 2000) (by show cl + 0 ≤ cl + 40; omega) (by show sl + 0 ≤ sl + 2000; omega) ?_
                    exact KK _ _ _ _ _ _ _ _ _ _ hI9 (lv_sub hl [0, 1, 2, 3, 4, 5, 6, 7, 8, 9, 10, 11, 12, 13, 14, 15, 16] rfl) hM
                  · refine W.widen (k := cl) (n := sl) (by show cl + 0 ≤ cl; omega) (by show sl + 0 ≤ sl; omega) ?_
                    exact k_wd hst hC hX hbl hL9 hcl hsl hI9 hM (by omega) (lv_sub hl [0, 1, 2, 3, 4, 5, 6, 7, 8, 9, 10, 11, 12, 13, 14, 15, 16] rfl) KK
              · refine lv_iload hx hb dL_law_879 (lv_at hl 11 rfl) ?_
                refine z_if_le (tgt := 1009) hx hb (nI_toInt (by omega)) dL_law_881 (by decide) (fun c_881 => ?_) (fun c_881 => ?_)
                · refine lv_iload hx hb dL_law_1009 (lv_at hl 11 rfl) ?_
                  refine z_if_le (tgt := 1167) hx hb (nI_toInt (by omega)) dL_law_1011 (by decide) (fun c_1011 => ?_) (fun c_1011 => ?_)
                  · refine W.widen (k := cl + 40) (n := sl + 2000) (by show cl ≤ cl + 40; omega) (by show sl ≤ sl + 2000; omega) ?_
                    exact KK _ _ _ _ _ _ _ _ _ _ hI9 (lv_sub hl [0, 1, 2, 3, 4, 5, 6, 7, 8, 9, 10, 11, 12, 13, 14, 15, 16] rfl) hM
                  · refine lv_iload hx hb dL_law_1014 (lv_at hl 16 rfl) ?_
                    refine lv_iconst (v := nI 3) hx hb dL_law_1016 (by decide) ?_
                    refine z_fcalli (z_runS hC hM (c_low w 3 (by decide) (by decide)) zy_L_low zm_L_64 rfl rfl hl.1 (Nat.le_of_ble_eq_true rfl) ⟨by decide, by decide⟩ ⟨by show cl + 0 ≤ 600086; omega, by show sl + 0 ≤ 7301442; omega⟩ dL_law_1017) hM (fun H locs hM => ?_)
                    have hlo9 := lowN_lt (v := w) (n := 3) (by decide)
                    refine z_if_ne (tgt := 1167) hx hb (nI_toInt (by omega)) dL_law_1020 (by decide) (fun c_1020 => ?_) (fun c_1020 => ?_)
                    · refine W.widen (k := cl + 40) (n := sl + 2000) (by show cl + 0 ≤ cl + 40; omega) (by show sl + 0 ≤ sl + 2000; omega) ?_
                      exact KK _ _ _ _ _ _ _ _ _ _ hI9 (lv_sub hl [0, 1, 2, 3, 4, 5, 6, 7, 8, 9, 10, 11, 12, 13, 14, 15, 16] rfl) hM
                    · refine W.widen (k := cl) (n := sl) (by show cl + 0 ≤ cl; omega) (by show sl + 0 ≤ sl; omega) ?_
                      exact k_wd hst hC hX hbl hL9 hcl hsl hI9 hM (by omega) (lv_sub hl [0, 1, 2, 3, 4, 5, 6, 7, 8, 9, 10, 11, 12, 13, 14, 15, 16] rfl) KK
                · refine W.widen (k := cl) (n := sl) (by show cl ≤ cl; omega) (by show sl ≤ sl; omega) ?_
                  exact k_pa hst hC hX hbl hL9 hcl hsl hI9 hM (by omega) (lv_sub hl [0, 1, 2, 3, 4, 5, 6, 7, 8, 9, 10, 11, 12, 13, 14, 15, 16] rfl) KK
            · refine W.widen (k := cl) (n := sl) (by show cl ≤ cl; omega) (by show sl ≤ sl; omega) ?_
              by_cases hc9 : nw A = 12 ∨ pdT (gk A 0) (nI (lowN w 300)) = 0
              · exact k_wn hst hC hX hbl hL9 hcl hsl hI9 hM hc9 (lv_sub hl [0, 1, 2, 3, 4, 5, 6, 7, 8, 9, 10, 11, 12, 13, 14, 15, 16] rfl) KK
              · exact k_wy hst hC hX hbl hL9 hcl hsl hI9 hM hc9 (lv_sub hl [0, 1, 2, 3, 4, 5, 6, 7, 8, 9, 10, 11, 12, 13, 14, 15, 16] rfl) KK
          · refine W.widen (k := cl) (n := sl) (by show cl ≤ cl; omega) (by show sl ≤ sl; omega) ?_
            exact k_ob hst hC hX hbl hL9 hcl hsl hI9 hM  (lv_sub hl [0, 1, 2, 3, 4, 5, 6, 7, 8, 9, 10, 11, 12, 13, 14, 15, 16] rfl) KK
        · refine W.widen (k := cl) (n := sl) (by show cl ≤ cl; omega) (by show sl ≤ sl; omega) ?_
          exact k_cl hst hC hX hbl hL9 hcl hsl hI9 hM  (lv_sub hl [0, 1, 2, 3, 4, 5, 6, 7, 8, 9, 10, 11, 12, 13, 14, 15, 16] rfl) KK
      · refine W.widen (k := cl) (n := sl) (by show cl ≤ cl; omega) (by show sl ≤ sl; omega) ?_
        exact k_bl hst hC hX hbl hL9 hcl hsl hI9 hM (by omega) (lv_sub hl [0, 1, 2, 3, 4, 5, 6, 7, 8, 9, 10, 11, 12, 13, 14, 15, 16] rfl) KK
  · refine lv_aload_n hx hb dL_law_159 rfl (lv_at hl 2 rfl) ?_
    refine lv_bipush (v := nI 13) hx hb dL_law_160 (by decide) ?_
    refine z_iald hC hM (hS.m (by decide) (by decide)) hS.s2 (by omega) (by omega) dL_law_162 ?_
    refine lv_iconst (v := nI 4) hx hb dL_law_163 (by decide) ?_
    refine z_icmp_ge (tgt := 319) hx hb (nI_toInt (by omega)) (nI_toInt (by decide)) dL_law_164 (by decide) (fun c_164 => ?_) (fun c_164 => ?_)
    · refine lv_iload hx hb dL_law_319 (lv_at hl 17 rfl) ?_
      refine lv_iconst (v := nI 2) hx hb dL_law_321 (by decide) ?_
      refine z_icmp_ne (tgt := 412) hx hb (nI_toInt (by omega)) (nI_toInt (by decide)) dL_law_322 (by decide) (fun c_322 => ?_) (fun c_322 => ?_)
      · refine lv_iload hx hb dL_law_412 (lv_at hl 17 rfl) ?_
        refine lv_iconst (v := nI 3) hx hb dL_law_414 (by decide) ?_
        refine z_icmp_ne (tgt := 567) hx hb (nI_toInt (by omega)) (nI_toInt (by decide)) dL_law_415 (by decide) (fun c_415 => ?_) (fun c_415 => ?_)
        · refine lv_iload hx hb dL_law_567 (lv_at hl 17 rfl) ?_
          refine lv_bipush (v := nI 7) hx hb dL_law_569 (by decide) ?_
          refine z_icmp_ge (tgt := 740) hx hb (nI_toInt (by omega)) (nI_toInt (by decide)) dL_law_571 (by decide) (fun c_571 => ?_) (fun c_571 => ?_)
          · refine lv_iload hx hb dL_law_740 (lv_at hl 17 rfl) ?_
            refine lv_bipush (v := nI 7) hx hb dL_law_742 (by decide) ?_
            refine z_icmp_ne (tgt := 872) hx hb (nI_toInt (by omega)) (nI_toInt (by decide)) dL_law_744 (by decide) (fun c_744 => ?_) (fun c_744 => ?_)
            · refine lv_iload hx hb dL_law_872 (lv_at hl 17 rfl) ?_
              refine lv_bipush (v := nI 10) hx hb dL_law_874 (by decide) ?_
              refine z_icmp_ge (tgt := 1009) hx hb (nI_toInt (by omega)) (nI_toInt (by decide)) dL_law_876 (by decide) (fun c_876 => ?_) (fun c_876 => ?_)
              · refine lv_iload hx hb dL_law_1009 (lv_at hl 11 rfl) ?_
                refine z_if_le (tgt := 1167) hx hb (nI_toInt (by omega)) dL_law_1011 (by decide) (fun c_1011 => ?_) (fun c_1011 => ?_)
                · refine W.widen (k := cl + 40) (n := sl + 2000) (by show cl ≤ cl + 40; omega) (by show sl ≤ sl + 2000; omega) ?_
                  exact KK _ _ _ _ _ _ _ _ _ _ hI9 (lv_sub hl [0, 1, 2, 3, 4, 5, 6, 7, 8, 9, 10, 11, 12, 13, 14, 15, 16] rfl) hM
                · refine lv_iload hx hb dL_law_1014 (lv_at hl 16 rfl) ?_
                  refine lv_iconst (v := nI 3) hx hb dL_law_1016 (by decide) ?_
                  refine z_fcalli (z_runS hC hM (c_low w 3 (by decide) (by decide)) zy_L_low zm_L_64 rfl rfl hl.1 (Nat.le_of_ble_eq_true rfl) ⟨by decide, by decide⟩ ⟨by show cl + 0 ≤ 600086; omega, by show sl + 0 ≤ 7301442; omega⟩ dL_law_1017) hM (fun H locs hM => ?_)
                  have hlo9 := lowN_lt (v := w) (n := 3) (by decide)
                  refine z_if_ne (tgt := 1167) hx hb (nI_toInt (by omega)) dL_law_1020 (by decide) (fun c_1020 => ?_) (fun c_1020 => ?_)
                  · refine W.widen (k := cl + 40) (n := sl + 2000) (by show cl + 0 ≤ cl + 40; omega) (by show sl + 0 ≤ sl + 2000; omega) ?_
                    exact KK _ _ _ _ _ _ _ _ _ _ hI9 (lv_sub hl [0, 1, 2, 3, 4, 5, 6, 7, 8, 9, 10, 11, 12, 13, 14, 15, 16] rfl) hM
                  · refine W.widen (k := cl) (n := sl) (by show cl + 0 ≤ cl; omega) (by show sl + 0 ≤ sl; omega) ?_
                    exact k_wd hst hC hX hbl hL9 hcl hsl hI9 hM (by omega) (lv_sub hl [0, 1, 2, 3, 4, 5, 6, 7, 8, 9, 10, 11, 12, 13, 14, 15, 16] rfl) KK
              · refine lv_iload hx hb dL_law_879 (lv_at hl 11 rfl) ?_
                refine z_if_le (tgt := 1009) hx hb (nI_toInt (by omega)) dL_law_881 (by decide) (fun c_881 => ?_) (fun c_881 => ?_)
                · refine lv_iload hx hb dL_law_1009 (lv_at hl 11 rfl) ?_
                  refine z_if_le (tgt := 1167) hx hb (nI_toInt (by omega)) dL_law_1011 (by decide) (fun c_1011 => ?_) (fun c_1011 => ?_)
                  · refine W.widen (k := cl + 40) (n := sl + 2000) (by show cl ≤ cl + 40; omega) (by show sl ≤ sl + 2000; omega) ?_
                    exact KK _ _ _ _ _ _ _ _ _ _ hI9 (lv_sub hl [0, 1, 2, 3, 4, 5, 6, 7, 8, 9, 10, 11, 12, 13, 14, 15, 16] rfl) hM
                  · refine lv_iload hx hb dL_law_1014 (lv_at hl 16 rfl) ?_
                    refine lv_iconst (v := nI 3) hx hb dL_law_1016 (by decide) ?_
                    refine z_fcalli (z_runS hC hM (c_low w 3 (by decide) (by decide)) zy_L_low zm_L_64 rfl rfl hl.1 (Nat.le_of_ble_eq_true rfl) ⟨by decide, by decide⟩ ⟨by show cl + 0 ≤ 600086; omega, by show sl + 0 ≤ 7301442; omega⟩ dL_law_1017) hM (fun H locs hM => ?_)
                    have hlo9 := lowN_lt (v := w) (n := 3) (by decide)
                    refine z_if_ne (tgt := 1167) hx hb (nI_toInt (by omega)) dL_law_1020 (by decide) (fun c_1020 => ?_) (fun c_1020 => ?_)
                    · refine W.widen (k := cl + 40) (n := sl + 2000) (by show cl + 0 ≤ cl + 40; omega) (by show sl + 0 ≤ sl + 2000; omega) ?_
                      exact KK _ _ _ _ _ _ _ _ _ _ hI9 (lv_sub hl [0, 1, 2, 3, 4, 5, 6, 7, 8, 9, 10, 11, 12, 13, 14, 15, 16] rfl) hM
                    · refine W.widen (k := cl) (n := sl) (by show cl + 0 ≤ cl; omega) (by show sl + 0 ≤ sl; omega) ?_
                      exact k_wd hst hC hX hbl hL9 hcl hsl hI9 hM (by omega) (lv_sub hl [0, 1, 2, 3, 4, 5, 6, 7, 8, 9, 10, 11, 12, 13, 14, 15, 16] rfl) KK
                · refine W.widen (k := cl) (n := sl) (by show cl ≤ cl; omega) (by show sl ≤ sl; omega) ?_
                  exact k_pa hst hC hX hbl hL9 hcl hsl hI9 hM (by omega) (lv_sub hl [0, 1, 2, 3, 4, 5, 6, 7, 8, 9, 10, 11, 12, 13, 14, 15, 16] rfl) KK
            · refine W.widen (k := cl) (n := sl) (by show cl ≤ cl; omega) (by show sl ≤ sl; omega) ?_
              by_cases hc9 : nw A = 12 ∨ pdT (gk A 0) (nI (lowN w 300)) = 0
              · exact k_wn hst hC hX hbl hL9 hcl hsl hI9 hM hc9 (lv_sub hl [0, 1, 2, 3, 4, 5, 6, 7, 8, 9, 10, 11, 12, 13, 14, 15, 16] rfl) KK
              · exact k_wy hst hC hX hbl hL9 hcl hsl hI9 hM hc9 (lv_sub hl [0, 1, 2, 3, 4, 5, 6, 7, 8, 9, 10, 11, 12, 13, 14, 15, 16] rfl) KK
          · refine W.widen (k := cl) (n := sl) (by show cl ≤ cl; omega) (by show sl ≤ sl; omega) ?_
            exact k_ob hst hC hX hbl hL9 hcl hsl hI9 hM  (lv_sub hl [0, 1, 2, 3, 4, 5, 6, 7, 8, 9, 10, 11, 12, 13, 14, 15, 16] rfl) KK
        · refine W.widen (k := cl) (n := sl) (by show cl ≤ cl; omega) (by show sl ≤ sl; omega) ?_
          exact k_cl hst hC hX hbl hL9 hcl hsl hI9 hM  (lv_sub hl [0, 1, 2, 3, 4, 5, 6, 7, 8, 9, 10, 11, 12, 13, 14, 15, 16] rfl) KK
      · refine lv_iload hx hb dL_law_325 (lv_at hl 13 rfl) ?_
        refine lv_iconst (v := nI 2) hx hb dL_law_327 (by decide) ?_
        refine z_icmp_ge (tgt := 412) hx hb (nI_toInt (by omega)) (nI_toInt (by decide)) dL_law_328 (by decide) (fun c_328 => ?_) (fun c_328 => ?_)
        · refine lv_iload hx hb dL_law_412 (lv_at hl 17 rfl) ?_
          refine lv_iconst (v := nI 3) hx hb dL_law_414 (by decide) ?_
          refine z_icmp_ne (tgt := 567) hx hb (nI_toInt (by omega)) (nI_toInt (by decide)) dL_law_415 (by decide) (fun c_415 => ?_) (fun c_415 => ?_)
          · refine lv_iload hx hb dL_law_567 (lv_at hl 17 rfl) ?_
            refine lv_bipush (v := nI 7) hx hb dL_law_569 (by decide) ?_
            refine z_icmp_ge (tgt := 740) hx hb (nI_toInt (by omega)) (nI_toInt (by decide)) dL_law_571 (by decide) (fun c_571 => ?_) (fun c_571 => ?_)
            · refine lv_iload hx hb dL_law_740 (lv_at hl 17 rfl) ?_
              refine lv_bipush (v := nI 7) hx hb dL_law_742 (by decide) ?_
              refine z_icmp_ne (tgt := 872) hx hb (nI_toInt (by omega)) (nI_toInt (by decide)) dL_law_744 (by decide) (fun c_744 => ?_) (fun c_744 => ?_)
              · refine lv_iload hx hb dL_law_872 (lv_at hl 17 rfl) ?_
                refine lv_bipush (v := nI 10) hx hb dL_law_874 (by decide) ?_
                refine z_icmp_ge (tgt := 1009) hx hb (nI_toInt (by omega)) (nI_toInt (by decide)) dL_law_876 (by decide) (fun c_876 => ?_) (fun c_876 => ?_)
                · refine lv_iload hx hb dL_law_1009 (lv_at hl 11 rfl) ?_
                  refine z_if_le (tgt := 1167) hx hb (nI_toInt (by omega)) dL_law_1011 (by decide) (fun c_1011 => ?_) (fun c_1011 => ?_)
                  · refine W.widen (k := cl + 40) (n := sl + 2000) (by show cl ≤ cl + 40; omega) (by show sl ≤ sl + 2000; omega) ?_
                    exact KK _ _ _ _ _ _ _ _ _ _ hI9 (lv_sub hl [0, 1, 2, 3, 4, 5, 6, 7, 8, 9, 10, 11, 12, 13, 14, 15, 16] rfl) hM
                  · refine lv_iload hx hb dL_law_1014 (lv_at hl 16 rfl) ?_
                    refine lv_iconst (v := nI 3) hx hb dL_law_1016 (by decide) ?_
                    refine z_fcalli (z_runS hC hM (c_low w 3 (by decide) (by decide)) zy_L_low zm_L_64 rfl rfl hl.1 (Nat.le_of_ble_eq_true rfl) ⟨by decide, by decide⟩ ⟨by show cl + 0 ≤ 600086; omega, by show sl + 0 ≤ 7301442; omega⟩ dL_law_1017) hM (fun H locs hM => ?_)
                    have hlo9 := lowN_lt (v := w) (n := 3) (by decide)
                    refine z_if_ne (tgt := 1167) hx hb (nI_toInt (by omega)) dL_law_1020 (by decide) (fun c_1020 => ?_) (fun c_1020 => ?_)
                    · refine W.widen (k := cl + 40) (n := sl + 2000) (by show cl + 0 ≤ cl + 40; omega) (by show sl + 0 ≤ sl + 2000; omega) ?_
                      exact KK _ _ _ _ _ _ _ _ _ _ hI9 (lv_sub hl [0, 1, 2, 3, 4, 5, 6, 7, 8, 9, 10, 11, 12, 13, 14, 15, 16] rfl) hM
                    · refine W.widen (k := cl) (n := sl) (by show cl + 0 ≤ cl; omega) (by show sl + 0 ≤ sl; omega) ?_
                      exact k_wd hst hC hX hbl hL9 hcl hsl hI9 hM (by omega) (lv_sub hl [0, 1, 2, 3, 4, 5, 6, 7, 8, 9, 10, 11, 12, 13, 14, 15, 16] rfl) KK
                · refine lv_iload hx hb dL_law_879 (lv_at hl 11 rfl) ?_
                  refine z_if_le (tgt := 1009) hx hb (nI_toInt (by omega)) dL_law_881 (by decide) (fun c_881 => ?_) (fun c_881 => ?_)
                  · refine lv_iload hx hb dL_law_1009 (lv_at hl 11 rfl) ?_
                    refine z_if_le (tgt := 1167) hx hb (nI_toInt (by omega)) dL_law_1011 (by decide) (fun c_1011 => ?_) (fun c_1011 => ?_)
                    · refine W.widen (k := cl + 40) (n := sl + 2000) (by show cl ≤ cl + 40; omega) (by show sl ≤ sl + 2000; omega) ?_
                      exact KK _ _ _ _ _ _ _ _ _ _ hI9 (lv_sub hl [0, 1, 2, 3, 4, 5, 6, 7, 8, 9, 10, 11, 12, 13, 14, 15, 16] rfl) hM
                    · refine lv_iload hx hb dL_law_1014 (lv_at hl 16 rfl) ?_
                      refine lv_iconst (v := nI 3) hx hb dL_law_1016 (by decide) ?_
                      refine z_fcalli (z_runS hC hM (c_low w 3 (by decide) (by decide)) zy_L_low zm_L_64 rfl rfl hl.1 (Nat.le_of_ble_eq_true rfl) ⟨by decide, by decide⟩ ⟨by show cl + 0 ≤ 600086; omega, by show sl + 0 ≤ 7301442; omega⟩ dL_law_1017) hM (fun H locs hM => ?_)
                      have hlo9 := lowN_lt (v := w) (n := 3) (by decide)
                      refine z_if_ne (tgt := 1167) hx hb (nI_toInt (by omega)) dL_law_1020 (by decide) (fun c_1020 => ?_) (fun c_1020 => ?_)
                      · refine W.widen (k := cl + 40) (n := sl + 2000) (by show cl + 0 ≤ cl + 40; omega) (by show sl + 0 ≤ sl + 2000; omega) ?_
                        exact KK _ _ _ _ _ _ _ _ _ _ hI9 (lv_sub hl [0, 1, 2, 3, 4, 5, 6, 7, 8, 9, 10, 11, 12, 13, 14, 15, 16] rfl) hM
                      · refine W.widen (k := cl) (n := sl) (by show cl + 0 ≤ cl; omega) (by show sl + 0 ≤ sl; omega) ?_
                        exact k_wd hst hC hX hbl hL9 hcl hsl hI9 hM (by omega) (lv_sub hl [0, 1, 2, 3, 4, 5, 6, 7, 8, 9, 10, 11, 12, 13, 14, 15, 16] rfl) KK
                  · refine W.widen (k := cl) (n := sl) (by show cl ≤ cl; omega) (by show sl ≤ sl; omega) ?_
                    exact k_pa hst hC hX hbl hL9 hcl hsl hI9 hM (by omega) (lv_sub hl [0, 1, 2, 3, 4, 5, 6, 7, 8, 9, 10, 11, 12, 13, 14, 15, 16] rfl) KK
              · refine W.widen (k := cl) (n := sl) (by show cl ≤ cl; omega) (by show sl ≤ sl; omega) ?_
                by_cases hc9 : nw A = 12 ∨ pdT (gk A 0) (nI (lowN w 300)) = 0
                · exact k_wn hst hC hX hbl hL9 hcl hsl hI9 hM hc9 (lv_sub hl [0, 1, 2, 3, 4, 5, 6, 7, 8, 9, 10, 11, 12, 13, 14, 15, 16] rfl) KK
                · exact k_wy hst hC hX hbl hL9 hcl hsl hI9 hM hc9 (lv_sub hl [0, 1, 2, 3, 4, 5, 6, 7, 8, 9, 10, 11, 12, 13, 14, 15, 16] rfl) KK
            · refine W.widen (k := cl) (n := sl) (by show cl ≤ cl; omega) (by show sl ≤ sl; omega) ?_
              exact k_ob hst hC hX hbl hL9 hcl hsl hI9 hM  (lv_sub hl [0, 1, 2, 3, 4, 5, 6, 7, 8, 9, 10, 11, 12, 13, 14, 15, 16] rfl) KK
          · refine W.widen (k := cl) (n := sl) (by show cl ≤ cl; omega) (by show sl ≤ sl; omega) ?_
            exact k_cl hst hC hX hbl hL9 hcl hsl hI9 hM  (lv_sub hl [0, 1, 2, 3, 4, 5, 6, 7, 8, 9, 10, 11, 12, 13, 14, 15, 16] rfl) KK
        · refine W.widen (k := cl) (n := sl) (by show cl ≤ cl; omega) (by show sl ≤ sl; omega) ?_
          exact k_bl hst hC hX hbl hL9 hcl hsl hI9 hM (by omega) (lv_sub hl [0, 1, 2, 3, 4, 5, 6, 7, 8, 9, 10, 11, 12, 13, 14, 15, 16] rfl) KK
    · refine lv_aload hx hb dL_law_167 (lv_at hl 4 rfl) ?_
      refine lv_iconst (v := nI 0) hx hb dL_law_169 (by decide) ?_
      refine lv_iconst (v := nI 1) hx hb dL_law_170 (by decide) ?_
      refine z_fcalli (z_runS hC hM (m_many (hS.lw hP hpa hkb) 0 1 (by decide) (by decide)) zy_L_many zm_L_48 rfl rfl hl.1 (Nat.le_of_ble_eq_true rfl) ⟨by decide, by decide⟩ ⟨by show cl + 0 ≤ 600086; omega, by show sl + 0 ≤ 7301442; omega⟩ dL_law_171) hM (fun H locs hM => ?_)
      refine z_if_ne (tgt := 319) hx hb (nI_toInt (by omega)) dL_law_174 (by decide) (fun c_174 => ?_) (fun c_174 => ?_)
      · refine lv_iload hx hb dL_law_319 (lv_at hl 17 rfl) ?_
        refine lv_iconst (v := nI 2) hx hb dL_law_321 (by decide) ?_
        refine z_icmp_ne (tgt := 412) hx hb (nI_toInt (by omega)) (nI_toInt (by decide)) dL_law_322 (by decide) (fun c_322 => ?_) (fun c_322 => ?_)
        · refine lv_iload hx hb dL_law_412 (lv_at hl 17 rfl) ?_
          refine lv_iconst (v := nI 3) hx hb dL_law_414 (by decide) ?_
          refine z_icmp_ne (tgt := 567) hx hb (nI_toInt (by omega)) (nI_toInt (by decide)) dL_law_415 (by decide) (fun c_415 => ?_) (fun c_415 => ?_)
          · refine lv_iload hx hb dL_law_567 (lv_at hl 17 rfl) ?_
            refine lv_bipush (v := nI 7) hx hb dL_law_569 (by decide) ?_
            refine z_icmp_ge (tgt := 740) hx hb (nI_toInt (by omega)) (nI_toInt (by decide)) dL_law_571 (by decide) (fun c_571 => ?_) (fun c_571 => ?_)
            · refine lv_iload hx hb dL_law_740 (lv_at hl 17 rfl) ?_
              refine lv_bipush (v := nI 7) hx hb dL_law_742 (by decide) ?_
              refine z_icmp_ne (tgt := 872) hx hb (nI_toInt (by omega)) (nI_toInt (by decide)) dL_law_744 (by decide) (fun c_744 => ?_) (fun c_744 => ?_)
              · refine lv_iload hx hb dL_law_872 (lv_at hl 17 rfl) ?_
                refine lv_bipush (v := nI 10) hx hb dL_law_874 (by decide) ?_
                refine z_icmp_ge (tgt := 1009) hx hb (nI_toInt (by omega)) (nI_toInt (by decide)) dL_law_876 (by decide) (fun c_876 => ?_) (fun c_876 => ?_)
                · refine lv_iload hx hb dL_law_1009 (lv_at hl 11 rfl) ?_
                  refine z_if_le (tgt := 1167) hx hb (nI_toInt (by omega)) dL_law_1011 (by decide) (fun c_1011 => ?_) (fun c_1011 => ?_)
                  · refine W.widen (k := cl + 40) (n := sl + 2000) (by show cl + 0 ≤ cl + 40; omega) (by show sl + 0 ≤ sl + 2000; omega) ?_
                    exact KK _ _ _ _ _ _ _ _ _ _ hI9 (lv_sub hl [0, 1, 2, 3, 4, 5, 6, 7, 8, 9, 10, 11, 12, 13, 14, 15, 16] rfl) hM
                  · refine lv_iload hx hb dL_law_1014 (lv_at hl 16 rfl) ?_
                    refine lv_iconst (v := nI 3) hx hb dL_law_1016 (by decide) ?_
                    refine z_fcalli (z_runS hC hM (c_low w 3 (by decide) (by decide)) zy_L_low zm_L_64 rfl rfl hl.1 (Nat.le_of_ble_eq_true rfl) ⟨by decide, by decide⟩ ⟨by show cl + 0 + 0 ≤ 600086; omega, by show sl + 0 + 0 ≤ 7301442; omega⟩ dL_law_1017) hM (fun H locs hM => ?_)
                    have hlo9 := lowN_lt (v := w) (n := 3) (by decide)
                    refine z_if_ne (tgt := 1167) hx hb (nI_toInt (by omega)) dL_law_1020 (by decide) (fun c_1020 => ?_) (fun c_1020 => ?_)
                    · refine W.widen (k := cl + 40) (n := sl + 2000) (by show cl + 0 + 0 ≤ cl + 40; omega) (by show sl + 0 + 0 ≤ sl + 2000; omega) ?_
                      exact KK _ _ _ _ _ _ _ _ _ _ hI9 (lv_sub hl [0, 1, 2, 3, 4, 5, 6, 7, 8, 9, 10, 11, 12, 13, 14, 15, 16] rfl) hM
                    · refine W.widen (k := cl) (n := sl) (by show cl + 0 + 0 ≤ cl; omega) (by show sl + 0 + 0 ≤ sl; omega) ?_
                      exact k_wd hst hC hX hbl hL9 hcl hsl hI9 hM (by omega) (lv_sub hl [0, 1, 2, 3, 4, 5, 6, 7, 8, 9, 10, 11, 12, 13, 14, 15, 16] rfl) KK
                · refine lv_iload hx hb dL_law_879 (lv_at hl 11 rfl) ?_
                  refine z_if_le (tgt := 1009) hx hb (nI_toInt (by omega)) dL_law_881 (by decide) (fun c_881 => ?_) (fun c_881 => ?_)
                  · refine lv_iload hx hb dL_law_1009 (lv_at hl 11 rfl) ?_
                    refine z_if_le (tgt := 1167) hx hb (nI_toInt (by omega)) dL_law_1011 (by decide) (fun c_1011 => ?_) (fun c_1011 => ?_)
                    · refine W.widen (k := cl + 40) (n := sl + 2000) (by show cl + 0 ≤ cl + 40; omega) (by show sl + 0 ≤ sl + 2000; omega) ?_
                      exact KK _ _ _ _ _ _ _ _ _ _ hI9 (lv_sub hl [0, 1, 2, 3, 4, 5, 6, 7, 8, 9, 10, 11, 12, 13, 14, 15, 16] rfl) hM
                    · refine lv_iload hx hb dL_law_1014 (lv_at hl 16 rfl) ?_
                      refine lv_iconst (v := nI 3) hx hb dL_law_1016 (by decide) ?_
                      refine z_fcalli (z_runS hC hM (c_low w 3 (by decide) (by decide)) zy_L_low zm_L_64 rfl rfl hl.1 (Nat.le_of_ble_eq_true rfl) ⟨by decide, by decide⟩ ⟨by show cl + 0 + 0 ≤ 600086; omega, by show sl + 0 + 0 ≤ 7301442; omega⟩ dL_law_1017) hM (fun H locs hM => ?_)
                      have hlo9 := lowN_lt (v := w) (n := 3) (by decide)
                      refine z_if_ne (tgt := 1167) hx hb (nI_toInt (by omega)) dL_law_1020 (by decide) (fun c_1020 => ?_) (fun c_1020 => ?_)
                      · refine W.widen (k := cl + 40) (n := sl + 2000) (by show cl + 0 + 0 ≤ cl + 40; omega) (by show sl + 0 + 0 ≤ sl + 2000; omega) ?_
                        exact KK _ _ _ _ _ _ _ _ _ _ hI9 (lv_sub hl [0, 1, 2, 3, 4, 5, 6, 7, 8, 9, 10, 11, 12, 13, 14, 15, 16] rfl) hM
                      · refine W.widen (k := cl) (n := sl) (by show cl + 0 + 0 ≤ cl; omega) (by show sl + 0 + 0 ≤ sl; omega) ?_
                        exact k_wd hst hC hX hbl hL9 hcl hsl hI9 hM (by omega) (lv_sub hl [0, 1, 2, 3, 4, 5, 6, 7, 8, 9, 10, 11, 12, 13, 14, 15, 16] rfl) KK
                  · refine W.widen (k := cl) (n := sl) (by show cl + 0 ≤ cl; omega) (by show sl + 0 ≤ sl; omega) ?_
                    exact k_pa hst hC hX hbl hL9 hcl hsl hI9 hM (by omega) (lv_sub hl [0, 1, 2, 3, 4, 5, 6, 7, 8, 9, 10, 11, 12, 13, 14, 15, 16] rfl) KK
              · refine W.widen (k := cl) (n := sl) (by show cl + 0 ≤ cl; omega) (by show sl + 0 ≤ sl; omega) ?_
                by_cases hc9 : nw A = 12 ∨ pdT (gk A 0) (nI (lowN w 300)) = 0
                · exact k_wn hst hC hX hbl hL9 hcl hsl hI9 hM hc9 (lv_sub hl [0, 1, 2, 3, 4, 5, 6, 7, 8, 9, 10, 11, 12, 13, 14, 15, 16] rfl) KK
                · exact k_wy hst hC hX hbl hL9 hcl hsl hI9 hM hc9 (lv_sub hl [0, 1, 2, 3, 4, 5, 6, 7, 8, 9, 10, 11, 12, 13, 14, 15, 16] rfl) KK
            · refine W.widen (k := cl) (n := sl) (by show cl + 0 ≤ cl; omega) (by show sl + 0 ≤ sl; omega) ?_
              exact k_ob hst hC hX hbl hL9 hcl hsl hI9 hM  (lv_sub hl [0, 1, 2, 3, 4, 5, 6, 7, 8, 9, 10, 11, 12, 13, 14, 15, 16] rfl) KK
          · refine W.widen (k := cl) (n := sl) (by show cl + 0 ≤ cl; omega) (by show sl + 0 ≤ sl; omega) ?_
            exact k_cl hst hC hX hbl hL9 hcl hsl hI9 hM  (lv_sub hl [0, 1, 2, 3, 4, 5, 6, 7, 8, 9, 10, 11, 12, 13, 14, 15, 16] rfl) KK
        · refine lv_iload hx hb dL_law_325 (lv_at hl 13 rfl) ?_
          refine lv_iconst (v := nI 2) hx hb dL_law_327 (by decide) ?_
          refine z_icmp_ge (tgt := 412) hx hb (nI_toInt (by omega)) (nI_toInt (by decide)) dL_law_328 (by decide) (fun c_328 => ?_) (fun c_328 => ?_)
          · refine lv_iload hx hb dL_law_412 (lv_at hl 17 rfl) ?_
            refine lv_iconst (v := nI 3) hx hb dL_law_414 (by decide) ?_
            refine z_icmp_ne (tgt := 567) hx hb (nI_toInt (by omega)) (nI_toInt (by decide)) dL_law_415 (by decide) (fun c_415 => ?_) (fun c_415 => ?_)
            · refine lv_iload hx hb dL_law_567 (lv_at hl 17 rfl) ?_
              refine lv_bipush (v := nI 7) hx hb dL_law_569 (by decide) ?_
              refine z_icmp_ge (tgt := 740) hx hb (nI_toInt (by omega)) (nI_toInt (by decide)) dL_law_571 (by decide) (fun c_571 => ?_) (fun c_571 => ?_)
              · refine lv_iload hx hb dL_law_740 (lv_at hl 17 rfl) ?_
                refine lv_bipush (v := nI 7) hx hb dL_law_742 (by decide) ?_
                refine z_icmp_ne (tgt := 872) hx hb (nI_toInt (by omega)) (nI_toInt (by decide)) dL_law_744 (by decide) (fun c_744 => ?_) (fun c_744 => ?_)
                · refine lv_iload hx hb dL_law_872 (lv_at hl 17 rfl) ?_
                  refine lv_bipush (v := nI 10) hx hb dL_law_874 (by decide) ?_
                  refine z_icmp_ge (tgt := 1009) hx hb (nI_toInt (by omega)) (nI_toInt (by decide)) dL_law_876 (by decide) (fun c_876 => ?_) (fun c_876 => ?_)
                  · refine lv_iload hx hb dL_law_1009 (lv_at hl 11 rfl) ?_
                    refine z_if_le (tgt := 1167) hx hb (nI_toInt (by omega)) dL_law_1011 (by decide) (fun c_1011 => ?_) (fun c_1011 => ?_)
                    · refine W.widen (k := cl + 40) (n := sl + 2000) (by show cl + 0 ≤ cl + 40; omega) (by show sl + 0 ≤ sl + 2000; omega) ?_
                      exact KK _ _ _ _ _ _ _ _ _ _ hI9 (lv_sub hl [0, 1, 2, 3, 4, 5, 6, 7, 8, 9, 10, 11, 12, 13, 14, 15, 16] rfl) hM
                    · refine lv_iload hx hb dL_law_1014 (lv_at hl 16 rfl) ?_
                      refine lv_iconst (v := nI 3) hx hb dL_law_1016 (by decide) ?_
                      refine z_fcalli (z_runS hC hM (c_low w 3 (by decide) (by decide)) zy_L_low zm_L_64 rfl rfl hl.1 (Nat.le_of_ble_eq_true rfl) ⟨by decide, by decide⟩ ⟨by show cl + 0 + 0 ≤ 600086; omega, by show sl + 0 + 0 ≤ 7301442; omega⟩ dL_law_1017) hM (fun H locs hM => ?_)
                      have hlo9 := lowN_lt (v := w) (n := 3) (by decide)
                      refine z_if_ne (tgt := 1167) hx hb (nI_toInt (by omega)) dL_law_1020 (by decide) (fun c_1020 => ?_) (fun c_1020 => ?_)
                      · refine W.widen (k := cl + 40) (n := sl + 2000) (by show cl + 0 + 0 ≤ cl + 40; omega) (by show sl + 0 + 0 ≤ sl + 2000; omega) ?_
                        exact KK _ _ _ _ _ _ _ _ _ _ hI9 (lv_sub hl [0, 1, 2, 3, 4, 5, 6, 7, 8, 9, 10, 11, 12, 13, 14, 15, 16] rfl) hM
                      · refine W.widen (k := cl) (n := sl) (by show cl + 0 + 0 ≤ cl; omega) (by show sl + 0 + 0 ≤ sl; omega) ?_
                        exact k_wd hst hC hX hbl hL9 hcl hsl hI9 hM (by omega) (lv_sub hl [0, 1, 2, 3, 4, 5, 6, 7, 8, 9, 10, 11, 12, 13, 14, 15, 16] rfl) KK
                  · refine lv_iload hx hb dL_law_879 (lv_at hl 11 rfl) ?_
                    refine z_if_le (tgt := 1009) hx hb (nI_toInt (by omega)) dL_law_881 (by decide) (fun c_881 => ?_) (fun c_881 => ?_)
                    · refine lv_iload hx hb dL_law_1009 (lv_at hl 11 rfl) ?_
                      refine z_if_le (tgt := 1167) hx hb (nI_toInt (by omega)) dL_law_1011 (by decide) (fun c_1011 => ?_) (fun c_1011 => ?_)
                      · refine W.widen (k := cl + 40) (n := sl + 2000) (by show cl + 0 ≤ cl + 40; omega) (by show sl + 0 ≤ sl + 2000; omega) ?_
                        exact KK _ _ _ _ _ _ _ _ _ _ hI9 (lv_sub hl [0, 1, 2, 3, 4, 5, 6, 7, 8, 9, 10, 11, 12, 13, 14, 15, 16] rfl) hM
                      · refine lv_iload hx hb dL_law_1014 (lv_at hl 16 rfl) ?_
                        refine lv_iconst (v := nI 3) hx hb dL_law_1016 (by decide) ?_
                        refine z_fcalli (z_runS hC hM (c_low w 3 (by decide) (by decide)) zy_L_low zm_L_64 rfl rfl hl.1 (Nat.le_of_ble_eq_true rfl) ⟨by decide, by decide⟩ ⟨by show cl + 0 + 0 ≤ 600086; omega, by show sl + 0 + 0 ≤ 7301442; omega⟩ dL_law_1017) hM (fun H locs hM => ?_)
                        have hlo9 := lowN_lt (v := w) (n := 3) (by decide)
                        refine z_if_ne (tgt := 1167) hx hb (nI_toInt (by omega)) dL_law_1020 (by decide) (fun c_1020 => ?_) (fun c_1020 => ?_)
                        · refine W.widen (k := cl + 40) (n := sl + 2000) (by show cl + 0 + 0 ≤ cl + 40; omega) (by show sl + 0 + 0 ≤ sl + 2000; omega) ?_
                          exact KK _ _ _ _ _ _ _ _ _ _ hI9 (lv_sub hl [0, 1, 2, 3, 4, 5, 6, 7, 8, 9, 10, 11, 12, 13, 14, 15, 16] rfl) hM
                        · refine W.widen (k := cl) (n := sl) (by show cl + 0 + 0 ≤ cl; omega) (by show sl + 0 + 0 ≤ sl; omega) ?_
                          exact k_wd hst hC hX hbl hL9 hcl hsl hI9 hM (by omega) (lv_sub hl [0, 1, 2, 3, 4, 5, 6, 7, 8, 9, 10, 11, 12, 13, 14, 15, 16] rfl) KK
                    · refine W.widen (k := cl) (n := sl) (by show cl + 0 ≤ cl; omega) (by show sl + 0 ≤ sl; omega) ?_
                      exact k_pa hst hC hX hbl hL9 hcl hsl hI9 hM (by omega) (lv_sub hl [0, 1, 2, 3, 4, 5, 6, 7, 8, 9, 10, 11, 12, 13, 14, 15, 16] rfl) KK
                · refine W.widen (k := cl) (n := sl) (by show cl + 0 ≤ cl; omega) (by show sl + 0 ≤ sl; omega) ?_
                  by_cases hc9 : nw A = 12 ∨ pdT (gk A 0) (nI (lowN w 300)) = 0
                  · exact k_wn hst hC hX hbl hL9 hcl hsl hI9 hM hc9 (lv_sub hl [0, 1, 2, 3, 4, 5, 6, 7, 8, 9, 10, 11, 12, 13, 14, 15, 16] rfl) KK
                  · exact k_wy hst hC hX hbl hL9 hcl hsl hI9 hM hc9 (lv_sub hl [0, 1, 2, 3, 4, 5, 6, 7, 8, 9, 10, 11, 12, 13, 14, 15, 16] rfl) KK
              · refine W.widen (k := cl) (n := sl) (by show cl + 0 ≤ cl; omega) (by show sl + 0 ≤ sl; omega) ?_
                exact k_ob hst hC hX hbl hL9 hcl hsl hI9 hM  (lv_sub hl [0, 1, 2, 3, 4, 5, 6, 7, 8, 9, 10, 11, 12, 13, 14, 15, 16] rfl) KK
            · refine W.widen (k := cl) (n := sl) (by show cl + 0 ≤ cl; omega) (by show sl + 0 ≤ sl; omega) ?_
              exact k_cl hst hC hX hbl hL9 hcl hsl hI9 hM  (lv_sub hl [0, 1, 2, 3, 4, 5, 6, 7, 8, 9, 10, 11, 12, 13, 14, 15, 16] rfl) KK
          · refine W.widen (k := cl) (n := sl) (by show cl + 0 ≤ cl; omega) (by show sl + 0 ≤ sl; omega) ?_
            exact k_bl hst hC hX hbl hL9 hcl hsl hI9 hM (by omega) (lv_sub hl [0, 1, 2, 3, 4, 5, 6, 7, 8, 9, 10, 11, 12, 13, 14, 15, 16] rfl) KK
      · refine W.widen (k := cl) (n := sl) (by show cl + 0 ≤ cl; omega) (by show sl + 0 ≤ sl; omega) ?_
        exact k_pl hst hC hX hbl hL9 hcl hsl hI9 hM (by omega) (kt_0 (by omega) hP.2.2.2.2.2.2.2.2.1) (lv_sub hl [0, 1, 2, 3, 4, 5, 6, 7, 8, 9, 10, 11, 12, 13, 14, 15, 16] rfl) KK
set_option maxHeartbeats 1000000 in
set_option maxRecDepth 100000 in
theorem k_tu {p : Program} {l : Launch} {e : Env} {s : State} {m : MethodId} {below : List Frame} {meth : Method} {c : Code} {K : zK} (hst : l.stackTraces = false) {b L9 : Nat} {xs : Nat → Int32} (hC : zC p s #[Value.ref b] m c cL_law 23 RL s.heap.size K) (hX : va_X b L9 xs s s.heap) (hbl : b < s.heap.size) (hL9 : L9 ≤ 3072) {B : Nat → Nat} {A : zA} {tm : Nat} {bl kt : Nat → Nat} {ad : Nat → Nat} {L : List Nat} {f : Nat → va_E} {H : Heap} {locs : List Loc} {ls : Array Slot} {cl sl tn : Nat}  (hcl : cl + 200 ≤ 600086) (hsl : sl + 3500 ≤ 7301442) (hI : INV K A B tm bl kt L f ad) (hM : zM s.heap.size K L f s H locs) (htn : tn < 44) (hl : lv_has ls 23 [(0, .ref b), (1, .ref ((ad 1))), (2, .ref ((B 2))), (3, .ref ((B 3))), (4, .ref ((B 4))), (5, .ref ((B 5))), (6, .ref ((B 6))), (7, .ref ((B 7))), (8, .ref ((B 8))), (9, .ref ((B 9))), (10, .ref ((B 10))), (11, .int (nI (nw A))), (12, .int (nI (np A))), (13, .int (nI tm)), (14, .int (nI tn))]) {Q : State → Prop} (KK : ∀ (A : zA) (tm : Nat) (bl kt : Nat → Nat) (ad : Nat → Nat) (L : List Nat) (f : Nat → va_E) (H : Heap) (locs : List Loc) (ls : Array Slot), INV K A B tm bl kt L f ad → lv_has ls 23 [(0, .ref b), (1, .ref ((ad 1))), (2, .ref ((B 2))), (3, .ref ((B 3))), (4, .ref ((B 4))), (5, .ref ((B 5))), (6, .ref ((B 6))), (7, .ref ((B 7))), (8, .ref ((B 8))), (9, .ref ((B 9))), (10, .ref ((B 10))), (11, .int (nI (nw A))), (12, .int (nI (np A))), (13, .int (nI tm)), (14, .int (nI tn))] → zM s.heap.size K L f s H locs → W p l e room_1 s m #[Value.ref b] below meth c H locs (cl + 40 + 130) (sl + 2000 + 800) Q (F0 m 1392 ls [])) : W p l e room_1 s m #[Value.ref b] below meth c H locs cl sl Q (F0 m 110 ls []) := by
  have hx := hC.1
  have hb := hC.2.1
  have hown := hC.2.2.2.1
  have hts := hC.2.2.2.2.1
  refine lv_aload_n hx hb dL_law_110 rfl (lv_at hl 0 rfl) ?_
  refine lv_iconst (v := nI 1) hx hb dL_law_111 (by decide) ?_
  refine lv_iconst (v := nI 2) hx hb dL_law_112 (by decide) ?_
  refine lv_iload hx hb dL_law_113 (lv_at hl 14 rfl) ?_
  refine z_imul hx hb dL_law_115 ?_
  refine z_iadd hx hb dL_law_116 ?_
  refine z_runCell hC hM hX hbl hL9 (show 1 + 2 * tn < 2 ^ 30 by omega) zm_L_94 rfl hl.1 (Nat.le_of_ble_eq_true rfl) ⟨by decide, by decide⟩ ⟨by show cl ≤ 600086; omega, by show sl ≤ 7301442; omega⟩ dL_law_117 (fun H locs hM => ?_)
  obtain ⟨v, hv⟩ : ∃ x, x = cellV L9 xs (1 + 2 * tn) := ⟨_, rfl⟩
  rw [← hv]
  refine lv_istore (lv' := [(15, .int v), (0, .ref b), (1, .ref ((ad 1))), (2, .ref ((B 2))), (3, .ref ((B 3))), (4, .ref ((B 4))), (5, .ref ((B 5))), (6, .ref ((B 6))), (7, .ref ((B 7))), (8, .ref ((B 8))), (9, .ref ((B 9))), (10, .ref ((B 10))), (11, .int (nI (nw A))), (12, .int (nI (np A))), (13, .int (nI tm)), (14, .int (nI tn))]) hx hb dL_law_120 hl (by decide) rfl (fun ls hl => ?_)
  refine lv_aload_n hx hb dL_law_122 rfl (lv_at hl 1 rfl) ?_
  refine lv_iconst (v := nI 2) hx hb dL_law_123 (by decide) ?_
  refine lv_iconst (v := nI 2) hx hb dL_law_124 (by decide) ?_
  refine lv_iload hx hb dL_law_125 (lv_at hl 15 rfl) ?_
  refine z_imul hx hb dL_law_127 ?_
  refine z_iadd hx hb dL_law_128 ?_
  refine z_runCell hC hM hX hbl hL9 (show 2 + 2 * tn < 2 ^ 30 by omega) zm_L_94 rfl hl.1 (Nat.le_of_ble_eq_true rfl) ⟨by decide, by decide⟩ ⟨by show cl ≤ 600086; omega, by show sl ≤ 7301442; omega⟩ dL_law_129 (fun H locs hM => ?_)
  obtain ⟨w, hw⟩ : ∃ x, x = cellV L9 xs (2 + 2 * tn) := ⟨_, rfl⟩
  rw [← hw]
  refine lv_istore (lv' := [(16, .int w), (15, .int v), (0, .ref b), (1, .ref ((ad 1))), (2, .ref ((B 2))), (3, .ref ((B 3))), (4, .ref ((B 4))), (5, .ref ((B 5))), (6, .ref ((B 6))), (7, .ref ((B 7))), (8, .ref ((B 8))), (9, .ref ((B 9))), (10, .ref ((B 10))), (11, .int (nI (nw A))), (12, .int (nI (np A))), (13, .int (nI tm)), (14, .int (nI tn))]) hx hb dL_law_132 hl (by decide) rfl (fun ls hl => ?_)
  have JOIN151 : ∀ (kd : Nat) (ls : Array Slot) (H : Heap) (locs : List Loc), kd < 11 → lv_has ls 23 [(0, .ref b), (1, .ref ((ad 1))), (2, .ref ((B 2))), (3, .ref ((B 3))), (4, .ref ((B 4))), (5, .ref ((B 5))), (6, .ref ((B 6))), (7, .ref ((B 7))), (8, .ref ((B 8))), (9, .ref ((B 9))), (10, .ref ((B 10))), (11, .int (nI (nw A))), (12, .int (nI (np A))), (13, .int (nI tm)), (14, .int (nI tn)), (15, .int v), (16, .int w)] → zM s.heap.size K L f s H locs → W p l e room_1 s m #[Value.ref b] below meth c H locs cl sl Q (F0 m 151 ls [.int (nI kd)]) := by
    intro kd ls H locs hkd hl hM
    refine lv_istore (lv' := [(17, .int (nI kd)), (0, .ref b), (1, .ref ((ad 1))), (2, .ref ((B 2))), (3, .ref ((B 3))), (4, .ref ((B 4))), (5, .ref ((B 5))), (6, .ref ((B 6))), (7, .ref ((B 7))), (8, .ref ((B 8))), (9, .ref ((B 9))), (10, .ref ((B 10))), (11, .int (nI (nw A))), (12, .int (nI (np A))), (13, .int (nI tm)), (14, .int (nI tn)), (15, .int v), (16, .int w)]) hx hb dL_law_151 hl (by decide) rfl (fun ls hl => ?_)
    refine W.widen (k := cl) (n := sl) (by show cl ≤ cl; omega) (by show sl ≤ sl; omega) ?_
    refine k_di hst hC hX hbl hL9 hkd (by omega) (by omega) hI hM (lv_sub hl [1, 2, 3, 4, 5, 6, 7, 8, 9, 10, 11, 12, 13, 14, 15, 16, 17, 0] rfl) (fun A tm bl kt ad L f H locs ls hI hl hM => ?_)
    refine k_ch hst hC hX hbl hL9 (by omega) (by omega) hI hM htn hl (fun A tm bl kt ad L f H locs ls hI hl hM => ?_)
    exact KK A tm bl kt ad L f H locs ls hI (lv_sub hl [0, 1, 2, 3, 4, 5, 6, 7, 8, 9, 10, 11, 12, 13, 14] rfl) hM
  refine lv_iload hx hb dL_law_134 (lv_at hl 16 rfl) ?_
  refine lv_iconst (v := nI 2) hx hb dL_law_136 (by decide) ?_
  refine z_icmp_ge (tgt := 144) hx hb (nI_toInt (by omega)) (nI_toInt (by decide)) dL_law_137 (by decide) (fun c_137 => ?_) (fun c_137 => ?_)
  · refine lv_iload hx hb dL_law_144 (lv_at hl 1 rfl) ?_
    refine lv_bipush (v := nI 11) hx hb dL_law_146 (by decide) ?_
    refine z_fcalli (z_runS hC hM (c_low v 11 (by decide) (by decide)) zy_L_low zm_L_64 rfl rfl hl.1 (Nat.le_of_ble_eq_true rfl) ⟨by decide, by decide⟩ ⟨by show cl + 0 ≤ 600086; omega, by show sl + 0 ≤ 7301442; omega⟩ dL_law_148) hM (fun H locs hM => ?_)
    have hlo9 := lowN_lt (v := v) (n := 11) (by decide)
    refine W.widen (k := cl) (n := sl) (by show cl + 0 ≤ cl; omega) (by show sl + 0 ≤ sl; omega) ?_
    exact JOIN151 (lowN v 11) ls H locs (by omega) (lv_sub hl [2, 3, 4, 5, 6, 7, 8, 9, 10, 11, 12, 13, 14, 15, 16, 1, 0] rfl) hM
  · refine lv_iconst (v := nI 0) hx hb dL_law_140 (by decide) ?_
    refine lv_goto (tgt := 151) hx hb dL_law_141 (by decide) ?_
    refine W.widen (k := cl) (n := sl) (by show cl ≤ cl; omega) (by show sl ≤ sl; omega) ?_
    exact JOIN151 0 ls H locs (by omega) (lv_sub hl [2, 3, 4, 5, 6, 7, 8, 9, 10, 11, 12, 13, 14, 15, 16, 1, 0] rfl) hM
