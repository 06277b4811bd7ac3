/-! THE LAW'S PIECES, first part: a planet, a blend, clouds, nights (rows laid by wip/p22/lawp1.py) -/
theorem up_nI (g : Nat → Nat) (k v : Nat) : va_up (fun j => nI (g j)) k (nI v) = fun j => nI (va_up g k v j) := by
  funext j
  unfold va_up
  split <;> rfl
theorem iR0_n {n : Nat} (h : n < 2 ^ 31) {a b : Int} (h1 : a ≤ n) (h2 : (n : Int) ≤ b) : iR (nI n) a b := iR_n h h1 h2
theorem kpl_0 {A : zA} {q ph len : Nat} (h1 : ns A = 1) (h3 : A.1 3 0 < 4) (q1 : 2 ≤ q) (q2 : q ≤ 60) (q3 : ph < q) (q4 : 1 ≤ len) (q5 : len ≤ 4) (q6 : len < q) : k_planet A (nI 0) (nI q) (nI ph) (nI len) (nI 125) = 0 ∧ a_planet A (nI 0) (nI q) (nI ph) (nI len) (nI 125) = plA A 0 q ph len 125 := by
  have hq : (nI q).toInt = q := nI_toInt (by omega)
  have hl : (nI len).toInt = len := nI_toInt (by omega)
  have hk : k_planet A (nI 0) (nI q) (nI ph) (nI len) (nI 125) = 0 := by
    unfold k_planet
    rw [if_neg (fun z => z (isS_0 h1)), if_neg (fun z => z ⟨iR_n (by omega) (by omega) (by omega), iR_n (by omega) (by omega) (by rw [hq]; omega), iR_n (by omega) (by omega) (by omega), by rw [hq, hl]; omega, iR_n (by decide) (by decide) (by decide)⟩), iv_0, if_neg (by omega)]
  refine ⟨hk, ?_⟩
  unfold a_planet
  rw [if_pos hk, iv_0, iv_n (by omega), iv_n (by omega), iv_n (by omega), iv_n (by decide)]
theorem ksp_0 {A : zA} {sp : Nat} (h1 : ns A = 1) (q1 : 4 ≤ sp) (q2 : sp ≤ 60) : k_spots A (nI 0) (nI sp) (nI 0) = 0 ∧ a_spots A (nI 0) (nI sp) (nI 0) = stA A 0 sp 0 (A.1 10 0) := by
  have hk : k_spots A (nI 0) (nI sp) (nI 0) = 0 := by
    unfold k_spots
    rw [if_neg (fun z => z (isS_0 h1)), if_neg (fun z => z ⟨iR_n (by omega) (by omega) (by omega), iR_n (by decide) (by decide) (by decide)⟩)]
  refine ⟨hk, ?_⟩
  unfold a_spots
  rw [if_pos hk, iv_0, iv_n (by omega)]
theorem kbl_0 {A : zA} {c : Nat} (h1 : ns A = 1) (q2 : c < 3000) : k_blend A (nI 0) (nI c) = 0 ∧ a_blend A (nI 0) (nI c) = stA A 0 (A.1 8 0) (A.1 9 0) c := by
  have hk : k_blend A (nI 0) (nI c) = 0 := by
    unfold k_blend
    rw [if_neg (fun z => z (isS_0 h1)), if_neg (fun z => z (iR_n (by omega) (by omega) (by omega)))]
  refine ⟨hk, ?_⟩
  unfold a_blend
  rw [if_pos hk, iv_0, iv_n (by omega)]
set_option maxHeartbeats 1000000 in
set_option maxRecDepth 100000 in
theorem k_pl {p : Program} {l : Launch} {e : Env} {s : State} {m : MethodId} {below : List Frame} {meth : Method} {c : Code} {K : zK} (hst : l.stackTraces = false) {b L9 : Nat} {xs : Nat → Int32} (hC : zC p s #[Value.ref b] m c cL_law 23 RL s.heap.size K) (hX : va_X b L9 xs s s.heap) (hbl : b < s.heap.size) (hL9 : L9 ≤ 3072) {B : Nat → Nat} {A : zA} {tm : Nat} {bl kt : Nat → Nat} {ad : Nat → Nat} {L : List Nat} {f : Nat → va_E} {H : Heap} {locs : List Loc} {ls : Array Slot} {cl sl tn : Nat} {v w : Int32} (hcl : cl + 200 ≤ 600086) (hsl : sl + 3500 ≤ 7301442) (hI : INV K A B tm bl kt L f ad) (hM : zM s.heap.size K L f s H locs) (h34 : A.1 3 0 < 4) (h0 : ∀ x, kt x = 0) (hl : lv_has ls 23 [(0, .ref b), (1, .ref ((ad 1))), (2, .ref ((B 2))), (3, .ref ((B 3))), (4, .ref ((B 4))), (5, .ref ((B 5))), (6, .ref ((B 6))), (7, .ref ((B 7))), (8, .ref ((B 8))), (9, .ref ((B 9))), (10, .ref ((B 10))), (11, .int (nI (nw A))), (12, .int (nI (np A))), (13, .int (nI tm)), (14, .int (nI tn)), (15, .int v), (16, .int w)]) {Q : State → Prop} (KK : ∀ (A : zA) (tm : Nat) (bl kt : Nat → Nat) (ad : Nat → Nat) (L : List Nat) (f : Nat → va_E) (H : Heap) (locs : List Loc) (ls : Array Slot), INV K A B tm bl kt L f ad → lv_has ls 23 [(0, .ref b), (1, .ref ((ad 1))), (2, .ref ((B 2))), (3, .ref ((B 3))), (4, .ref ((B 4))), (5, .ref ((B 5))), (6, .ref ((B 6))), (7, .ref ((B 7))), (8, .ref ((B 8))), (9, .ref ((B 9))), (10, .ref ((B 10))), (11, .int (nI (nw A))), (12, .int (nI (np A))), (13, .int (nI tm)), (14, .int (nI tn)), (15, .int v), (16, .int w)] → zM s.heap.size K L f s H locs → W p l e room_1 s m #[Value.ref b] below meth c H locs (cl + 40) (sl + 2000) Q (F0 m 1167 ls [])) : W p l e room_1 s m #[Value.ref b] below meth c H locs cl sl Q (F0 m 177 ls []) := by
  have hx := hC.1
  have hb := hC.2.1
  have hown := hC.2.2.2.1
  have hts := hC.2.2.2.2.1
  obtain ⟨pv, kb, gb, pe, ow, ci, fa, hS, hP, hpa, hkb, hgb, hpe, hpp⟩ := hI
  refine lv_aload_n hx hb dL_law_177 rfl (lv_at hl 2 rfl) ?_
  refine lv_bipush (v := nI 13) hx hb dL_law_178 (by decide) ?_
  refine z_iald hC hM (hS.m (by decide) (by decide)) hS.s2 (by omega) (by omega) dL_law_180 ?_
  obtain ⟨n, hn⟩ : ∃ n, n = pv 13 := ⟨_, rfl⟩
  rw [← hn]
  have hn3 : n = A.1 3 0 := hn.trans hpa.2.1
  have hn4 : n < 4 := by omega
  refine lv_istore (lv' := [(18, .int (nI n)), (0, .ref b), (1, .ref ((ad 1))), (2, .ref ((B 2))), (3, .ref ((B 3))), (4, .ref ((B 4))), (5, .ref ((B 5))), (6, .ref ((B 6))), (7, .ref ((B 7))), (8, .ref ((B 8))), (9, .ref ((B 9))), (10, .ref ((B 10))), (11, .int (nI (nw A))), (12, .int (nI (np A))), (13, .int (nI tm)), (14, .int (nI tn)), (15, .int v), (16, .int w)]) hx hb dL_law_181 hl (by decide) rfl (fun ls hl => ?_)
  refine lv_aload_n hx hb dL_law_183 rfl (lv_at hl 3 rfl) ?_
  refine lv_iconst (v := nI 1) hx hb dL_law_184 (by decide) ?_
  refine lv_iconst (v := nI 3) hx hb dL_law_185 (by decide) ?_
  refine lv_iload hx hb dL_law_186 (lv_at hl 0 rfl) ?_
  refine z_imul hx hb dL_law_188 ?_
  refine z_iadd hx hb dL_law_189 ?_
  refine lv_iconst (v := nI 2) hx hb dL_law_190 (by decide) ?_
  refine lv_iload hx hb dL_law_191 (lv_at hl 17 rfl) ?_
  refine lv_bipush (v := nI 59) hx hb dL_law_193 (by decide) ?_
  refine z_fcalli (z_runS hC hM (c_low w 59 (by decide) (by decide)) zy_L_low zm_L_64 rfl rfl hl.1 (Nat.le_of_ble_eq_true rfl) ⟨by decide, by decide⟩ ⟨by show cl + 0 ≤ 600086; omega, by show sl + 0 ≤ 7301442; omega⟩ dL_law_195) hM (fun H locs hM => ?_)
  have hlo1 := lowN_lt (v := w) (n := 59) (by decide)
  refine z_iadd hx hb dL_law_198 ?_
  obtain ⟨q, hq⟩ : ∃ q, q = 2 + lowN w 59 := ⟨_, rfl⟩
  rw [← hq]
  have hq1 : 2 ≤ q ∧ q ≤ 60 := by omega
  refine z_iast hC hM (hS.m (by decide) (by decide)) hS.s2 (by omega) (by omega) dL_law_199 (fun H locs hM => ?_)
  obtain ⟨pv1, hpv1⟩ : ∃ g9, g9 = va_up pv (1 + (3 * n)) q := ⟨_, rfl⟩
  rw [up_nI, ← hpv1] at hM
  have hS := hS.u2 pv1
  generalize va_up f (B 2) (eI K 14 (fun j => nI (pv1 j))) = f at hM hS
  refine lv_aload_n hx hb dL_law_200 rfl (lv_at hl 3 rfl) ?_
  refine lv_iconst (v := nI 2) hx hb dL_law_201 (by decide) ?_
  refine lv_iconst (v := nI 3) hx hb dL_law_202 (by decide) ?_
  refine lv_iload hx hb dL_law_203 (lv_at hl 0 rfl) ?_
  refine z_imul hx hb dL_law_205 ?_
  refine z_iadd hx hb dL_law_206 ?_
  refine lv_iload hx hb dL_law_207 (lv_at hl 17 rfl) ?_
  refine lv_bipush (v := nI 6) hx hb dL_law_209 (by decide) ?_
  refine lv_ishr hx hb dL_law_211 ?_
  refine lv_aload_n hx hb dL_law_212 rfl (lv_at hl 3 rfl) ?_
  refine lv_iconst (v := nI 1) hx hb dL_law_213 (by decide) ?_
  refine lv_iconst (v := nI 3) hx hb dL_law_214 (by decide) ?_
  refine lv_iload hx hb dL_law_215 (lv_at hl 0 rfl) ?_
  refine z_imul hx hb dL_law_217 ?_
  refine z_iadd hx hb dL_law_218 ?_
  refine z_iald hC hM (hS.m (by decide) (by decide)) hS.s2 (by omega) (by omega) dL_law_219 ?_
  rw [hpv1, va_up_self]
  refine z_fcalli (z_runS hC hM (c_low ((w >>> (nI 6 &&& 31))) q (show 0 < q by omega) (show q < 2 ^ 31 by omega)) zy_L_low zm_L_64 rfl rfl hl.1 (Nat.le_of_ble_eq_true rfl) ⟨by decide, by decide⟩ ⟨by show cl + 0 + 0 ≤ 600086; omega, by show sl + 0 + 0 ≤ 7301442; omega⟩ dL_law_220) hM (fun H locs hM => ?_)
  have hlo2 := lowN_lt (v := (w >>> (nI 6 &&& 31))) (n := q) (show 0 < q by omega)
  obtain ⟨ph, hph⟩ : ∃ x, x = lowN (w >>> (nI 6 &&& 31)) q := ⟨_, rfl⟩
  rw [← hph]
  have hph1 : ph < q := by rw [hph]; exact hlo2
  refine z_iast hC hM (hS.m (by decide) (by decide)) hS.s2 (by omega) (by omega) dL_law_223 (fun H locs hM => ?_)
  obtain ⟨pv2, hpv2⟩ : ∃ g9, g9 = va_up pv1 (2 + (3 * n)) ph := ⟨_, rfl⟩
  rw [up_nI, ← hpv2] at hM
  have hS := hS.u2 pv2
  generalize va_up f (B 2) (eI K 14 (fun j => nI (pv2 j))) = f at hM hS
  have e21 : pv2 (1 + 3 * n) = q := by rw [hpv2, va_up_ne _ _ (by omega), hpv1, va_up_self]
  refine lv_aload_n hx hb dL_law_224 rfl (lv_at hl 3 rfl) ?_
  refine lv_iconst (v := nI 3) hx hb dL_law_225 (by decide) ?_
  refine lv_iconst (v := nI 3) hx hb dL_law_226 (by decide) ?_
  refine lv_iload hx hb dL_law_227 (lv_at hl 0 rfl) ?_
  refine z_imul hx hb dL_law_229 ?_
  refine z_iadd hx hb dL_law_230 ?_
  refine lv_iconst (v := nI 1) hx hb dL_law_231 (by decide) ?_
  refine lv_iload hx hb dL_law_232 (lv_at hl 17 rfl) ?_
  refine lv_bipush (v := nI 12) hx hb dL_law_234 (by decide) ?_
  refine lv_ishr hx hb dL_law_236 ?_
  refine lv_aload_n hx hb dL_law_237 rfl (lv_at hl 3 rfl) ?_
  refine lv_iconst (v := nI 1) hx hb dL_law_238 (by decide) ?_
  refine lv_iconst (v := nI 3) hx hb dL_law_239 (by decide) ?_
  refine lv_iload hx hb dL_law_240 (lv_at hl 0 rfl) ?_
  refine z_imul hx hb dL_law_242 ?_
  refine z_iadd hx hb dL_law_243 ?_
  refine z_iald hC hM (hS.m (by decide) (by decide)) hS.s2 (by omega) (by omega) dL_law_244 ?_
  rw [e21]
  refine lv_iconst (v := nI 4) hx hb dL_law_245 (by decide) ?_
  refine z_icmp_le (tgt := 253) hx hb (nI_toInt (by omega)) (nI_toInt (by decide)) dL_law_246 (by decide) (fun c_246 => ?_) (fun c_246 => ?_)
  · refine lv_aload_n hx hb dL_law_253 rfl (lv_at hl 3 rfl) ?_
    refine lv_iconst (v := nI 1) hx hb dL_law_254 (by decide) ?_
    refine lv_iconst (v := nI 3) hx hb dL_law_255 (by decide) ?_
    refine lv_iload hx hb dL_law_256 (lv_at hl 0 rfl) ?_
    refine z_imul hx hb dL_law_258 ?_
    refine z_iadd hx hb dL_law_259 ?_
    refine z_iald hC hM (hS.m (by decide) (by decide)) hS.s2 (by omega) (by omega) dL_law_260 ?_
    rw [e21]
    refine lv_iconst (v := nI 1) hx hb dL_law_261 (by decide) ?_
    refine z_isub hx hb (by omega) dL_law_262 ?_
    refine z_fcalli (z_runS hC hM (c_low (w >>> (nI 12 &&& 31)) (q - 1) (by omega) (by omega)) zy_L_low zm_L_64 rfl rfl hl.1 (Nat.le_of_ble_eq_true rfl) ⟨by decide, by decide⟩ ⟨by show cl + 0 + 0 + 0 ≤ 600086; omega, by show sl + 0 + 0 + 0 ≤ 7301442; omega⟩ dL_law_263) hM (fun H locs hM => ?_)
    have hlo3 := lowN_lt (v := w >>> (nI 12 &&& 31)) (n := q - 1) (by omega)
    refine z_iadd hx hb dL_law_266 ?_
    obtain ⟨len, hlen⟩ : ∃ x, x = 1 + (lowN (w >>> (nI 12 &&& 31)) (q - 1)) := ⟨_, rfl⟩
    rw [← hlen]
    have hlen1 : 1 ≤ len ∧ len ≤ 4 ∧ len < q := by omega
    refine z_iast hC hM (hS.m (by decide) (by decide)) hS.s2 (by omega) (by omega) dL_law_267 (fun H locs hM => ?_)
    obtain ⟨pv3, hpv3⟩ : ∃ g9, g9 = va_up pv2 (3 + (3 * n)) len := ⟨_, rfl⟩
    rw [up_nI, ← hpv3] at hM
    have hS := hS.u2 pv3
    generalize va_up f (B 2) (eI K 14 (fun j => nI (pv3 j))) = f at hM hS
    have e41 : pv3 (1 + 3 * n) = q := by rw [hpv3, va_up_ne _ _ (by omega)]; exact e21
    have e42 : pv3 (2 + 3 * n) = ph := by rw [hpv3, va_up_ne _ _ (by omega), hpv2, va_up_self]
    have e43 : pv3 (3 + 3 * n) = len := by rw [hpv3, va_up_self]
    obtain ⟨hk9, ha9⟩ := kpl_0 hP.1 (show A.1 3 0 < 4 by omega) hq1.1 hq1.2 hph1 hlen1.1 hlen1.2.1 hlen1.2.2
    refine lv_aload_n hx hb dL_law_268 rfl (lv_at hl 2 rfl) ?_
    refine lv_iconst (v := nI 0) hx hb dL_law_269 (by decide) ?_
    refine lv_aload_n hx hb dL_law_270 rfl (lv_at hl 3 rfl) ?_
    refine lv_iconst (v := nI 1) hx hb dL_law_271 (by decide) ?_
    refine lv_iconst (v := nI 3) hx hb dL_law_272 (by decide) ?_
    refine lv_iload hx hb dL_law_273 (lv_at hl 0 rfl) ?_
    refine z_imul hx hb dL_law_275 ?_
    refine z_iadd hx hb dL_law_276 ?_
    refine z_iald hC hM (hS.m (by decide) (by decide)) hS.s2 (by omega) (by omega) dL_law_277 ?_
    rw [e41]
    refine lv_aload_n hx hb dL_law_278 rfl (lv_at hl 3 rfl) ?_
    refine lv_iconst (v := nI 2) hx hb dL_law_279 (by decide) ?_
    refine lv_iconst (v := nI 3) hx hb dL_law_280 (by decide) ?_
    refine lv_iload hx hb dL_law_281 (lv_at hl 0 rfl) ?_
    refine z_imul hx hb dL_law_283 ?_
    refine z_iadd hx hb dL_law_284 ?_
    refine z_iald hC hM (hS.m (by decide) (by decide)) hS.s2 (by omega) (by omega) dL_law_285 ?_
    rw [e42]
    refine lv_aload_n hx hb dL_law_286 rfl (lv_at hl 3 rfl) ?_
    refine lv_iconst (v := nI 3) hx hb dL_law_287 (by decide) ?_
    refine lv_iconst (v := nI 3) hx hb dL_law_288 (by decide) ?_
    refine lv_iload hx hb dL_law_289 (lv_at hl 0 rfl) ?_
    refine z_imul hx hb dL_law_291 ?_
    refine z_iadd hx hb dL_law_292 ?_
    refine z_iald hC hM (hS.m (by decide) (by decide)) hS.s2 (by omega) (by omega) dL_law_293 ?_
    rw [e43]
    refine lv_bipush (v := nI 125) hx hb dL_law_294 (by decide) ?_
    refine z_xq (av := #[]) (val := fun r : Int32 => some (.int r)) (post := fun r u => k_planet A (nI 0) (nI q) (nI ph) (nI len) (nI 125) = 0 ∧ r = nI (A.1 3 (iv (nI 0)) + 1) ∧ CR K A ad L f (a_planet A (nI 0) (nI q) (nI ph) (nI len) (nI 125)) u.1 u.2) (z_xrunV hC hM (p_planet hst hS.1 (nI 0) (nI q) (nI ph) (nI len) (nI 125)) zy_X6_planet zm_L_102 (ci_1 hS.1) (cx_at hS.1) zcl_X6 rfl rfl rfl hl.1 (Nat.le_of_ble_eq_true rfl) ⟨by decide, by decide⟩ ⟨by show cl + 0 + 0 + 0 + 12 ≤ 600086; omega, by show sl + 0 + 0 + 0 + 200 ≤ 7301442; omega⟩ dL_law_296) (fun st o t ⟨⟨r, u, h1, h2, h3⟩, h4⟩ => ⟨r, u, h1, h2, h3, h4⟩) hM (fun E ce q9 L1 f1 H locs hp hM _ _ _ => absurd hp.1.1 (by omega)) (fun r L f H locs hp hM => ?_)
    obtain ⟨-, hv9, hCR⟩ := hp
    rw [ha9] at hCR
    obtain ⟨ad, had, hS⟩ := hS.cr hCR
    rw [← had] at hl
    rw [hv9, iv_0, ← hn3]
    refine lv_iload hx hb dL_law_299 (lv_at hl 0 rfl) ?_
    refine lv_iconst (v := nI 1) hx hb dL_law_301 (by decide) ?_
    refine z_iadd hx hb dL_law_302 ?_
    refine z_icmp_eq (tgt := 308) hx hb (nI_toInt (by omega)) (nI_toInt (by omega)) dL_law_303 (by decide) (fun c_303 => ?_) (fun c_303 => ?_)
    · refine lv_aload_n hx hb dL_law_308 rfl (lv_at hl 3 rfl) ?_
      refine lv_bipush (v := nI 13) hx hb dL_law_309 (by decide) ?_
      refine lv_iload hx hb dL_law_311 (lv_at hl 0 rfl) ?_
      refine lv_iconst (v := nI 1) hx hb dL_law_313 (by decide) ?_
      refine z_iadd hx hb dL_law_314 ?_
      refine z_iast hC hM (hS.m (by decide) (by decide)) hS.s2 (by omega) (by omega) dL_law_315 (fun H locs hM => ?_)
      obtain ⟨pv4, hpv4⟩ : ∃ g9, g9 = va_up pv3 13 (n + 1) := ⟨_, rfl⟩
      rw [up_nI, ← hpv4] at hM
      have hS := hS.u2 pv4
      generalize va_up f (B 2) (eI K 14 (fun j => nI (pv4 j))) = f at hM hS
      refine lv_goto (tgt := 1167) hx hb dL_law_316 (by decide) ?_
      refine W.widen (k := cl + 40) (n := sl + 2000) (by show cl + 0 + 0 + 0 + 12 ≤ cl + 40; omega) (by show sl + 0 + 0 + 0 + 200 ≤ sl + 2000; omega) ?_
      exact KK _ _ _ _ _ _ _ _ _ _ ⟨pv4, kb, gb, pe, ow, ci, fa, hS, hP.planet h0, by rw [hpv4, hpv3, hpv2, hpv1]; exact hpa.planet hn3 hn4, hkb, hgb, hpe, hpp.congr rfl rfl rfl rfl⟩ (lv_sub hl [1, 2, 3, 4, 5, 6, 7, 8, 9, 10, 11, 12, 13, 14, 15, 16, 17] rfl) hM
    · exact absurd rfl c_303
  · refine lv_iconst (v := nI 4) hx hb dL_law_249 (by decide) ?_
    refine lv_goto (tgt := 263) hx hb dL_law_250 (by decide) ?_
    refine z_fcalli (z_runS hC hM (c_low (w >>> (nI 12 &&& 31)) 4 (by omega) (by omega)) zy_L_low zm_L_64 rfl rfl hl.1 (Nat.le_of_ble_eq_true rfl) ⟨by decide, by decide⟩ ⟨by show cl + 0 + 0 + 0 ≤ 600086; omega, by show sl + 0 + 0 + 0 ≤ 7301442; omega⟩ dL_law_263) hM (fun H locs hM => ?_)
    have hlo3 := lowN_lt (v := w >>> (nI 12 &&& 31)) (n := 4) (by omega)
    refine z_iadd hx hb dL_law_266 ?_
    obtain ⟨len, hlen⟩ : ∃ x, x = 1 + (lowN (w >>> (nI 12 &&& 31)) 4) := ⟨_, rfl⟩
    rw [← hlen]
    have hlen1 : 1 ≤ len ∧ len ≤ 4 ∧ len < q := by omega
    refine z_iast hC hM (hS.m (by decide) (by decide)) hS.s2 (by omega) (by omega) dL_law_267 (fun H locs hM => ?_)
    obtain ⟨pv3, hpv3⟩ : ∃ g9, g9 = va_up pv2 (3 + (3 * n)) len := ⟨_, rfl⟩
    rw [up_nI, ← hpv3] at hM
    have hS := hS.u2 pv3
    generalize va_up f (B 2) (eI K 14 (fun j => nI (pv3 j))) = f at hM hS
    have e41 : pv3 (1 + 3 * n) = q := by rw [hpv3, va_up_ne _ _ (by omega)]; exact e21
    have e42 : pv3 (2 + 3 * n) = ph := by rw [hpv3, va_up_ne _ _ (by omega), hpv2, va_up_self]
    have e43 : pv3 (3 + 3 * n) = len := by rw [hpv3, va_up_self]
    obtain ⟨hk9, ha9⟩ := kpl_0 hP.1 (show A.1 3 0 < 4 by omega) hq1.1 hq1.2 hph1 hlen1.1 hlen1.2.1 hlen1.2.2
    refine lv_aload_n hx hb dL_law_268 rfl (lv_at hl 2 rfl) ?_
    refine lv_iconst (v := nI 0) hx hb dL_law_269 (by decide) ?_
    refine lv_aload_n hx hb dL_law_270 rfl (lv_at hl 3 rfl) ?_
    refine lv_iconst (v := nI 1) hx hb dL_law_271 (by decide) ?_
    refine lv_iconst (v := nI 3) hx hb dL_law_272 (by decide) ?_
    refine lv_iload hx hb dL_law_273 (lv_at hl 0 rfl) ?_
    refine z_imul hx hb dL_law_275 ?_
    refine z_iadd hx hb dL_law_276 ?_
    refine z_iald hC hM (hS.m (by decide) (by decide)) hS.s2 (by omega) (by omega) dL_law_277 ?_
    rw [e41]
    refine lv_aload_n hx hb dL_law_278 rfl (lv_at hl 3 rfl) ?_
    refine lv_iconst (v := nI 2) hx hb dL_law_279 (by decide) ?_
    refine lv_iconst (v := nI 3) hx hb dL_law_280 (by decide) ?_
    refine lv_iload hx hb dL_law_281 (lv_at hl 0 rfl) ?_
    refine z_imul hx hb dL_law_283 ?_
    refine z_iadd hx hb dL_law_284 ?_
    refine z_iald hC hM (hS.m (by decide) (by decide)) hS.s2 (by omega) (by omega) dL_law_285 ?_
    rw [e42]
    refine lv_aload_n hx hb dL_law_286 rfl (lv_at hl 3 rfl) ?_
    refine lv_iconst (v := nI 3) hx hb dL_law_287 (by decide) ?_
    refine lv_iconst (v := nI 3) hx hb dL_law_288 (by decide) ?_
    refine lv_iload hx hb dL_law_289 (lv_at hl 0 rfl) ?_
    refine z_imul hx hb dL_law_291 ?_
    refine z_iadd hx hb dL_law_292 ?_
    refine z_iald hC hM (hS.m (by decide) (by decide)) hS.s2 (by omega) (by omega) dL_law_293 ?_
    rw [e43]
    refine lv_bipush (v := nI 125) hx hb dL_law_294 (by decide) ?_
    refine z_xq (av := #[]) (val := fun r : Int32 => some (.int r)) (post := fun r u => k_planet A (nI 0) (nI q) (nI ph) (nI len) (nI 125) = 0 ∧ r = nI (A.1 3 (iv (nI 0)) + 1) ∧ CR K A ad L f (a_planet A (nI 0) (nI q) (nI ph) (nI len) (nI 125)) u.1 u.2) (z_xrunV hC hM (p_planet hst hS.1 (nI 0) (nI q) (nI ph) (nI len) (nI 125)) zy_X6_planet zm_L_102 (ci_1 hS.1) (cx_at hS.1) zcl_X6 rfl rfl rfl hl.1 (Nat.le_of_ble_eq_true rfl) ⟨by decide, by decide⟩ ⟨by show cl + 0 + 0 + 0 + 12 ≤ 600086; omega, by show sl + 0 + 0 + 0 + 200 ≤ 7301442; omega⟩ dL_law_296) (fun st o t ⟨⟨r, u, h1, h2, h3⟩, h4⟩ => ⟨r, u, h1, h2, h3, h4⟩) hM (fun E ce q9 L1 f1 H locs hp hM _ _ _ => absurd hp.1.1 (by omega)) (fun r L f H locs hp hM => ?_)
    obtain ⟨-, hv9, hCR⟩ := hp
    rw [ha9] at hCR
    obtain ⟨ad, had, hS⟩ := hS.cr hCR
    rw [← had] at hl
    rw [hv9, iv_0, ← hn3]
    refine lv_iload hx hb dL_law_299 (lv_at hl 0 rfl) ?_
    refine lv_iconst (v := nI 1) hx hb dL_law_301 (by decide) ?_
    refine z_iadd hx hb dL_law_302 ?_
    refine z_icmp_eq (tgt := 308) hx hb (nI_toInt (by omega)) (nI_toInt (by omega)) dL_law_303 (by decide) (fun c_303 => ?_) (fun c_303 => ?_)
    · refine lv_aload_n hx hb dL_law_308 rfl (lv_at hl 3 rfl) ?_
      refine lv_bipush (v := nI 13) hx hb dL_law_309 (by decide) ?_
      refine lv_iload hx hb dL_law_311 (lv_at hl 0 rfl) ?_
      refine lv_iconst (v := nI 1) hx hb dL_law_313 (by decide) ?_
      refine z_iadd hx hb dL_law_314 ?_
      refine z_iast hC hM (hS.m (by decide) (by decide)) hS.s2 (by omega) (by omega) dL_law_315 (fun H locs hM => ?_)
      obtain ⟨pv4, hpv4⟩ : ∃ g9, g9 = va_up pv3 13 (n + 1) := ⟨_, rfl⟩
      rw [up_nI, ← hpv4] at hM
      have hS := hS.u2 pv4
      generalize va_up f (B 2) (eI K 14 (fun j => nI (pv4 j))) = f at hM hS
      refine lv_goto (tgt := 1167) hx hb dL_law_316 (by decide) ?_
      refine W.widen (k := cl + 40) (n := sl + 2000) (by show cl + 0 + 0 + 0 + 12 ≤ cl + 40; omega) (by show sl + 0 + 0 + 0 + 200 ≤ sl + 2000; omega) ?_
      exact KK _ _ _ _ _ _ _ _ _ _ ⟨pv4, kb, gb, pe, ow, ci, fa, hS, hP.planet h0, by rw [hpv4, hpv3, hpv2, hpv1]; exact hpa.planet hn3 hn4, hkb, hgb, hpe, hpp.congr rfl rfl rfl rfl⟩ (lv_sub hl [1, 2, 3, 4, 5, 6, 7, 8, 9, 10, 11, 12, 13, 14, 15, 16, 17] rfl) hM
    · exact absurd rfl c_303
/-- the rows of light, the class's numbers being one step on -/
theorem LSt.lw2 {K : zK} {A A2 : zA} {B : Nat → Nat} {pv bl kt : Nat → Nat} {kb hb : Nat → Int64} {pe go ow : Nat → Nat} {ci : Nat → Int32} {fa : Nat → Nat} {L : List Nat} {f : Nat → va_E} {ad : Nat → Nat} (h : LSt K A2 B (FF K pv bl kb hb pe go ow ci fa) L f ad) {tm : Nat} (hP : PG A tm bl kt) (hpa : PVA A pv) (hkb : KBok kb kt) (e2 : A2.1 2 = A.1 2) (e3 : A2.1 3 = A.1 3) (e4 : A2.1 4 = A.1 4) (e5 : A2.1 5 = A.1 5) (e6 : A2.1 6 = A.1 6) (hV : VA A) : LW K L f (B 2) (B 3) (B 4) pv bl kb kt := by
  have q2 := h.2.1 2 (by decide) (by decide)
  have q3 := h.2.1 3 (by decide) (by decide)
  have q4 := h.2.1 4 (by decide) (by decide)
  refine ⟨q2.1, q2.2.1, q3.1, q3.2.1, q4.1, q4.2.1, hpa.ok hV hP, hkb, hP.2.2.2.2.2.2.2.2.1, fun j => Nat.lt_trans (hP.2.2.2.2.2.2.1 j) (by decide), ?_⟩
  rw [GL_eq hpa]
  exact GT_GA hV hP
set_option maxHeartbeats 1000000 in
set_option maxRecDepth 100000 in
theorem k_bl {p : Program} {l : Launch} {e : Env} {s : State} {m : MethodId} {below : List Frame} {meth : Method} {c : Code} {K : zK} (hst : l.stackTraces = false) {b L9 : Nat} {xs : Nat → Int32} (hC : zC p s #[Value.ref b] m c cL_law 23 RL s.heap.size K) (hX : va_X b L9 xs s s.heap) (hbl : b < s.heap.size) (hL9 : L9 ≤ 3072) {B : Nat → Nat} {A : zA} {tm : Nat} {bl kt : Nat → Nat} {ad : Nat → Nat} {L : List Nat} {f : Nat → va_E} {H : Heap} {locs : List Loc} {ls : Array Slot} {cl sl tn : Nat} {v w : Int32} (hcl : cl + 200 ≤ 600086) (hsl : sl + 3500 ≤ 7301442) (hI : INV K A B tm bl kt L f ad) (hM : zM s.heap.size K L f s H locs) (htm : tm < 2) (hl : lv_has ls 23 [(0, .ref b), (1, .ref ((ad 1))), (2, .ref ((B 2))), (3, .ref ((B 3))), (4, .ref ((B 4))), (5, .ref ((B 5))), (6, .ref ((B 6))), (7, .ref ((B 7))), (8, .ref ((B 8))), (9, .ref ((B 9))), (10, .ref ((B 10))), (11, .int (nI (nw A))), (12, .int (nI (np A))), (13, .int (nI tm)), (14, .int (nI tn)), (15, .int v), (16, .int w)]) {Q : State → Prop} (KK : ∀ (A : zA) (tm : Nat) (bl kt : Nat → Nat) (ad : Nat → Nat) (L : List Nat) (f : Nat → va_E) (H : Heap) (locs : List Loc) (ls : Array Slot), INV K A B tm bl kt L f ad → lv_has ls 23 [(0, .ref b), (1, .ref ((ad 1))), (2, .ref ((B 2))), (3, .ref ((B 3))), (4, .ref ((B 4))), (5, .ref ((B 5))), (6, .ref ((B 6))), (7, .ref ((B 7))), (8, .ref ((B 8))), (9, .ref ((B 9))), (10, .ref ((B 10))), (11, .int (nI (nw A))), (12, .int (nI (np A))), (13, .int (nI tm)), (14, .int (nI tn)), (15, .int v), (16, .int w)] → zM s.heap.size K L f s H locs → W p l e room_1 s m #[Value.ref b] below meth c H locs (cl + 40) (sl + 2000) Q (F0 m 1167 ls [])) : W p l e room_1 s m #[Value.ref b] below meth c H locs cl sl Q (F0 m 331 ls []) := by
  have hx := hC.1
  have hb := hC.2.1
  have hown := hC.2.2.2.1
  have hts := hC.2.2.2.2.1
  obtain ⟨pv, kb, gb, pe, ow, ci, fa, hS, hP, hpa, hkb, hgb, hpe, hpp⟩ := hI
  have hV : VA A := hS.1.1
  have hb9 := hP.2.2.2.2.2.2.1 tm
  have hq9 := cN_le kt 1 1000 0
  have JOIN354 : ∀ (c9 : Nat) (ls : Array Slot) (H : Heap) (locs : List Loc), c9 < 3000 → lv_has ls 23 [(0, .ref b), (1, .ref ((ad 1))), (2, .ref ((B 2))), (3, .ref ((B 3))), (4, .ref ((B 4))), (5, .ref ((B 5))), (6, .ref ((B 6))), (7, .ref ((B 7))), (8, .ref ((B 8))), (9, .ref ((B 9))), (10, .ref ((B 10))), (11, .int (nI (nw A))), (12, .int (nI (np A))), (13, .int (nI tm)), (14, .int (nI tn)), (15, .int v), (16, .int w)] → zM s.heap.size K L f s H locs → W p l e room_1 s m #[Value.ref b] below meth c H locs cl sl Q (F0 m 354 ls [.int (nI c9)]) := by
    intro c9 ls H locs hc9 hl hM
    refine lv_istore (lv' := [(18, .int (nI c9)), (0, .ref b), (1, .ref ((ad 1))), (2, .ref ((B 2))), (3, .ref ((B 3))), (4, .ref ((B 4))), (5, .ref ((B 5))), (6, .ref ((B 6))), (7, .ref ((B 7))), (8, .ref ((B 8))), (9, .ref ((B 9))), (10, .ref ((B 10))), (11, .int (nI (nw A))), (12, .int (nI (np A))), (13, .int (nI tm)), (14, .int (nI tn)), (15, .int v), (16, .int w)]) hx hb dL_law_354 hl (by decide) rfl (fun ls hl => ?_)
    refine lv_aload_n hx hb dL_law_356 rfl (lv_at hl 2 rfl) ?_
    refine lv_iconst (v := nI 0) hx hb dL_law_357 (by decide) ?_
    refine lv_iconst (v := nI 4) hx hb dL_law_358 (by decide) ?_
    refine lv_iload hx hb dL_law_359 (lv_at hl 17 rfl) ?_
    refine lv_bipush (v := nI 57) hx hb dL_law_361 (by decide) ?_
    refine z_fcalli (z_runS hC hM (c_low w 57 (by decide) (by decide)) zy_L_low zm_L_64 rfl rfl hl.1 (Nat.le_of_ble_eq_true rfl) ⟨by decide, by decide⟩ ⟨by show cl + 0 ≤ 600086; omega, by show sl + 0 ≤ 7301442; omega⟩ dL_law_363) hM (fun H locs hM => ?_)
    have hlo3 := lowN_lt (v := w) (n := 57) (by decide)
    refine z_iadd hx hb dL_law_366 ?_
    obtain ⟨sp, hsp⟩ : ∃ x, x = 4 + lowN w 57 := ⟨_, rfl⟩
    rw [← hsp]
    obtain ⟨hk8, ha8⟩ := ksp_0 (sp := sp) hP.1 (by omega) (by omega)
    have hP2 := hP.spots (sp := sp)
    obtain ⟨hk9, ha9⟩ := kbl_0 (A := (stA A 0 sp 0 (A.1 10 0))) (c := c9) hP2.1 hc9
    refine lv_iconst (v := nI 0) hx hb dL_law_367 (by decide) ?_
    refine z_xq (av := #[]) (val := fun r : Int32 => some (.int r)) (post := fun r u => k_spots A (nI 0) (nI sp) (nI 0) = 0 ∧ r = nI (A.1 9 (iv (nI 0))) ∧ CR K A ad L f (a_spots A (nI 0) (nI sp) (nI 0)) u.1 u.2) (z_xrunV hC hM (p_spots hst hS.1 (nI 0) (nI sp) (nI 0)) zy_X6_spots zm_L_106 (ci_1 hS.1) (cx_at hS.1) zcl_X6 rfl rfl rfl hl.1 (Nat.le_of_ble_eq_true rfl) ⟨by decide, by decide⟩ ⟨by show cl + 0 + 3 ≤ 600086; omega, by show sl + 0 + 18 ≤ 7301442; omega⟩ dL_law_368) (fun st o t ⟨⟨r, u, h1, h2, h3⟩, h4⟩ => ⟨r, u, h1, h2, h3, h4⟩) hM (fun E ce q9 L1 f1 H locs hp hM _ _ _ => absurd hp.1.1 (by omega)) (fun r L f H locs hp hM => ?_)
    obtain ⟨-, hv9, hCR⟩ := hp
    rw [ha8] at hCR
    obtain ⟨ad, had, hS⟩ := hS.cr hCR
    rw [← had] at hl
    rw [hv9, iv_0, hP.2.2.2.1]
    refine z_if_ne (tgt := 388) hx hb (nI_toInt (by decide)) dL_law_371 (by decide) (fun c_371 => ?_) (fun c_371 => ?_)
    · exact absurd c_371 (by omega)
    · refine lv_aload_n hx hb dL_law_374 rfl (lv_at hl 2 rfl) ?_
      refine lv_iconst (v := nI 0) hx hb dL_law_375 (by decide) ?_
      refine lv_iload hx hb dL_law_376 (lv_at hl 0 rfl) ?_
      refine z_xq (av := #[]) (val := fun r : Int32 => some (.int r)) (post := fun r u => k_blend (stA A 0 sp 0 (A.1 10 0)) (nI 0) (nI c9) = 0 ∧ r = nI (((stA A 0 sp 0 (A.1 10 0))).1 10 (iv (nI 0))) ∧ CR K ((stA A 0 sp 0 (A.1 10 0))) ad L f (a_blend (stA A 0 sp 0 (A.1 10 0)) (nI 0) (nI c9)) u.1 u.2) (z_xrunV hC hM (p_blend hst hS.1 (nI 0) (nI c9)) zy_X6_blend zm_L_110 (ci_1 hS.1) (cx_at hS.1) zcl_X6 rfl rfl rfl hl.1 (Nat.le_of_ble_eq_true rfl) ⟨by decide, by decide⟩ ⟨by show cl + 0 + 3 + 2 ≤ 600086; omega, by show sl + 0 + 18 + 12 ≤ 7301442; omega⟩ dL_law_378) (fun st o t ⟨⟨r, u, h1, h2, h3⟩, h4⟩ => ⟨r, u, h1, h2, h3, h4⟩) hM (fun E ce q9 L1 f1 H locs hp hM _ _ _ => absurd hp.1.1 (by omega)) (fun r L f H locs hp hM => ?_)
      obtain ⟨-, hv9, hCR⟩ := hp
      rw [ha9] at hCR
      obtain ⟨ad, had, hS⟩ := hS.cr hCR
      rw [← had] at hl
      rw [hv9, iv_0, hP2.2.2.2.2.2.1]
      refine lv_aload_n hx hb dL_law_381 rfl (lv_at hl 4 rfl) ?_
      refine lv_iload hx hb dL_law_382 (lv_at hl 14 rfl) ?_
      refine z_iald hC hM (hS.m (by decide) (by decide)) hS.s3 (by omega) (by omega) dL_law_384 ?_
      refine z_icmp_eq (tgt := 390) hx hb (nI_toInt (by omega)) (nI_toInt (by omega)) dL_law_385 (by decide) (fun c_385 => ?_) (fun c_385 => ?_)
      · refine lv_aload hx hb dL_law_390 (lv_at hl 5 rfl) ?_
        refine lv_iconst (v := nI 0) hx hb dL_law_392 (by decide) ?_
        refine lv_iconst (v := nI 1) hx hb dL_law_393 (by decide) ?_
        refine z_fcalli (z_runS hC hM (m_many (hS.lw2 hP hpa hkb rfl rfl rfl rfl rfl hV) 0 1 (by decide) (by decide)) zy_L_many zm_L_48 rfl rfl hl.1 (Nat.le_of_ble_eq_true rfl) ⟨by decide, by decide⟩ ⟨by show cl + 0 + 3 + 2 + 0 ≤ 600086; omega, by show sl + 0 + 18 + 12 + 0 ≤ 7301442; omega⟩ dL_law_394) hM (fun H locs hM => ?_)
        refine z_if_le (tgt := 403) hx hb (nI_toInt (by omega)) dL_law_397 (by decide) (fun c_397 => ?_) (fun c_397 => ?_)
        · refine lv_aload_n hx hb dL_law_403 rfl (lv_at hl 4 rfl) ?_
          refine lv_iload hx hb dL_law_404 (lv_at hl 14 rfl) ?_
          refine lv_iload hx hb dL_law_406 (lv_at hl 0 rfl) ?_
          refine z_iast hC hM (hS.m (by decide) (by decide)) hS.s3 (by omega) (by omega) dL_law_408 (fun H locs hM => ?_)
          obtain ⟨bl9, hbl9⟩ : ∃ g9, g9 = va_up bl tm c9 := ⟨_, rfl⟩
          rw [up_nI, ← hbl9] at hM
          have hS := hS.u3 bl9
          generalize va_up f (B 3) (eI K 3 (fun j => nI (bl9 j))) = f at hM hS
          refine lv_goto (tgt := 1167) hx hb dL_law_409 (by decide) ?_
          refine W.widen (k := cl + 40) (n := sl + 2000) (by show cl + 0 + 3 + 2 + 0 ≤ cl + 40; omega) (by show sl + 0 + 18 + 12 + 0 ≤ sl + 2000; omega) ?_
          exact KK _ _ _ _ _ _ _ _ _ _ ⟨pv, kb, gb, pe, ow, ci, fa, hS, by rw [hbl9]; exact hP2.blend hc9 (Or.inr ⟨by show cN kt 1 1000 0 = 0; omega, rfl⟩), hpa.congr (fun k hk => by rcases hk with h | h | h | h | h <;> subst h <;> rfl), hkb, hgb, hpe, hpp.congr rfl rfl rfl rfl⟩ (lv_sub hl [1, 2, 3, 4, 5, 6, 7, 8, 9, 10, 11, 12, 13, 14, 15, 16, 17] rfl) hM
        · refine lv_iinc (v := nI (tm + 1)) (lv' := [(13, .int (nI (tm + 1))), (18, .int (nI c9)), (0, .ref b), (1, .ref ((ad 1))), (2, .ref ((B 2))), (3, .ref ((B 3))), (4, .ref ((B 4))), (5, .ref ((B 5))), (6, .ref ((B 6))), (7, .ref ((B 7))), (8, .ref ((B 8))), (9, .ref ((B 9))), (10, .ref ((B 10))), (11, .int (nI (nw A))), (12, .int (nI (np A))), (14, .int (nI tn)), (15, .int v), (16, .int w)]) hx hb dL_law_400 hl (k := 14) rfl (nI_add tm 1) (by decide) rfl (fun ls hl => ?_)
          refine lv_aload_n hx hb dL_law_403 rfl (lv_at hl 5 rfl) ?_
          refine lv_iload hx hb dL_law_404 (lv_at hl 0 rfl) ?_
          refine lv_iload hx hb dL_law_406 (lv_at hl 1 rfl) ?_
          refine z_iast hC hM (hS.m (by decide) (by decide)) hS.s3 (by omega) (by omega) dL_law_408 (fun H locs hM => ?_)
          obtain ⟨bl9, hbl9⟩ : ∃ g9, g9 = va_up bl (tm + 1) c9 := ⟨_, rfl⟩
          rw [up_nI, ← hbl9] at hM
          have hS := hS.u3 bl9
          generalize va_up f (B 3) (eI K 3 (fun j => nI (bl9 j))) = f at hM hS
          refine lv_goto (tgt := 1167) hx hb dL_law_409 (by decide) ?_
          refine W.widen (k := cl + 40) (n := sl + 2000) (by show cl + 0 + 3 + 2 + 0 ≤ cl + 40; omega) (by show sl + 0 + 18 + 12 + 0 ≤ sl + 2000; omega) ?_
          exact KK _ _ _ _ _ _ _ _ _ _ ⟨pv, kb, gb, pe, ow, ci, fa, hS, by rw [hbl9]; exact hP2.blend hc9 (Or.inl ⟨by show 0 < cN kt 1 1000 0; omega, htm, rfl⟩), hpa.congr (fun k hk => by rcases hk with h | h | h | h | h <;> subst h <;> rfl), hkb, hgb, hpe, hpp.congr rfl rfl rfl rfl⟩ (lv_sub hl [2, 3, 4, 5, 6, 7, 8, 9, 10, 11, 12, 13, 14, 0, 15, 16, 17] rfl) hM
      · exact absurd rfl c_385
  refine lv_iload hx hb dL_law_331 (lv_at hl 16 rfl) ?_
  refine lv_iconst (v := nI 3) hx hb dL_law_333 (by decide) ?_
  refine z_fcalli (z_runS hC hM (c_low w 3 (by decide) (by decide)) zy_L_low zm_L_64 rfl rfl hl.1 (Nat.le_of_ble_eq_true rfl) ⟨by decide, by decide⟩ ⟨by show cl + 0 ≤ 600086; omega, by show sl + 0 ≤ 7301442; omega⟩ dL_law_334) hM (fun H locs hM => ?_)
  have hlo1 := lowN_lt (v := w) (n := 3) (by decide)
  refine z_if_ne (tgt := 344) hx hb (nI_toInt (by omega)) dL_law_337 (by decide) (fun c_337 => ?_) (fun c_337 => ?_)
  · refine lv_iload hx hb dL_law_344 (lv_at hl 16 rfl) ?_
    refine lv_iconst (v := nI 3) hx hb dL_law_346 (by decide) ?_
    refine lv_ishr hx hb dL_law_347 ?_
    refine lv_sipush (v := nI 3000) hx hb dL_law_348 (by decide) ?_
    refine z_fcalli (z_runS hC hM (c_low ((w >>> (nI 3 &&& 31))) 3000 (by decide) (by decide)) zy_L_low zm_L_64 rfl rfl hl.1 (Nat.le_of_ble_eq_true rfl) ⟨by decide, by decide⟩ ⟨by show cl + 0 + 0 ≤ 600086; omega, by show sl + 0 + 0 ≤ 7301442; omega⟩ dL_law_351) hM (fun H locs hM => ?_)
    have hlo2 := lowN_lt (v := (w >>> (nI 3 &&& 31))) (n := 3000) (by decide)
    refine W.widen (k := cl) (n := sl) (by show cl + 0 + 0 ≤ cl; omega) (by show sl + 0 + 0 ≤ sl; omega) ?_
    exact JOIN354 (lowN ((w >>> (nI 3 &&& 31))) 3000) ls H locs (by omega) (lv_sub hl [0, 1, 2, 3, 4, 5, 6, 7, 8, 9, 10, 11, 12, 13, 14, 15, 16] rfl) hM
  · refine lv_iconst (v := nI 0) hx hb dL_law_340 (by decide) ?_
    refine lv_goto (tgt := 354) hx hb dL_law_341 (by decide) ?_
    refine W.widen (k := cl) (n := sl) (by show cl + 0 ≤ cl; omega) (by show sl + 0 ≤ sl; omega) ?_
    exact JOIN354 0 ls H locs (by omega) (lv_sub hl [0, 1, 2, 3, 4, 5, 6, 7, 8, 9, 10, 11, 12, 13, 14, 15, 16] rfl) hM
