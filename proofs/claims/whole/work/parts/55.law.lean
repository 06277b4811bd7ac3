/-! THE LAW'S CASES (rows laid by wip/whole/law2.py) -/
set_option maxHeartbeats 1000000 in
set_option maxRecDepth 100000 in
theorem k9_star {p : Program} {l : Launch} {e : Env} {s : State} {m : MethodId} {below : List Frame} {meth : Method} {c : Code} {K : zK} (hst : l.stackTraces = false) {b L9 q : Nat} {xs : Nat → Int32} (hC : zC p s #[Value.ref b] m c cL_law 8 RL s.heap.size K) (hX : va_X b L9 xs s s.heap) (hbl : b < s.heap.size) (hq : 6 * q + 6 ≤ L9) (hL9 : L9 ≤ 3072) {A : zA} {ad ma : Nat → Nat} {oa : Nat} {t : Int32} {L : List Nat} {f : Nat → va_E} {H : Heap} {locs : List Loc} {ls : Array Slot} (hJ : JI K L f A ad ma oa t) (hM : zM s.heap.size K L f s H locs) (hl : lv_has ls 8 [(4, .int (nI (6 * q))), (0, .ref b), (1, .ref (ad 1)), (2, .ref (ma 0)), (3, .ref oa)]) {Q : State → Prop} (KK : ∀ (A : zA) (ad : Nat → Nat) (t : Int32) (L : List Nat) (f : Nat → va_E) (H : Heap) (locs : List Loc) (ls : Array Slot), JI K L f A ad ma oa t → lv_has ls 8 [(4, .int (nI (6 * q))), (0, .ref b), (1, .ref (ad 1)), (2, .ref (ma 0)), (3, .ref oa)] → zM s.heap.size K L f s H locs → W p l e room_1 s m #[Value.ref b] below meth c H locs (40 + 12 * q + 12) (15000 + 1200 * q + 1200) Q (F0 m 1439 ls [])) : W p l e room_1 s m #[Value.ref b] below meth c H locs (40 + 12 * q) (15000 + 1200 * q) Q (F0 m 132 ls []) := by
  have hx := hC.1
  have hb := hC.2.1
  have hml := hC.2.2.1
  have hown := hC.2.2.2.1
  have hts := hC.2.2.2.2.1
  obtain ⟨g0, hfo⟩ := hJ.2.2.2.1
  refine lv_aload_n hx hb dL_law_132 rfl (lv_at hl 2 rfl) ?_
  refine lv_aload_n hx hb dL_law_133 rfl (lv_at hl 1 rfl) ?_
  refine lv_iload hx hb dL_law_134 (lv_at hl 0 rfl) ?_
  refine lv_iconst (v := nI 1) hx hb dL_law_136 (by decide) ?_
  refine z_iadd hx hb dL_law_137 ?_
  refine z_sld hC hM hX hbl (show (6 * q) + 1 < L9 by omega) hL9 dL_law_138 ?_
  refine lv_aload_n hx hb dL_law_139 rfl (lv_at hl 4 rfl) ?_
  refine z_xq (av := #[]) (val := fun r : Int32 => some (.int r)) (post := fun r u => r = nI (k_star A (xs (6 * q + 1))) ∧ WR K A ad L f (a_star A (xs (6 * q + 1))) oa (k_star A (xs (6 * q + 1))) ((nI (ns A)).toInt64) u.1 u.2) (z_xrunSH hC hM (w_star hst hJ.1 hJ.2.2.1 hfo (fun u hu => (hJ.2.2.2.2.1 u hu).1) (xs (6 * q + 1))) zyH_star zm_L_82 rfl rfl hl.1 (Nat.le_of_ble_eq_true rfl) ⟨by decide, by decide⟩ ⟨by show 40 + 12 * q + 12 ≤ 601024; omega, by show 15000 + 1200 * q + 1200 ≤ 7293034; omega⟩ dL_law_140) (fun st o t ⟨⟨r, u, h1, h2, h3⟩, h4⟩ => ⟨r, u, h1, h2, h3, h4⟩) hM (fun E ce q9 L1 f1 H locs hp hM _ _ _ => hp.elim) (fun r L1 f1 H locs hp hM => ?_)
  obtain ⟨rfl, hWR⟩ := hp
  obtain ⟨ad2, had, hJM⟩ := hJ.w hWR
  obtain ⟨x7, op7, -, hc7⟩ := hJM.2.1.2.2
  have hk3 := k_le_star A (xs (6 * q + 1))
  refine lv_istore (lv' := [(5, .int (nI (k_star A (xs (6 * q + 1))))), (4, .int (nI (6 * q))), (0, .ref b), (1, .ref ((ad 1))), (2, .ref ((ma 0))), (3, .ref oa)]) hx hb dL_law_143 hl (by decide) rfl (fun ls hl => ?_)
  refine lv_aload_n hx hb dL_law_145 rfl (lv_at hl 4 rfl) ?_
  refine lv_aload_n hx hb dL_law_146 rfl (lv_at hl 2 rfl) ?_
  refine lv_iload hx hb dL_law_147 (lv_at hl 1 rfl) ?_
  refine lv_iconst (v := nI 1) hx hb dL_law_149 (by decide) ?_
  refine z_iadd hx hb dL_law_150 ?_
  refine z_sld hC hM hX hbl (show (6 * q) + 1 < L9 by omega) hL9 dL_law_151 ?_
  refine z_calli (z_runV hC hM (m_star hJ.1.1 hJM.2.1 (xs (6 * q + 1))) zy_X7_star zm_L_87 (hJM.2.1.1 0 (by decide)) (hc7 0 (by decide)) zcl_X7 rfl rfl rfl hl.1 (Nat.le_of_ble_eq_true rfl) ⟨by decide, by decide⟩ ⟨by show 40 + 12 * q + 12 + 0 ≤ 601024; omega, by show 15000 + 1200 * q + 1200 + 0 ≤ 7293034; omega⟩ dL_law_152) hM (fun r L2 f2 H locs hp hM => ?_)
  obtain ⟨hr9, hMR⟩ := hp
  obtain ⟨e9, hJ2, g9, hgo, hg9⟩ := hJM.m hMR
  have e9 := e9.symm
  subst e9
  obtain ⟨x8, op8, -, hc8⟩ := hJ2.2.1.2.2
  refine lv_istore (lv' := [(6, .int r), (5, .int (nI (k_star A (xs (6 * q + 1))))), (4, .int (nI (6 * q))), (0, .ref b), (1, .ref ((ad 1))), (2, .ref ((ma 0))), (3, .ref oa)]) hx hb dL_law_155 hl (by decide) rfl (fun ls hl => ?_)
  refine lv_aload_n hx hb dL_law_157 rfl (lv_at hl 5 rfl) ?_
  refine z_fcalli (z_runV hC hM (c_thrown hJ2.1.1 hJ2.2.1) zy_X7_thrown zm_L_88 (hJ2.2.1.1 0 (by decide)) (hc8 0 (by decide)) zcl_X7 rfl rfl rfl hl.1 (Nat.le_of_ble_eq_true rfl) ⟨by decide, by decide⟩ ⟨by show 40 + 12 * q + 12 + 0 + 0 ≤ 601024; omega, by show 15000 + 1200 * q + 1200 + 0 + 0 ≤ 7293034; omega⟩ dL_law_158) hM (fun H locs hM => ?_)
  refine lv_iload hx hb dL_law_161 (lv_at hl 1 rfl) ?_
  refine z_icmp_eq (tgt := 168) hx hb (nI_toInt (by omega)) (nI_toInt (by omega)) dL_law_163 (by decide) (fun c_163 => ?_) (fun c_163 => ?_)
  · refine lv_iload hx hb dL_law_168 (lv_at hl 1 rfl) ?_
    refine z_if_ne (tgt := 185) hx hb (nI_toInt (by omega)) dL_law_170 (by decide) (fun c_170 => ?_) (fun c_170 => ?_)
    · refine lv_goto (tgt := 1439) hx hb dL_law_185 (by decide) ?_
      refine W.widen (k := 40 + 12 * q + 12) (n := 15000 + 1200 * q + 1200) (show 40 + 12 * q + 12 + 0 + 0 ≤ 40 + 12 * q + 12 from by omega) (show 15000 + 1200 * q + 1200 + 0 + 0 ≤ 15000 + 1200 * q + 1200 from by omega) ?_
      exact KK _ ad2 _ _ f2 H locs ls hJ2 (by rw [had]; exact lv_sub hl [2, 3, 4, 5, 6] rfl) hM
    · refine lv_aload_n hx hb dL_law_173 rfl (lv_at hl 6 rfl) ?_
      refine lv_iconst (v := nI 0) hx hb dL_law_174 (by decide) ?_
      refine z_lald hC hM hJ2.2.2.1 hgo (by omega) (by omega) dL_law_175 ?_
      refine lv_iload hx hb dL_law_176 (lv_at hl 0 rfl) ?_
      refine lv_i2l (v := r.toInt64) hx hb dL_law_178 rfl ?_
      have hk0 : k_star A (xs (6 * q + 1)) = 0 := by omega
      rw [show g9 0 = r.toInt64 from (hg9 hk0).trans (by rw [hr9 hk0])]
      refine W.lcmp hx hb dL_law_179 ?_
      rw [lg_self]
      refine z_if_eq (tgt := 185) hx hb (nI_toInt (by decide)) dL_law_180 (by decide) (fun c_180 => ?_) (fun c_180 => ?_)
      · refine lv_goto (tgt := 1439) hx hb dL_law_185 (by decide) ?_
        refine W.widen (k := 40 + 12 * q + 12) (n := 15000 + 1200 * q + 1200) (show 40 + 12 * q + 12 + 0 + 0 ≤ 40 + 12 * q + 12 from by omega) (show 15000 + 1200 * q + 1200 + 0 + 0 ≤ 15000 + 1200 * q + 1200 from by omega) ?_
        exact KK _ ad2 _ _ f2 H locs ls hJ2 (by rw [had]; exact lv_sub hl [2, 3, 4, 5, 6] rfl) hM
      · exact absurd c_180 (by omega)
  · exact absurd rfl c_163
set_option maxHeartbeats 1000000 in
set_option maxRecDepth 100000 in
theorem k9_planet {p : Program} {l : Launch} {e : Env} {s : State} {m : MethodId} {below : List Frame} {meth : Method} {c : Code} {K : zK} (hst : l.stackTraces = false) {b L9 q : Nat} {xs : Nat → Int32} (hC : zC p s #[Value.ref b] m c cL_law 8 RL s.heap.size K) (hX : va_X b L9 xs s s.heap) (hbl : b < s.heap.size) (hq : 6 * q + 6 ≤ L9) (hL9 : L9 ≤ 3072) {A : zA} {ad ma : Nat → Nat} {oa : Nat} {t : Int32} {L : List Nat} {f : Nat → va_E} {H : Heap} {locs : List Loc} {ls : Array Slot} (hJ : JI K L f A ad ma oa t) (hM : zM s.heap.size K L f s H locs) (hl : lv_has ls 8 [(4, .int (nI (6 * q))), (0, .ref b), (1, .ref (ad 1)), (2, .ref (ma 0)), (3, .ref oa)]) {Q : State → Prop} (KK : ∀ (A : zA) (ad : Nat → Nat) (t : Int32) (L : List Nat) (f : Nat → va_E) (H : Heap) (locs : List Loc) (ls : Array Slot), JI K L f A ad ma oa t → lv_has ls 8 [(4, .int (nI (6 * q))), (0, .ref b), (1, .ref (ad 1)), (2, .ref (ma 0)), (3, .ref oa)] → zM s.heap.size K L f s H locs → W p l e room_1 s m #[Value.ref b] below meth c H locs (40 + 12 * q + 12) (15000 + 1200 * q + 1200) Q (F0 m 1439 ls [])) : W p l e room_1 s m #[Value.ref b] below meth c H locs (40 + 12 * q) (15000 + 1200 * q) Q (F0 m 188 ls []) := by
  have hx := hC.1
  have hb := hC.2.1
  have hml := hC.2.2.1
  have hown := hC.2.2.2.1
  have hts := hC.2.2.2.2.1
  obtain ⟨g0, hfo⟩ := hJ.2.2.2.1
  refine lv_aload_n hx hb dL_law_188 rfl (lv_at hl 2 rfl) ?_
  refine lv_aload_n hx hb dL_law_189 rfl (lv_at hl 1 rfl) ?_
  refine lv_iload hx hb dL_law_190 (lv_at hl 0 rfl) ?_
  refine lv_iconst (v := nI 1) hx hb dL_law_192 (by decide) ?_
  refine z_iadd hx hb dL_law_193 ?_
  refine z_sld hC hM hX hbl (show (6 * q) + 1 < L9 by omega) hL9 dL_law_194 ?_
  refine lv_aload_n hx hb dL_law_195 rfl (lv_at hl 1 rfl) ?_
  refine lv_iload hx hb dL_law_196 (lv_at hl 0 rfl) ?_
  refine lv_iconst (v := nI 2) hx hb dL_law_198 (by decide) ?_
  refine z_iadd hx hb dL_law_199 ?_
  refine z_sld hC hM hX hbl (show (6 * q) + 2 < L9 by omega) hL9 dL_law_200 ?_
  refine lv_aload_n hx hb dL_law_201 rfl (lv_at hl 1 rfl) ?_
  refine lv_iload hx hb dL_law_202 (lv_at hl 0 rfl) ?_
  refine lv_iconst (v := nI 3) hx hb dL_law_204 (by decide) ?_
  refine z_iadd hx hb dL_law_205 ?_
  refine z_sld hC hM hX hbl (show (6 * q) + 3 < L9 by omega) hL9 dL_law_206 ?_
  refine lv_aload_n hx hb dL_law_207 rfl (lv_at hl 1 rfl) ?_
  refine lv_iload hx hb dL_law_208 (lv_at hl 0 rfl) ?_
  refine lv_iconst (v := nI 4) hx hb dL_law_210 (by decide) ?_
  refine z_iadd hx hb dL_law_211 ?_
  refine z_sld hC hM hX hbl (show (6 * q) + 4 < L9 by omega) hL9 dL_law_212 ?_
  refine lv_aload_n hx hb dL_law_213 rfl (lv_at hl 1 rfl) ?_
  refine lv_iload hx hb dL_law_214 (lv_at hl 0 rfl) ?_
  refine lv_iconst (v := nI 5) hx hb dL_law_216 (by decide) ?_
  refine z_iadd hx hb dL_law_217 ?_
  refine z_sld hC hM hX hbl (show (6 * q) + 5 < L9 by omega) hL9 dL_law_218 ?_
  refine lv_aload_n hx hb dL_law_219 rfl (lv_at hl 4 rfl) ?_
  refine z_xq (av := #[]) (val := fun r : Int32 => some (.int r)) (post := fun r u => r = nI (k_planet A (xs (6 * q + 1)) (xs (6 * q + 2)) (xs (6 * q + 3)) (xs (6 * q + 4)) (xs (6 * q + 5))) ∧ WR K A ad L f (a_planet A (xs (6 * q + 1)) (xs (6 * q + 2)) (xs (6 * q + 3)) (xs (6 * q + 4)) (xs (6 * q + 5))) oa (k_planet A (xs (6 * q + 1)) (xs (6 * q + 2)) (xs (6 * q + 3)) (xs (6 * q + 4)) (xs (6 * q + 5))) ((nI (A.1 3 (iv (xs (6 * q + 1))) + 1)).toInt64) u.1 u.2) (z_xrunSH hC hM (w_planet hst hJ.1 hJ.2.2.1 hfo (fun u hu => (hJ.2.2.2.2.1 u hu).1) (xs (6 * q + 1)) (xs (6 * q + 2)) (xs (6 * q + 3)) (xs (6 * q + 4)) (xs (6 * q + 5))) zyH_planet zm_L_92 rfl rfl hl.1 (Nat.le_of_ble_eq_true rfl) ⟨by decide, by decide⟩ ⟨by show 40 + 12 * q + 12 ≤ 601024; omega, by show 15000 + 1200 * q + 200 ≤ 7293034; omega⟩ dL_law_220) (fun st o t ⟨⟨r, u, h1, h2, h3⟩, h4⟩ => ⟨r, u, h1, h2, h3, h4⟩) hM (fun E ce q9 L1 f1 H locs hp hM _ _ _ => hp.elim) (fun r L1 f1 H locs hp hM => ?_)
  obtain ⟨rfl, hWR⟩ := hp
  obtain ⟨ad2, had, hJM⟩ := hJ.w hWR
  obtain ⟨x7, op7, -, hc7⟩ := hJM.2.1.2.2
  have hk3 := k_le_planet A (xs (6 * q + 1)) (xs (6 * q + 2)) (xs (6 * q + 3)) (xs (6 * q + 4)) (xs (6 * q + 5))
  refine lv_istore (lv' := [(5, .int (nI (k_planet A (xs (6 * q + 1)) (xs (6 * q + 2)) (xs (6 * q + 3)) (xs (6 * q + 4)) (xs (6 * q + 5))))), (4, .int (nI (6 * q))), (0, .ref b), (1, .ref ((ad 1))), (2, .ref ((ma 0))), (3, .ref oa)]) hx hb dL_law_223 hl (by decide) rfl (fun ls hl => ?_)
  refine lv_aload_n hx hb dL_law_225 rfl (lv_at hl 4 rfl) ?_
  refine lv_aload_n hx hb dL_law_226 rfl (lv_at hl 2 rfl) ?_
  refine lv_iload hx hb dL_law_227 (lv_at hl 1 rfl) ?_
  refine lv_iconst (v := nI 1) hx hb dL_law_229 (by decide) ?_
  refine z_iadd hx hb dL_law_230 ?_
  refine z_sld hC hM hX hbl (show (6 * q) + 1 < L9 by omega) hL9 dL_law_231 ?_
  refine lv_aload_n hx hb dL_law_232 rfl (lv_at hl 2 rfl) ?_
  refine lv_iload hx hb dL_law_233 (lv_at hl 1 rfl) ?_
  refine lv_iconst (v := nI 2) hx hb dL_law_235 (by decide) ?_
  refine z_iadd hx hb dL_law_236 ?_
  refine z_sld hC hM hX hbl (show (6 * q) + 2 < L9 by omega) hL9 dL_law_237 ?_
  refine lv_aload_n hx hb dL_law_238 rfl (lv_at hl 2 rfl) ?_
  refine lv_iload hx hb dL_law_239 (lv_at hl 1 rfl) ?_
  refine lv_iconst (v := nI 3) hx hb dL_law_241 (by decide) ?_
  refine z_iadd hx hb dL_law_242 ?_
  refine z_sld hC hM hX hbl (show (6 * q) + 3 < L9 by omega) hL9 dL_law_243 ?_
  refine lv_aload_n hx hb dL_law_244 rfl (lv_at hl 2 rfl) ?_
  refine lv_iload hx hb dL_law_245 (lv_at hl 1 rfl) ?_
  refine lv_iconst (v := nI 4) hx hb dL_law_247 (by decide) ?_
  refine z_iadd hx hb dL_law_248 ?_
  refine z_sld hC hM hX hbl (show (6 * q) + 4 < L9 by omega) hL9 dL_law_249 ?_
  refine lv_aload_n hx hb dL_law_250 rfl (lv_at hl 2 rfl) ?_
  refine lv_iload hx hb dL_law_251 (lv_at hl 1 rfl) ?_
  refine lv_iconst (v := nI 5) hx hb dL_law_253 (by decide) ?_
  refine z_iadd hx hb dL_law_254 ?_
  refine z_sld hC hM hX hbl (show (6 * q) + 5 < L9 by omega) hL9 dL_law_255 ?_
  refine z_calli (z_runV hC hM (m_planet hJ.1.1 hJM.2.1 (xs (6 * q + 1)) (xs (6 * q + 2)) (xs (6 * q + 3)) (xs (6 * q + 4)) (xs (6 * q + 5))) zy_X7_planet zm_L_95 (hJM.2.1.1 0 (by decide)) (hc7 0 (by decide)) zcl_X7 rfl rfl rfl hl.1 (Nat.le_of_ble_eq_true rfl) ⟨by decide, by decide⟩ ⟨by show 40 + 12 * q + 12 + 0 ≤ 601024; omega, by show 15000 + 1200 * q + 200 + 0 ≤ 7293034; omega⟩ dL_law_256) hM (fun r L2 f2 H locs hp hM => ?_)
  obtain ⟨hr9, hMR⟩ := hp
  obtain ⟨e9, hJ2, g9, hgo, hg9⟩ := hJM.m hMR
  have e9 := e9.symm
  subst e9
  obtain ⟨x8, op8, -, hc8⟩ := hJ2.2.1.2.2
  refine lv_istore (lv' := [(6, .int r), (5, .int (nI (k_planet A (xs (6 * q + 1)) (xs (6 * q + 2)) (xs (6 * q + 3)) (xs (6 * q + 4)) (xs (6 * q + 5))))), (4, .int (nI (6 * q))), (0, .ref b), (1, .ref ((ad 1))), (2, .ref ((ma 0))), (3, .ref oa)]) hx hb dL_law_259 hl (by decide) rfl (fun ls hl => ?_)
  refine lv_aload_n hx hb dL_law_261 rfl (lv_at hl 5 rfl) ?_
  refine z_fcalli (z_runV hC hM (c_thrown hJ2.1.1 hJ2.2.1) zy_X7_thrown zm_L_88 (hJ2.2.1.1 0 (by decide)) (hc8 0 (by decide)) zcl_X7 rfl rfl rfl hl.1 (Nat.le_of_ble_eq_true rfl) ⟨by decide, by decide⟩ ⟨by show 40 + 12 * q + 12 + 0 + 0 ≤ 601024; omega, by show 15000 + 1200 * q + 200 + 0 + 0 ≤ 7293034; omega⟩ dL_law_262) hM (fun H locs hM => ?_)
  refine lv_iload hx hb dL_law_265 (lv_at hl 1 rfl) ?_
  refine z_icmp_eq (tgt := 272) hx hb (nI_toInt (by omega)) (nI_toInt (by omega)) dL_law_267 (by decide) (fun c_267 => ?_) (fun c_267 => ?_)
  · refine lv_iload hx hb dL_law_272 (lv_at hl 1 rfl) ?_
    refine z_if_ne (tgt := 289) hx hb (nI_toInt (by omega)) dL_law_274 (by decide) (fun c_274 => ?_) (fun c_274 => ?_)
    · refine lv_goto (tgt := 1439) hx hb dL_law_289 (by decide) ?_
      refine W.widen (k := 40 + 12 * q + 12) (n := 15000 + 1200 * q + 1200) (show 40 + 12 * q + 12 + 0 + 0 ≤ 40 + 12 * q + 12 from by omega) (show 15000 + 1200 * q + 200 + 0 + 0 ≤ 15000 + 1200 * q + 1200 from by omega) ?_
      exact KK _ ad2 _ _ f2 H locs ls hJ2 (by rw [had]; exact lv_sub hl [2, 3, 4, 5, 6] rfl) hM
    · refine lv_aload_n hx hb dL_law_277 rfl (lv_at hl 6 rfl) ?_
      refine lv_iconst (v := nI 0) hx hb dL_law_278 (by decide) ?_
      refine z_lald hC hM hJ2.2.2.1 hgo (by omega) (by omega) dL_law_279 ?_
      refine lv_iload hx hb dL_law_280 (lv_at hl 0 rfl) ?_
      refine lv_i2l (v := r.toInt64) hx hb dL_law_282 rfl ?_
      have hk0 : k_planet A (xs (6 * q + 1)) (xs (6 * q + 2)) (xs (6 * q + 3)) (xs (6 * q + 4)) (xs (6 * q + 5)) = 0 := by omega
      rw [show g9 0 = r.toInt64 from (hg9 hk0).trans (by rw [hr9 hk0])]
      refine W.lcmp hx hb dL_law_283 ?_
      rw [lg_self]
      refine z_if_eq (tgt := 289) hx hb (nI_toInt (by decide)) dL_law_284 (by decide) (fun c_284 => ?_) (fun c_284 => ?_)
      · refine lv_goto (tgt := 1439) hx hb dL_law_289 (by decide) ?_
        refine W.widen (k := 40 + 12 * q + 12) (n := 15000 + 1200 * q + 1200) (show 40 + 12 * q + 12 + 0 + 0 ≤ 40 + 12 * q + 12 from by omega) (show 15000 + 1200 * q + 200 + 0 + 0 ≤ 15000 + 1200 * q + 1200 from by omega) ?_
        exact KK _ ad2 _ _ f2 H locs ls hJ2 (by rw [had]; exact lv_sub hl [2, 3, 4, 5, 6] rfl) hM
      · exact absurd c_284 (by omega)
  · exact absurd rfl c_267
set_option maxHeartbeats 1000000 in
set_option maxRecDepth 100000 in
theorem k9_spots {p : Program} {l : Launch} {e : Env} {s : State} {m : MethodId} {below : List Frame} {meth : Method} {c : Code} {K : zK} (hst : l.stackTraces = false) {b L9 q : Nat} {xs : Nat → Int32} (hC : zC p s #[Value.ref b] m c cL_law 8 RL s.heap.size K) (hX : va_X b L9 xs s s.heap) (hbl : b < s.heap.size) (hq : 6 * q + 6 ≤ L9) (hL9 : L9 ≤ 3072) {A : zA} {ad ma : Nat → Nat} {oa : Nat} {t : Int32} {L : List Nat} {f : Nat → va_E} {H : Heap} {locs : List Loc} {ls : Array Slot} (hJ : JI K L f A ad ma oa t) (hM : zM s.heap.size K L f s H locs) (hl : lv_has ls 8 [(4, .int (nI (6 * q))), (0, .ref b), (1, .ref (ad 1)), (2, .ref (ma 0)), (3, .ref oa)]) {Q : State → Prop} (KK : ∀ (A : zA) (ad : Nat → Nat) (t : Int32) (L : List Nat) (f : Nat → va_E) (H : Heap) (locs : List Loc) (ls : Array Slot), JI K L f A ad ma oa t → lv_has ls 8 [(4, .int (nI (6 * q))), (0, .ref b), (1, .ref (ad 1)), (2, .ref (ma 0)), (3, .ref oa)] → zM s.heap.size K L f s H locs → W p l e room_1 s m #[Value.ref b] below meth c H locs (40 + 12 * q + 12) (15000 + 1200 * q + 1200) Q (F0 m 1439 ls [])) : W p l e room_1 s m #[Value.ref b] below meth c H locs (40 + 12 * q) (15000 + 1200 * q) Q (F0 m 292 ls []) := by
  have hx := hC.1
  have hb := hC.2.1
  have hml := hC.2.2.1
  have hown := hC.2.2.2.1
  have hts := hC.2.2.2.2.1
  obtain ⟨g0, hfo⟩ := hJ.2.2.2.1
  refine lv_aload_n hx hb dL_law_292 rfl (lv_at hl 2 rfl) ?_
  refine lv_aload_n hx hb dL_law_293 rfl (lv_at hl 1 rfl) ?_
  refine lv_iload hx hb dL_law_294 (lv_at hl 0 rfl) ?_
  refine lv_iconst (v := nI 1) hx hb dL_law_296 (by decide) ?_
  refine z_iadd hx hb dL_law_297 ?_
  refine z_sld hC hM hX hbl (show (6 * q) + 1 < L9 by omega) hL9 dL_law_298 ?_
  refine lv_aload_n hx hb dL_law_299 rfl (lv_at hl 1 rfl) ?_
  refine lv_iload hx hb dL_law_300 (lv_at hl 0 rfl) ?_
  refine lv_iconst (v := nI 2) hx hb dL_law_302 (by decide) ?_
  refine z_iadd hx hb dL_law_303 ?_
  refine z_sld hC hM hX hbl (show (6 * q) + 2 < L9 by omega) hL9 dL_law_304 ?_
  refine lv_aload_n hx hb dL_law_305 rfl (lv_at hl 1 rfl) ?_
  refine lv_iload hx hb dL_law_306 (lv_at hl 0 rfl) ?_
  refine lv_iconst (v := nI 3) hx hb dL_law_308 (by decide) ?_
  refine z_iadd hx hb dL_law_309 ?_
  refine z_sld hC hM hX hbl (show (6 * q) + 3 < L9 by omega) hL9 dL_law_310 ?_
  refine lv_aload_n hx hb dL_law_311 rfl (lv_at hl 4 rfl) ?_
  refine z_xq (av := #[]) (val := fun r : Int32 => some (.int r)) (post := fun r u => r = nI (k_spots A (xs (6 * q + 1)) (xs (6 * q + 2)) (xs (6 * q + 3))) ∧ WR K A ad L f (a_spots A (xs (6 * q + 1)) (xs (6 * q + 2)) (xs (6 * q + 3))) oa (k_spots A (xs (6 * q + 1)) (xs (6 * q + 2)) (xs (6 * q + 3))) ((nI (A.1 9 (iv (xs (6 * q + 1))))).toInt64) u.1 u.2) (z_xrunSH hC hM (w_spots hst hJ.1 hJ.2.2.1 hfo (fun u hu => (hJ.2.2.2.2.1 u hu).1) (xs (6 * q + 1)) (xs (6 * q + 2)) (xs (6 * q + 3))) zyH_spots zm_L_96 rfl rfl hl.1 (Nat.le_of_ble_eq_true rfl) ⟨by decide, by decide⟩ ⟨by show 40 + 12 * q + 3 ≤ 601024; omega, by show 15000 + 1200 * q + 18 ≤ 7293034; omega⟩ dL_law_312) (fun st o t ⟨⟨r, u, h1, h2, h3⟩, h4⟩ => ⟨r, u, h1, h2, h3, h4⟩) hM (fun E ce q9 L1 f1 H locs hp hM _ _ _ => hp.elim) (fun r L1 f1 H locs hp hM => ?_)
  obtain ⟨rfl, hWR⟩ := hp
  obtain ⟨ad2, had, hJM⟩ := hJ.w hWR
  obtain ⟨x7, op7, -, hc7⟩ := hJM.2.1.2.2
  have hk3 := k_le_spots A (xs (6 * q + 1)) (xs (6 * q + 2)) (xs (6 * q + 3))
  refine lv_istore (lv' := [(5, .int (nI (k_spots A (xs (6 * q + 1)) (xs (6 * q + 2)) (xs (6 * q + 3))))), (4, .int (nI (6 * q))), (0, .ref b), (1, .ref ((ad 1))), (2, .ref ((ma 0))), (3, .ref oa)]) hx hb dL_law_315 hl (by decide) rfl (fun ls hl => ?_)
  refine lv_aload_n hx hb dL_law_317 rfl (lv_at hl 4 rfl) ?_
  refine lv_aload_n hx hb dL_law_318 rfl (lv_at hl 2 rfl) ?_
  refine lv_iload hx hb dL_law_319 (lv_at hl 1 rfl) ?_
  refine lv_iconst (v := nI 1) hx hb dL_law_321 (by decide) ?_
  refine z_iadd hx hb dL_law_322 ?_
  refine z_sld hC hM hX hbl (show (6 * q) + 1 < L9 by omega) hL9 dL_law_323 ?_
  refine lv_aload_n hx hb dL_law_324 rfl (lv_at hl 2 rfl) ?_
  refine lv_iload hx hb dL_law_325 (lv_at hl 1 rfl) ?_
  refine lv_iconst (v := nI 2) hx hb dL_law_327 (by decide) ?_
  refine z_iadd hx hb dL_law_328 ?_
  refine z_sld hC hM hX hbl (show (6 * q) + 2 < L9 by omega) hL9 dL_law_329 ?_
  refine lv_aload_n hx hb dL_law_330 rfl (lv_at hl 2 rfl) ?_
  refine lv_iload hx hb dL_law_331 (lv_at hl 1 rfl) ?_
  refine lv_iconst (v := nI 3) hx hb dL_law_333 (by decide) ?_
  refine z_iadd hx hb dL_law_334 ?_
  refine z_sld hC hM hX hbl (show (6 * q) + 3 < L9 by omega) hL9 dL_law_335 ?_
  refine z_calli (z_runV hC hM (m_spots hJ.1.1 hJM.2.1 (xs (6 * q + 1)) (xs (6 * q + 2)) (xs (6 * q + 3))) zy_X7_spots zm_L_99 (hJM.2.1.1 0 (by decide)) (hc7 0 (by decide)) zcl_X7 rfl rfl rfl hl.1 (Nat.le_of_ble_eq_true rfl) ⟨by decide, by decide⟩ ⟨by show 40 + 12 * q + 3 + 0 ≤ 601024; omega, by show 15000 + 1200 * q + 18 + 0 ≤ 7293034; omega⟩ dL_law_336) hM (fun r L2 f2 H locs hp hM => ?_)
  obtain ⟨hr9, hMR⟩ := hp
  obtain ⟨e9, hJ2, g9, hgo, hg9⟩ := hJM.m hMR
  have e9 := e9.symm
  subst e9
  obtain ⟨x8, op8, -, hc8⟩ := hJ2.2.1.2.2
  refine lv_istore (lv' := [(6, .int r), (5, .int (nI (k_spots A (xs (6 * q + 1)) (xs (6 * q + 2)) (xs (6 * q + 3))))), (4, .int (nI (6 * q))), (0, .ref b), (1, .ref ((ad 1))), (2, .ref ((ma 0))), (3, .ref oa)]) hx hb dL_law_339 hl (by decide) rfl (fun ls hl => ?_)
  refine lv_aload_n hx hb dL_law_341 rfl (lv_at hl 5 rfl) ?_
  refine z_fcalli (z_runV hC hM (c_thrown hJ2.1.1 hJ2.2.1) zy_X7_thrown zm_L_88 (hJ2.2.1.1 0 (by decide)) (hc8 0 (by decide)) zcl_X7 rfl rfl rfl hl.1 (Nat.le_of_ble_eq_true rfl) ⟨by decide, by decide⟩ ⟨by show 40 + 12 * q + 3 + 0 + 0 ≤ 601024; omega, by show 15000 + 1200 * q + 18 + 0 + 0 ≤ 7293034; omega⟩ dL_law_342) hM (fun H locs hM => ?_)
  refine lv_iload hx hb dL_law_345 (lv_at hl 1 rfl) ?_
  refine z_icmp_eq (tgt := 352) hx hb (nI_toInt (by omega)) (nI_toInt (by omega)) dL_law_347 (by decide) (fun c_347 => ?_) (fun c_347 => ?_)
  · refine lv_iload hx hb dL_law_352 (lv_at hl 1 rfl) ?_
    refine z_if_ne (tgt := 369) hx hb (nI_toInt (by omega)) dL_law_354 (by decide) (fun c_354 => ?_) (fun c_354 => ?_)
    · refine lv_goto (tgt := 1439) hx hb dL_law_369 (by decide) ?_
      refine W.widen (k := 40 + 12 * q + 12) (n := 15000 + 1200 * q + 1200) (show 40 + 12 * q + 3 + 0 + 0 ≤ 40 + 12 * q + 12 from by omega) (show 15000 + 1200 * q + 18 + 0 + 0 ≤ 15000 + 1200 * q + 1200 from by omega) ?_
      exact KK _ ad2 _ _ f2 H locs ls hJ2 (by rw [had]; exact lv_sub hl [2, 3, 4, 5, 6] rfl) hM
    · refine lv_aload_n hx hb dL_law_357 rfl (lv_at hl 6 rfl) ?_
      refine lv_iconst (v := nI 0) hx hb dL_law_358 (by decide) ?_
      refine z_lald hC hM hJ2.2.2.1 hgo (by omega) (by omega) dL_law_359 ?_
      refine lv_iload hx hb dL_law_360 (lv_at hl 0 rfl) ?_
      refine lv_i2l (v := r.toInt64) hx hb dL_law_362 rfl ?_
      have hk0 : k_spots A (xs (6 * q + 1)) (xs (6 * q + 2)) (xs (6 * q + 3)) = 0 := by omega
      rw [show g9 0 = r.toInt64 from (hg9 hk0).trans (by rw [hr9 hk0])]
      refine W.lcmp hx hb dL_law_363 ?_
      rw [lg_self]
      refine z_if_eq (tgt := 369) hx hb (nI_toInt (by decide)) dL_law_364 (by decide) (fun c_364 => ?_) (fun c_364 => ?_)
      · refine lv_goto (tgt := 1439) hx hb dL_law_369 (by decide) ?_
        refine W.widen (k := 40 + 12 * q + 12) (n := 15000 + 1200 * q + 1200) (show 40 + 12 * q + 3 + 0 + 0 ≤ 40 + 12 * q + 12 from by omega) (show 15000 + 1200 * q + 18 + 0 + 0 ≤ 15000 + 1200 * q + 1200 from by omega) ?_
        exact KK _ ad2 _ _ f2 H locs ls hJ2 (by rw [had]; exact lv_sub hl [2, 3, 4, 5, 6] rfl) hM
      · exact absurd c_364 (by omega)
  · exact absurd rfl c_347
set_option maxHeartbeats 1000000 in
set_option maxRecDepth 100000 in
theorem k9_blend {p : Program} {l : Launch} {e : Env} {s : State} {m : MethodId} {below : List Frame} {meth : Method} {c : Code} {K : zK} (hst : l.stackTraces = false) {b L9 q : Nat} {xs : Nat → Int32} (hC : zC p s #[Value.ref b] m c cL_law 8 RL s.heap.size K) (hX : va_X b L9 xs s s.heap) (hbl : b < s.heap.size) (hq : 6 * q + 6 ≤ L9) (hL9 : L9 ≤ 3072) {A : zA} {ad ma : Nat → Nat} {oa : Nat} {t : Int32} {L : List Nat} {f : Nat → va_E} {H : Heap} {locs : List Loc} {ls : Array Slot} (hJ : JI K L f A ad ma oa t) (hM : zM s.heap.size K L f s H locs) (hl : lv_has ls 8 [(4, .int (nI (6 * q))), (0, .ref b), (1, .ref (ad 1)), (2, .ref (ma 0)), (3, .ref oa)]) {Q : State → Prop} (KK : ∀ (A : zA) (ad : Nat → Nat) (t : Int32) (L : List Nat) (f : Nat → va_E) (H : Heap) (locs : List Loc) (ls : Array Slot), JI K L f A ad ma oa t → lv_has ls 8 [(4, .int (nI (6 * q))), (0, .ref b), (1, .ref (ad 1)), (2, .ref (ma 0)), (3, .ref oa)] → zM s.heap.size K L f s H locs → W p l e room_1 s m #[Value.ref b] below meth c H locs (40 + 12 * q + 12) (15000 + 1200 * q + 1200) Q (F0 m 1439 ls [])) : W p l e room_1 s m #[Value.ref b] below meth c H locs (40 + 12 * q) (15000 + 1200 * q) Q (F0 m 372 ls []) := by
  have hx := hC.1
  have hb := hC.2.1
  have hml := hC.2.2.1
  have hown := hC.2.2.2.1
  have hts := hC.2.2.2.2.1
  obtain ⟨g0, hfo⟩ := hJ.2.2.2.1
  refine lv_aload_n hx hb dL_law_372 rfl (lv_at hl 2 rfl) ?_
  refine lv_aload_n hx hb dL_law_373 rfl (lv_at hl 1 rfl) ?_
  refine lv_iload hx hb dL_law_374 (lv_at hl 0 rfl) ?_
  refine lv_iconst (v := nI 1) hx hb dL_law_376 (by decide) ?_
  refine z_iadd hx hb dL_law_377 ?_
  refine z_sld hC hM hX hbl (show (6 * q) + 1 < L9 by omega) hL9 dL_law_378 ?_
  refine lv_aload_n hx hb dL_law_379 rfl (lv_at hl 1 rfl) ?_
  refine lv_iload hx hb dL_law_380 (lv_at hl 0 rfl) ?_
  refine lv_iconst (v := nI 2) hx hb dL_law_382 (by decide) ?_
  refine z_iadd hx hb dL_law_383 ?_
  refine z_sld hC hM hX hbl (show (6 * q) + 2 < L9 by omega) hL9 dL_law_384 ?_
  refine lv_aload_n hx hb dL_law_385 rfl (lv_at hl 4 rfl) ?_
  refine z_xq (av := #[]) (val := fun r : Int32 => some (.int r)) (post := fun r u => r = nI (k_blend A (xs (6 * q + 1)) (xs (6 * q + 2))) ∧ WR K A ad L f (a_blend A (xs (6 * q + 1)) (xs (6 * q + 2))) oa (k_blend A (xs (6 * q + 1)) (xs (6 * q + 2))) ((nI (A.1 10 (iv (xs (6 * q + 1))))).toInt64) u.1 u.2) (z_xrunSH hC hM (w_blend hst hJ.1 hJ.2.2.1 hfo (fun u hu => (hJ.2.2.2.2.1 u hu).1) (xs (6 * q + 1)) (xs (6 * q + 2))) zyH_blend zm_L_100 rfl rfl hl.1 (Nat.le_of_ble_eq_true rfl) ⟨by decide, by decide⟩ ⟨by show 40 + 12 * q + 2 ≤ 601024; omega, by show 15000 + 1200 * q + 12 ≤ 7293034; omega⟩ dL_law_386) (fun st o t ⟨⟨r, u, h1, h2, h3⟩, h4⟩ => ⟨r, u, h1, h2, h3, h4⟩) hM (fun E ce q9 L1 f1 H locs hp hM _ _ _ => hp.elim) (fun r L1 f1 H locs hp hM => ?_)
  obtain ⟨rfl, hWR⟩ := hp
  obtain ⟨ad2, had, hJM⟩ := hJ.w hWR
  obtain ⟨x7, op7, -, hc7⟩ := hJM.2.1.2.2
  have hk3 := k_le_blend A (xs (6 * q + 1)) (xs (6 * q + 2))
  refine lv_istore (lv' := [(5, .int (nI (k_blend A (xs (6 * q + 1)) (xs (6 * q + 2))))), (4, .int (nI (6 * q))), (0, .ref b), (1, .ref ((ad 1))), (2, .ref ((ma 0))), (3, .ref oa)]) hx hb dL_law_389 hl (by decide) rfl (fun ls hl => ?_)
  refine lv_aload_n hx hb dL_law_391 rfl (lv_at hl 4 rfl) ?_
  refine lv_aload_n hx hb dL_law_392 rfl (lv_at hl 2 rfl) ?_
  refine lv_iload hx hb dL_law_393 (lv_at hl 1 rfl) ?_
  refine lv_iconst (v := nI 1) hx hb dL_law_395 (by decide) ?_
  refine z_iadd hx hb dL_law_396 ?_
  refine z_sld hC hM hX hbl (show (6 * q) + 1 < L9 by omega) hL9 dL_law_397 ?_
  refine lv_aload_n hx hb dL_law_398 rfl (lv_at hl 2 rfl) ?_
  refine lv_iload hx hb dL_law_399 (lv_at hl 1 rfl) ?_
  refine lv_iconst (v := nI 2) hx hb dL_law_401 (by decide) ?_
  refine z_iadd hx hb dL_law_402 ?_
  refine z_sld hC hM hX hbl (show (6 * q) + 2 < L9 by omega) hL9 dL_law_403 ?_
  refine z_calli (z_runV hC hM (m_blend hJ.1.1 hJM.2.1 (xs (6 * q + 1)) (xs (6 * q + 2))) zy_X7_blend zm_L_103 (hJM.2.1.1 0 (by decide)) (hc7 0 (by decide)) zcl_X7 rfl rfl rfl hl.1 (Nat.le_of_ble_eq_true rfl) ⟨by decide, by decide⟩ ⟨by show 40 + 12 * q + 2 + 0 ≤ 601024; omega, by show 15000 + 1200 * q + 12 + 0 ≤ 7293034; omega⟩ dL_law_404) hM (fun r L2 f2 H locs hp hM => ?_)
  obtain ⟨hr9, hMR⟩ := hp
  obtain ⟨e9, hJ2, g9, hgo, hg9⟩ := hJM.m hMR
  have e9 := e9.symm
  subst e9
  obtain ⟨x8, op8, -, hc8⟩ := hJ2.2.1.2.2
  refine lv_istore (lv' := [(6, .int r), (5, .int (nI (k_blend A (xs (6 * q + 1)) (xs (6 * q + 2))))), (4, .int (nI (6 * q))), (0, .ref b), (1, .ref ((ad 1))), (2, .ref ((ma 0))), (3, .ref oa)]) hx hb dL_law_407 hl (by decide) rfl (fun ls hl => ?_)
  refine lv_aload_n hx hb dL_law_409 rfl (lv_at hl 5 rfl) ?_
  refine z_fcalli (z_runV hC hM (c_thrown hJ2.1.1 hJ2.2.1) zy_X7_thrown zm_L_88 (hJ2.2.1.1 0 (by decide)) (hc8 0 (by decide)) zcl_X7 rfl rfl rfl hl.1 (Nat.le_of_ble_eq_true rfl) ⟨by decide, by decide⟩ ⟨by show 40 + 12 * q + 2 + 0 + 0 ≤ 601024; omega, by show 15000 + 1200 * q + 12 + 0 + 0 ≤ 7293034; omega⟩ dL_law_410) hM (fun H locs hM => ?_)
  refine lv_iload hx hb dL_law_413 (lv_at hl 1 rfl) ?_
  refine z_icmp_eq (tgt := 420) hx hb (nI_toInt (by omega)) (nI_toInt (by omega)) dL_law_415 (by decide) (fun c_415 => ?_) (fun c_415 => ?_)
  · refine lv_iload hx hb dL_law_420 (lv_at hl 1 rfl) ?_
    refine z_if_ne (tgt := 437) hx hb (nI_toInt (by omega)) dL_law_422 (by decide) (fun c_422 => ?_) (fun c_422 => ?_)
    · refine lv_goto (tgt := 1439) hx hb dL_law_437 (by decide) ?_
      refine W.widen (k := 40 + 12 * q + 12) (n := 15000 + 1200 * q + 1200) (show 40 + 12 * q + 2 + 0 + 0 ≤ 40 + 12 * q + 12 from by omega) (show 15000 + 1200 * q + 12 + 0 + 0 ≤ 15000 + 1200 * q + 1200 from by omega) ?_
      exact KK _ ad2 _ _ f2 H locs ls hJ2 (by rw [had]; exact lv_sub hl [2, 3, 4, 5, 6] rfl) hM
    · refine lv_aload_n hx hb dL_law_425 rfl (lv_at hl 6 rfl) ?_
      refine lv_iconst (v := nI 0) hx hb dL_law_426 (by decide) ?_
      refine z_lald hC hM hJ2.2.2.1 hgo (by omega) (by omega) dL_law_427 ?_
      refine lv_iload hx hb dL_law_428 (lv_at hl 0 rfl) ?_
      refine lv_i2l (v := r.toInt64) hx hb dL_law_430 rfl ?_
      have hk0 : k_blend A (xs (6 * q + 1)) (xs (6 * q + 2)) = 0 := by omega
      rw [show g9 0 = r.toInt64 from (hg9 hk0).trans (by rw [hr9 hk0])]
      refine W.lcmp hx hb dL_law_431 ?_
      rw [lg_self]
      refine z_if_eq (tgt := 437) hx hb (nI_toInt (by decide)) dL_law_432 (by decide) (fun c_432 => ?_) (fun c_432 => ?_)
      · refine lv_goto (tgt := 1439) hx hb dL_law_437 (by decide) ?_
        refine W.widen (k := 40 + 12 * q + 12) (n := 15000 + 1200 * q + 1200) (show 40 + 12 * q + 2 + 0 + 0 ≤ 40 + 12 * q + 12 from by omega) (show 15000 + 1200 * q + 12 + 0 + 0 ≤ 15000 + 1200 * q + 1200 from by omega) ?_
        exact KK _ ad2 _ _ f2 H locs ls hJ2 (by rw [had]; exact lv_sub hl [2, 3, 4, 5, 6] rfl) hM
      · exact absurd c_432 (by omega)
  · exact absurd rfl c_415
set_option maxHeartbeats 1000000 in
set_option maxRecDepth 100000 in
theorem k9_light {p : Program} {l : Launch} {e : Env} {s : State} {m : MethodId} {below : List Frame} {meth : Method} {c : Code} {K : zK} (hst : l.stackTraces = false) {b L9 q : Nat} {xs : Nat → Int32} (hC : zC p s #[Value.ref b] m c cL_law 8 RL s.heap.size K) (hX : va_X b L9 xs s s.heap) (hbl : b < s.heap.size) (hq : 6 * q + 6 ≤ L9) (hL9 : L9 ≤ 3072) {A : zA} {ad ma : Nat → Nat} {oa : Nat} {t : Int32} {L : List Nat} {f : Nat → va_E} {H : Heap} {locs : List Loc} {ls : Array Slot} (hJ : JI K L f A ad ma oa t) (hM : zM s.heap.size K L f s H locs) (hl : lv_has ls 8 [(4, .int (nI (6 * q))), (0, .ref b), (1, .ref (ad 1)), (2, .ref (ma 0)), (3, .ref oa)]) {Q : State → Prop} (KK : ∀ (A : zA) (ad : Nat → Nat) (t : Int32) (L : List Nat) (f : Nat → va_E) (H : Heap) (locs : List Loc) (ls : Array Slot), JI K L f A ad ma oa t → lv_has ls 8 [(4, .int (nI (6 * q))), (0, .ref b), (1, .ref (ad 1)), (2, .ref (ma 0)), (3, .ref oa)] → zM s.heap.size K L f s H locs → W p l e room_1 s m #[Value.ref b] below meth c H locs (40 + 12 * q + 12) (15000 + 1200 * q + 1200) Q (F0 m 1439 ls [])) : W p l e room_1 s m #[Value.ref b] below meth c H locs (40 + 12 * q) (15000 + 1200 * q) Q (F0 m 440 ls []) := by
  have hx := hC.1
  have hb := hC.2.1
  have hml := hC.2.2.1
  have hown := hC.2.2.2.1
  have hts := hC.2.2.2.2.1
  obtain ⟨g0, hfo⟩ := hJ.2.2.2.1
  refine lv_aload_n hx hb dL_law_440 rfl (lv_at hl 2 rfl) ?_
  refine lv_aload_n hx hb dL_law_441 rfl (lv_at hl 1 rfl) ?_
  refine lv_iload hx hb dL_law_442 (lv_at hl 0 rfl) ?_
  refine lv_iconst (v := nI 1) hx hb dL_law_444 (by decide) ?_
  refine z_iadd hx hb dL_law_445 ?_
  refine z_sld hC hM hX hbl (show (6 * q) + 1 < L9 by omega) hL9 dL_law_446 ?_
  refine lv_aload_n hx hb dL_law_447 rfl (lv_at hl 1 rfl) ?_
  refine lv_iload hx hb dL_law_448 (lv_at hl 0 rfl) ?_
  refine lv_iconst (v := nI 2) hx hb dL_law_450 (by decide) ?_
  refine z_iadd hx hb dL_law_451 ?_
  refine z_sld hC hM hX hbl (show (6 * q) + 2 < L9 by omega) hL9 dL_law_452 ?_
  refine lv_aload_n hx hb dL_law_453 rfl (lv_at hl 4 rfl) ?_
  refine z_xq (av := #[]) (val := fun r : Int32 => some (.int r)) (post := fun r u => r = nI (k_light A (xs (6 * q + 1)) (xs (6 * q + 2))) ∧ WR K A ad L f A oa (k_light A (xs (6 * q + 1)) (xs (6 * q + 2))) (v_light A (xs (6 * q + 1)) (xs (6 * q + 2))) u.1 u.2) (z_xrunSH hC hM (w_light hst hJ.1 hJ.2.2.1 hfo (fun u hu => (hJ.2.2.2.2.1 u hu).1) (xs (6 * q + 1)) (xs (6 * q + 2))) zyH_light zm_L_104 rfl rfl hl.1 (Nat.le_of_ble_eq_true rfl) ⟨by decide, by decide⟩ ⟨by show 40 + 12 * q + 2 ≤ 601024; omega, by show 15000 + 1200 * q + 12 ≤ 7293034; omega⟩ dL_law_454) (fun st o t ⟨⟨r, u, h1, h2, h3⟩, h4⟩ => ⟨r, u, h1, h2, h3, h4⟩) hM (fun E ce q9 L1 f1 H locs hp hM _ _ _ => hp.elim) (fun r L1 f1 H locs hp hM => ?_)
  obtain ⟨rfl, hWR⟩ := hp
  obtain ⟨ad2, had, hJM⟩ := hJ.w hWR
  obtain ⟨x7, op7, -, hc7⟩ := hJM.2.1.2.2
  have hk3 := k_le_light A (xs (6 * q + 1)) (xs (6 * q + 2))
  refine lv_istore (lv' := [(5, .int (nI (k_light A (xs (6 * q + 1)) (xs (6 * q + 2))))), (4, .int (nI (6 * q))), (0, .ref b), (1, .ref ((ad 1))), (2, .ref ((ma 0))), (3, .ref oa)]) hx hb dL_law_457 hl (by decide) rfl (fun ls hl => ?_)
  refine lv_aload_n hx hb dL_law_459 rfl (lv_at hl 4 rfl) ?_
  refine lv_aload_n hx hb dL_law_460 rfl (lv_at hl 2 rfl) ?_
  refine lv_iload hx hb dL_law_461 (lv_at hl 1 rfl) ?_
  refine lv_iconst (v := nI 1) hx hb dL_law_463 (by decide) ?_
  refine z_iadd hx hb dL_law_464 ?_
  refine z_sld hC hM hX hbl (show (6 * q) + 1 < L9 by omega) hL9 dL_law_465 ?_
  refine lv_aload_n hx hb dL_law_466 rfl (lv_at hl 2 rfl) ?_
  refine lv_iload hx hb dL_law_467 (lv_at hl 1 rfl) ?_
  refine lv_iconst (v := nI 2) hx hb dL_law_469 (by decide) ?_
  refine z_iadd hx hb dL_law_470 ?_
  refine z_sld hC hM hX hbl (show (6 * q) + 2 < L9 by omega) hL9 dL_law_471 ?_
  refine z_calll (z_runV hC hM (m_light hJ.1.1 hJM.2.1 (xs (6 * q + 1)) (xs (6 * q + 2))) zy_X7_light zm_L_106 (hJM.2.1.1 0 (by decide)) (hc7 0 (by decide)) zcl_X7 rfl rfl rfl hl.1 (Nat.le_of_ble_eq_true rfl) ⟨by decide, by decide⟩ ⟨by show 40 + 12 * q + 2 + 0 ≤ 601024; omega, by show 15000 + 1200 * q + 12 + 0 ≤ 7293034; omega⟩ dL_law_472) hM (fun r L2 f2 H locs hp hM => ?_)
  obtain ⟨hr9, hMR⟩ := hp
  obtain ⟨e9, hJ2, g9, hgo, hg9⟩ := hJM.m hMR
  have e9 := e9.symm
  subst e9
  obtain ⟨x8, op8, -, hc8⟩ := hJ2.2.1.2.2
  refine lv_lstore (lv' := [(6, .long r), (5, .int (nI (k_light A (xs (6 * q + 1)) (xs (6 * q + 2))))), (4, .int (nI (6 * q))), (0, .ref b), (1, .ref ((ad 1))), (2, .ref ((ma 0))), (3, .ref oa)]) hx hb dL_law_475 hl (by decide) rfl (fun ls hl => ?_)
  refine lv_aload_n hx hb dL_law_477 rfl (lv_at hl 5 rfl) ?_
  refine z_fcalli (z_runV hC hM (c_thrown hJ2.1.1 hJ2.2.1) zy_X7_thrown zm_L_88 (hJ2.2.1.1 0 (by decide)) (hc8 0 (by decide)) zcl_X7 rfl rfl rfl hl.1 (Nat.le_of_ble_eq_true rfl) ⟨by decide, by decide⟩ ⟨by show 40 + 12 * q + 2 + 0 + 0 ≤ 601024; omega, by show 15000 + 1200 * q + 12 + 0 + 0 ≤ 7293034; omega⟩ dL_law_478) hM (fun H locs hM => ?_)
  refine lv_iload hx hb dL_law_481 (lv_at hl 1 rfl) ?_
  refine z_icmp_eq (tgt := 488) hx hb (nI_toInt (by omega)) (nI_toInt (by omega)) dL_law_483 (by decide) (fun c_483 => ?_) (fun c_483 => ?_)
  · refine lv_iload hx hb dL_law_488 (lv_at hl 1 rfl) ?_
    refine z_if_ne (tgt := 504) hx hb (nI_toInt (by omega)) dL_law_490 (by decide) (fun c_490 => ?_) (fun c_490 => ?_)
    · refine lv_goto (tgt := 1439) hx hb dL_law_504 (by decide) ?_
      refine W.widen (k := 40 + 12 * q + 12) (n := 15000 + 1200 * q + 1200) (show 40 + 12 * q + 2 + 0 + 0 ≤ 40 + 12 * q + 12 from by omega) (show 15000 + 1200 * q + 12 + 0 + 0 ≤ 15000 + 1200 * q + 1200 from by omega) ?_
      exact KK _ ad2 _ _ f2 H locs ls hJ2 (by rw [had]; exact lv_sub hl [2, 3, 4, 5, 6] rfl) hM
    · refine lv_aload_n hx hb dL_law_493 rfl (lv_at hl 6 rfl) ?_
      refine lv_iconst (v := nI 0) hx hb dL_law_494 (by decide) ?_
      refine z_lald hC hM hJ2.2.2.1 hgo (by omega) (by omega) dL_law_495 ?_
      refine lv_lload hx hb dL_law_496 (lv_at hl 0 rfl) ?_
      have hk0 : k_light A (xs (6 * q + 1)) (xs (6 * q + 2)) = 0 := by omega
      rw [show g9 0 = r from (hg9 hk0).trans (by rw [hr9 hk0])]
      refine W.lcmp hx hb dL_law_498 ?_
      rw [lg_self]
      refine z_if_eq (tgt := 504) hx hb (nI_toInt (by decide)) dL_law_499 (by decide) (fun c_499 => ?_) (fun c_499 => ?_)
      · refine lv_goto (tgt := 1439) hx hb dL_law_504 (by decide) ?_
        refine W.widen (k := 40 + 12 * q + 12) (n := 15000 + 1200 * q + 1200) (show 40 + 12 * q + 2 + 0 + 0 ≤ 40 + 12 * q + 12 from by omega) (show 15000 + 1200 * q + 12 + 0 + 0 ≤ 15000 + 1200 * q + 1200 from by omega) ?_
        exact KK _ ad2 _ _ f2 H locs ls hJ2 (by rw [had]; exact lv_sub hl [2, 3, 4, 5, 6] rfl) hM
      · exact absurd c_499 (by omega)
  · exact absurd rfl c_483
set_option maxHeartbeats 1000000 in
set_option maxRecDepth 100000 in
theorem k9_cloud {p : Program} {l : Launch} {e : Env} {s : State} {m : MethodId} {below : List Frame} {meth : Method} {c : Code} {K : zK} (hst : l.stackTraces = false) {b L9 q : Nat} {xs : Nat → Int32} (hC : zC p s #[Value.ref b] m c cL_law 8 RL s.heap.size K) (hX : va_X b L9 xs s s.heap) (hbl : b < s.heap.size) (hq : 6 * q + 6 ≤ L9) (hL9 : L9 ≤ 3072) {A : zA} {ad ma : Nat → Nat} {oa : Nat} {t : Int32} {L : List Nat} {f : Nat → va_E} {H : Heap} {locs : List Loc} {ls : Array Slot} (hJ : JI K L f A ad ma oa t) (hM : zM s.heap.size K L f s H locs) (hl : lv_has ls 8 [(4, .int (nI (6 * q))), (0, .ref b), (1, .ref (ad 1)), (2, .ref (ma 0)), (3, .ref oa)]) {Q : State → Prop} (KK : ∀ (A : zA) (ad : Nat → Nat) (t : Int32) (L : List Nat) (f : Nat → va_E) (H : Heap) (locs : List Loc) (ls : Array Slot), JI K L f A ad ma oa t → lv_has ls 8 [(4, .int (nI (6 * q))), (0, .ref b), (1, .ref (ad 1)), (2, .ref (ma 0)), (3, .ref oa)] → zM s.heap.size K L f s H locs → W p l e room_1 s m #[Value.ref b] below meth c H locs (40 + 12 * q + 12) (15000 + 1200 * q + 1200) Q (F0 m 1439 ls [])) : W p l e room_1 s m #[Value.ref b] below meth c H locs (40 + 12 * q) (15000 + 1200 * q) Q (F0 m 507 ls []) := by
  have hx := hC.1
  have hb := hC.2.1
  have hml := hC.2.2.1
  have hown := hC.2.2.2.1
  have hts := hC.2.2.2.2.1
  obtain ⟨g0, hfo⟩ := hJ.2.2.2.1
  refine lv_aload_n hx hb dL_law_507 rfl (lv_at hl 2 rfl) ?_
  refine lv_aload_n hx hb dL_law_508 rfl (lv_at hl 1 rfl) ?_
  refine lv_iload hx hb dL_law_509 (lv_at hl 0 rfl) ?_
  refine lv_iconst (v := nI 1) hx hb dL_law_511 (by decide) ?_
  refine z_iadd hx hb dL_law_512 ?_
  refine z_sld hC hM hX hbl (show (6 * q) + 1 < L9 by omega) hL9 dL_law_513 ?_
  refine lv_aload_n hx hb dL_law_514 rfl (lv_at hl 1 rfl) ?_
  refine lv_iload hx hb dL_law_515 (lv_at hl 0 rfl) ?_
  refine lv_iconst (v := nI 2) hx hb dL_law_517 (by decide) ?_
  refine z_iadd hx hb dL_law_518 ?_
  refine z_sld hC hM hX hbl (show (6 * q) + 2 < L9 by omega) hL9 dL_law_519 ?_
  refine lv_aload_n hx hb dL_law_520 rfl (lv_at hl 4 rfl) ?_
  refine z_xq (av := #[]) (val := fun r : Int32 => some (.int r)) (post := fun r u => r = nI (k_cloud (xs (6 * q + 1)) (xs (6 * q + 2))) ∧ WR K A ad L f (a_cloud A (xs (6 * q + 1)) (xs (6 * q + 2))) oa (k_cloud (xs (6 * q + 1)) (xs (6 * q + 2))) ((v_cloud A (xs (6 * q + 1)) (xs (6 * q + 2))).toInt64) u.1 u.2) (z_xrunSH hC hM (w_cloud hst hJ.1 hJ.2.2.1 hfo (fun u hu => (hJ.2.2.2.2.1 u hu).1) (xs (6 * q + 1)) (xs (6 * q + 2))) zyH_cloud zm_L_107 rfl rfl hl.1 (Nat.le_of_ble_eq_true rfl) ⟨by decide, by decide⟩ ⟨by show 40 + 12 * q + 3 ≤ 601024; omega, by show 15000 + 1200 * q + 18 ≤ 7293034; omega⟩ dL_law_521) (fun st o t ⟨⟨r, u, h1, h2, h3⟩, h4⟩ => ⟨r, u, h1, h2, h3, h4⟩) hM (fun E ce q9 L1 f1 H locs hp hM _ _ _ => hp.elim) (fun r L1 f1 H locs hp hM => ?_)
  obtain ⟨rfl, hWR⟩ := hp
  obtain ⟨ad2, had, hJM⟩ := hJ.w hWR
  obtain ⟨x7, op7, -, hc7⟩ := hJM.2.1.2.2
  have hk3 := k_le_cloud (xs (6 * q + 1)) (xs (6 * q + 2))
  refine lv_istore (lv' := [(5, .int (nI (k_cloud (xs (6 * q + 1)) (xs (6 * q + 2))))), (4, .int (nI (6 * q))), (0, .ref b), (1, .ref ((ad 1))), (2, .ref ((ma 0))), (3, .ref oa)]) hx hb dL_law_524 hl (by decide) rfl (fun ls hl => ?_)
  refine lv_aload_n hx hb dL_law_526 rfl (lv_at hl 4 rfl) ?_
  refine lv_aload_n hx hb dL_law_527 rfl (lv_at hl 2 rfl) ?_
  refine lv_iload hx hb dL_law_528 (lv_at hl 1 rfl) ?_
  refine lv_iconst (v := nI 1) hx hb dL_law_530 (by decide) ?_
  refine z_iadd hx hb dL_law_531 ?_
  refine z_sld hC hM hX hbl (show (6 * q) + 1 < L9 by omega) hL9 dL_law_532 ?_
  refine lv_aload_n hx hb dL_law_533 rfl (lv_at hl 2 rfl) ?_
  refine lv_iload hx hb dL_law_534 (lv_at hl 1 rfl) ?_
  refine lv_iconst (v := nI 2) hx hb dL_law_536 (by decide) ?_
  refine z_iadd hx hb dL_law_537 ?_
  refine z_sld hC hM hX hbl (show (6 * q) + 2 < L9 by omega) hL9 dL_law_538 ?_
  refine z_calli (z_runV hC hM (m_cloud hJ.1.1 hJM.2.1 (xs (6 * q + 1)) (xs (6 * q + 2))) zy_X7_cloud zm_L_109 (hJM.2.1.1 0 (by decide)) (hc7 0 (by decide)) zcl_X7 rfl rfl rfl hl.1 (Nat.le_of_ble_eq_true rfl) ⟨by decide, by decide⟩ ⟨by show 40 + 12 * q + 3 + 0 ≤ 601024; omega, by show 15000 + 1200 * q + 18 + 0 ≤ 7293034; omega⟩ dL_law_539) hM (fun r L2 f2 H locs hp hM => ?_)
  obtain ⟨hr9, hMR⟩ := hp
  obtain ⟨e9, hJ2, g9, hgo, hg9⟩ := hJM.m hMR
  have e9 := e9.symm
  subst e9
  obtain ⟨x8, op8, -, hc8⟩ := hJ2.2.1.2.2
  refine lv_istore (lv' := [(6, .int r), (5, .int (nI (k_cloud (xs (6 * q + 1)) (xs (6 * q + 2))))), (4, .int (nI (6 * q))), (0, .ref b), (1, .ref ((ad 1))), (2, .ref ((ma 0))), (3, .ref oa)]) hx hb dL_law_542 hl (by decide) rfl (fun ls hl => ?_)
  refine lv_aload_n hx hb dL_law_544 rfl (lv_at hl 5 rfl) ?_
  refine z_fcalli (z_runV hC hM (c_thrown hJ2.1.1 hJ2.2.1) zy_X7_thrown zm_L_88 (hJ2.2.1.1 0 (by decide)) (hc8 0 (by decide)) zcl_X7 rfl rfl rfl hl.1 (Nat.le_of_ble_eq_true rfl) ⟨by decide, by decide⟩ ⟨by show 40 + 12 * q + 3 + 0 + 0 ≤ 601024; omega, by show 15000 + 1200 * q + 18 + 0 + 0 ≤ 7293034; omega⟩ dL_law_545) hM (fun H locs hM => ?_)
  refine lv_iload hx hb dL_law_548 (lv_at hl 1 rfl) ?_
  refine z_icmp_eq (tgt := 555) hx hb (nI_toInt (by omega)) (nI_toInt (by omega)) dL_law_550 (by decide) (fun c_550 => ?_) (fun c_550 => ?_)
  · refine lv_iload hx hb dL_law_555 (lv_at hl 1 rfl) ?_
    refine z_if_ne (tgt := 572) hx hb (nI_toInt (by omega)) dL_law_557 (by decide) (fun c_557 => ?_) (fun c_557 => ?_)
    · refine lv_goto (tgt := 1439) hx hb dL_law_572 (by decide) ?_
      refine W.widen (k := 40 + 12 * q + 12) (n := 15000 + 1200 * q + 1200) (show 40 + 12 * q + 3 + 0 + 0 ≤ 40 + 12 * q + 12 from by omega) (show 15000 + 1200 * q + 18 + 0 + 0 ≤ 15000 + 1200 * q + 1200 from by omega) ?_
      exact KK _ ad2 _ _ f2 H locs ls hJ2 (by rw [had]; exact lv_sub hl [2, 3, 4, 5, 6] rfl) hM
    · refine lv_aload_n hx hb dL_law_560 rfl (lv_at hl 6 rfl) ?_
      refine lv_iconst (v := nI 0) hx hb dL_law_561 (by decide) ?_
      refine z_lald hC hM hJ2.2.2.1 hgo (by omega) (by omega) dL_law_562 ?_
      refine lv_iload hx hb dL_law_563 (lv_at hl 0 rfl) ?_
      refine lv_i2l (v := r.toInt64) hx hb dL_law_565 rfl ?_
      have hk0 : k_cloud (xs (6 * q + 1)) (xs (6 * q + 2)) = 0 := by omega
      rw [show g9 0 = r.toInt64 from (hg9 hk0).trans (by rw [hr9 hk0])]
      refine W.lcmp hx hb dL_law_566 ?_
      rw [lg_self]
      refine z_if_eq (tgt := 572) hx hb (nI_toInt (by decide)) dL_law_567 (by decide) (fun c_567 => ?_) (fun c_567 => ?_)
      · refine lv_goto (tgt := 1439) hx hb dL_law_572 (by decide) ?_
        refine W.widen (k := 40 + 12 * q + 12) (n := 15000 + 1200 * q + 1200) (show 40 + 12 * q + 3 + 0 + 0 ≤ 40 + 12 * q + 12 from by omega) (show 15000 + 1200 * q + 18 + 0 + 0 ≤ 15000 + 1200 * q + 1200 from by omega) ?_
        exact KK _ ad2 _ _ f2 H locs ls hJ2 (by rw [had]; exact lv_sub hl [2, 3, 4, 5, 6] rfl) hM
      · exact absurd c_567 (by omega)
  · exact absurd rfl c_550
set_option maxHeartbeats 1000000 in
set_option maxRecDepth 100000 in
theorem k9_observe {p : Program} {l : Launch} {e : Env} {s : State} {m : MethodId} {below : List Frame} {meth : Method} {c : Code} {K : zK} (hst : l.stackTraces = false) {b L9 q : Nat} {xs : Nat → Int32} (hC : zC p s #[Value.ref b] m c cL_law 8 RL s.heap.size K) (hX : va_X b L9 xs s s.heap) (hbl : b < s.heap.size) (hq : 6 * q + 6 ≤ L9) (hL9 : L9 ≤ 3072) {A : zA} {ad ma : Nat → Nat} {oa : Nat} {t : Int32} {L : List Nat} {f : Nat → va_E} {H : Heap} {locs : List Loc} {ls : Array Slot} (hJ : JI K L f A ad ma oa t) (hM : zM s.heap.size K L f s H locs) (hl : lv_has ls 8 [(4, .int (nI (6 * q))), (0, .ref b), (1, .ref (ad 1)), (2, .ref (ma 0)), (3, .ref oa)]) {Q : State → Prop} (KK : ∀ (A : zA) (ad : Nat → Nat) (t : Int32) (L : List Nat) (f : Nat → va_E) (H : Heap) (locs : List Loc) (ls : Array Slot), JI K L f A ad ma oa t → lv_has ls 8 [(4, .int (nI (6 * q))), (0, .ref b), (1, .ref (ad 1)), (2, .ref (ma 0)), (3, .ref oa)] → zM s.heap.size K L f s H locs → W p l e room_1 s m #[Value.ref b] below meth c H locs (40 + 12 * q + 12) (15000 + 1200 * q + 1200) Q (F0 m 1439 ls [])) : W p l e room_1 s m #[Value.ref b] below meth c H locs (40 + 12 * q) (15000 + 1200 * q) Q (F0 m 575 ls []) := by
  have hx := hC.1
  have hb := hC.2.1
  have hml := hC.2.2.1
  have hown := hC.2.2.2.1
  have hts := hC.2.2.2.2.1
  obtain ⟨g0, hfo⟩ := hJ.2.2.2.1
  refine lv_aload_n hx hb dL_law_575 rfl (lv_at hl 2 rfl) ?_
  refine lv_aload_n hx hb dL_law_576 rfl (lv_at hl 1 rfl) ?_
  refine lv_iload hx hb dL_law_577 (lv_at hl 0 rfl) ?_
  refine lv_iconst (v := nI 1) hx hb dL_law_579 (by decide) ?_
  refine z_iadd hx hb dL_law_580 ?_
  refine z_sld hC hM hX hbl (show (6 * q) + 1 < L9 by omega) hL9 dL_law_581 ?_
  refine lv_aload_n hx hb dL_law_582 rfl (lv_at hl 1 rfl) ?_
  refine lv_iload hx hb dL_law_583 (lv_at hl 0 rfl) ?_
  refine lv_iconst (v := nI 2) hx hb dL_law_585 (by decide) ?_
  refine z_iadd hx hb dL_law_586 ?_
  refine z_sld hC hM hX hbl (show (6 * q) + 2 < L9 by omega) hL9 dL_law_587 ?_
  refine lv_aload_n hx hb dL_law_588 rfl (lv_at hl 1 rfl) ?_
  refine lv_iload hx hb dL_law_589 (lv_at hl 0 rfl) ?_
  refine lv_iconst (v := nI 3) hx hb dL_law_591 (by decide) ?_
  refine z_iadd hx hb dL_law_592 ?_
  refine z_sld hC hM hX hbl (show (6 * q) + 3 < L9 by omega) hL9 dL_law_593 ?_
  refine lv_aload_n hx hb dL_law_594 rfl (lv_at hl 4 rfl) ?_
  refine z_xq (av := #[]) (val := fun r : Int32 => some (.int r)) (post := fun r u => r = nI (k_observe A (xs (6 * q + 1)) (xs (6 * q + 2)) (xs (6 * q + 3))) ∧ WR K A ad L f (a_observe A (xs (6 * q + 1)) (xs (6 * q + 2)) (xs (6 * q + 3))) oa (k_observe A (xs (6 * q + 1)) (xs (6 * q + 2)) (xs (6 * q + 3))) ((v_observe A (xs (6 * q + 1)) (xs (6 * q + 2)) (xs (6 * q + 3))).toInt64) u.1 u.2) (z_xrunSH hC hM (w_observe hst hJ.1 hJ.2.2.1 hfo (fun u hu => (hJ.2.2.2.2.1 u hu).1) (xs (6 * q + 1)) (xs (6 * q + 2)) (xs (6 * q + 3))) zyH_observe zm_L_110 rfl rfl hl.1 (Nat.le_of_ble_eq_true rfl) ⟨by decide, by decide⟩ ⟨by show 40 + 12 * q + 4 ≤ 601024; omega, by show 15000 + 1200 * q + 24 ≤ 7293034; omega⟩ dL_law_595) (fun st o t ⟨⟨r, u, h1, h2, h3⟩, h4⟩ => ⟨r, u, h1, h2, h3, h4⟩) hM (fun E ce q9 L1 f1 H locs hp hM _ _ _ => hp.elim) (fun r L1 f1 H locs hp hM => ?_)
  obtain ⟨rfl, hWR⟩ := hp
  obtain ⟨ad2, had, hJM⟩ := hJ.w hWR
  obtain ⟨x7, op7, -, hc7⟩ := hJM.2.1.2.2
  have hk3 := k_le_observe A (xs (6 * q + 1)) (xs (6 * q + 2)) (xs (6 * q + 3))
  refine lv_istore (lv' := [(5, .int (nI (k_observe A (xs (6 * q + 1)) (xs (6 * q + 2)) (xs (6 * q + 3))))), (4, .int (nI (6 * q))), (0, .ref b), (1, .ref ((ad 1))), (2, .ref ((ma 0))), (3, .ref oa)]) hx hb dL_law_598 hl (by decide) rfl (fun ls hl => ?_)
  refine lv_aload_n hx hb dL_law_600 rfl (lv_at hl 4 rfl) ?_
  refine lv_aload_n hx hb dL_law_601 rfl (lv_at hl 2 rfl) ?_
  refine lv_iload hx hb dL_law_602 (lv_at hl 1 rfl) ?_
  refine lv_iconst (v := nI 1) hx hb dL_law_604 (by decide) ?_
  refine z_iadd hx hb dL_law_605 ?_
  refine z_sld hC hM hX hbl (show (6 * q) + 1 < L9 by omega) hL9 dL_law_606 ?_
  refine lv_aload_n hx hb dL_law_607 rfl (lv_at hl 2 rfl) ?_
  refine lv_iload hx hb dL_law_608 (lv_at hl 1 rfl) ?_
  refine lv_iconst (v := nI 2) hx hb dL_law_610 (by decide) ?_
  refine z_iadd hx hb dL_law_611 ?_
  refine z_sld hC hM hX hbl (show (6 * q) + 2 < L9 by omega) hL9 dL_law_612 ?_
  refine lv_aload_n hx hb dL_law_613 rfl (lv_at hl 2 rfl) ?_
  refine lv_iload hx hb dL_law_614 (lv_at hl 1 rfl) ?_
  refine lv_iconst (v := nI 3) hx hb dL_law_616 (by decide) ?_
  refine z_iadd hx hb dL_law_617 ?_
  refine z_sld hC hM hX hbl (show (6 * q) + 3 < L9 by omega) hL9 dL_law_618 ?_
  refine z_calli (z_runV hC hM (m_observe hJ.1.1 hJM.2.1 (xs (6 * q + 1)) (xs (6 * q + 2)) (xs (6 * q + 3))) zy_X7_observe zm_L_112 (hJM.2.1.1 0 (by decide)) (hc7 0 (by decide)) zcl_X7 rfl rfl rfl hl.1 (Nat.le_of_ble_eq_true rfl) ⟨by decide, by decide⟩ ⟨by show 40 + 12 * q + 4 + 0 ≤ 601024; omega, by show 15000 + 1200 * q + 24 + 0 ≤ 7293034; omega⟩ dL_law_619) hM (fun r L2 f2 H locs hp hM => ?_)
  obtain ⟨hr9, hMR⟩ := hp
  obtain ⟨e9, hJ2, g9, hgo, hg9⟩ := hJM.m hMR
  have e9 := e9.symm
  subst e9
  obtain ⟨x8, op8, -, hc8⟩ := hJ2.2.1.2.2
  refine lv_istore (lv' := [(6, .int r), (5, .int (nI (k_observe A (xs (6 * q + 1)) (xs (6 * q + 2)) (xs (6 * q + 3))))), (4, .int (nI (6 * q))), (0, .ref b), (1, .ref ((ad 1))), (2, .ref ((ma 0))), (3, .ref oa)]) hx hb dL_law_622 hl (by decide) rfl (fun ls hl => ?_)
  refine lv_aload_n hx hb dL_law_624 rfl (lv_at hl 5 rfl) ?_
  refine z_fcalli (z_runV hC hM (c_thrown hJ2.1.1 hJ2.2.1) zy_X7_thrown zm_L_88 (hJ2.2.1.1 0 (by decide)) (hc8 0 (by decide)) zcl_X7 rfl rfl rfl hl.1 (Nat.le_of_ble_eq_true rfl) ⟨by decide, by decide⟩ ⟨by show 40 + 12 * q + 4 + 0 + 0 ≤ 601024; omega, by show 15000 + 1200 * q + 24 + 0 + 0 ≤ 7293034; omega⟩ dL_law_625) hM (fun H locs hM => ?_)
  refine lv_iload hx hb dL_law_628 (lv_at hl 1 rfl) ?_
  refine z_icmp_eq (tgt := 635) hx hb (nI_toInt (by omega)) (nI_toInt (by omega)) dL_law_630 (by decide) (fun c_630 => ?_) (fun c_630 => ?_)
  · refine lv_iload hx hb dL_law_635 (lv_at hl 1 rfl) ?_
    refine z_if_ne (tgt := 652) hx hb (nI_toInt (by omega)) dL_law_637 (by decide) (fun c_637 => ?_) (fun c_637 => ?_)
    · refine lv_goto (tgt := 1439) hx hb dL_law_652 (by decide) ?_
      refine W.widen (k := 40 + 12 * q + 12) (n := 15000 + 1200 * q + 1200) (show 40 + 12 * q + 4 + 0 + 0 ≤ 40 + 12 * q + 12 from by omega) (show 15000 + 1200 * q + 24 + 0 + 0 ≤ 15000 + 1200 * q + 1200 from by omega) ?_
      exact KK _ ad2 _ _ f2 H locs ls hJ2 (by rw [had]; exact lv_sub hl [2, 3, 4, 5, 6] rfl) hM
    · refine lv_aload_n hx hb dL_law_640 rfl (lv_at hl 6 rfl) ?_
      refine lv_iconst (v := nI 0) hx hb dL_law_641 (by decide) ?_
      refine z_lald hC hM hJ2.2.2.1 hgo (by omega) (by omega) dL_law_642 ?_
      refine lv_iload hx hb dL_law_643 (lv_at hl 0 rfl) ?_
      refine lv_i2l (v := r.toInt64) hx hb dL_law_645 rfl ?_
      have hk0 : k_observe A (xs (6 * q + 1)) (xs (6 * q + 2)) (xs (6 * q + 3)) = 0 := by omega
      rw [show g9 0 = r.toInt64 from (hg9 hk0).trans (by rw [hr9 hk0])]
      refine W.lcmp hx hb dL_law_646 ?_
      rw [lg_self]
      refine z_if_eq (tgt := 652) hx hb (nI_toInt (by decide)) dL_law_647 (by decide) (fun c_647 => ?_) (fun c_647 => ?_)
      · refine lv_goto (tgt := 1439) hx hb dL_law_652 (by decide) ?_
        refine W.widen (k := 40 + 12 * q + 12) (n := 15000 + 1200 * q + 1200) (show 40 + 12 * q + 4 + 0 + 0 ≤ 40 + 12 * q + 12 from by omega) (show 15000 + 1200 * q + 24 + 0 + 0 ≤ 15000 + 1200 * q + 1200 from by omega) ?_
        exact KK _ ad2 _ _ f2 H locs ls hJ2 (by rw [had]; exact lv_sub hl [2, 3, 4, 5, 6] rfl) hM
      · exact absurd c_647 (by omega)
  · exact absurd rfl c_630
set_option maxHeartbeats 1000000 in
set_option maxRecDepth 100000 in
theorem k9_kept {p : Program} {l : Launch} {e : Env} {s : State} {m : MethodId} {below : List Frame} {meth : Method} {c : Code} {K : zK} (hst : l.stackTraces = false) {b L9 q : Nat} {xs : Nat → Int32} (hC : zC p s #[Value.ref b] m c cL_law 8 RL s.heap.size K) (hX : va_X b L9 xs s s.heap) (hbl : b < s.heap.size) (hq : 6 * q + 6 ≤ L9) (hL9 : L9 ≤ 3072) {A : zA} {ad ma : Nat → Nat} {oa : Nat} {t : Int32} {L : List Nat} {f : Nat → va_E} {H : Heap} {locs : List Loc} {ls : Array Slot} (hJ : JI K L f A ad ma oa t) (hM : zM s.heap.size K L f s H locs) (hl : lv_has ls 8 [(4, .int (nI (6 * q))), (0, .ref b), (1, .ref (ad 1)), (2, .ref (ma 0)), (3, .ref oa)]) {Q : State → Prop} (KK : ∀ (A : zA) (ad : Nat → Nat) (t : Int32) (L : List Nat) (f : Nat → va_E) (H : Heap) (locs : List Loc) (ls : Array Slot), JI K L f A ad ma oa t → lv_has ls 8 [(4, .int (nI (6 * q))), (0, .ref b), (1, .ref (ad 1)), (2, .ref (ma 0)), (3, .ref oa)] → zM s.heap.size K L f s H locs → W p l e room_1 s m #[Value.ref b] below meth c H locs (40 + 12 * q + 12) (15000 + 1200 * q + 1200) Q (F0 m 1439 ls [])) : W p l e room_1 s m #[Value.ref b] below meth c H locs (40 + 12 * q) (15000 + 1200 * q) Q (F0 m 655 ls []) := by
  have hx := hC.1
  have hb := hC.2.1
  have hml := hC.2.2.1
  have hown := hC.2.2.2.1
  have hts := hC.2.2.2.2.1
  obtain ⟨g0, hfo⟩ := hJ.2.2.2.1
  refine lv_aload_n hx hb dL_law_655 rfl (lv_at hl 2 rfl) ?_
  refine lv_aload_n hx hb dL_law_656 rfl (lv_at hl 1 rfl) ?_
  refine lv_iload hx hb dL_law_657 (lv_at hl 0 rfl) ?_
  refine lv_iconst (v := nI 1) hx hb dL_law_659 (by decide) ?_
  refine z_iadd hx hb dL_law_660 ?_
  refine z_sld hC hM hX hbl (show (6 * q) + 1 < L9 by omega) hL9 dL_law_661 ?_
  refine lv_aload_n hx hb dL_law_662 rfl (lv_at hl 1 rfl) ?_
  refine lv_iload hx hb dL_law_663 (lv_at hl 0 rfl) ?_
  refine lv_iconst (v := nI 2) hx hb dL_law_665 (by decide) ?_
  refine z_iadd hx hb dL_law_666 ?_
  refine z_sld hC hM hX hbl (show (6 * q) + 2 < L9 by omega) hL9 dL_law_667 ?_
  refine lv_aload_n hx hb dL_law_668 rfl (lv_at hl 4 rfl) ?_
  refine z_xq (av := #[]) (val := fun r : Int32 => some (.int r)) (post := fun r u => r = nI (k_kept A (xs (6 * q + 1)) (xs (6 * q + 2))) ∧ WR K A ad L f A oa (k_kept A (xs (6 * q + 1)) (xs (6 * q + 2))) (v_kept A (xs (6 * q + 1)) (xs (6 * q + 2))) u.1 u.2) (z_xrunSH hC hM (w_kept hst hJ.1 hJ.2.2.1 hfo (fun u hu => (hJ.2.2.2.2.1 u hu).1) (xs (6 * q + 1)) (xs (6 * q + 2))) zyH_kept zm_L_113 rfl rfl hl.1 (Nat.le_of_ble_eq_true rfl) ⟨by decide, by decide⟩ ⟨by show 40 + 12 * q + 2 ≤ 601024; omega, by show 15000 + 1200 * q + 12 ≤ 7293034; omega⟩ dL_law_669) (fun st o t ⟨⟨r, u, h1, h2, h3⟩, h4⟩ => ⟨r, u, h1, h2, h3, h4⟩) hM (fun E ce q9 L1 f1 H locs hp hM _ _ _ => hp.elim) (fun r L1 f1 H locs hp hM => ?_)
  obtain ⟨rfl, hWR⟩ := hp
  obtain ⟨ad2, had, hJM⟩ := hJ.w hWR
  obtain ⟨x7, op7, -, hc7⟩ := hJM.2.1.2.2
  have hk3 := k_le_kept A (xs (6 * q + 1)) (xs (6 * q + 2))
  refine lv_istore (lv' := [(5, .int (nI (k_kept A (xs (6 * q + 1)) (xs (6 * q + 2))))), (4, .int (nI (6 * q))), (0, .ref b), (1, .ref ((ad 1))), (2, .ref ((ma 0))), (3, .ref oa)]) hx hb dL_law_672 hl (by decide) rfl (fun ls hl => ?_)
  refine lv_aload_n hx hb dL_law_674 rfl (lv_at hl 4 rfl) ?_
  refine lv_aload_n hx hb dL_law_675 rfl (lv_at hl 2 rfl) ?_
  refine lv_iload hx hb dL_law_676 (lv_at hl 1 rfl) ?_
  refine lv_iconst (v := nI 1) hx hb dL_law_678 (by decide) ?_
  refine z_iadd hx hb dL_law_679 ?_
  refine z_sld hC hM hX hbl (show (6 * q) + 1 < L9 by omega) hL9 dL_law_680 ?_
  refine lv_aload_n hx hb dL_law_681 rfl (lv_at hl 2 rfl) ?_
  refine lv_iload hx hb dL_law_682 (lv_at hl 1 rfl) ?_
  refine lv_iconst (v := nI 2) hx hb dL_law_684 (by decide) ?_
  refine z_iadd hx hb dL_law_685 ?_
  refine z_sld hC hM hX hbl (show (6 * q) + 2 < L9 by omega) hL9 dL_law_686 ?_
  refine z_calll (z_runV hC hM (m_kept hJ.1.1 hJM.2.1 (xs (6 * q + 1)) (xs (6 * q + 2))) zy_X7_kept zm_L_115 (hJM.2.1.1 0 (by decide)) (hc7 0 (by decide)) zcl_X7 rfl rfl rfl hl.1 (Nat.le_of_ble_eq_true rfl) ⟨by decide, by decide⟩ ⟨by show 40 + 12 * q + 2 + 0 ≤ 601024; omega, by show 15000 + 1200 * q + 12 + 0 ≤ 7293034; omega⟩ dL_law_687) hM (fun r L2 f2 H locs hp hM => ?_)
  obtain ⟨hr9, hMR⟩ := hp
  obtain ⟨e9, hJ2, g9, hgo, hg9⟩ := hJM.m hMR
  have e9 := e9.symm
  subst e9
  obtain ⟨x8, op8, -, hc8⟩ := hJ2.2.1.2.2
  refine lv_lstore (lv' := [(6, .long r), (5, .int (nI (k_kept A (xs (6 * q + 1)) (xs (6 * q + 2))))), (4, .int (nI (6 * q))), (0, .ref b), (1, .ref ((ad 1))), (2, .ref ((ma 0))), (3, .ref oa)]) hx hb dL_law_690 hl (by decide) rfl (fun ls hl => ?_)
  refine lv_aload_n hx hb dL_law_692 rfl (lv_at hl 5 rfl) ?_
  refine z_fcalli (z_runV hC hM (c_thrown hJ2.1.1 hJ2.2.1) zy_X7_thrown zm_L_88 (hJ2.2.1.1 0 (by decide)) (hc8 0 (by decide)) zcl_X7 rfl rfl rfl hl.1 (Nat.le_of_ble_eq_true rfl) ⟨by decide, by decide⟩ ⟨by show 40 + 12 * q + 2 + 0 + 0 ≤ 601024; omega, by show 15000 + 1200 * q + 12 + 0 + 0 ≤ 7293034; omega⟩ dL_law_693) hM (fun H locs hM => ?_)
  refine lv_iload hx hb dL_law_696 (lv_at hl 1 rfl) ?_
  refine z_icmp_eq (tgt := 703) hx hb (nI_toInt (by omega)) (nI_toInt (by omega)) dL_law_698 (by decide) (fun c_698 => ?_) (fun c_698 => ?_)
  · refine lv_iload hx hb dL_law_703 (lv_at hl 1 rfl) ?_
    refine z_if_ne (tgt := 719) hx hb (nI_toInt (by omega)) dL_law_705 (by decide) (fun c_705 => ?_) (fun c_705 => ?_)
    · refine lv_goto (tgt := 1439) hx hb dL_law_719 (by decide) ?_
      refine W.widen (k := 40 + 12 * q + 12) (n := 15000 + 1200 * q + 1200) (show 40 + 12 * q + 2 + 0 + 0 ≤ 40 + 12 * q + 12 from by omega) (show 15000 + 1200 * q + 12 + 0 + 0 ≤ 15000 + 1200 * q + 1200 from by omega) ?_
      exact KK _ ad2 _ _ f2 H locs ls hJ2 (by rw [had]; exact lv_sub hl [2, 3, 4, 5, 6] rfl) hM
    · refine lv_aload_n hx hb dL_law_708 rfl (lv_at hl 6 rfl) ?_
      refine lv_iconst (v := nI 0) hx hb dL_law_709 (by decide) ?_
      refine z_lald hC hM hJ2.2.2.1 hgo (by omega) (by omega) dL_law_710 ?_
      refine lv_lload hx hb dL_law_711 (lv_at hl 0 rfl) ?_
      have hk0 : k_kept A (xs (6 * q + 1)) (xs (6 * q + 2)) = 0 := by omega
      rw [show g9 0 = r from (hg9 hk0).trans (by rw [hr9 hk0])]
      refine W.lcmp hx hb dL_law_713 ?_
      rw [lg_self]
      refine z_if_eq (tgt := 719) hx hb (nI_toInt (by decide)) dL_law_714 (by decide) (fun c_714 => ?_) (fun c_714 => ?_)
      · refine lv_goto (tgt := 1439) hx hb dL_law_719 (by decide) ?_
        refine W.widen (k := 40 + 12 * q + 12) (n := 15000 + 1200 * q + 1200) (show 40 + 12 * q + 2 + 0 + 0 ≤ 40 + 12 * q + 12 from by omega) (show 15000 + 1200 * q + 12 + 0 + 0 ≤ 15000 + 1200 * q + 1200 from by omega) ?_
        exact KK _ ad2 _ _ f2 H locs ls hJ2 (by rw [had]; exact lv_sub hl [2, 3, 4, 5, 6] rfl) hM
      · exact absurd c_714 (by omega)
  · exact absurd rfl c_698
set_option maxHeartbeats 1000000 in
set_option maxRecDepth 100000 in
theorem k9_score {p : Program} {l : Launch} {e : Env} {s : State} {m : MethodId} {below : List Frame} {meth : Method} {c : Code} {K : zK} (hst : l.stackTraces = false) {b L9 q : Nat} {xs : Nat → Int32} (hC : zC p s #[Value.ref b] m c cL_law 8 RL s.heap.size K) (hX : va_X b L9 xs s s.heap) (hbl : b < s.heap.size) (hq : 6 * q + 6 ≤ L9) (hL9 : L9 ≤ 3072) {A : zA} {ad ma : Nat → Nat} {oa : Nat} {t : Int32} {L : List Nat} {f : Nat → va_E} {H : Heap} {locs : List Loc} {ls : Array Slot} (hJ : JI K L f A ad ma oa t) (hM : zM s.heap.size K L f s H locs) (hl : lv_has ls 8 [(4, .int (nI (6 * q))), (0, .ref b), (1, .ref (ad 1)), (2, .ref (ma 0)), (3, .ref oa)]) {Q : State → Prop} (KK : ∀ (A : zA) (ad : Nat → Nat) (t : Int32) (L : List Nat) (f : Nat → va_E) (H : Heap) (locs : List Loc) (ls : Array Slot), JI K L f A ad ma oa t → lv_has ls 8 [(4, .int (nI (6 * q))), (0, .ref b), (1, .ref (ad 1)), (2, .ref (ma 0)), (3, .ref oa)] → zM s.heap.size K L f s H locs → W p l e room_1 s m #[Value.ref b] below meth c H locs (40 + 12 * q + 12) (15000 + 1200 * q + 1200) Q (F0 m 1439 ls [])) : W p l e room_1 s m #[Value.ref b] below meth c H locs (40 + 12 * q) (15000 + 1200 * q) Q (F0 m 722 ls []) := by
  have hx := hC.1
  have hb := hC.2.1
  have hml := hC.2.2.1
  have hown := hC.2.2.2.1
  have hts := hC.2.2.2.2.1
  obtain ⟨g0, hfo⟩ := hJ.2.2.2.1
  refine lv_aload_n hx hb dL_law_722 rfl (lv_at hl 2 rfl) ?_
  refine lv_aload_n hx hb dL_law_723 rfl (lv_at hl 1 rfl) ?_
  refine lv_iload hx hb dL_law_724 (lv_at hl 0 rfl) ?_
  refine lv_iconst (v := nI 1) hx hb dL_law_726 (by decide) ?_
  refine z_iadd hx hb dL_law_727 ?_
  refine z_sld hC hM hX hbl (show (6 * q) + 1 < L9 by omega) hL9 dL_law_728 ?_
  refine lv_aload_n hx hb dL_law_729 rfl (lv_at hl 1 rfl) ?_
  refine lv_iload hx hb dL_law_730 (lv_at hl 0 rfl) ?_
  refine lv_iconst (v := nI 2) hx hb dL_law_732 (by decide) ?_
  refine z_iadd hx hb dL_law_733 ?_
  refine z_sld hC hM hX hbl (show (6 * q) + 2 < L9 by omega) hL9 dL_law_734 ?_
  refine lv_aload_n hx hb dL_law_735 rfl (lv_at hl 4 rfl) ?_
  refine z_xq (av := #[]) (val := fun r : Int32 => some (.int r)) (post := fun r u => r = nI (k_fold A (xs (6 * q + 1)) (xs (6 * q + 2))) ∧ WR K A ad L f A oa (k_fold A (xs (6 * q + 1)) (xs (6 * q + 2))) (v_score A (xs (6 * q + 1)) (xs (6 * q + 2))) u.1 u.2) (z_xrunSH hC hM (w_score hst hJ.1 hJ.2.2.1 hfo (fun u hu => (hJ.2.2.2.2.1 u hu).1) (xs (6 * q + 1)) (xs (6 * q + 2))) zyH_score zm_L_116 rfl rfl hl.1 (Nat.le_of_ble_eq_true rfl) ⟨by decide, by decide⟩ ⟨by show 40 + 12 * q + 3 ≤ 601024; omega, by show 15000 + 1200 * q + 18 ≤ 7293034; omega⟩ dL_law_736) (fun st o t ⟨⟨r, u, h1, h2, h3⟩, h4⟩ => ⟨r, u, h1, h2, h3, h4⟩) hM (fun E ce q9 L1 f1 H locs hp hM _ _ _ => hp.elim) (fun r L1 f1 H locs hp hM => ?_)
  obtain ⟨rfl, hWR⟩ := hp
  obtain ⟨ad2, had, hJM⟩ := hJ.w hWR
  obtain ⟨x7, op7, -, hc7⟩ := hJM.2.1.2.2
  have hk3 := k_le_fold A (xs (6 * q + 1)) (xs (6 * q + 2))
  refine lv_istore (lv' := [(5, .int (nI (k_fold A (xs (6 * q + 1)) (xs (6 * q + 2))))), (4, .int (nI (6 * q))), (0, .ref b), (1, .ref ((ad 1))), (2, .ref ((ma 0))), (3, .ref oa)]) hx hb dL_law_739 hl (by decide) rfl (fun ls hl => ?_)
  refine lv_aload_n hx hb dL_law_741 rfl (lv_at hl 4 rfl) ?_
  refine lv_aload_n hx hb dL_law_742 rfl (lv_at hl 2 rfl) ?_
  refine lv_iload hx hb dL_law_743 (lv_at hl 1 rfl) ?_
  refine lv_iconst (v := nI 1) hx hb dL_law_745 (by decide) ?_
  refine z_iadd hx hb dL_law_746 ?_
  refine z_sld hC hM hX hbl (show (6 * q) + 1 < L9 by omega) hL9 dL_law_747 ?_
  refine lv_aload_n hx hb dL_law_748 rfl (lv_at hl 2 rfl) ?_
  refine lv_iload hx hb dL_law_749 (lv_at hl 1 rfl) ?_
  refine lv_iconst (v := nI 2) hx hb dL_law_751 (by decide) ?_
  refine z_iadd hx hb dL_law_752 ?_
  refine z_sld hC hM hX hbl (show (6 * q) + 2 < L9 by omega) hL9 dL_law_753 ?_
  refine z_calll (z_runV hC hM (m_score hJ.1.1 hJM.2.1 (xs (6 * q + 1)) (xs (6 * q + 2))) zy_X7_score zm_L_118 (hJM.2.1.1 0 (by decide)) (hc7 0 (by decide)) zcl_X7 rfl rfl rfl hl.1 (Nat.le_of_ble_eq_true rfl) ⟨by decide, by decide⟩ ⟨by show 40 + 12 * q + 3 + 0 ≤ 601024; omega, by show 15000 + 1200 * q + 18 + 0 ≤ 7293034; omega⟩ dL_law_754) hM (fun r L2 f2 H locs hp hM => ?_)
  obtain ⟨hr9, hMR⟩ := hp
  obtain ⟨e9, hJ2, g9, hgo, hg9⟩ := hJM.m hMR
  have e9 := e9.symm
  subst e9
  obtain ⟨x8, op8, -, hc8⟩ := hJ2.2.1.2.2
  refine lv_lstore (lv' := [(6, .long r), (5, .int (nI (k_fold A (xs (6 * q + 1)) (xs (6 * q + 2))))), (4, .int (nI (6 * q))), (0, .ref b), (1, .ref ((ad 1))), (2, .ref ((ma 0))), (3, .ref oa)]) hx hb dL_law_757 hl (by decide) rfl (fun ls hl => ?_)
  refine lv_aload_n hx hb dL_law_759 rfl (lv_at hl 5 rfl) ?_
  refine z_fcalli (z_runV hC hM (c_thrown hJ2.1.1 hJ2.2.1) zy_X7_thrown zm_L_88 (hJ2.2.1.1 0 (by decide)) (hc8 0 (by decide)) zcl_X7 rfl rfl rfl hl.1 (Nat.le_of_ble_eq_true rfl) ⟨by decide, by decide⟩ ⟨by show 40 + 12 * q + 3 + 0 + 0 ≤ 601024; omega, by show 15000 + 1200 * q + 18 + 0 + 0 ≤ 7293034; omega⟩ dL_law_760) hM (fun H locs hM => ?_)
  refine lv_iload hx hb dL_law_763 (lv_at hl 1 rfl) ?_
  refine z_icmp_eq (tgt := 770) hx hb (nI_toInt (by omega)) (nI_toInt (by omega)) dL_law_765 (by decide) (fun c_765 => ?_) (fun c_765 => ?_)
  · refine lv_iload hx hb dL_law_770 (lv_at hl 1 rfl) ?_
    refine z_if_ne (tgt := 786) hx hb (nI_toInt (by omega)) dL_law_772 (by decide) (fun c_772 => ?_) (fun c_772 => ?_)
    · refine lv_goto (tgt := 1439) hx hb dL_law_786 (by decide) ?_
      refine W.widen (k := 40 + 12 * q + 12) (n := 15000 + 1200 * q + 1200) (show 40 + 12 * q + 3 + 0 + 0 ≤ 40 + 12 * q + 12 from by omega) (show 15000 + 1200 * q + 18 + 0 + 0 ≤ 15000 + 1200 * q + 1200 from by omega) ?_
      exact KK _ ad2 _ _ f2 H locs ls hJ2 (by rw [had]; exact lv_sub hl [2, 3, 4, 5, 6] rfl) hM
    · refine lv_aload_n hx hb dL_law_775 rfl (lv_at hl 6 rfl) ?_
      refine lv_iconst (v := nI 0) hx hb dL_law_776 (by decide) ?_
      refine z_lald hC hM hJ2.2.2.1 hgo (by omega) (by omega) dL_law_777 ?_
      refine lv_lload hx hb dL_law_778 (lv_at hl 0 rfl) ?_
      have hk0 : k_fold A (xs (6 * q + 1)) (xs (6 * q + 2)) = 0 := by omega
      rw [show g9 0 = r from (hg9 hk0).trans (by rw [hr9 hk0])]
      refine W.lcmp hx hb dL_law_780 ?_
      rw [lg_self]
      refine z_if_eq (tgt := 786) hx hb (nI_toInt (by decide)) dL_law_781 (by decide) (fun c_781 => ?_) (fun c_781 => ?_)
      · refine lv_goto (tgt := 1439) hx hb dL_law_786 (by decide) ?_
        refine W.widen (k := 40 + 12 * q + 12) (n := 15000 + 1200 * q + 1200) (show 40 + 12 * q + 3 + 0 + 0 ≤ 40 + 12 * q + 12 from by omega) (show 15000 + 1200 * q + 18 + 0 + 0 ≤ 15000 + 1200 * q + 1200 from by omega) ?_
        exact KK _ ad2 _ _ f2 H locs ls hJ2 (by rw [had]; exact lv_sub hl [2, 3, 4, 5, 6] rfl) hM
      · exact absurd c_781 (by omega)
  · exact absurd rfl c_765
set_option maxHeartbeats 1000000 in
set_option maxRecDepth 100000 in
theorem k9_phase {p : Program} {l : Launch} {e : Env} {s : State} {m : MethodId} {below : List Frame} {meth : Method} {c : Code} {K : zK} (hst : l.stackTraces = false) {b L9 q : Nat} {xs : Nat → Int32} (hC : zC p s #[Value.ref b] m c cL_law 8 RL s.heap.size K) (hX : va_X b L9 xs s s.heap) (hbl : b < s.heap.size) (hq : 6 * q + 6 ≤ L9) (hL9 : L9 ≤ 3072) {A : zA} {ad ma : Nat → Nat} {oa : Nat} {t : Int32} {L : List Nat} {f : Nat → va_E} {H : Heap} {locs : List Loc} {ls : Array Slot} (hJ : JI K L f A ad ma oa t) (hM : zM s.heap.size K L f s H locs) (hl : lv_has ls 8 [(4, .int (nI (6 * q))), (0, .ref b), (1, .ref (ad 1)), (2, .ref (ma 0)), (3, .ref oa)]) {Q : State → Prop} (KK : ∀ (A : zA) (ad : Nat → Nat) (t : Int32) (L : List Nat) (f : Nat → va_E) (H : Heap) (locs : List Loc) (ls : Array Slot), JI K L f A ad ma oa t → lv_has ls 8 [(4, .int (nI (6 * q))), (0, .ref b), (1, .ref (ad 1)), (2, .ref (ma 0)), (3, .ref oa)] → zM s.heap.size K L f s H locs → W p l e room_1 s m #[Value.ref b] below meth c H locs (40 + 12 * q + 12) (15000 + 1200 * q + 1200) Q (F0 m 1439 ls [])) : W p l e room_1 s m #[Value.ref b] below meth c H locs (40 + 12 * q) (15000 + 1200 * q) Q (F0 m 789 ls []) := by
  have hx := hC.1
  have hb := hC.2.1
  have hml := hC.2.2.1
  have hown := hC.2.2.2.1
  have hts := hC.2.2.2.2.1
  obtain ⟨g0, hfo⟩ := hJ.2.2.2.1
  refine lv_aload_n hx hb dL_law_789 rfl (lv_at hl 2 rfl) ?_
  refine lv_aload_n hx hb dL_law_790 rfl (lv_at hl 1 rfl) ?_
  refine lv_iload hx hb dL_law_791 (lv_at hl 0 rfl) ?_
  refine lv_iconst (v := nI 1) hx hb dL_law_793 (by decide) ?_
  refine z_iadd hx hb dL_law_794 ?_
  refine z_sld hC hM hX hbl (show (6 * q) + 1 < L9 by omega) hL9 dL_law_795 ?_
  refine lv_aload_n hx hb dL_law_796 rfl (lv_at hl 1 rfl) ?_
  refine lv_iload hx hb dL_law_797 (lv_at hl 0 rfl) ?_
  refine lv_iconst (v := nI 2) hx hb dL_law_799 (by decide) ?_
  refine z_iadd hx hb dL_law_800 ?_
  refine z_sld hC hM hX hbl (show (6 * q) + 2 < L9 by omega) hL9 dL_law_801 ?_
  refine lv_aload_n hx hb dL_law_802 rfl (lv_at hl 4 rfl) ?_
  refine z_xq (av := #[]) (val := fun r : Int32 => some (.int r)) (post := fun r u => r = nI (k_fold A (xs (6 * q + 1)) (xs (6 * q + 2))) ∧ WR K A ad L f A oa (k_fold A (xs (6 * q + 1)) (xs (6 * q + 2))) ((v_phase A (xs (6 * q + 1)) (xs (6 * q + 2))).toInt64) u.1 u.2) (z_xrunSH hC hM (w_phase hst hJ.1 hJ.2.2.1 hfo (fun u hu => (hJ.2.2.2.2.1 u hu).1) (xs (6 * q + 1)) (xs (6 * q + 2))) zyH_phase zm_L_119 rfl rfl hl.1 (Nat.le_of_ble_eq_true rfl) ⟨by decide, by decide⟩ ⟨by show 40 + 12 * q + 3 ≤ 601024; omega, by show 15000 + 1200 * q + 18 ≤ 7293034; omega⟩ dL_law_803) (fun st o t ⟨⟨r, u, h1, h2, h3⟩, h4⟩ => ⟨r, u, h1, h2, h3, h4⟩) hM (fun E ce q9 L1 f1 H locs hp hM _ _ _ => hp.elim) (fun r L1 f1 H locs hp hM => ?_)
  obtain ⟨rfl, hWR⟩ := hp
  obtain ⟨ad2, had, hJM⟩ := hJ.w hWR
  obtain ⟨x7, op7, -, hc7⟩ := hJM.2.1.2.2
  have hk3 := k_le_fold A (xs (6 * q + 1)) (xs (6 * q + 2))
  refine lv_istore (lv' := [(5, .int (nI (k_fold A (xs (6 * q + 1)) (xs (6 * q + 2))))), (4, .int (nI (6 * q))), (0, .ref b), (1, .ref ((ad 1))), (2, .ref ((ma 0))), (3, .ref oa)]) hx hb dL_law_806 hl (by decide) rfl (fun ls hl => ?_)
  refine lv_aload_n hx hb dL_law_808 rfl (lv_at hl 4 rfl) ?_
  refine lv_aload_n hx hb dL_law_809 rfl (lv_at hl 2 rfl) ?_
  refine lv_iload hx hb dL_law_810 (lv_at hl 1 rfl) ?_
  refine lv_iconst (v := nI 1) hx hb dL_law_812 (by decide) ?_
  refine z_iadd hx hb dL_law_813 ?_
  refine z_sld hC hM hX hbl (show (6 * q) + 1 < L9 by omega) hL9 dL_law_814 ?_
  refine lv_aload_n hx hb dL_law_815 rfl (lv_at hl 2 rfl) ?_
  refine lv_iload hx hb dL_law_816 (lv_at hl 1 rfl) ?_
  refine lv_iconst (v := nI 2) hx hb dL_law_818 (by decide) ?_
  refine z_iadd hx hb dL_law_819 ?_
  refine z_sld hC hM hX hbl (show (6 * q) + 2 < L9 by omega) hL9 dL_law_820 ?_
  refine z_calli (z_runV hC hM (m_phase hJ.1.1 hJM.2.1 (xs (6 * q + 1)) (xs (6 * q + 2))) zy_X7_phase zm_L_121 (hJM.2.1.1 0 (by decide)) (hc7 0 (by decide)) zcl_X7 rfl rfl rfl hl.1 (Nat.le_of_ble_eq_true rfl) ⟨by decide, by decide⟩ ⟨by show 40 + 12 * q + 3 + 0 ≤ 601024; omega, by show 15000 + 1200 * q + 18 + 0 ≤ 7293034; omega⟩ dL_law_821) hM (fun r L2 f2 H locs hp hM => ?_)
  obtain ⟨hr9, hMR⟩ := hp
  obtain ⟨e9, hJ2, g9, hgo, hg9⟩ := hJM.m hMR
  have e9 := e9.symm
  subst e9
  obtain ⟨x8, op8, -, hc8⟩ := hJ2.2.1.2.2
  refine lv_istore (lv' := [(6, .int r), (5, .int (nI (k_fold A (xs (6 * q + 1)) (xs (6 * q + 2))))), (4, .int (nI (6 * q))), (0, .ref b), (1, .ref ((ad 1))), (2, .ref ((ma 0))), (3, .ref oa)]) hx hb dL_law_824 hl (by decide) rfl (fun ls hl => ?_)
  refine lv_aload_n hx hb dL_law_826 rfl (lv_at hl 5 rfl) ?_
  refine z_fcalli (z_runV hC hM (c_thrown hJ2.1.1 hJ2.2.1) zy_X7_thrown zm_L_88 (hJ2.2.1.1 0 (by decide)) (hc8 0 (by decide)) zcl_X7 rfl rfl rfl hl.1 (Nat.le_of_ble_eq_true rfl) ⟨by decide, by decide⟩ ⟨by show 40 + 12 * q + 3 + 0 + 0 ≤ 601024; omega, by show 15000 + 1200 * q + 18 + 0 + 0 ≤ 7293034; omega⟩ dL_law_827) hM (fun H locs hM => ?_)
  refine lv_iload hx hb dL_law_830 (lv_at hl 1 rfl) ?_
  refine z_icmp_eq (tgt := 837) hx hb (nI_toInt (by omega)) (nI_toInt (by omega)) dL_law_832 (by decide) (fun c_832 => ?_) (fun c_832 => ?_)
  · refine lv_iload hx hb dL_law_837 (lv_at hl 1 rfl) ?_
    refine z_if_ne (tgt := 854) hx hb (nI_toInt (by omega)) dL_law_839 (by decide) (fun c_839 => ?_) (fun c_839 => ?_)
    · refine lv_goto (tgt := 1439) hx hb dL_law_854 (by decide) ?_
      refine W.widen (k := 40 + 12 * q + 12) (n := 15000 + 1200 * q + 1200) (show 40 + 12 * q + 3 + 0 + 0 ≤ 40 + 12 * q + 12 from by omega) (show 15000 + 1200 * q + 18 + 0 + 0 ≤ 15000 + 1200 * q + 1200 from by omega) ?_
      exact KK _ ad2 _ _ f2 H locs ls hJ2 (by rw [had]; exact lv_sub hl [2, 3, 4, 5, 6] rfl) hM
    · refine lv_aload_n hx hb dL_law_842 rfl (lv_at hl 6 rfl) ?_
      refine lv_iconst (v := nI 0) hx hb dL_law_843 (by decide) ?_
      refine z_lald hC hM hJ2.2.2.1 hgo (by omega) (by omega) dL_law_844 ?_
      refine lv_iload hx hb dL_law_845 (lv_at hl 0 rfl) ?_
      refine lv_i2l (v := r.toInt64) hx hb dL_law_847 rfl ?_
      have hk0 : k_fold A (xs (6 * q + 1)) (xs (6 * q + 2)) = 0 := by omega
      rw [show g9 0 = r.toInt64 from (hg9 hk0).trans (by rw [hr9 hk0])]
      refine W.lcmp hx hb dL_law_848 ?_
      rw [lg_self]
      refine z_if_eq (tgt := 854) hx hb (nI_toInt (by decide)) dL_law_849 (by decide) (fun c_849 => ?_) (fun c_849 => ?_)
      · refine lv_goto (tgt := 1439) hx hb dL_law_854 (by decide) ?_
        refine W.widen (k := 40 + 12 * q + 12) (n := 15000 + 1200 * q + 1200) (show 40 + 12 * q + 3 + 0 + 0 ≤ 40 + 12 * q + 12 from by omega) (show 15000 + 1200 * q + 18 + 0 + 0 ≤ 15000 + 1200 * q + 1200 from by omega) ?_
        exact KK _ ad2 _ _ f2 H locs ls hJ2 (by rw [had]; exact lv_sub hl [2, 3, 4, 5, 6] rfl) hM
      · exact absurd c_849 (by omega)
  · exact absurd rfl c_832
set_option maxHeartbeats 1000000 in
set_option maxRecDepth 100000 in
theorem k9_period {p : Program} {l : Launch} {e : Env} {s : State} {m : MethodId} {below : List Frame} {meth : Method} {c : Code} {K : zK} (hst : l.stackTraces = false) {b L9 q : Nat} {xs : Nat → Int32} (hC : zC p s #[Value.ref b] m c cL_law 8 RL s.heap.size K) (hX : va_X b L9 xs s s.heap) (hbl : b < s.heap.size) (hq : 6 * q + 6 ≤ L9) (hL9 : L9 ≤ 3072) {A : zA} {ad ma : Nat → Nat} {oa : Nat} {t : Int32} {L : List Nat} {f : Nat → va_E} {H : Heap} {locs : List Loc} {ls : Array Slot} (hJ : JI K L f A ad ma oa t) (hM : zM s.heap.size K L f s H locs) (hl : lv_has ls 8 [(4, .int (nI (6 * q))), (0, .ref b), (1, .ref (ad 1)), (2, .ref (ma 0)), (3, .ref oa)]) {Q : State → Prop} (KK : ∀ (A : zA) (ad : Nat → Nat) (t : Int32) (L : List Nat) (f : Nat → va_E) (H : Heap) (locs : List Loc) (ls : Array Slot), JI K L f A ad ma oa t → lv_has ls 8 [(4, .int (nI (6 * q))), (0, .ref b), (1, .ref (ad 1)), (2, .ref (ma 0)), (3, .ref oa)] → zM s.heap.size K L f s H locs → W p l e room_1 s m #[Value.ref b] below meth c H locs (40 + 12 * q + 12) (15000 + 1200 * q + 1200) Q (F0 m 1439 ls [])) : W p l e room_1 s m #[Value.ref b] below meth c H locs (40 + 12 * q) (15000 + 1200 * q) Q (F0 m 857 ls []) := by
  have hx := hC.1
  have hb := hC.2.1
  have hml := hC.2.2.1
  have hown := hC.2.2.2.1
  have hts := hC.2.2.2.2.1
  obtain ⟨g0, hfo⟩ := hJ.2.2.2.1
  refine lv_aload_n hx hb dL_law_857 rfl (lv_at hl 2 rfl) ?_
  refine lv_aload_n hx hb dL_law_858 rfl (lv_at hl 1 rfl) ?_
  refine lv_iload hx hb dL_law_859 (lv_at hl 0 rfl) ?_
  refine lv_iconst (v := nI 1) hx hb dL_law_861 (by decide) ?_
  refine z_iadd hx hb dL_law_862 ?_
  refine z_sld hC hM hX hbl (show (6 * q) + 1 < L9 by omega) hL9 dL_law_863 ?_
  refine lv_aload_n hx hb dL_law_864 rfl (lv_at hl 1 rfl) ?_
  refine lv_iload hx hb dL_law_865 (lv_at hl 0 rfl) ?_
  refine lv_iconst (v := nI 2) hx hb dL_law_867 (by decide) ?_
  refine z_iadd hx hb dL_law_868 ?_
  refine z_sld hC hM hX hbl (show (6 * q) + 2 < L9 by omega) hL9 dL_law_869 ?_
  refine lv_aload_n hx hb dL_law_870 rfl (lv_at hl 4 rfl) ?_
  refine z_xq (av := #[]) (val := fun r : Int32 => some (.int r)) (post := fun r u => r = nI (k_period A (xs (6 * q + 1)) (xs (6 * q + 2))) ∧ WR K A ad L f A oa (k_period A (xs (6 * q + 1)) (xs (6 * q + 2))) ((v_period A (xs (6 * q + 1)) (xs (6 * q + 2))).toInt64) u.1 u.2) (z_xrunSH hC hM (w_period hst hJ.1 hJ.2.2.1 hfo (fun u hu => (hJ.2.2.2.2.1 u hu).1) (xs (6 * q + 1)) (xs (6 * q + 2))) zyH_period zm_L_122 rfl rfl hl.1 (Nat.le_of_ble_eq_true rfl) ⟨by decide, by decide⟩ ⟨by show 40 + 12 * q + 3 ≤ 601024; omega, by show 15000 + 1200 * q + 18 ≤ 7293034; omega⟩ dL_law_871) (fun st o t ⟨⟨r, u, h1, h2, h3⟩, h4⟩ => ⟨r, u, h1, h2, h3, h4⟩) hM (fun E ce q9 L1 f1 H locs hp hM _ _ _ => hp.elim) (fun r L1 f1 H locs hp hM => ?_)
  obtain ⟨rfl, hWR⟩ := hp
  obtain ⟨ad2, had, hJM⟩ := hJ.w hWR
  obtain ⟨x7, op7, -, hc7⟩ := hJM.2.1.2.2
  have hk3 := k_le_period A (xs (6 * q + 1)) (xs (6 * q + 2))
  refine lv_istore (lv' := [(5, .int (nI (k_period A (xs (6 * q + 1)) (xs (6 * q + 2))))), (4, .int (nI (6 * q))), (0, .ref b), (1, .ref ((ad 1))), (2, .ref ((ma 0))), (3, .ref oa)]) hx hb dL_law_874 hl (by decide) rfl (fun ls hl => ?_)
  refine lv_aload_n hx hb dL_law_876 rfl (lv_at hl 4 rfl) ?_
  refine lv_aload_n hx hb dL_law_877 rfl (lv_at hl 2 rfl) ?_
  refine lv_iload hx hb dL_law_878 (lv_at hl 1 rfl) ?_
  refine lv_iconst (v := nI 1) hx hb dL_law_880 (by decide) ?_
  refine z_iadd hx hb dL_law_881 ?_
  refine z_sld hC hM hX hbl (show (6 * q) + 1 < L9 by omega) hL9 dL_law_882 ?_
  refine lv_aload_n hx hb dL_law_883 rfl (lv_at hl 2 rfl) ?_
  refine lv_iload hx hb dL_law_884 (lv_at hl 1 rfl) ?_
  refine lv_iconst (v := nI 2) hx hb dL_law_886 (by decide) ?_
  refine z_iadd hx hb dL_law_887 ?_
  refine z_sld hC hM hX hbl (show (6 * q) + 2 < L9 by omega) hL9 dL_law_888 ?_
  refine z_calli (z_runV hC hM (m_period hJ.1.1 hJM.2.1 (xs (6 * q + 1)) (xs (6 * q + 2))) zy_X7_period zm_L_124 (hJM.2.1.1 0 (by decide)) (hc7 0 (by decide)) zcl_X7 rfl rfl rfl hl.1 (Nat.le_of_ble_eq_true rfl) ⟨by decide, by decide⟩ ⟨by show 40 + 12 * q + 3 + 0 ≤ 601024; omega, by show 15000 + 1200 * q + 18 + 0 ≤ 7293034; omega⟩ dL_law_889) hM (fun r L2 f2 H locs hp hM => ?_)
  obtain ⟨hr9, hMR⟩ := hp
  obtain ⟨e9, hJ2, g9, hgo, hg9⟩ := hJM.m hMR
  have e9 := e9.symm
  subst e9
  obtain ⟨x8, op8, -, hc8⟩ := hJ2.2.1.2.2
  refine lv_istore (lv' := [(6, .int r), (5, .int (nI (k_period A (xs (6 * q + 1)) (xs (6 * q + 2))))), (4, .int (nI (6 * q))), (0, .ref b), (1, .ref ((ad 1))), (2, .ref ((ma 0))), (3, .ref oa)]) hx hb dL_law_892 hl (by decide) rfl (fun ls hl => ?_)
  refine lv_aload_n hx hb dL_law_894 rfl (lv_at hl 5 rfl) ?_
  refine z_fcalli (z_runV hC hM (c_thrown hJ2.1.1 hJ2.2.1) zy_X7_thrown zm_L_88 (hJ2.2.1.1 0 (by decide)) (hc8 0 (by decide)) zcl_X7 rfl rfl rfl hl.1 (Nat.le_of_ble_eq_true rfl) ⟨by decide, by decide⟩ ⟨by show 40 + 12 * q + 3 + 0 + 0 ≤ 601024; omega, by show 15000 + 1200 * q + 18 + 0 + 0 ≤ 7293034; omega⟩ dL_law_895) hM (fun H locs hM => ?_)
  refine lv_iload hx hb dL_law_898 (lv_at hl 1 rfl) ?_
  refine z_icmp_eq (tgt := 905) hx hb (nI_toInt (by omega)) (nI_toInt (by omega)) dL_law_900 (by decide) (fun c_900 => ?_) (fun c_900 => ?_)
  · refine lv_iload hx hb dL_law_905 (lv_at hl 1 rfl) ?_
    refine z_if_ne (tgt := 922) hx hb (nI_toInt (by omega)) dL_law_907 (by decide) (fun c_907 => ?_) (fun c_907 => ?_)
    · refine lv_goto (tgt := 1439) hx hb dL_law_922 (by decide) ?_
      refine W.widen (k := 40 + 12 * q + 12) (n := 15000 + 1200 * q + 1200) (show 40 + 12 * q + 3 + 0 + 0 ≤ 40 + 12 * q + 12 from by omega) (show 15000 + 1200 * q + 18 + 0 + 0 ≤ 15000 + 1200 * q + 1200 from by omega) ?_
      exact KK _ ad2 _ _ f2 H locs ls hJ2 (by rw [had]; exact lv_sub hl [2, 3, 4, 5, 6] rfl) hM
    · refine lv_aload_n hx hb dL_law_910 rfl (lv_at hl 6 rfl) ?_
      refine lv_iconst (v := nI 0) hx hb dL_law_911 (by decide) ?_
      refine z_lald hC hM hJ2.2.2.1 hgo (by omega) (by omega) dL_law_912 ?_
      refine lv_iload hx hb dL_law_913 (lv_at hl 0 rfl) ?_
      refine lv_i2l (v := r.toInt64) hx hb dL_law_915 rfl ?_
      have hk0 : k_period A (xs (6 * q + 1)) (xs (6 * q + 2)) = 0 := by omega
      rw [show g9 0 = r.toInt64 from (hg9 hk0).trans (by rw [hr9 hk0])]
      refine W.lcmp hx hb dL_law_916 ?_
      rw [lg_self]
      refine z_if_eq (tgt := 922) hx hb (nI_toInt (by decide)) dL_law_917 (by decide) (fun c_917 => ?_) (fun c_917 => ?_)
      · refine lv_goto (tgt := 1439) hx hb dL_law_922 (by decide) ?_
        refine W.widen (k := 40 + 12 * q + 12) (n := 15000 + 1200 * q + 1200) (show 40 + 12 * q + 3 + 0 + 0 ≤ 40 + 12 * q + 12 from by omega) (show 15000 + 1200 * q + 18 + 0 + 0 ≤ 15000 + 1200 * q + 1200 from by omega) ?_
        exact KK _ ad2 _ _ f2 H locs ls hJ2 (by rw [had]; exact lv_sub hl [2, 3, 4, 5, 6] rfl) hM
      · exact absurd c_917 (by omega)
  · exact absurd rfl c_900
set_option maxHeartbeats 1000000 in
set_option maxRecDepth 100000 in
theorem k9_whyNot {p : Program} {l : Launch} {e : Env} {s : State} {m : MethodId} {below : List Frame} {meth : Method} {c : Code} {K : zK} (hst : l.stackTraces = false) {b L9 q : Nat} {xs : Nat → Int32} (hC : zC p s #[Value.ref b] m c cL_law 8 RL s.heap.size K) (hX : va_X b L9 xs s s.heap) (hbl : b < s.heap.size) (hq : 6 * q + 6 ≤ L9) (hL9 : L9 ≤ 3072) {A : zA} {ad ma : Nat → Nat} {oa : Nat} {t : Int32} {L : List Nat} {f : Nat → va_E} {H : Heap} {locs : List Loc} {ls : Array Slot} (hJ : JI K L f A ad ma oa t) (hM : zM s.heap.size K L f s H locs) (hl : lv_has ls 8 [(4, .int (nI (6 * q))), (0, .ref b), (1, .ref (ad 1)), (2, .ref (ma 0)), (3, .ref oa)]) {Q : State → Prop} (KK : ∀ (A : zA) (ad : Nat → Nat) (t : Int32) (L : List Nat) (f : Nat → va_E) (H : Heap) (locs : List Loc) (ls : Array Slot), JI K L f A ad ma oa t → lv_has ls 8 [(4, .int (nI (6 * q))), (0, .ref b), (1, .ref (ad 1)), (2, .ref (ma 0)), (3, .ref oa)] → zM s.heap.size K L f s H locs → W p l e room_1 s m #[Value.ref b] below meth c H locs (40 + 12 * q + 12) (15000 + 1200 * q + 1200) Q (F0 m 1439 ls [])) : W p l e room_1 s m #[Value.ref b] below meth c H locs (40 + 12 * q) (15000 + 1200 * q) Q (F0 m 925 ls []) := by
  have hx := hC.1
  have hb := hC.2.1
  have hml := hC.2.2.1
  have hown := hC.2.2.2.1
  have hts := hC.2.2.2.2.1
  obtain ⟨g0, hfo⟩ := hJ.2.2.2.1
  refine lv_aload_n hx hb dL_law_925 rfl (lv_at hl 2 rfl) ?_
  refine lv_aload_n hx hb dL_law_926 rfl (lv_at hl 1 rfl) ?_
  refine lv_iload hx hb dL_law_927 (lv_at hl 0 rfl) ?_
  refine lv_iconst (v := nI 1) hx hb dL_law_929 (by decide) ?_
  refine z_iadd hx hb dL_law_930 ?_
  refine z_sld hC hM hX hbl (show (6 * q) + 1 < L9 by omega) hL9 dL_law_931 ?_
  refine lv_aload_n hx hb dL_law_932 rfl (lv_at hl 1 rfl) ?_
  refine lv_iload hx hb dL_law_933 (lv_at hl 0 rfl) ?_
  refine lv_iconst (v := nI 2) hx hb dL_law_935 (by decide) ?_
  refine z_iadd hx hb dL_law_936 ?_
  refine z_sld hC hM hX hbl (show (6 * q) + 2 < L9 by omega) hL9 dL_law_937 ?_
  refine lv_aload_n hx hb dL_law_938 rfl (lv_at hl 4 rfl) ?_
  refine z_xq (av := #[]) (val := fun r : Int32 => some (.int r)) (post := fun r u => r = nI (k_whyNot A (xs (6 * q + 1)) (xs (6 * q + 2))) ∧ WR K A ad L f A oa (k_whyNot A (xs (6 * q + 1)) (xs (6 * q + 2))) ((v_whyNot A (xs (6 * q + 1)) (xs (6 * q + 2))).toInt64) u.1 u.2) (z_xrunSH hC hM (w_whyNot hst hJ.1 hJ.2.2.1 hfo (fun u hu => (hJ.2.2.2.2.1 u hu).1) (xs (6 * q + 1)) (xs (6 * q + 2))) zyH_whyNot zm_L_125 rfl rfl hl.1 (Nat.le_of_ble_eq_true rfl) ⟨by decide, by decide⟩ ⟨by show 40 + 12 * q + 2 ≤ 601024; omega, by show 15000 + 1200 * q + 12 ≤ 7293034; omega⟩ dL_law_939) (fun st o t ⟨⟨r, u, h1, h2, h3⟩, h4⟩ => ⟨r, u, h1, h2, h3, h4⟩) hM (fun E ce q9 L1 f1 H locs hp hM _ _ _ => hp.elim) (fun r L1 f1 H locs hp hM => ?_)
  obtain ⟨rfl, hWR⟩ := hp
  obtain ⟨ad2, had, hJM⟩ := hJ.w hWR
  obtain ⟨x7, op7, -, hc7⟩ := hJM.2.1.2.2
  have hk3 := k_le_whyNot A (xs (6 * q + 1)) (xs (6 * q + 2))
  refine lv_istore (lv' := [(5, .int (nI (k_whyNot A (xs (6 * q + 1)) (xs (6 * q + 2))))), (4, .int (nI (6 * q))), (0, .ref b), (1, .ref ((ad 1))), (2, .ref ((ma 0))), (3, .ref oa)]) hx hb dL_law_942 hl (by decide) rfl (fun ls hl => ?_)
  refine lv_aload_n hx hb dL_law_944 rfl (lv_at hl 4 rfl) ?_
  refine lv_aload_n hx hb dL_law_945 rfl (lv_at hl 2 rfl) ?_
  refine lv_iload hx hb dL_law_946 (lv_at hl 1 rfl) ?_
  refine lv_iconst (v := nI 1) hx hb dL_law_948 (by decide) ?_
  refine z_iadd hx hb dL_law_949 ?_
  refine z_sld hC hM hX hbl (show (6 * q) + 1 < L9 by omega) hL9 dL_law_950 ?_
  refine lv_aload_n hx hb dL_law_951 rfl (lv_at hl 2 rfl) ?_
  refine lv_iload hx hb dL_law_952 (lv_at hl 1 rfl) ?_
  refine lv_iconst (v := nI 2) hx hb dL_law_954 (by decide) ?_
  refine z_iadd hx hb dL_law_955 ?_
  refine z_sld hC hM hX hbl (show (6 * q) + 2 < L9 by omega) hL9 dL_law_956 ?_
  refine z_calli (z_runV hC hM (m_whyNot hJ.1.1 hJM.2.1 (xs (6 * q + 1)) (xs (6 * q + 2))) zy_X7_whyNot zm_L_127 (hJM.2.1.1 0 (by decide)) (hc7 0 (by decide)) zcl_X7 rfl rfl rfl hl.1 (Nat.le_of_ble_eq_true rfl) ⟨by decide, by decide⟩ ⟨by show 40 + 12 * q + 2 + 0 ≤ 601024; omega, by show 15000 + 1200 * q + 12 + 0 ≤ 7293034; omega⟩ dL_law_957) hM (fun r L2 f2 H locs hp hM => ?_)
  obtain ⟨hr9, hMR⟩ := hp
  obtain ⟨e9, hJ2, g9, hgo, hg9⟩ := hJM.m hMR
  have e9 := e9.symm
  subst e9
  obtain ⟨x8, op8, -, hc8⟩ := hJ2.2.1.2.2
  refine lv_istore (lv' := [(6, .int r), (5, .int (nI (k_whyNot A (xs (6 * q + 1)) (xs (6 * q + 2))))), (4, .int (nI (6 * q))), (0, .ref b), (1, .ref ((ad 1))), (2, .ref ((ma 0))), (3, .ref oa)]) hx hb dL_law_960 hl (by decide) rfl (fun ls hl => ?_)
  refine lv_aload_n hx hb dL_law_962 rfl (lv_at hl 5 rfl) ?_
  refine z_fcalli (z_runV hC hM (c_thrown hJ2.1.1 hJ2.2.1) zy_X7_thrown zm_L_88 (hJ2.2.1.1 0 (by decide)) (hc8 0 (by decide)) zcl_X7 rfl rfl rfl hl.1 (Nat.le_of_ble_eq_true rfl) ⟨by decide, by decide⟩ ⟨by show 40 + 12 * q + 2 + 0 + 0 ≤ 601024; omega, by show 15000 + 1200 * q + 12 + 0 + 0 ≤ 7293034; omega⟩ dL_law_963) hM (fun H locs hM => ?_)
  refine lv_iload hx hb dL_law_966 (lv_at hl 1 rfl) ?_
  refine z_icmp_eq (tgt := 973) hx hb (nI_toInt (by omega)) (nI_toInt (by omega)) dL_law_968 (by decide) (fun c_968 => ?_) (fun c_968 => ?_)
  · refine lv_iload hx hb dL_law_973 (lv_at hl 1 rfl) ?_
    refine z_if_ne (tgt := 990) hx hb (nI_toInt (by omega)) dL_law_975 (by decide) (fun c_975 => ?_) (fun c_975 => ?_)
    · refine lv_goto (tgt := 1439) hx hb dL_law_990 (by decide) ?_
      refine W.widen (k := 40 + 12 * q + 12) (n := 15000 + 1200 * q + 1200) (show 40 + 12 * q + 2 + 0 + 0 ≤ 40 + 12 * q + 12 from by omega) (show 15000 + 1200 * q + 12 + 0 + 0 ≤ 15000 + 1200 * q + 1200 from by omega) ?_
      exact KK _ ad2 _ _ f2 H locs ls hJ2 (by rw [had]; exact lv_sub hl [2, 3, 4, 5, 6] rfl) hM
    · refine lv_aload_n hx hb dL_law_978 rfl (lv_at hl 6 rfl) ?_
      refine lv_iconst (v := nI 0) hx hb dL_law_979 (by decide) ?_
      refine z_lald hC hM hJ2.2.2.1 hgo (by omega) (by omega) dL_law_980 ?_
      refine lv_iload hx hb dL_law_981 (lv_at hl 0 rfl) ?_
      refine lv_i2l (v := r.toInt64) hx hb dL_law_983 rfl ?_
      have hk0 : k_whyNot A (xs (6 * q + 1)) (xs (6 * q + 2)) = 0 := by omega
      rw [show g9 0 = r.toInt64 from (hg9 hk0).trans (by rw [hr9 hk0])]
      refine W.lcmp hx hb dL_law_984 ?_
      rw [lg_self]
      refine z_if_eq (tgt := 990) hx hb (nI_toInt (by decide)) dL_law_985 (by decide) (fun c_985 => ?_) (fun c_985 => ?_)
      · refine lv_goto (tgt := 1439) hx hb dL_law_990 (by decide) ?_
        refine W.widen (k := 40 + 12 * q + 12) (n := 15000 + 1200 * q + 1200) (show 40 + 12 * q + 2 + 0 + 0 ≤ 40 + 12 * q + 12 from by omega) (show 15000 + 1200 * q + 12 + 0 + 0 ≤ 15000 + 1200 * q + 1200 from by omega) ?_
        exact KK _ ad2 _ _ f2 H locs ls hJ2 (by rw [had]; exact lv_sub hl [2, 3, 4, 5, 6] rfl) hM
      · exact absurd c_985 (by omega)
  · exact absurd rfl c_968
set_option maxHeartbeats 1000000 in
set_option maxRecDepth 100000 in
theorem k9_oddEven {p : Program} {l : Launch} {e : Env} {s : State} {m : MethodId} {below : List Frame} {meth : Method} {c : Code} {K : zK} (hst : l.stackTraces = false) {b L9 q : Nat} {xs : Nat → Int32} (hC : zC p s #[Value.ref b] m c cL_law 8 RL s.heap.size K) (hX : va_X b L9 xs s s.heap) (hbl : b < s.heap.size) (hq : 6 * q + 6 ≤ L9) (hL9 : L9 ≤ 3072) {A : zA} {ad ma : Nat → Nat} {oa : Nat} {t : Int32} {L : List Nat} {f : Nat → va_E} {H : Heap} {locs : List Loc} {ls : Array Slot} (hJ : JI K L f A ad ma oa t) (hM : zM s.heap.size K L f s H locs) (hl : lv_has ls 8 [(4, .int (nI (6 * q))), (0, .ref b), (1, .ref (ad 1)), (2, .ref (ma 0)), (3, .ref oa)]) {Q : State → Prop} (KK : ∀ (A : zA) (ad : Nat → Nat) (t : Int32) (L : List Nat) (f : Nat → va_E) (H : Heap) (locs : List Loc) (ls : Array Slot), JI K L f A ad ma oa t → lv_has ls 8 [(4, .int (nI (6 * q))), (0, .ref b), (1, .ref (ad 1)), (2, .ref (ma 0)), (3, .ref oa)] → zM s.heap.size K L f s H locs → W p l e room_1 s m #[Value.ref b] below meth c H locs (40 + 12 * q + 12) (15000 + 1200 * q + 1200) Q (F0 m 1439 ls [])) : W p l e room_1 s m #[Value.ref b] below meth c H locs (40 + 12 * q) (15000 + 1200 * q) Q (F0 m 993 ls []) := by
  have hx := hC.1
  have hb := hC.2.1
  have hml := hC.2.2.1
  have hown := hC.2.2.2.1
  have hts := hC.2.2.2.2.1
  obtain ⟨g0, hfo⟩ := hJ.2.2.2.1
  refine lv_aload_n hx hb dL_law_993 rfl (lv_at hl 2 rfl) ?_
  refine lv_aload_n hx hb dL_law_994 rfl (lv_at hl 1 rfl) ?_
  refine lv_iload hx hb dL_law_995 (lv_at hl 0 rfl) ?_
  refine lv_iconst (v := nI 1) hx hb dL_law_997 (by decide) ?_
  refine z_iadd hx hb dL_law_998 ?_
  refine z_sld hC hM hX hbl (show (6 * q) + 1 < L9 by omega) hL9 dL_law_999 ?_
  refine lv_aload_n hx hb dL_law_1000 rfl (lv_at hl 1 rfl) ?_
  refine lv_iload hx hb dL_law_1001 (lv_at hl 0 rfl) ?_
  refine lv_iconst (v := nI 2) hx hb dL_law_1003 (by decide) ?_
  refine z_iadd hx hb dL_law_1004 ?_
  refine z_sld hC hM hX hbl (show (6 * q) + 2 < L9 by omega) hL9 dL_law_1005 ?_
  refine lv_aload_n hx hb dL_law_1006 rfl (lv_at hl 4 rfl) ?_
  refine z_xq (av := #[]) (val := fun r : Int32 => some (.int r)) (post := fun r u => r = nI (k_fold A (xs (6 * q + 1)) (xs (6 * q + 2))) ∧ WR K A ad L f A oa (k_fold A (xs (6 * q + 1)) (xs (6 * q + 2))) (v_oddEven A (xs (6 * q + 1)) (xs (6 * q + 2))) u.1 u.2) (z_xrunSH hC hM (w_oddEven hst hJ.1 hJ.2.2.1 hfo (fun u hu => (hJ.2.2.2.2.1 u hu).1) (xs (6 * q + 1)) (xs (6 * q + 2))) zyH_oddEven zm_L_128 rfl rfl hl.1 (Nat.le_of_ble_eq_true rfl) ⟨by decide, by decide⟩ ⟨by show 40 + 12 * q + 3 ≤ 601024; omega, by show 15000 + 1200 * q + 18 ≤ 7293034; omega⟩ dL_law_1007) (fun st o t ⟨⟨r, u, h1, h2, h3⟩, h4⟩ => ⟨r, u, h1, h2, h3, h4⟩) hM (fun E ce q9 L1 f1 H locs hp hM _ _ _ => hp.elim) (fun r L1 f1 H locs hp hM => ?_)
  obtain ⟨rfl, hWR⟩ := hp
  obtain ⟨ad2, had, hJM⟩ := hJ.w hWR
  obtain ⟨x7, op7, -, hc7⟩ := hJM.2.1.2.2
  have hk3 := k_le_fold A (xs (6 * q + 1)) (xs (6 * q + 2))
  refine lv_istore (lv' := [(5, .int (nI (k_fold A (xs (6 * q + 1)) (xs (6 * q + 2))))), (4, .int (nI (6 * q))), (0, .ref b), (1, .ref ((ad 1))), (2, .ref ((ma 0))), (3, .ref oa)]) hx hb dL_law_1010 hl (by decide) rfl (fun ls hl => ?_)
  refine lv_aload_n hx hb dL_law_1012 rfl (lv_at hl 4 rfl) ?_
  refine lv_aload_n hx hb dL_law_1013 rfl (lv_at hl 2 rfl) ?_
  refine lv_iload hx hb dL_law_1014 (lv_at hl 1 rfl) ?_
  refine lv_iconst (v := nI 1) hx hb dL_law_1016 (by decide) ?_
  refine z_iadd hx hb dL_law_1017 ?_
  refine z_sld hC hM hX hbl (show (6 * q) + 1 < L9 by omega) hL9 dL_law_1018 ?_
  refine lv_aload_n hx hb dL_law_1019 rfl (lv_at hl 2 rfl) ?_
  refine lv_iload hx hb dL_law_1020 (lv_at hl 1 rfl) ?_
  refine lv_iconst (v := nI 2) hx hb dL_law_1022 (by decide) ?_
  refine z_iadd hx hb dL_law_1023 ?_
  refine z_sld hC hM hX hbl (show (6 * q) + 2 < L9 by omega) hL9 dL_law_1024 ?_
  refine z_calll (z_runV hC hM (m_oddEven hJ.1.1 hJM.2.1 (xs (6 * q + 1)) (xs (6 * q + 2))) zy_X7_oddEven zm_L_130 (hJM.2.1.1 0 (by decide)) (hc7 0 (by decide)) zcl_X7 rfl rfl rfl hl.1 (Nat.le_of_ble_eq_true rfl) ⟨by decide, by decide⟩ ⟨by show 40 + 12 * q + 3 + 0 ≤ 601024; omega, by show 15000 + 1200 * q + 18 + 0 ≤ 7293034; omega⟩ dL_law_1025) hM (fun r L2 f2 H locs hp hM => ?_)
  obtain ⟨hr9, hMR⟩ := hp
  obtain ⟨e9, hJ2, g9, hgo, hg9⟩ := hJM.m hMR
  have e9 := e9.symm
  subst e9
  obtain ⟨x8, op8, -, hc8⟩ := hJ2.2.1.2.2
  refine lv_lstore (lv' := [(6, .long r), (5, .int (nI (k_fold A (xs (6 * q + 1)) (xs (6 * q + 2))))), (4, .int (nI (6 * q))), (0, .ref b), (1, .ref ((ad 1))), (2, .ref ((ma 0))), (3, .ref oa)]) hx hb dL_law_1028 hl (by decide) rfl (fun ls hl => ?_)
  refine lv_aload_n hx hb dL_law_1030 rfl (lv_at hl 5 rfl) ?_
  refine z_fcalli (z_runV hC hM (c_thrown hJ2.1.1 hJ2.2.1) zy_X7_thrown zm_L_88 (hJ2.2.1.1 0 (by decide)) (hc8 0 (by decide)) zcl_X7 rfl rfl rfl hl.1 (Nat.le_of_ble_eq_true rfl) ⟨by decide, by decide⟩ ⟨by show 40 + 12 * q + 3 + 0 + 0 ≤ 601024; omega, by show 15000 + 1200 * q + 18 + 0 + 0 ≤ 7293034; omega⟩ dL_law_1031) hM (fun H locs hM => ?_)
  refine lv_iload hx hb dL_law_1034 (lv_at hl 1 rfl) ?_
  refine z_icmp_eq (tgt := 1041) hx hb (nI_toInt (by omega)) (nI_toInt (by omega)) dL_law_1036 (by decide) (fun c_1036 => ?_) (fun c_1036 => ?_)
  · refine lv_iload hx hb dL_law_1041 (lv_at hl 1 rfl) ?_
    refine z_if_ne (tgt := 1057) hx hb (nI_toInt (by omega)) dL_law_1043 (by decide) (fun c_1043 => ?_) (fun c_1043 => ?_)
    · refine lv_goto (tgt := 1439) hx hb dL_law_1057 (by decide) ?_
      refine W.widen (k := 40 + 12 * q + 12) (n := 15000 + 1200 * q + 1200) (show 40 + 12 * q + 3 + 0 + 0 ≤ 40 + 12 * q + 12 from by omega) (show 15000 + 1200 * q + 18 + 0 + 0 ≤ 15000 + 1200 * q + 1200 from by omega) ?_
      exact KK _ ad2 _ _ f2 H locs ls hJ2 (by rw [had]; exact lv_sub hl [2, 3, 4, 5, 6] rfl) hM
    · refine lv_aload_n hx hb dL_law_1046 rfl (lv_at hl 6 rfl) ?_
      refine lv_iconst (v := nI 0) hx hb dL_law_1047 (by decide) ?_
      refine z_lald hC hM hJ2.2.2.1 hgo (by omega) (by omega) dL_law_1048 ?_
      refine lv_lload hx hb dL_law_1049 (lv_at hl 0 rfl) ?_
      have hk0 : k_fold A (xs (6 * q + 1)) (xs (6 * q + 2)) = 0 := by omega
      rw [show g9 0 = r from (hg9 hk0).trans (by rw [hr9 hk0])]
      refine W.lcmp hx hb dL_law_1051 ?_
      rw [lg_self]
      refine z_if_eq (tgt := 1057) hx hb (nI_toInt (by decide)) dL_law_1052 (by decide) (fun c_1052 => ?_) (fun c_1052 => ?_)
      · refine lv_goto (tgt := 1439) hx hb dL_law_1057 (by decide) ?_
        refine W.widen (k := 40 + 12 * q + 12) (n := 15000 + 1200 * q + 1200) (show 40 + 12 * q + 3 + 0 + 0 ≤ 40 + 12 * q + 12 from by omega) (show 15000 + 1200 * q + 18 + 0 + 0 ≤ 15000 + 1200 * q + 1200 from by omega) ?_
        exact KK _ ad2 _ _ f2 H locs ls hJ2 (by rw [had]; exact lv_sub hl [2, 3, 4, 5, 6] rfl) hM
      · exact absurd c_1052 (by omega)
  · exact absurd rfl c_1036
set_option maxHeartbeats 1000000 in
set_option maxRecDepth 100000 in
theorem k9_world {p : Program} {l : Launch} {e : Env} {s : State} {m : MethodId} {below : List Frame} {meth : Method} {c : Code} {K : zK} (hst : l.stackTraces = false) {b L9 q : Nat} {xs : Nat → Int32} (hC : zC p s #[Value.ref b] m c cL_law 8 RL s.heap.size K) (hX : va_X b L9 xs s s.heap) (hbl : b < s.heap.size) (hq : 6 * q + 6 ≤ L9) (hL9 : L9 ≤ 3072) {A : zA} {ad ma : Nat → Nat} {oa : Nat} {t : Int32} {L : List Nat} {f : Nat → va_E} {H : Heap} {locs : List Loc} {ls : Array Slot} (hJ : JI K L f A ad ma oa t) (hM : zM s.heap.size K L f s H locs) (hl : lv_has ls 8 [(4, .int (nI (6 * q))), (0, .ref b), (1, .ref (ad 1)), (2, .ref (ma 0)), (3, .ref oa)]) {Q : State → Prop} (KK : ∀ (A : zA) (ad : Nat → Nat) (t : Int32) (L : List Nat) (f : Nat → va_E) (H : Heap) (locs : List Loc) (ls : Array Slot), JI K L f A ad ma oa t → lv_has ls 8 [(4, .int (nI (6 * q))), (0, .ref b), (1, .ref (ad 1)), (2, .ref (ma 0)), (3, .ref oa)] → zM s.heap.size K L f s H locs → W p l e room_1 s m #[Value.ref b] below meth c H locs (40 + 12 * q + 12) (15000 + 1200 * q + 1200) Q (F0 m 1439 ls [])) : W p l e room_1 s m #[Value.ref b] below meth c H locs (40 + 12 * q) (15000 + 1200 * q) Q (F0 m 1060 ls []) := by
  have hx := hC.1
  have hb := hC.2.1
  have hml := hC.2.2.1
  have hown := hC.2.2.2.1
  have hts := hC.2.2.2.2.1
  obtain ⟨g0, hfo⟩ := hJ.2.2.2.1
  refine lv_aload_n hx hb dL_law_1060 rfl (lv_at hl 2 rfl) ?_
  refine lv_aload_n hx hb dL_law_1061 rfl (lv_at hl 1 rfl) ?_
  refine lv_iload hx hb dL_law_1062 (lv_at hl 0 rfl) ?_
  refine lv_iconst (v := nI 1) hx hb dL_law_1064 (by decide) ?_
  refine z_iadd hx hb dL_law_1065 ?_
  refine z_sld hC hM hX hbl (show (6 * q) + 1 < L9 by omega) hL9 dL_law_1066 ?_
  refine lv_aload_n hx hb dL_law_1067 rfl (lv_at hl 1 rfl) ?_
  refine lv_iload hx hb dL_law_1068 (lv_at hl 0 rfl) ?_
  refine lv_iconst (v := nI 2) hx hb dL_law_1070 (by decide) ?_
  refine z_iadd hx hb dL_law_1071 ?_
  refine z_sld hC hM hX hbl (show (6 * q) + 2 < L9 by omega) hL9 dL_law_1072 ?_
  refine lv_aload_n hx hb dL_law_1073 rfl (lv_at hl 4 rfl) ?_
  refine z_xq (av := #[]) (val := fun r : Int32 => some (.int r)) (post := fun r u => r = nI (k_world A (xs (6 * q + 1)) (xs (6 * q + 2))) ∧ WR K A ad L f (a_world A (xs (6 * q + 1)) (xs (6 * q + 2))) oa (k_world A (xs (6 * q + 1)) (xs (6 * q + 2))) ((nI (nw A)).toInt64) u.1 u.2) (z_xrunSH hC hM (w_world hst hJ.1 hJ.2.2.1 hfo (fun u hu => (hJ.2.2.2.2.1 u hu).1) (xs (6 * q + 1)) (xs (6 * q + 2))) zyH_world zm_L_131 rfl rfl hl.1 (Nat.le_of_ble_eq_true rfl) ⟨by decide, by decide⟩ ⟨by show 40 + 12 * q + 12 ≤ 601024; omega, by show 15000 + 1200 * q + 1200 ≤ 7293034; omega⟩ dL_law_1074) (fun st o t ⟨⟨r, u, h1, h2, h3⟩, h4⟩ => ⟨r, u, h1, h2, h3, h4⟩) hM (fun E ce q9 L1 f1 H locs hp hM _ _ _ => hp.elim) (fun r L1 f1 H locs hp hM => ?_)
  obtain ⟨rfl, hWR⟩ := hp
  obtain ⟨ad2, had, hJM⟩ := hJ.w hWR
  obtain ⟨x7, op7, -, hc7⟩ := hJM.2.1.2.2
  have hk3 := k_le_world A (xs (6 * q + 1)) (xs (6 * q + 2))
  refine lv_istore (lv' := [(5, .int (nI (k_world A (xs (6 * q + 1)) (xs (6 * q + 2))))), (4, .int (nI (6 * q))), (0, .ref b), (1, .ref ((ad 1))), (2, .ref ((ma 0))), (3, .ref oa)]) hx hb dL_law_1077 hl (by decide) rfl (fun ls hl => ?_)
  refine lv_aload_n hx hb dL_law_1079 rfl (lv_at hl 4 rfl) ?_
  refine lv_aload_n hx hb dL_law_1080 rfl (lv_at hl 2 rfl) ?_
  refine lv_iload hx hb dL_law_1081 (lv_at hl 1 rfl) ?_
  refine lv_iconst (v := nI 1) hx hb dL_law_1083 (by decide) ?_
  refine z_iadd hx hb dL_law_1084 ?_
  refine z_sld hC hM hX hbl (show (6 * q) + 1 < L9 by omega) hL9 dL_law_1085 ?_
  refine lv_aload_n hx hb dL_law_1086 rfl (lv_at hl 2 rfl) ?_
  refine lv_iload hx hb dL_law_1087 (lv_at hl 1 rfl) ?_
  refine lv_iconst (v := nI 2) hx hb dL_law_1089 (by decide) ?_
  refine z_iadd hx hb dL_law_1090 ?_
  refine z_sld hC hM hX hbl (show (6 * q) + 2 < L9 by omega) hL9 dL_law_1091 ?_
  refine z_calli (z_runV hC hM (m_world hJ.1.1 hJM.2.1 (xs (6 * q + 1)) (xs (6 * q + 2))) zy_X7_world zm_L_133 (hJM.2.1.1 0 (by decide)) (hc7 0 (by decide)) zcl_X7 rfl rfl rfl hl.1 (Nat.le_of_ble_eq_true rfl) ⟨by decide, by decide⟩ ⟨by show 40 + 12 * q + 12 + 0 ≤ 601024; omega, by show 15000 + 1200 * q + 1200 + 0 ≤ 7293034; omega⟩ dL_law_1092) hM (fun r L2 f2 H locs hp hM => ?_)
  obtain ⟨hr9, hMR⟩ := hp
  obtain ⟨e9, hJ2, g9, hgo, hg9⟩ := hJM.m hMR
  have e9 := e9.symm
  subst e9
  obtain ⟨x8, op8, -, hc8⟩ := hJ2.2.1.2.2
  refine lv_istore (lv' := [(6, .int r), (5, .int (nI (k_world A (xs (6 * q + 1)) (xs (6 * q + 2))))), (4, .int (nI (6 * q))), (0, .ref b), (1, .ref ((ad 1))), (2, .ref ((ma 0))), (3, .ref oa)]) hx hb dL_law_1095 hl (by decide) rfl (fun ls hl => ?_)
  refine lv_aload_n hx hb dL_law_1097 rfl (lv_at hl 5 rfl) ?_
  refine z_fcalli (z_runV hC hM (c_thrown hJ2.1.1 hJ2.2.1) zy_X7_thrown zm_L_88 (hJ2.2.1.1 0 (by decide)) (hc8 0 (by decide)) zcl_X7 rfl rfl rfl hl.1 (Nat.le_of_ble_eq_true rfl) ⟨by decide, by decide⟩ ⟨by show 40 + 12 * q + 12 + 0 + 0 ≤ 601024; omega, by show 15000 + 1200 * q + 1200 + 0 + 0 ≤ 7293034; omega⟩ dL_law_1098) hM (fun H locs hM => ?_)
  refine lv_iload hx hb dL_law_1101 (lv_at hl 1 rfl) ?_
  refine z_icmp_eq (tgt := 1108) hx hb (nI_toInt (by omega)) (nI_toInt (by omega)) dL_law_1103 (by decide) (fun c_1103 => ?_) (fun c_1103 => ?_)
  · refine lv_iload hx hb dL_law_1108 (lv_at hl 1 rfl) ?_
    refine z_if_ne (tgt := 1125) hx hb (nI_toInt (by omega)) dL_law_1110 (by decide) (fun c_1110 => ?_) (fun c_1110 => ?_)
    · refine lv_goto (tgt := 1439) hx hb dL_law_1125 (by decide) ?_
      refine W.widen (k := 40 + 12 * q + 12) (n := 15000 + 1200 * q + 1200) (show 40 + 12 * q + 12 + 0 + 0 ≤ 40 + 12 * q + 12 from by omega) (show 15000 + 1200 * q + 1200 + 0 + 0 ≤ 15000 + 1200 * q + 1200 from by omega) ?_
      exact KK _ ad2 _ _ f2 H locs ls hJ2 (by rw [had]; exact lv_sub hl [2, 3, 4, 5, 6] rfl) hM
    · refine lv_aload_n hx hb dL_law_1113 rfl (lv_at hl 6 rfl) ?_
      refine lv_iconst (v := nI 0) hx hb dL_law_1114 (by decide) ?_
      refine z_lald hC hM hJ2.2.2.1 hgo (by omega) (by omega) dL_law_1115 ?_
      refine lv_iload hx hb dL_law_1116 (lv_at hl 0 rfl) ?_
      refine lv_i2l (v := r.toInt64) hx hb dL_law_1118 rfl ?_
      have hk0 : k_world A (xs (6 * q + 1)) (xs (6 * q + 2)) = 0 := by omega
      rw [show g9 0 = r.toInt64 from (hg9 hk0).trans (by rw [hr9 hk0])]
      refine W.lcmp hx hb dL_law_1119 ?_
      rw [lg_self]
      refine z_if_eq (tgt := 1125) hx hb (nI_toInt (by decide)) dL_law_1120 (by decide) (fun c_1120 => ?_) (fun c_1120 => ?_)
      · refine lv_goto (tgt := 1439) hx hb dL_law_1125 (by decide) ?_
        refine W.widen (k := 40 + 12 * q + 12) (n := 15000 + 1200 * q + 1200) (show 40 + 12 * q + 12 + 0 + 0 ≤ 40 + 12 * q + 12 from by omega) (show 15000 + 1200 * q + 1200 + 0 + 0 ≤ 15000 + 1200 * q + 1200 from by omega) ?_
        exact KK _ ad2 _ _ f2 H locs ls hJ2 (by rw [had]; exact lv_sub hl [2, 3, 4, 5, 6] rfl) hM
      · exact absurd c_1120 (by omega)
  · exact absurd rfl c_1103
set_option maxHeartbeats 1000000 in
set_option maxRecDepth 100000 in
theorem k9_about {p : Program} {l : Launch} {e : Env} {s : State} {m : MethodId} {below : List Frame} {meth : Method} {c : Code} {K : zK} (hst : l.stackTraces = false) {b L9 q : Nat} {xs : Nat → Int32} (hC : zC p s #[Value.ref b] m c cL_law 8 RL s.heap.size K) (hX : va_X b L9 xs s s.heap) (hbl : b < s.heap.size) (hq : 6 * q + 6 ≤ L9) (hL9 : L9 ≤ 3072) {A : zA} {ad ma : Nat → Nat} {oa : Nat} {t : Int32} {L : List Nat} {f : Nat → va_E} {H : Heap} {locs : List Loc} {ls : Array Slot} (hJ : JI K L f A ad ma oa t) (hM : zM s.heap.size K L f s H locs) (hl : lv_has ls 8 [(4, .int (nI (6 * q))), (0, .ref b), (1, .ref (ad 1)), (2, .ref (ma 0)), (3, .ref oa)]) {Q : State → Prop} (KK : ∀ (A : zA) (ad : Nat → Nat) (t : Int32) (L : List Nat) (f : Nat → va_E) (H : Heap) (locs : List Loc) (ls : Array Slot), JI K L f A ad ma oa t → lv_has ls 8 [(4, .int (nI (6 * q))), (0, .ref b), (1, .ref (ad 1)), (2, .ref (ma 0)), (3, .ref oa)] → zM s.heap.size K L f s H locs → W p l e room_1 s m #[Value.ref b] below meth c H locs (40 + 12 * q + 12) (15000 + 1200 * q + 1200) Q (F0 m 1439 ls [])) : W p l e room_1 s m #[Value.ref b] below meth c H locs (40 + 12 * q) (15000 + 1200 * q) Q (F0 m 1128 ls []) := by
  have hx := hC.1
  have hb := hC.2.1
  have hml := hC.2.2.1
  have hown := hC.2.2.2.1
  have hts := hC.2.2.2.2.1
  obtain ⟨g0, hfo⟩ := hJ.2.2.2.1
  refine lv_aload_n hx hb dL_law_1128 rfl (lv_at hl 2 rfl) ?_
  refine lv_aload_n hx hb dL_law_1129 rfl (lv_at hl 1 rfl) ?_
  refine lv_iload hx hb dL_law_1130 (lv_at hl 0 rfl) ?_
  refine lv_iconst (v := nI 1) hx hb dL_law_1132 (by decide) ?_
  refine z_iadd hx hb dL_law_1133 ?_
  refine z_sld hC hM hX hbl (show (6 * q) + 1 < L9 by omega) hL9 dL_law_1134 ?_
  refine lv_aload_n hx hb dL_law_1135 rfl (lv_at hl 1 rfl) ?_
  refine lv_iload hx hb dL_law_1136 (lv_at hl 0 rfl) ?_
  refine lv_iconst (v := nI 2) hx hb dL_law_1138 (by decide) ?_
  refine z_iadd hx hb dL_law_1139 ?_
  refine z_sld hC hM hX hbl (show (6 * q) + 2 < L9 by omega) hL9 dL_law_1140 ?_
  refine lv_aload_n hx hb dL_law_1141 rfl (lv_at hl 4 rfl) ?_
  refine z_xq (av := #[]) (val := fun r : Int32 => some (.int r)) (post := fun r u => r = nI (k_about A (xs (6 * q + 1)) (xs (6 * q + 2))) ∧ WR K A ad L f A oa (k_about A (xs (6 * q + 1)) (xs (6 * q + 2))) ((v_about A (xs (6 * q + 1)) (xs (6 * q + 2))).toInt64) u.1 u.2) (z_xrunSH hC hM (w_about hst hJ.1 hJ.2.2.1 hfo (fun u hu => (hJ.2.2.2.2.1 u hu).1) (xs (6 * q + 1)) (xs (6 * q + 2))) zyH_about zm_L_134 rfl rfl hl.1 (Nat.le_of_ble_eq_true rfl) ⟨by decide, by decide⟩ ⟨by show 40 + 12 * q + 2 ≤ 601024; omega, by show 15000 + 1200 * q + 12 ≤ 7293034; omega⟩ dL_law_1142) (fun st o t ⟨⟨r, u, h1, h2, h3⟩, h4⟩ => ⟨r, u, h1, h2, h3, h4⟩) hM (fun E ce q9 L1 f1 H locs hp hM _ _ _ => hp.elim) (fun r L1 f1 H locs hp hM => ?_)
  obtain ⟨rfl, hWR⟩ := hp
  obtain ⟨ad2, had, hJM⟩ := hJ.w hWR
  obtain ⟨x7, op7, -, hc7⟩ := hJM.2.1.2.2
  have hk3 := k_le_about A (xs (6 * q + 1)) (xs (6 * q + 2))
  refine lv_istore (lv' := [(5, .int (nI (k_about A (xs (6 * q + 1)) (xs (6 * q + 2))))), (4, .int (nI (6 * q))), (0, .ref b), (1, .ref ((ad 1))), (2, .ref ((ma 0))), (3, .ref oa)]) hx hb dL_law_1145 hl (by decide) rfl (fun ls hl => ?_)
  refine lv_aload_n hx hb dL_law_1147 rfl (lv_at hl 4 rfl) ?_
  refine lv_aload_n hx hb dL_law_1148 rfl (lv_at hl 2 rfl) ?_
  refine lv_iload hx hb dL_law_1149 (lv_at hl 1 rfl) ?_
  refine lv_iconst (v := nI 1) hx hb dL_law_1151 (by decide) ?_
  refine z_iadd hx hb dL_law_1152 ?_
  refine z_sld hC hM hX hbl (show (6 * q) + 1 < L9 by omega) hL9 dL_law_1153 ?_
  refine lv_aload_n hx hb dL_law_1154 rfl (lv_at hl 2 rfl) ?_
  refine lv_iload hx hb dL_law_1155 (lv_at hl 1 rfl) ?_
  refine lv_iconst (v := nI 2) hx hb dL_law_1157 (by decide) ?_
  refine z_iadd hx hb dL_law_1158 ?_
  refine z_sld hC hM hX hbl (show (6 * q) + 2 < L9 by omega) hL9 dL_law_1159 ?_
  refine z_calli (z_runV hC hM (m_about hJ.1.1 hJM.2.1 (xs (6 * q + 1)) (xs (6 * q + 2))) zy_X7_about zm_L_136 (hJM.2.1.1 0 (by decide)) (hc7 0 (by decide)) zcl_X7 rfl rfl rfl hl.1 (Nat.le_of_ble_eq_true rfl) ⟨by decide, by decide⟩ ⟨by show 40 + 12 * q + 2 + 0 ≤ 601024; omega, by show 15000 + 1200 * q + 12 + 0 ≤ 7293034; omega⟩ dL_law_1160) hM (fun r L2 f2 H locs hp hM => ?_)
  obtain ⟨hr9, hMR⟩ := hp
  obtain ⟨e9, hJ2, g9, hgo, hg9⟩ := hJM.m hMR
  have e9 := e9.symm
  subst e9
  obtain ⟨x8, op8, -, hc8⟩ := hJ2.2.1.2.2
  refine lv_istore (lv' := [(6, .int r), (5, .int (nI (k_about A (xs (6 * q + 1)) (xs (6 * q + 2))))), (4, .int (nI (6 * q))), (0, .ref b), (1, .ref ((ad 1))), (2, .ref ((ma 0))), (3, .ref oa)]) hx hb dL_law_1163 hl (by decide) rfl (fun ls hl => ?_)
  refine lv_aload_n hx hb dL_law_1165 rfl (lv_at hl 5 rfl) ?_
  refine z_fcalli (z_runV hC hM (c_thrown hJ2.1.1 hJ2.2.1) zy_X7_thrown zm_L_88 (hJ2.2.1.1 0 (by decide)) (hc8 0 (by decide)) zcl_X7 rfl rfl rfl hl.1 (Nat.le_of_ble_eq_true rfl) ⟨by decide, by decide⟩ ⟨by show 40 + 12 * q + 2 + 0 + 0 ≤ 601024; omega, by show 15000 + 1200 * q + 12 + 0 + 0 ≤ 7293034; omega⟩ dL_law_1166) hM (fun H locs hM => ?_)
  refine lv_iload hx hb dL_law_1169 (lv_at hl 1 rfl) ?_
  refine z_icmp_eq (tgt := 1176) hx hb (nI_toInt (by omega)) (nI_toInt (by omega)) dL_law_1171 (by decide) (fun c_1171 => ?_) (fun c_1171 => ?_)
  · refine lv_iload hx hb dL_law_1176 (lv_at hl 1 rfl) ?_
    refine z_if_ne (tgt := 1193) hx hb (nI_toInt (by omega)) dL_law_1178 (by decide) (fun c_1178 => ?_) (fun c_1178 => ?_)
    · refine lv_goto (tgt := 1439) hx hb dL_law_1193 (by decide) ?_
      refine W.widen (k := 40 + 12 * q + 12) (n := 15000 + 1200 * q + 1200) (show 40 + 12 * q + 2 + 0 + 0 ≤ 40 + 12 * q + 12 from by omega) (show 15000 + 1200 * q + 12 + 0 + 0 ≤ 15000 + 1200 * q + 1200 from by omega) ?_
      exact KK _ ad2 _ _ f2 H locs ls hJ2 (by rw [had]; exact lv_sub hl [2, 3, 4, 5, 6] rfl) hM
    · refine lv_aload_n hx hb dL_law_1181 rfl (lv_at hl 6 rfl) ?_
      refine lv_iconst (v := nI 0) hx hb dL_law_1182 (by decide) ?_
      refine z_lald hC hM hJ2.2.2.1 hgo (by omega) (by omega) dL_law_1183 ?_
      refine lv_iload hx hb dL_law_1184 (lv_at hl 0 rfl) ?_
      refine lv_i2l (v := r.toInt64) hx hb dL_law_1186 rfl ?_
      have hk0 : k_about A (xs (6 * q + 1)) (xs (6 * q + 2)) = 0 := by omega
      rw [show g9 0 = r.toInt64 from (hg9 hk0).trans (by rw [hr9 hk0])]
      refine W.lcmp hx hb dL_law_1187 ?_
      rw [lg_self]
      refine z_if_eq (tgt := 1193) hx hb (nI_toInt (by decide)) dL_law_1188 (by decide) (fun c_1188 => ?_) (fun c_1188 => ?_)
      · refine lv_goto (tgt := 1439) hx hb dL_law_1193 (by decide) ?_
        refine W.widen (k := 40 + 12 * q + 12) (n := 15000 + 1200 * q + 1200) (show 40 + 12 * q + 2 + 0 + 0 ≤ 40 + 12 * q + 12 from by omega) (show 15000 + 1200 * q + 12 + 0 + 0 ≤ 15000 + 1200 * q + 1200 from by omega) ?_
        exact KK _ ad2 _ _ f2 H locs ls hJ2 (by rw [had]; exact lv_sub hl [2, 3, 4, 5, 6] rfl) hM
      · exact absurd c_1188 (by omega)
  · exact absurd rfl c_1171
set_option maxHeartbeats 1000000 in
set_option maxRecDepth 100000 in
theorem k9_periodAnew {p : Program} {l : Launch} {e : Env} {s : State} {m : MethodId} {below : List Frame} {meth : Method} {c : Code} {K : zK} (hst : l.stackTraces = false) {b L9 q : Nat} {xs : Nat → Int32} (hC : zC p s #[Value.ref b] m c cL_law 8 RL s.heap.size K) (hX : va_X b L9 xs s s.heap) (hbl : b < s.heap.size) (hq : 6 * q + 6 ≤ L9) (hL9 : L9 ≤ 3072) {A : zA} {ad ma : Nat → Nat} {oa : Nat} {t : Int32} {L : List Nat} {f : Nat → va_E} {H : Heap} {locs : List Loc} {ls : Array Slot} (hJ : JI K L f A ad ma oa t) (hM : zM s.heap.size K L f s H locs) (hl : lv_has ls 8 [(4, .int (nI (6 * q))), (0, .ref b), (1, .ref (ad 1)), (2, .ref (ma 0)), (3, .ref oa)]) {Q : State → Prop} (KK : ∀ (A : zA) (ad : Nat → Nat) (t : Int32) (L : List Nat) (f : Nat → va_E) (H : Heap) (locs : List Loc) (ls : Array Slot), JI K L f A ad ma oa t → lv_has ls 8 [(4, .int (nI (6 * q))), (0, .ref b), (1, .ref (ad 1)), (2, .ref (ma 0)), (3, .ref oa)] → zM s.heap.size K L f s H locs → W p l e room_1 s m #[Value.ref b] below meth c H locs (40 + 12 * q + 12) (15000 + 1200 * q + 1200) Q (F0 m 1439 ls [])) : W p l e room_1 s m #[Value.ref b] below meth c H locs (40 + 12 * q) (15000 + 1200 * q) Q (F0 m 1196 ls []) := by
  have hx := hC.1
  have hb := hC.2.1
  have hml := hC.2.2.1
  have hown := hC.2.2.2.1
  have hts := hC.2.2.2.2.1
  obtain ⟨g0, hfo⟩ := hJ.2.2.2.1
  refine lv_aload_n hx hb dL_law_1196 rfl (lv_at hl 2 rfl) ?_
  refine lv_aload_n hx hb dL_law_1197 rfl (lv_at hl 1 rfl) ?_
  refine lv_iload hx hb dL_law_1198 (lv_at hl 0 rfl) ?_
  refine lv_iconst (v := nI 1) hx hb dL_law_1200 (by decide) ?_
  refine z_iadd hx hb dL_law_1201 ?_
  refine z_sld hC hM hX hbl (show (6 * q) + 1 < L9 by omega) hL9 dL_law_1202 ?_
  refine lv_aload_n hx hb dL_law_1203 rfl (lv_at hl 4 rfl) ?_
  refine z_xq (av := #[]) (val := fun r : Int32 => some (.int r)) (post := fun r u => r = nI (k_anew A (xs (6 * q + 1))) ∧ WR K A ad L f A oa (k_anew A (xs (6 * q + 1))) ((v_anew A (xs (6 * q + 1))).toInt64) u.1 u.2) (z_xrunSH hC hM (w_periodAnew hst hJ.1 hJ.2.2.1 hfo (fun u hu => (hJ.2.2.2.2.1 u hu).1) (xs (6 * q + 1))) zyH_periodAnew zm_L_137 rfl rfl hl.1 (Nat.le_of_ble_eq_true rfl) ⟨by decide, by decide⟩ ⟨by show 40 + 12 * q + 1 ≤ 601024; omega, by show 15000 + 1200 * q + 6 ≤ 7293034; omega⟩ dL_law_1204) (fun st o t ⟨⟨r, u, h1, h2, h3⟩, h4⟩ => ⟨r, u, h1, h2, h3, h4⟩) hM (fun E ce q9 L1 f1 H locs hp hM _ _ _ => hp.elim) (fun r L1 f1 H locs hp hM => ?_)
  obtain ⟨rfl, hWR⟩ := hp
  obtain ⟨ad2, had, hJM⟩ := hJ.w hWR
  obtain ⟨x7, op7, -, hc7⟩ := hJM.2.1.2.2
  have hk3 := k_le_anew A (xs (6 * q + 1))
  refine lv_istore (lv' := [(5, .int (nI (k_anew A (xs (6 * q + 1))))), (4, .int (nI (6 * q))), (0, .ref b), (1, .ref ((ad 1))), (2, .ref ((ma 0))), (3, .ref oa)]) hx hb dL_law_1207 hl (by decide) rfl (fun ls hl => ?_)
  refine lv_aload_n hx hb dL_law_1209 rfl (lv_at hl 4 rfl) ?_
  refine lv_aload_n hx hb dL_law_1210 rfl (lv_at hl 2 rfl) ?_
  refine lv_iload hx hb dL_law_1211 (lv_at hl 1 rfl) ?_
  refine lv_iconst (v := nI 1) hx hb dL_law_1213 (by decide) ?_
  refine z_iadd hx hb dL_law_1214 ?_
  refine z_sld hC hM hX hbl (show (6 * q) + 1 < L9 by omega) hL9 dL_law_1215 ?_
  refine z_calli (z_runV hC hM (m_anew hJ.1.1 hJM.2.1 (xs (6 * q + 1))) zy_X7_periodAnew zm_L_139 (hJM.2.1.1 0 (by decide)) (hc7 0 (by decide)) zcl_X7 rfl rfl rfl hl.1 (Nat.le_of_ble_eq_true rfl) ⟨by decide, by decide⟩ ⟨by show 40 + 12 * q + 1 + 0 ≤ 601024; omega, by show 15000 + 1200 * q + 6 + 0 ≤ 7293034; omega⟩ dL_law_1216) hM (fun r L2 f2 H locs hp hM => ?_)
  obtain ⟨hr9, hMR⟩ := hp
  obtain ⟨e9, hJ2, g9, hgo, hg9⟩ := hJM.m hMR
  have e9 := e9.symm
  subst e9
  obtain ⟨x8, op8, -, hc8⟩ := hJ2.2.1.2.2
  refine lv_istore (lv' := [(6, .int r), (5, .int (nI (k_anew A (xs (6 * q + 1))))), (4, .int (nI (6 * q))), (0, .ref b), (1, .ref ((ad 1))), (2, .ref ((ma 0))), (3, .ref oa)]) hx hb dL_law_1219 hl (by decide) rfl (fun ls hl => ?_)
  refine lv_aload_n hx hb dL_law_1221 rfl (lv_at hl 5 rfl) ?_
  refine z_fcalli (z_runV hC hM (c_thrown hJ2.1.1 hJ2.2.1) zy_X7_thrown zm_L_88 (hJ2.2.1.1 0 (by decide)) (hc8 0 (by decide)) zcl_X7 rfl rfl rfl hl.1 (Nat.le_of_ble_eq_true rfl) ⟨by decide, by decide⟩ ⟨by show 40 + 12 * q + 1 + 0 + 0 ≤ 601024; omega, by show 15000 + 1200 * q + 6 + 0 + 0 ≤ 7293034; omega⟩ dL_law_1222) hM (fun H locs hM => ?_)
  refine lv_iload hx hb dL_law_1225 (lv_at hl 1 rfl) ?_
  refine z_icmp_eq (tgt := 1232) hx hb (nI_toInt (by omega)) (nI_toInt (by omega)) dL_law_1227 (by decide) (fun c_1227 => ?_) (fun c_1227 => ?_)
  · refine lv_iload hx hb dL_law_1232 (lv_at hl 1 rfl) ?_
    refine z_if_ne (tgt := 1249) hx hb (nI_toInt (by omega)) dL_law_1234 (by decide) (fun c_1234 => ?_) (fun c_1234 => ?_)
    · refine lv_goto (tgt := 1439) hx hb dL_law_1249 (by decide) ?_
      refine W.widen (k := 40 + 12 * q + 12) (n := 15000 + 1200 * q + 1200) (show 40 + 12 * q + 1 + 0 + 0 ≤ 40 + 12 * q + 12 from by omega) (show 15000 + 1200 * q + 6 + 0 + 0 ≤ 15000 + 1200 * q + 1200 from by omega) ?_
      exact KK _ ad2 _ _ f2 H locs ls hJ2 (by rw [had]; exact lv_sub hl [2, 3, 4, 5, 6] rfl) hM
    · refine lv_aload_n hx hb dL_law_1237 rfl (lv_at hl 6 rfl) ?_
      refine lv_iconst (v := nI 0) hx hb dL_law_1238 (by decide) ?_
      refine z_lald hC hM hJ2.2.2.1 hgo (by omega) (by omega) dL_law_1239 ?_
      refine lv_iload hx hb dL_law_1240 (lv_at hl 0 rfl) ?_
      refine lv_i2l (v := r.toInt64) hx hb dL_law_1242 rfl ?_
      have hk0 : k_anew A (xs (6 * q + 1)) = 0 := by omega
      rw [show g9 0 = r.toInt64 from (hg9 hk0).trans (by rw [hr9 hk0])]
      refine W.lcmp hx hb dL_law_1243 ?_
      rw [lg_self]
      refine z_if_eq (tgt := 1249) hx hb (nI_toInt (by decide)) dL_law_1244 (by decide) (fun c_1244 => ?_) (fun c_1244 => ?_)
      · refine lv_goto (tgt := 1439) hx hb dL_law_1249 (by decide) ?_
        refine W.widen (k := 40 + 12 * q + 12) (n := 15000 + 1200 * q + 1200) (show 40 + 12 * q + 1 + 0 + 0 ≤ 40 + 12 * q + 12 from by omega) (show 15000 + 1200 * q + 6 + 0 + 0 ≤ 15000 + 1200 * q + 1200 from by omega) ?_
        exact KK _ ad2 _ _ f2 H locs ls hJ2 (by rw [had]; exact lv_sub hl [2, 3, 4, 5, 6] rfl) hM
      · exact absurd c_1244 (by omega)
  · exact absurd rfl c_1227
set_option maxHeartbeats 1000000 in
set_option maxRecDepth 100000 in
theorem k9_paper {p : Program} {l : Launch} {e : Env} {s : State} {m : MethodId} {below : List Frame} {meth : Method} {c : Code} {K : zK} (hst : l.stackTraces = false) {b L9 q : Nat} {xs : Nat → Int32} (hC : zC p s #[Value.ref b] m c cL_law 8 RL s.heap.size K) (hX : va_X b L9 xs s s.heap) (hbl : b < s.heap.size) (hq : 6 * q + 6 ≤ L9) (hL9 : L9 ≤ 3072) {A : zA} {ad ma : Nat → Nat} {oa : Nat} {t : Int32} {L : List Nat} {f : Nat → va_E} {H : Heap} {locs : List Loc} {ls : Array Slot} (hJ : JI K L f A ad ma oa t) (hM : zM s.heap.size K L f s H locs) (hl : lv_has ls 8 [(4, .int (nI (6 * q))), (0, .ref b), (1, .ref (ad 1)), (2, .ref (ma 0)), (3, .ref oa)]) {Q : State → Prop} (KK : ∀ (A : zA) (ad : Nat → Nat) (t : Int32) (L : List Nat) (f : Nat → va_E) (H : Heap) (locs : List Loc) (ls : Array Slot), JI K L f A ad ma oa t → lv_has ls 8 [(4, .int (nI (6 * q))), (0, .ref b), (1, .ref (ad 1)), (2, .ref (ma 0)), (3, .ref oa)] → zM s.heap.size K L f s H locs → W p l e room_1 s m #[Value.ref b] below meth c H locs (40 + 12 * q + 12) (15000 + 1200 * q + 1200) Q (F0 m 1439 ls [])) : W p l e room_1 s m #[Value.ref b] below meth c H locs (40 + 12 * q) (15000 + 1200 * q) Q (F0 m 1252 ls []) := by
  have hx := hC.1
  have hb := hC.2.1
  have hml := hC.2.2.1
  have hown := hC.2.2.2.1
  have hts := hC.2.2.2.2.1
  obtain ⟨g0, hfo⟩ := hJ.2.2.2.1
  refine lv_aload_n hx hb dL_law_1252 rfl (lv_at hl 2 rfl) ?_
  refine lv_aload_n hx hb dL_law_1253 rfl (lv_at hl 1 rfl) ?_
  refine lv_iload hx hb dL_law_1254 (lv_at hl 0 rfl) ?_
  refine lv_iconst (v := nI 1) hx hb dL_law_1256 (by decide) ?_
  refine z_iadd hx hb dL_law_1257 ?_
  refine z_sld hC hM hX hbl (show (6 * q) + 1 < L9 by omega) hL9 dL_law_1258 ?_
  refine lv_aload_n hx hb dL_law_1259 rfl (lv_at hl 1 rfl) ?_
  refine lv_iload hx hb dL_law_1260 (lv_at hl 0 rfl) ?_
  refine lv_iconst (v := nI 2) hx hb dL_law_1262 (by decide) ?_
  refine z_iadd hx hb dL_law_1263 ?_
  refine z_sld hC hM hX hbl (show (6 * q) + 2 < L9 by omega) hL9 dL_law_1264 ?_
  refine lv_aload_n hx hb dL_law_1265 rfl (lv_at hl 4 rfl) ?_
  refine z_xq (av := #[]) (val := fun r : Int32 => some (.int r)) (post := fun r u => r = nI (k_paper A (xs (6 * q + 1)) (xs (6 * q + 2))) ∧ WR K A ad L f (a_paper A (xs (6 * q + 1)) (xs (6 * q + 2))) oa (k_paper A (xs (6 * q + 1)) (xs (6 * q + 2))) ((nI (np A)).toInt64) u.1 u.2) (z_xrunSH hC hM (w_paper hst hJ.1 hJ.2.2.1 hfo (fun u hu => (hJ.2.2.2.2.1 u hu).1) (xs (6 * q + 1)) (xs (6 * q + 2))) zyH_paper zm_L_140 rfl rfl hl.1 (Nat.le_of_ble_eq_true rfl) ⟨by decide, by decide⟩ ⟨by show 40 + 12 * q + 12 ≤ 601024; omega, by show 15000 + 1200 * q + 200 ≤ 7293034; omega⟩ dL_law_1266) (fun st o t ⟨⟨r, u, h1, h2, h3⟩, h4⟩ => ⟨r, u, h1, h2, h3, h4⟩) hM (fun E ce q9 L1 f1 H locs hp hM _ _ _ => hp.elim) (fun r L1 f1 H locs hp hM => ?_)
  obtain ⟨rfl, hWR⟩ := hp
  obtain ⟨ad2, had, hJM⟩ := hJ.w hWR
  obtain ⟨x7, op7, -, hc7⟩ := hJM.2.1.2.2
  have hk3 := k_le_paper A (xs (6 * q + 1)) (xs (6 * q + 2))
  refine lv_istore (lv' := [(5, .int (nI (k_paper A (xs (6 * q + 1)) (xs (6 * q + 2))))), (4, .int (nI (6 * q))), (0, .ref b), (1, .ref ((ad 1))), (2, .ref ((ma 0))), (3, .ref oa)]) hx hb dL_law_1269 hl (by decide) rfl (fun ls hl => ?_)
  refine lv_aload_n hx hb dL_law_1271 rfl (lv_at hl 4 rfl) ?_
  refine lv_aload_n hx hb dL_law_1272 rfl (lv_at hl 2 rfl) ?_
  refine lv_iload hx hb dL_law_1273 (lv_at hl 1 rfl) ?_
  refine lv_iconst (v := nI 1) hx hb dL_law_1275 (by decide) ?_
  refine z_iadd hx hb dL_law_1276 ?_
  refine z_sld hC hM hX hbl (show (6 * q) + 1 < L9 by omega) hL9 dL_law_1277 ?_
  refine lv_aload_n hx hb dL_law_1278 rfl (lv_at hl 2 rfl) ?_
  refine lv_iload hx hb dL_law_1279 (lv_at hl 1 rfl) ?_
  refine lv_iconst (v := nI 2) hx hb dL_law_1281 (by decide) ?_
  refine z_iadd hx hb dL_law_1282 ?_
  refine z_sld hC hM hX hbl (show (6 * q) + 2 < L9 by omega) hL9 dL_law_1283 ?_
  refine z_calli (z_runV hC hM (m_paper hJ.1.1 hJM.2.1 (xs (6 * q + 1)) (xs (6 * q + 2))) zy_X7_paper zm_L_142 (hJM.2.1.1 0 (by decide)) (hc7 0 (by decide)) zcl_X7 rfl rfl rfl hl.1 (Nat.le_of_ble_eq_true rfl) ⟨by decide, by decide⟩ ⟨by show 40 + 12 * q + 12 + 0 ≤ 601024; omega, by show 15000 + 1200 * q + 200 + 0 ≤ 7293034; omega⟩ dL_law_1284) hM (fun r L2 f2 H locs hp hM => ?_)
  obtain ⟨hr9, hMR⟩ := hp
  obtain ⟨e9, hJ2, g9, hgo, hg9⟩ := hJM.m hMR
  have e9 := e9.symm
  subst e9
  obtain ⟨x8, op8, -, hc8⟩ := hJ2.2.1.2.2
  refine lv_istore (lv' := [(6, .int r), (5, .int (nI (k_paper A (xs (6 * q + 1)) (xs (6 * q + 2))))), (4, .int (nI (6 * q))), (0, .ref b), (1, .ref ((ad 1))), (2, .ref ((ma 0))), (3, .ref oa)]) hx hb dL_law_1287 hl (by decide) rfl (fun ls hl => ?_)
  refine lv_aload_n hx hb dL_law_1289 rfl (lv_at hl 5 rfl) ?_
  refine z_fcalli (z_runV hC hM (c_thrown hJ2.1.1 hJ2.2.1) zy_X7_thrown zm_L_88 (hJ2.2.1.1 0 (by decide)) (hc8 0 (by decide)) zcl_X7 rfl rfl rfl hl.1 (Nat.le_of_ble_eq_true rfl) ⟨by decide, by decide⟩ ⟨by show 40 + 12 * q + 12 + 0 + 0 ≤ 601024; omega, by show 15000 + 1200 * q + 200 + 0 + 0 ≤ 7293034; omega⟩ dL_law_1290) hM (fun H locs hM => ?_)
  refine lv_iload hx hb dL_law_1293 (lv_at hl 1 rfl) ?_
  refine z_icmp_eq (tgt := 1300) hx hb (nI_toInt (by omega)) (nI_toInt (by omega)) dL_law_1295 (by decide) (fun c_1295 => ?_) (fun c_1295 => ?_)
  · refine lv_iload hx hb dL_law_1300 (lv_at hl 1 rfl) ?_
    refine z_if_ne (tgt := 1317) hx hb (nI_toInt (by omega)) dL_law_1302 (by decide) (fun c_1302 => ?_) (fun c_1302 => ?_)
    · refine lv_goto (tgt := 1439) hx hb dL_law_1317 (by decide) ?_
      refine W.widen (k := 40 + 12 * q + 12) (n := 15000 + 1200 * q + 1200) (show 40 + 12 * q + 12 + 0 + 0 ≤ 40 + 12 * q + 12 from by omega) (show 15000 + 1200 * q + 200 + 0 + 0 ≤ 15000 + 1200 * q + 1200 from by omega) ?_
      exact KK _ ad2 _ _ f2 H locs ls hJ2 (by rw [had]; exact lv_sub hl [2, 3, 4, 5, 6] rfl) hM
    · refine lv_aload_n hx hb dL_law_1305 rfl (lv_at hl 6 rfl) ?_
      refine lv_iconst (v := nI 0) hx hb dL_law_1306 (by decide) ?_
      refine z_lald hC hM hJ2.2.2.1 hgo (by omega) (by omega) dL_law_1307 ?_
      refine lv_iload hx hb dL_law_1308 (lv_at hl 0 rfl) ?_
      refine lv_i2l (v := r.toInt64) hx hb dL_law_1310 rfl ?_
      have hk0 : k_paper A (xs (6 * q + 1)) (xs (6 * q + 2)) = 0 := by omega
      rw [show g9 0 = r.toInt64 from (hg9 hk0).trans (by rw [hr9 hk0])]
      refine W.lcmp hx hb dL_law_1311 ?_
      rw [lg_self]
      refine z_if_eq (tgt := 1317) hx hb (nI_toInt (by decide)) dL_law_1312 (by decide) (fun c_1312 => ?_) (fun c_1312 => ?_)
      · refine lv_goto (tgt := 1439) hx hb dL_law_1317 (by decide) ?_
        refine W.widen (k := 40 + 12 * q + 12) (n := 15000 + 1200 * q + 1200) (show 40 + 12 * q + 12 + 0 + 0 ≤ 40 + 12 * q + 12 from by omega) (show 15000 + 1200 * q + 200 + 0 + 0 ≤ 15000 + 1200 * q + 1200 from by omega) ?_
        exact KK _ ad2 _ _ f2 H locs ls hJ2 (by rw [had]; exact lv_sub hl [2, 3, 4, 5, 6] rfl) hM
      · exact absurd c_1312 (by omega)
  · exact absurd rfl c_1295
set_option maxHeartbeats 1000000 in
set_option maxRecDepth 100000 in
theorem k9_withdraw {p : Program} {l : Launch} {e : Env} {s : State} {m : MethodId} {below : List Frame} {meth : Method} {c : Code} {K : zK} (hst : l.stackTraces = false) {b L9 q : Nat} {xs : Nat → Int32} (hC : zC p s #[Value.ref b] m c cL_law 8 RL s.heap.size K) (hX : va_X b L9 xs s s.heap) (hbl : b < s.heap.size) (hq : 6 * q + 6 ≤ L9) (hL9 : L9 ≤ 3072) {A : zA} {ad ma : Nat → Nat} {oa : Nat} {t : Int32} {L : List Nat} {f : Nat → va_E} {H : Heap} {locs : List Loc} {ls : Array Slot} (hJ : JI K L f A ad ma oa t) (hM : zM s.heap.size K L f s H locs) (hl : lv_has ls 8 [(4, .int (nI (6 * q))), (0, .ref b), (1, .ref (ad 1)), (2, .ref (ma 0)), (3, .ref oa)]) {Q : State → Prop} (KK : ∀ (A : zA) (ad : Nat → Nat) (t : Int32) (L : List Nat) (f : Nat → va_E) (H : Heap) (locs : List Loc) (ls : Array Slot), JI K L f A ad ma oa t → lv_has ls 8 [(4, .int (nI (6 * q))), (0, .ref b), (1, .ref (ad 1)), (2, .ref (ma 0)), (3, .ref oa)] → zM s.heap.size K L f s H locs → W p l e room_1 s m #[Value.ref b] below meth c H locs (40 + 12 * q + 12) (15000 + 1200 * q + 1200) Q (F0 m 1439 ls [])) : W p l e room_1 s m #[Value.ref b] below meth c H locs (40 + 12 * q) (15000 + 1200 * q) Q (F0 m 1320 ls []) := by
  have hx := hC.1
  have hb := hC.2.1
  have hml := hC.2.2.1
  have hown := hC.2.2.2.1
  have hts := hC.2.2.2.2.1
  obtain ⟨g0, hfo⟩ := hJ.2.2.2.1
  refine lv_aload_n hx hb dL_law_1320 rfl (lv_at hl 2 rfl) ?_
  refine lv_aload_n hx hb dL_law_1321 rfl (lv_at hl 1 rfl) ?_
  refine lv_iload hx hb dL_law_1322 (lv_at hl 0 rfl) ?_
  refine lv_iconst (v := nI 1) hx hb dL_law_1324 (by decide) ?_
  refine z_iadd hx hb dL_law_1325 ?_
  refine z_sld hC hM hX hbl (show (6 * q) + 1 < L9 by omega) hL9 dL_law_1326 ?_
  refine lv_aload_n hx hb dL_law_1327 rfl (lv_at hl 4 rfl) ?_
  refine z_xq (av := #[]) (val := fun r : Int32 => some (.int r)) (post := fun r u => r = nI (k_withdraw A (xs (6 * q + 1))) ∧ WR K A ad L f (a_withdraw A (xs (6 * q + 1))) oa (k_withdraw A (xs (6 * q + 1))) ((v_withdraw A (xs (6 * q + 1))).toInt64) u.1 u.2) (z_xrunSH hC hM (w_withdraw hst hJ.1 hJ.2.2.1 hfo (fun u hu => (hJ.2.2.2.2.1 u hu).1) (xs (6 * q + 1))) zyH_withdraw zm_L_143 rfl rfl hl.1 (Nat.le_of_ble_eq_true rfl) ⟨by decide, by decide⟩ ⟨by show 40 + 12 * q + 2 ≤ 601024; omega, by show 15000 + 1200 * q + 12 ≤ 7293034; omega⟩ dL_law_1328) (fun st o t ⟨⟨r, u, h1, h2, h3⟩, h4⟩ => ⟨r, u, h1, h2, h3, h4⟩) hM (fun E ce q9 L1 f1 H locs hp hM _ _ _ => hp.elim) (fun r L1 f1 H locs hp hM => ?_)
  obtain ⟨rfl, hWR⟩ := hp
  obtain ⟨ad2, had, hJM⟩ := hJ.w hWR
  obtain ⟨x7, op7, -, hc7⟩ := hJM.2.1.2.2
  have hk3 := k_le_withdraw A (xs (6 * q + 1))
  refine lv_istore (lv' := [(5, .int (nI (k_withdraw A (xs (6 * q + 1))))), (4, .int (nI (6 * q))), (0, .ref b), (1, .ref ((ad 1))), (2, .ref ((ma 0))), (3, .ref oa)]) hx hb dL_law_1331 hl (by decide) rfl (fun ls hl => ?_)
  refine lv_aload_n hx hb dL_law_1333 rfl (lv_at hl 4 rfl) ?_
  refine lv_aload_n hx hb dL_law_1334 rfl (lv_at hl 2 rfl) ?_
  refine lv_iload hx hb dL_law_1335 (lv_at hl 1 rfl) ?_
  refine lv_iconst (v := nI 1) hx hb dL_law_1337 (by decide) ?_
  refine z_iadd hx hb dL_law_1338 ?_
  refine z_sld hC hM hX hbl (show (6 * q) + 1 < L9 by omega) hL9 dL_law_1339 ?_
  refine z_calli (z_runV hC hM (m_withdraw hJ.1.1 hJM.2.1 (xs (6 * q + 1))) zy_X7_withdraw zm_L_145 (hJM.2.1.1 0 (by decide)) (hc7 0 (by decide)) zcl_X7 rfl rfl rfl hl.1 (Nat.le_of_ble_eq_true rfl) ⟨by decide, by decide⟩ ⟨by show 40 + 12 * q + 2 + 0 ≤ 601024; omega, by show 15000 + 1200 * q + 12 + 0 ≤ 7293034; omega⟩ dL_law_1340) hM (fun r L2 f2 H locs hp hM => ?_)
  obtain ⟨hr9, hMR⟩ := hp
  obtain ⟨e9, hJ2, g9, hgo, hg9⟩ := hJM.m hMR
  have e9 := e9.symm
  subst e9
  obtain ⟨x8, op8, -, hc8⟩ := hJ2.2.1.2.2
  refine lv_istore (lv' := [(6, .int r), (5, .int (nI (k_withdraw A (xs (6 * q + 1))))), (4, .int (nI (6 * q))), (0, .ref b), (1, .ref ((ad 1))), (2, .ref ((ma 0))), (3, .ref oa)]) hx hb dL_law_1343 hl (by decide) rfl (fun ls hl => ?_)
  refine lv_aload_n hx hb dL_law_1345 rfl (lv_at hl 5 rfl) ?_
  refine z_fcalli (z_runV hC hM (c_thrown hJ2.1.1 hJ2.2.1) zy_X7_thrown zm_L_88 (hJ2.2.1.1 0 (by decide)) (hc8 0 (by decide)) zcl_X7 rfl rfl rfl hl.1 (Nat.le_of_ble_eq_true rfl) ⟨by decide, by decide⟩ ⟨by show 40 + 12 * q + 2 + 0 + 0 ≤ 601024; omega, by show 15000 + 1200 * q + 12 + 0 + 0 ≤ 7293034; omega⟩ dL_law_1346) hM (fun H locs hM => ?_)
  refine lv_iload hx hb dL_law_1349 (lv_at hl 1 rfl) ?_
  refine z_icmp_eq (tgt := 1356) hx hb (nI_toInt (by omega)) (nI_toInt (by omega)) dL_law_1351 (by decide) (fun c_1351 => ?_) (fun c_1351 => ?_)
  · refine lv_iload hx hb dL_law_1356 (lv_at hl 1 rfl) ?_
    refine z_if_ne (tgt := 1373) hx hb (nI_toInt (by omega)) dL_law_1358 (by decide) (fun c_1358 => ?_) (fun c_1358 => ?_)
    · refine lv_goto (tgt := 1439) hx hb dL_law_1373 (by decide) ?_
      refine W.widen (k := 40 + 12 * q + 12) (n := 15000 + 1200 * q + 1200) (show 40 + 12 * q + 2 + 0 + 0 ≤ 40 + 12 * q + 12 from by omega) (show 15000 + 1200 * q + 12 + 0 + 0 ≤ 15000 + 1200 * q + 1200 from by omega) ?_
      exact KK _ ad2 _ _ f2 H locs ls hJ2 (by rw [had]; exact lv_sub hl [2, 3, 4, 5, 6] rfl) hM
    · refine lv_aload_n hx hb dL_law_1361 rfl (lv_at hl 6 rfl) ?_
      refine lv_iconst (v := nI 0) hx hb dL_law_1362 (by decide) ?_
      refine z_lald hC hM hJ2.2.2.1 hgo (by omega) (by omega) dL_law_1363 ?_
      refine lv_iload hx hb dL_law_1364 (lv_at hl 0 rfl) ?_
      refine lv_i2l (v := r.toInt64) hx hb dL_law_1366 rfl ?_
      have hk0 : k_withdraw A (xs (6 * q + 1)) = 0 := by omega
      rw [show g9 0 = r.toInt64 from (hg9 hk0).trans (by rw [hr9 hk0])]
      refine W.lcmp hx hb dL_law_1367 ?_
      rw [lg_self]
      refine z_if_eq (tgt := 1373) hx hb (nI_toInt (by decide)) dL_law_1368 (by decide) (fun c_1368 => ?_) (fun c_1368 => ?_)
      · refine lv_goto (tgt := 1439) hx hb dL_law_1373 (by decide) ?_
        refine W.widen (k := 40 + 12 * q + 12) (n := 15000 + 1200 * q + 1200) (show 40 + 12 * q + 2 + 0 + 0 ≤ 40 + 12 * q + 12 from by omega) (show 15000 + 1200 * q + 12 + 0 + 0 ≤ 15000 + 1200 * q + 1200 from by omega) ?_
        exact KK _ ad2 _ _ f2 H locs ls hJ2 (by rw [had]; exact lv_sub hl [2, 3, 4, 5, 6] rfl) hM
      · exact absurd c_1368 (by omega)
  · exact absurd rfl c_1351
set_option maxHeartbeats 1000000 in
set_option maxRecDepth 100000 in
theorem k9_hasFallen {p : Program} {l : Launch} {e : Env} {s : State} {m : MethodId} {below : List Frame} {meth : Method} {c : Code} {K : zK} (hst : l.stackTraces = false) {b L9 q : Nat} {xs : Nat → Int32} (hC : zC p s #[Value.ref b] m c cL_law 8 RL s.heap.size K) (hX : va_X b L9 xs s s.heap) (hbl : b < s.heap.size) (hq : 6 * q + 6 ≤ L9) (hL9 : L9 ≤ 3072) {A : zA} {ad ma : Nat → Nat} {oa : Nat} {t : Int32} {L : List Nat} {f : Nat → va_E} {H : Heap} {locs : List Loc} {ls : Array Slot} (hJ : JI K L f A ad ma oa t) (hM : zM s.heap.size K L f s H locs) (hl : lv_has ls 8 [(4, .int (nI (6 * q))), (0, .ref b), (1, .ref (ad 1)), (2, .ref (ma 0)), (3, .ref oa)]) {Q : State → Prop} (KK : ∀ (A : zA) (ad : Nat → Nat) (t : Int32) (L : List Nat) (f : Nat → va_E) (H : Heap) (locs : List Loc) (ls : Array Slot), JI K L f A ad ma oa t → lv_has ls 8 [(4, .int (nI (6 * q))), (0, .ref b), (1, .ref (ad 1)), (2, .ref (ma 0)), (3, .ref oa)] → zM s.heap.size K L f s H locs → W p l e room_1 s m #[Value.ref b] below meth c H locs (40 + 12 * q + 12) (15000 + 1200 * q + 1200) Q (F0 m 1439 ls [])) : W p l e room_1 s m #[Value.ref b] below meth c H locs (40 + 12 * q) (15000 + 1200 * q) Q (F0 m 1376 ls []) := by
  have hx := hC.1
  have hb := hC.2.1
  have hml := hC.2.2.1
  have hown := hC.2.2.2.1
  have hts := hC.2.2.2.2.1
  obtain ⟨g0, hfo⟩ := hJ.2.2.2.1
  refine lv_aload_n hx hb dL_law_1376 rfl (lv_at hl 2 rfl) ?_
  refine lv_aload_n hx hb dL_law_1377 rfl (lv_at hl 1 rfl) ?_
  refine lv_iload hx hb dL_law_1378 (lv_at hl 0 rfl) ?_
  refine lv_iconst (v := nI 1) hx hb dL_law_1380 (by decide) ?_
  refine z_iadd hx hb dL_law_1381 ?_
  refine z_sld hC hM hX hbl (show (6 * q) + 1 < L9 by omega) hL9 dL_law_1382 ?_
  refine lv_aload_n hx hb dL_law_1383 rfl (lv_at hl 4 rfl) ?_
  refine z_xq (av := #[]) (val := fun r : Int32 => some (.int r)) (post := fun r u => r = nI (k_fallen A (xs (6 * q + 1))) ∧ WR K A ad L f A oa (k_fallen A (xs (6 * q + 1))) ((v_fallen A (xs (6 * q + 1))).toInt64) u.1 u.2) (z_xrunSH hC hM (w_hasFallen hst hJ.1 hJ.2.2.1 hfo (fun u hu => (hJ.2.2.2.2.1 u hu).1) (xs (6 * q + 1))) zyH_hasFallen zm_L_146 rfl rfl hl.1 (Nat.le_of_ble_eq_true rfl) ⟨by decide, by decide⟩ ⟨by show 40 + 12 * q + 1 ≤ 601024; omega, by show 15000 + 1200 * q + 6 ≤ 7293034; omega⟩ dL_law_1384) (fun st o t ⟨⟨r, u, h1, h2, h3⟩, h4⟩ => ⟨r, u, h1, h2, h3, h4⟩) hM (fun E ce q9 L1 f1 H locs hp hM _ _ _ => hp.elim) (fun r L1 f1 H locs hp hM => ?_)
  obtain ⟨rfl, hWR⟩ := hp
  obtain ⟨ad2, had, hJM⟩ := hJ.w hWR
  obtain ⟨x7, op7, -, hc7⟩ := hJM.2.1.2.2
  have hk3 := k_le_fallen A (xs (6 * q + 1))
  refine lv_istore (lv' := [(5, .int (nI (k_fallen A (xs (6 * q + 1))))), (4, .int (nI (6 * q))), (0, .ref b), (1, .ref ((ad 1))), (2, .ref ((ma 0))), (3, .ref oa)]) hx hb dL_law_1387 hl (by decide) rfl (fun ls hl => ?_)
  refine lv_aload_n hx hb dL_law_1389 rfl (lv_at hl 4 rfl) ?_
  refine lv_aload_n hx hb dL_law_1390 rfl (lv_at hl 2 rfl) ?_
  refine lv_iload hx hb dL_law_1391 (lv_at hl 1 rfl) ?_
  refine lv_iconst (v := nI 1) hx hb dL_law_1393 (by decide) ?_
  refine z_iadd hx hb dL_law_1394 ?_
  refine z_sld hC hM hX hbl (show (6 * q) + 1 < L9 by omega) hL9 dL_law_1395 ?_
  refine z_calli (z_runV hC hM (m_fallenP hJ.1.1 hJM.2.1 (xs (6 * q + 1))) zy_X7_hasFallen zm_L_148 (hJM.2.1.1 0 (by decide)) (hc7 0 (by decide)) zcl_X7 rfl rfl rfl hl.1 (Nat.le_of_ble_eq_true rfl) ⟨by decide, by decide⟩ ⟨by show 40 + 12 * q + 1 + 0 ≤ 601024; omega, by show 15000 + 1200 * q + 6 + 0 ≤ 7293034; omega⟩ dL_law_1396) hM (fun r L2 f2 H locs hp hM => ?_)
  obtain ⟨hr9, hMR⟩ := hp
  obtain ⟨e9, hJ2, g9, hgo, hg9⟩ := hJM.m hMR
  have e9 := e9.symm
  subst e9
  obtain ⟨x8, op8, -, hc8⟩ := hJ2.2.1.2.2
  refine lv_istore (lv' := [(6, .int r), (5, .int (nI (k_fallen A (xs (6 * q + 1))))), (4, .int (nI (6 * q))), (0, .ref b), (1, .ref ((ad 1))), (2, .ref ((ma 0))), (3, .ref oa)]) hx hb dL_law_1399 hl (by decide) rfl (fun ls hl => ?_)
  refine lv_aload_n hx hb dL_law_1401 rfl (lv_at hl 5 rfl) ?_
  refine z_fcalli (z_runV hC hM (c_thrown hJ2.1.1 hJ2.2.1) zy_X7_thrown zm_L_88 (hJ2.2.1.1 0 (by decide)) (hc8 0 (by decide)) zcl_X7 rfl rfl rfl hl.1 (Nat.le_of_ble_eq_true rfl) ⟨by decide, by decide⟩ ⟨by show 40 + 12 * q + 1 + 0 + 0 ≤ 601024; omega, by show 15000 + 1200 * q + 6 + 0 + 0 ≤ 7293034; omega⟩ dL_law_1402) hM (fun H locs hM => ?_)
  refine lv_iload hx hb dL_law_1405 (lv_at hl 1 rfl) ?_
  refine z_icmp_eq (tgt := 1412) hx hb (nI_toInt (by omega)) (nI_toInt (by omega)) dL_law_1407 (by decide) (fun c_1407 => ?_) (fun c_1407 => ?_)
  · refine lv_iload hx hb dL_law_1412 (lv_at hl 1 rfl) ?_
    refine z_if_ne (tgt := 1436) hx hb (nI_toInt (by omega)) dL_law_1414 (by decide) (fun c_1414 => ?_) (fun c_1414 => ?_)
    · refine lv_goto (tgt := 1439) hx hb dL_law_1436 (by decide) ?_
      refine W.widen (k := 40 + 12 * q + 12) (n := 15000 + 1200 * q + 1200) (show 40 + 12 * q + 1 + 0 + 0 ≤ 40 + 12 * q + 12 from by omega) (show 15000 + 1200 * q + 6 + 0 + 0 ≤ 15000 + 1200 * q + 1200 from by omega) ?_
      exact KK _ ad2 _ _ f2 H locs ls hJ2 (by rw [had]; exact lv_sub hl [2, 3, 4, 5, 6] rfl) hM
    · refine lv_aload_n hx hb dL_law_1417 rfl (lv_at hl 6 rfl) ?_
      refine lv_iconst (v := nI 0) hx hb dL_law_1418 (by decide) ?_
      refine z_lald hC hM hJ2.2.2.1 hgo (by omega) (by omega) dL_law_1419 ?_
      refine lv_iload hx hb dL_law_1420 (lv_at hl 0 rfl) ?_
      refine z_if_eq (tgt := 1429) hx hb rfl dL_law_1422 (by decide) (fun c_1422 => ?_) (fun c_1422 => ?_)
      · refine lv_lconst (v := 0) hx hb dL_law_1429 (by decide) ?_
        have hk0 : k_fallen A (xs (6 * q + 1)) = 0 := by omega
        have hv9 : r = v_fallen A (xs (6 * q + 1)) := hr9 hk0
        rw [show g9 0 = (0 : Int64) from (hg9 hk0).trans (fall_t (by rw [← hv9]; exact c_1422)).symm]
        refine W.lcmp hx hb dL_law_1430 ?_
        rw [lg_self]
        refine z_if_eq (tgt := 1436) hx hb (nI_toInt (by decide)) dL_law_1431 (by decide) (fun c_1431 => ?_) (fun c_1431 => ?_)
        · refine lv_goto (tgt := 1439) hx hb dL_law_1436 (by decide) ?_
          refine W.widen (k := 40 + 12 * q + 12) (n := 15000 + 1200 * q + 1200) (show 40 + 12 * q + 1 + 0 + 0 ≤ 40 + 12 * q + 12 from by omega) (show 15000 + 1200 * q + 6 + 0 + 0 ≤ 15000 + 1200 * q + 1200 from by omega) ?_
          exact KK _ ad2 _ _ f2 H locs ls hJ2 (by rw [had]; exact lv_sub hl [2, 3, 4, 5, 6] rfl) hM
        · exact absurd c_1431 (by omega)
      · refine lv_lconst (v := 1) hx hb dL_law_1425 (by decide) ?_
        refine lv_goto (tgt := 1430) hx hb dL_law_1426 (by decide) ?_
        have hk0 : k_fallen A (xs (6 * q + 1)) = 0 := by omega
        have hv9 : r = v_fallen A (xs (6 * q + 1)) := hr9 hk0
        rw [show g9 0 = (1 : Int64) from (hg9 hk0).trans (fall_f (by rw [← hv9]; exact c_1422)).symm]
        refine W.lcmp hx hb dL_law_1430 ?_
        rw [lg_self]
        refine z_if_eq (tgt := 1436) hx hb (nI_toInt (by decide)) dL_law_1431 (by decide) (fun c_1431 => ?_) (fun c_1431 => ?_)
        · refine lv_goto (tgt := 1439) hx hb dL_law_1436 (by decide) ?_
          refine W.widen (k := 40 + 12 * q + 12) (n := 15000 + 1200 * q + 1200) (show 40 + 12 * q + 1 + 0 + 0 ≤ 40 + 12 * q + 12 from by omega) (show 15000 + 1200 * q + 6 + 0 + 0 ≤ 15000 + 1200 * q + 1200 from by omega) ?_
          exact KK _ ad2 _ _ f2 H locs ls hJ2 (by rw [had]; exact lv_sub hl [2, 3, 4, 5, 6] rfl) hM
        · exact absurd c_1431 (by omega)
  · exact absurd rfl c_1407
