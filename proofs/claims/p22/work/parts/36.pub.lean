/-! CONTRACTS of Transitry's own methods: from picture to picture (rows laid by wip/whole/pub.py) -/
theorem CR.star {K : zK} {L : List Nat} {f f1 : Nat → va_E} {A : zA} {ad : Nat → Nat} {i sp sd bl : Nat} (h : CI K L f A ad) (hi : i < ns A) (h1 : sp ≤ 60) (h2 : sd ≤ 100) (h3 : bl ≤ 1000000)
    (hf : f1 = va_up f (ad (100 + 10 * i)) (eS 5 [.int (nI (A.1 2 i)), .ref (ad (101 + 10 * i)), .int (nI sp), .int (nI sd), .int (nI bl), .ref (ad (103 + 10 * i))])) : CR K A ad L f (stA A i sp sd bl) L f1 :=
  CR.same (h.star hi h1 h2 h3 hf) rfl rfl (fun q hq => by rw [hf]; exact va_up_ne _ _ (Ne.symm (hq _ (live_s hi (Or.inl rfl)))))
theorem CR.scr {K : zK} {L : List Nat} {f f1 : Nat → va_E} {A : zA} {ad : Nat → Nat} (h : CI K L f A ad) (hc : CFx K f1 (ad 2) (ad 3) (ad 4)) (hfr : ∀ q, q ≠ ad 2 → q ≠ ad 3 → q ≠ ad 4 → f1 q = f q) : CR K A ad L f A L f1 :=
  CR.same (h.scr hc hfr) rfl rfl (fun q hq => hfr q (Ne.symm (hq 2 (live_c (by omega)))) (Ne.symm (hq 3 (live_c (by omega)))) (Ne.symm (hq 4 (live_c (by omega)))))
theorem iv_nI {i : Nat} (h : i < 2 ^ 31) : iv (nI i) = i := by
  unfold iv
  rw [nI_toInt h]
  rfl
theorem iR_nI {i : Nat} {a b : Int} (h : i < 2 ^ 31) (h1 : a ≤ (i : Int)) (h2 : (i : Int) ≤ b) : iR (nI i) a b := by
  unfold iR
  rw [nI_toInt h]
  exact ⟨h1, h2⟩
theorem kp1 {A : zA} {x y : Int32} (h1 : ¬ isS A x) : k_period A x y = 0 + 1 := if_pos h1
theorem kp2 {A : zA} {x y : Int32} (h1 : isS A x) (h2 : ¬ iR y 0 1000000) : k_period A x y = 1 + 1 := by
  rw [k_period, if_neg (fun z => z h1), if_pos h2]
theorem kp3 {A : zA} {x y : Int32} (h1 : isS A x) (h2 : iR y 0 1000000) (h3 : pdT (gk A (iv x)) y = 0) : k_period A x y = 2 + 1 := by
  rw [k_period, if_neg (fun z => z h1), if_neg (fun z => z h2), if_pos h3]
theorem kp0 {A : zA} {x y : Int32} (h1 : isS A x) (h2 : iR y 0 1000000) (h3 : pdT (gk A (iv x)) y ≠ 0) : k_period A x y = 0 := by
  rw [k_period, if_neg (fun z => z h1), if_neg (fun z => z h2), if_neg h3]
theorem bp_0 {g : Nat → UInt64} (h : Gok g) {t : Int32} (ht : iR t 0 1000000) (h0 : bpT g t = none) : pdT g t = 0 := by
  rw [bp_pd h ht] at h0
  by_cases e : pdT g t = 0
  · exact e
  · rw [if_neg e] at h0; cases h0
theorem bp_1 {g : Nat → UInt64} (h : Gok g) {t : Int32} (ht : iR t 0 1000000) {k : Nat} (h0 : bpT g t = some k) : pdT g t = k ∧ pdT g t ≠ 0 := by
  rw [bp_pd h ht] at h0
  by_cases e : pdT g t = 0
  · rw [if_pos e] at h0; cases h0
  · rw [if_neg e] at h0; cases h0; exact ⟨rfl, e⟩
section ZQ
variable {p : Program} {l : Launch} {e : Env} {R : Room} {s : State} {m : MethodId} {args : Array Value} {below : List Frame} {meth : Method} {c : Code} {H : Heap} {locs : List Loc} {cells slots : Nat} {Q : State → Prop}
variable {pc : Nat} {base : Nat} {K : zK} {L : List Nat} {f : Nat → va_E} {ls : Array Slot} {rest st0 : List Value} {mc ms mc1 ms1 : Nat} {Qc : Array Value → State → Outcome → State → Prop} {px px1 : String → List Nat → (Nat → va_E) → Prop} {av : Array Value}
theorem z_xqcalli {post : Int32 → List Nat → (Nat → va_E) → Prop} (hQ : vx_MQ below Qc (zX base K px) args s mc ms (base ≤ ·) = Q) (hr : vx_Run p l e R s m args below meth c H locs cells slots mc1 ms1 (F0 m pc ls st0) rest (zQi base K post av) (zX base K px1) (base ≤ ·)) (hM : zM base K L f s H locs) (hxt : ∀ x ∈ c.exceptionTable.toList, False) (hlk : meth.locks = false) (hc : cells + mc1 ≤ mc) (hs : slots + ms1 ≤ ms) (hpx : ∀ E L1 f1, px1 E L1 f1 → px E L1 f1)
    (kk : ∀ (r : Int32) (L1 : List Nat) (f1 : Nat → va_E) (H1 : Heap) (locs1 : List Loc), post r L1 f1 → zM base K L1 f1 s H1 locs1 → W p l e R s m args below meth c H1 locs1 (cells + mc1) (slots + ms1) Q (F0 m (pc + 3) ls (.int r :: rest))) : W p l e R s m args below meth c H locs cells slots Q (F0 m pc ls st0) := by
  subst hQ
  exact z_xcalli hr hM hxt hlk hc hs hpx kk
end ZQ
theorem kf0 {A : zA} {x y : Int32} (h1 : isS A x) (h2 : iR y 2 60) (h3 : 20 ≤ A.1 14 (iv x)) : k_fold A x y = 0 := by
  rw [k_fold, if_neg (fun z => z h1), if_neg (fun z => z h2), if_neg (by omega)]
theorem kf1 {A : zA} {x y : Int32} (h1 : ¬ isS A x) : k_fold A x y = 0 + 1 := if_pos h1
theorem kf2 {A : zA} {x y : Int32} (h1 : isS A x) (h2 : ¬ iR y 2 60) : k_fold A x y = 1 + 1 := by
  rw [k_fold, if_neg (fun z => z h1), if_pos h2]
theorem kf3 {A : zA} {x y : Int32} (h1 : isS A x) (h2 : iR y 2 60) (h3 : A.1 14 (iv x) < 20) : k_fold A x y = 2 + 1 := by
  rw [k_fold, if_neg (fun z => z h1), if_neg (fun z => z h2), if_pos h3]
theorem CFx.of {K : zK} {f : Nat → va_E} {fo so co p : Nat} {g : Nat → UInt64} (hp : 0 < p) (hp2 : p ≤ 120) (h1 : f fo = eS 1 [.ref so, .ref co, .int (nI p), .double (mnT g)]) (h2 : f so = eD K 120 (fS g p 1000)) (h3 : f co = eI K 120 (fun j => nI (fC g p 1000 j))) : CFx K f fo so co :=
  ⟨p, mnT g, fS g p 1000, fC g p 1000, h1, h2, h3, fun j hj => fS_out hp 1000 j (by omega), fun j hj => fC_out hp 1000 j (by omega), fun j => by have := fC_le g p 1000 j; omega⟩
def fsOf (x : va_E) : List Value := match x with
  | .inr (_, l) => l
  | .inl _ => []
theorem gk_bits {A : zA} (hV : VA A) (i h : Nat) : BOK (gk A i h) := (gk_ok hV i h).elim Or.inl Lb_bits
theorem gk_v1 {A : zA} {i h : Nat} (hh : h < 1000) (h0 : gk A i h ≠ 0) : (gk A i h).toInt64 = if A.1 12 (1000 * i + h) = 1 then (A.2 (1000 * i + h)).toInt64 else -1 := by
  unfold gk at h0 ⊢
  by_cases e : A.1 12 (1000 * i + h) = 1
  · rw [if_pos ⟨hh, e⟩, if_pos e]
  · exact absurd (if_neg (fun z => e z.2)) h0
theorem gk_v0 {A : zA} {i h : Nat} (hV : VA A) (hh : h < 1000) (h0 : ¬ gk A i h ≠ 0) : (-1 : Int64) = if A.1 12 (1000 * i + h) = 1 then (A.2 (1000 * i + h)).toInt64 else -1 := by
  by_cases e : A.1 12 (1000 * i + h) = 1
  · refine absurd ?_ h0
    unfold gk
    rw [if_pos ⟨hh, e⟩]
    exact Lb_ne (hV.2.2.2.2.2.2.2.1 _ e)
  · rw [if_neg e]
theorem gk_0 {A : zA} {i h : Nat} (hV : VA A) (hh : h < 1000) : gk A i h ≠ 0 ↔ A.1 12 (1000 * i + h) = 1 := by
  unfold gk
  by_cases e : A.1 12 (1000 * i + h) = 1
  · rw [if_pos ⟨hh, e⟩]
    exact iff_of_true (Lb_ne (hV.2.2.2.2.2.2.2.1 _ e)) e
  · rw [if_neg (fun z => e z.2)]
    exact iff_of_false (fun z => z rfl) e
set_option maxHeartbeats 400000 in
set_option maxRecDepth 100000 in
theorem p_spots {l : Launch} {base : Nat} {K : zK} {L : List Nat} {f : Nat → va_E} (hst : l.stackTraces = false) {A : zA} {ad : Nat → Nat} (hI : CI K L f A ad) (x y1 y2 : Int32) : zXMet l yX6_spots cX6_spots 6 (some .int) (zr 7 3 18 104) base K L f [.ref ((ad 1)), .int x, .int y1, .int y2] (zQi base K (fun r L1 f1 => k_spots A x y1 y2 = 0 ∧ r = nI (A.1 9 (iv x)) ∧ CR K A ad L f (a_spots A x y1 y2) L1 f1)) (fun E L1 f1 => xE [xIO, xIA] (k_spots A x y1 y2) E ∧ CR K A ad L f (a_spots A x y1 y2) L1 f1) := by
  have hI9 := hI
  obtain ⟨hV, hmem, hinj, hCX, hCF, hh5, hl6, hl8, hl10, hSt, hWo, hPa⟩ := hI9
  have hV9 := hV
  obtain ⟨hv1, hv2, hv3, hvS, -, -, -, -, hv11, hvW, hv23, -, hvP⟩ := hV9
  have hLo := hmem 1 (live_c (by omega))
  have hfo : f (ad 1) = eS 7 [.ref ((ad 6)), .ref ((ad 8)), .ref ((ad 10)), .ref ((ad 5)), .int (nI (hN A 1000)), .ref ((ad 2))] := hCX
  have hth : ∀ n E, k_spots A x y1 y2 = n + 1 → [xIO, xIA][n]? = some E → (xE [xIO, xIA] (k_spots A x y1 y2) E ∧ CR K A ad L f (a_spots A x y1 y2) L f) := fun n E h1 h2 => ⟨⟨by omega, by rw [h1]; exact h2⟩, by rw [a_spots, if_neg (by omega)]; exact CR.id hI⟩
  refine z_xmet (by decide) (Nat.le_of_ble_eq_true rfl) (fun p e s m below meth c ls hC hM hr hlk hxt hl => ?_)
  have hx := hC.1
  have hb := hC.2.1
  have hml := hC.2.2.1
  have hown := hC.2.2.2.1
  have hts := hC.2.2.2.2.1
  generalize hA : ([.ref ((ad 1)), .int x, .int y1, .int y2] : List Value).toArray = args at hC ⊢
  generalize hQ : vx_MQ _ _ _ _ _ _ _ _ = Q
  obtain ⟨locs, hlocs⟩ : ∃ z : List Loc, z = [] := ⟨_, rfl⟩
  obtain ⟨H, hH⟩ : ∃ z : Heap, z = s.heap := ⟨_, rfl⟩
  rw [← hlocs, ← hH] at hM ⊢
  have hl : lv_has ls 6 [(0, .ref ((ad 1))), (1, .int x), (2, .int y1), (3, .int y2)] := hl
  refine lv_aload_n hx hb dX6_spots_0 rfl (lv_at hl 0 rfl) ?_
  refine lv_iload_n hx hb dX6_spots_1 rfl (lv_at hl 1 rfl) ?_
  refine z_xpcallq hQ (z_xrunV hC hM (c_starAt hst hLo hfo hl6 (by omega) (fs := fun i => [.int (nI (A.1 2 i)), .ref (ad (101 + 10 * i)), .int (nI (A.1 8 i)), .int (nI (A.1 9 i)), .int (nI (A.1 10 i)), .ref (ad (103 + 10 * i))]) (fun i hi => ⟨hmem _ (live_s hi (by omega)), (hSt i hi).1⟩) x) zy_X6_starAt zm_X6_62 hLo hfo zcl_X6 rfl rfl rfl hl.1 (Nat.le_of_ble_eq_true rfl) ⟨by decide, by decide⟩ ⟨by decide, by decide⟩ dX6_spots_2) hM hxt hlk (by decide) (by decide) (fun E hE => by obtain ⟨rfl, h9⟩ := hE; exact hth 0 _ (if_pos h9) rfl) (fun r_2 hp_2 H locs hM => ?_)
  obtain ⟨i, hi, hx9, rfl⟩ := hp_2
  subst hx9
  have hi60 : i < 60 := by omega
  have hs9 : isS A (nI i) := iR_nI (by omega) (by omega) (by omega)
  have hiv := iv_nI (i := i) (by omega)
  obtain ⟨hS1, hS2, hS3, hS4, hS5⟩ := hSt i hi
  obtain ⟨w1, w2, w3, w4, w5, w6, w7, w8⟩ := hvS i hi
  refine lv_astore (lv' := [(4, .ref ((ad (100 + 10 * i)))), (0, .ref ((ad 1))), (1, .int (nI i)), (2, .int y1), (3, .int y2)]) hx hb dX6_spots_5 hl (by decide) rfl (fun ls hl => ?_)
  refine lv_iload_n hx hb dX6_spots_7 rfl (lv_at hl 3 rfl) ?_
  refine lv_iconst (v := nI 4) hx hb dX6_spots_8 (by decide) ?_
  refine lv_bipush (v := nI 60) hx hb dX6_spots_9 (by decide) ?_
  refine z_xpcallv hQ (z_xrunS hC hM (c_reqRange hst y1 4 60 (by decide) (by decide)) zy_X6_requireRange zm_X6_38 rfl rfl hl.1 (Nat.le_of_ble_eq_true rfl) ⟨by decide, by decide⟩ ⟨by decide, by decide⟩ dX6_spots_11) hM hxt hlk (by decide) (by decide) (fun E hE => by obtain ⟨rfl, h9⟩ := hE; exact hth 1 _ (by rw [k_spots, if_neg (fun z => z hs9), if_pos (fun z => h9 z.1)]) rfl) (fun hp_11 H locs hM => ?_)
  obtain ⟨a, ha1, ha2, rfl⟩ := inR_nI (by decide) hp_11
  have hiva := iv_nI (i := a) (by omega)
  refine lv_iload_n hx hb dX6_spots_14 rfl (lv_at hl 4 rfl) ?_
  refine lv_iconst (v := nI 0) hx hb dX6_spots_15 (by decide) ?_
  refine lv_bipush (v := nI 100) hx hb dX6_spots_16 (by decide) ?_
  refine z_xpcallv hQ (z_xrunS hC hM (c_reqRange hst y2 0 100 (by decide) (by decide)) zy_X6_requireRange zm_X6_38 rfl rfl hl.1 (Nat.le_of_ble_eq_true rfl) ⟨by decide, by decide⟩ ⟨by decide, by decide⟩ dX6_spots_18) hM hxt hlk (by decide) (by decide) (fun E hE => by obtain ⟨rfl, h9⟩ := hE; exact hth 1 _ (by rw [k_spots, if_neg (fun z => z hs9), if_pos (fun z => h9 z.2)]) rfl) (fun hp_18 H locs hM => ?_)
  obtain ⟨b, hb1, hb2, rfl⟩ := inR_nI (by decide) hp_18
  have hivb := iv_nI (i := b) (by omega)
  refine lv_aload hx hb dX6_spots_21 (lv_at hl 0 rfl) ?_
  refine z_getN hC hM (hmem _ (live_s hi (by omega))) hS1 zcl_X4 (by decide) zl_X6_82 rfl dX6_spots_23 ?_
  refine lv_istore (lv' := [(5, .int (nI (A.1 9 i))), (4, .ref ((ad (100 + 10 * i)))), (0, .ref ((ad 1))), (1, .int (nI i)), (2, .int (nI a)), (3, .int (nI b))]) hx hb dX6_spots_26 hl (by decide) rfl (fun ls hl => ?_)
  refine lv_aload hx hb dX6_spots_28 (lv_at hl 1 rfl) ?_
  refine lv_iload_n hx hb dX6_spots_30 rfl (lv_at hl 4 rfl) ?_
  refine z_putN (fs' := [.int (nI (A.1 2 i)), .ref ((ad (101 + 10 * i))), .int (nI a), .int (nI (A.1 9 i)), .int (nI (A.1 10 i)), .ref ((ad (103 + 10 * i)))]) hC hM (hmem _ (live_s hi (by omega))) hS1 zcl_X4 (by decide) zl_X6_85 rfl rfl (by rfl) (Nat.le_of_ble_eq_true rfl) rfl dX6_spots_31 (fun H locs hM => ?_)
  obtain ⟨f_1, ef_1⟩ : ∃ z9, z9 = va_up f ((ad (100 + 10 * i))) (eS 5 [.int (nI (A.1 2 i)), .ref ((ad (101 + 10 * i))), .int (nI a), .int (nI (A.1 9 i)), .int (nI (A.1 10 i)), .ref ((ad (103 + 10 * i)))]) := ⟨_, rfl⟩
  rw [← ef_1] at hM
  have hF_2 : f_1 ((ad 1)) = eS 7 [.ref ((ad 6)), .ref ((ad 8)), .ref ((ad 10)), .ref ((ad 5)), .int (nI (hN A 1000)), .ref ((ad 2))] := by rw [ef_1]; exact (va_up_ne _ _ (ad_ne hinj (live_c (by omega)) (live_s hi (by omega)) (by omega))).trans hfo
  have hF_3 : f_1 ((ad (100 + 10 * i))) = eS 5 [.int (nI (A.1 2 i)), .ref ((ad (101 + 10 * i))), .int (nI a), .int (nI (A.1 9 i)), .int (nI (A.1 10 i)), .ref ((ad (103 + 10 * i)))] := by rw [ef_1]; exact va_up_self _ _ _
  have hF_4 : f_1 ((ad (103 + 10 * i))) = eS 2 [.ref ((ad (104 + 10 * i))), .int (nI (A.1 14 i))] := by rw [ef_1]; exact (va_up_ne _ _ (ad_ne hinj (live_s hi (by omega)) (live_s hi (by omega)) (by omega))).trans hS3
  have hF_5 : f_1 ((ad (104 + 10 * i))) = eD K 1000 (gk A i) := by rw [ef_1]; exact (va_up_ne _ _ (ad_ne hinj (live_s hi (by omega)) (live_s hi (by omega)) (by omega))).trans hS4
  refine lv_aload hx hb dX6_spots_34 (lv_at hl 1 rfl) ?_
  refine lv_iload_n hx hb dX6_spots_36 rfl (lv_at hl 5 rfl) ?_
  refine z_putN (fs' := [.int (nI (A.1 2 i)), .ref ((ad (101 + 10 * i))), .int (nI a), .int (nI b), .int (nI (A.1 10 i)), .ref ((ad (103 + 10 * i)))]) hC hM (hmem _ (live_s hi (by omega))) hF_3 zcl_X4 (by decide) zl_X6_82 rfl rfl (by rfl) (Nat.le_of_ble_eq_true rfl) rfl dX6_spots_37 (fun H locs hM => ?_)
  obtain ⟨f_6, ef_6⟩ : ∃ z9, z9 = va_up f_1 ((ad (100 + 10 * i))) (eS 5 [.int (nI (A.1 2 i)), .ref ((ad (101 + 10 * i))), .int (nI a), .int (nI b), .int (nI (A.1 10 i)), .ref ((ad (103 + 10 * i)))]) := ⟨_, rfl⟩
  rw [← ef_6] at hM
  have hF_7 : f_6 ((ad 1)) = eS 7 [.ref ((ad 6)), .ref ((ad 8)), .ref ((ad 10)), .ref ((ad 5)), .int (nI (hN A 1000)), .ref ((ad 2))] := by rw [ef_6]; exact (va_up_ne _ _ (ad_ne hinj (live_c (by omega)) (live_s hi (by omega)) (by omega))).trans hF_2
  have hF_8 : f_6 ((ad (100 + 10 * i))) = eS 5 [.int (nI (A.1 2 i)), .ref ((ad (101 + 10 * i))), .int (nI a), .int (nI b), .int (nI (A.1 10 i)), .ref ((ad (103 + 10 * i)))] := by rw [ef_6]; exact va_up_self _ _ _
  have hF_9 : f_6 ((ad (103 + 10 * i))) = eS 2 [.ref ((ad (104 + 10 * i))), .int (nI (A.1 14 i))] := by rw [ef_6]; exact (va_up_ne _ _ (ad_ne hinj (live_s hi (by omega)) (live_s hi (by omega)) (by omega))).trans hF_4
  have hF_10 : f_6 ((ad (104 + 10 * i))) = eD K 1000 (gk A i) := by rw [ef_6]; exact (va_up_ne _ _ (ad_ne hinj (live_s hi (by omega)) (live_s hi (by omega)) (by omega))).trans hF_5
  have hk0 : k_spots A (nI i) (nI a) (nI b) = 0 := by rw [k_spots, if_neg (fun z => z hs9), if_neg (fun z => z ⟨iR_nI (by omega) (by omega) (by omega), iR_nI (by omega) (by omega) (by omega)⟩)]
  refine lv_iload hx hb dX6_spots_40 (lv_at hl 0 rfl) ?_
  rw [← hQ]
  refine vx_ret ?_
  exact z_iret hC hM hr hlk rfl (by decide) (by decide) ⟨hk0, by rw [hiv], by rw [a_spots, if_pos hk0, hiv, hiva, hivb]; exact CR.star hI hi (by omega) (by omega) w6 (by rw [ef_6, ef_1, up_up])⟩ dX6_spots_42
set_option maxHeartbeats 400000 in
set_option maxRecDepth 100000 in
theorem p_blend {l : Launch} {base : Nat} {K : zK} {L : List Nat} {f : Nat → va_E} (hst : l.stackTraces = false) {A : zA} {ad : Nat → Nat} (hI : CI K L f A ad) (x y1 : Int32) : zXMet l yX6_blend cX6_blend 5 (some .int) (zr 7 2 12 104) base K L f [.ref ((ad 1)), .int x, .int y1] (zQi base K (fun r L1 f1 => k_blend A x y1 = 0 ∧ r = nI (A.1 10 (iv x)) ∧ CR K A ad L f (a_blend A x y1) L1 f1)) (fun E L1 f1 => xE [xIO, xIA] (k_blend A x y1) E ∧ CR K A ad L f (a_blend A x y1) L1 f1) := by
  have hI9 := hI
  obtain ⟨hV, hmem, hinj, hCX, hCF, hh5, hl6, hl8, hl10, hSt, hWo, hPa⟩ := hI9
  have hV9 := hV
  obtain ⟨hv1, hv2, hv3, hvS, -, -, -, -, hv11, hvW, hv23, -, hvP⟩ := hV9
  have hLo := hmem 1 (live_c (by omega))
  have hfo : f (ad 1) = eS 7 [.ref ((ad 6)), .ref ((ad 8)), .ref ((ad 10)), .ref ((ad 5)), .int (nI (hN A 1000)), .ref ((ad 2))] := hCX
  have hth : ∀ n E, k_blend A x y1 = n + 1 → [xIO, xIA][n]? = some E → (xE [xIO, xIA] (k_blend A x y1) E ∧ CR K A ad L f (a_blend A x y1) L f) := fun n E h1 h2 => ⟨⟨by omega, by rw [h1]; exact h2⟩, by rw [a_blend, if_neg (by omega)]; exact CR.id hI⟩
  refine z_xmet (by decide) (Nat.le_of_ble_eq_true rfl) (fun p e s m below meth c ls hC hM hr hlk hxt hl => ?_)
  have hx := hC.1
  have hb := hC.2.1
  have hml := hC.2.2.1
  have hown := hC.2.2.2.1
  have hts := hC.2.2.2.2.1
  generalize hA : ([.ref ((ad 1)), .int x, .int y1] : List Value).toArray = args at hC ⊢
  generalize hQ : vx_MQ _ _ _ _ _ _ _ _ = Q
  obtain ⟨locs, hlocs⟩ : ∃ z : List Loc, z = [] := ⟨_, rfl⟩
  obtain ⟨H, hH⟩ : ∃ z : Heap, z = s.heap := ⟨_, rfl⟩
  rw [← hlocs, ← hH] at hM ⊢
  have hl : lv_has ls 5 [(0, .ref ((ad 1))), (1, .int x), (2, .int y1)] := hl
  refine lv_aload_n hx hb dX6_blend_0 rfl (lv_at hl 0 rfl) ?_
  refine lv_iload_n hx hb dX6_blend_1 rfl (lv_at hl 1 rfl) ?_
  refine z_xpcallq hQ (z_xrunV hC hM (c_starAt hst hLo hfo hl6 (by omega) (fs := fun i => [.int (nI (A.1 2 i)), .ref (ad (101 + 10 * i)), .int (nI (A.1 8 i)), .int (nI (A.1 9 i)), .int (nI (A.1 10 i)), .ref (ad (103 + 10 * i))]) (fun i hi => ⟨hmem _ (live_s hi (by omega)), (hSt i hi).1⟩) x) zy_X6_starAt zm_X6_62 hLo hfo zcl_X6 rfl rfl rfl hl.1 (Nat.le_of_ble_eq_true rfl) ⟨by decide, by decide⟩ ⟨by decide, by decide⟩ dX6_blend_2) hM hxt hlk (by decide) (by decide) (fun E hE => by obtain ⟨rfl, h9⟩ := hE; exact hth 0 _ (if_pos h9) rfl) (fun r_2 hp_2 H locs hM => ?_)
  obtain ⟨i, hi, hx9, rfl⟩ := hp_2
  subst hx9
  have hi60 : i < 60 := by omega
  have hs9 : isS A (nI i) := iR_nI (by omega) (by omega) (by omega)
  have hiv := iv_nI (i := i) (by omega)
  obtain ⟨hS1, hS2, hS3, hS4, hS5⟩ := hSt i hi
  obtain ⟨w1, w2, w3, w4, w5, w6, w7, w8⟩ := hvS i hi
  refine lv_astore_n (lv' := [(3, .ref ((ad (100 + 10 * i)))), (0, .ref ((ad 1))), (1, .int (nI i)), (2, .int y1)]) hx hb dX6_blend_5 rfl hl (by decide) rfl (fun ls hl => ?_)
  refine lv_iload_n hx hb dX6_blend_6 rfl (lv_at hl 3 rfl) ?_
  refine lv_iconst (v := nI 0) hx hb dX6_blend_7 (by decide) ?_
  refine lv_ldc (v := nI 1000000) hx hb hown (hts _ zk_X6_37) dX6_blend_8 ?_
  refine z_xpcallv hQ (z_xrunS hC hM (c_reqRange hst y1 0 1000000 (by decide) (by decide)) zy_X6_requireRange zm_X6_38 rfl rfl hl.1 (Nat.le_of_ble_eq_true rfl) ⟨by decide, by decide⟩ ⟨by decide, by decide⟩ dX6_blend_10) hM hxt hlk (by decide) (by decide) (fun E hE => by obtain ⟨rfl, h9⟩ := hE; exact hth 1 _ (by unfold k_blend; exact (if_neg (fun z => z hs9)).trans (if_pos h9)) rfl) (fun hp_10 H locs hM => ?_)
  obtain ⟨a, ha1, ha2, rfl⟩ := inR_nI (by decide) hp_10
  have hiva := iv_nI (i := a) (by omega)
  refine lv_aload_n hx hb dX6_blend_13 rfl (lv_at hl 0 rfl) ?_
  refine z_getN hC hM (hmem _ (live_s hi (by omega))) hS1 zcl_X4 (by decide) zl_X6_88 rfl dX6_blend_14 ?_
  refine lv_istore (lv' := [(4, .int (nI (A.1 10 i))), (3, .ref ((ad (100 + 10 * i)))), (0, .ref ((ad 1))), (1, .int (nI i)), (2, .int (nI a))]) hx hb dX6_blend_17 hl (by decide) rfl (fun ls hl => ?_)
  refine lv_aload_n hx hb dX6_blend_19 rfl (lv_at hl 1 rfl) ?_
  refine lv_iload_n hx hb dX6_blend_20 rfl (lv_at hl 4 rfl) ?_
  refine z_putN (fs' := [.int (nI (A.1 2 i)), .ref ((ad (101 + 10 * i))), .int (nI (A.1 8 i)), .int (nI (A.1 9 i)), .int (nI a), .ref ((ad (103 + 10 * i)))]) hC hM (hmem _ (live_s hi (by omega))) hS1 zcl_X4 (by decide) zl_X6_88 rfl rfl (by rfl) (Nat.le_of_ble_eq_true rfl) rfl dX6_blend_21 (fun H locs hM => ?_)
  obtain ⟨f_1, ef_1⟩ : ∃ z9, z9 = va_up f ((ad (100 + 10 * i))) (eS 5 [.int (nI (A.1 2 i)), .ref ((ad (101 + 10 * i))), .int (nI (A.1 8 i)), .int (nI (A.1 9 i)), .int (nI a), .ref ((ad (103 + 10 * i)))]) := ⟨_, rfl⟩
  rw [← ef_1] at hM
  have hF_2 : f_1 ((ad 1)) = eS 7 [.ref ((ad 6)), .ref ((ad 8)), .ref ((ad 10)), .ref ((ad 5)), .int (nI (hN A 1000)), .ref ((ad 2))] := by rw [ef_1]; exact (va_up_ne _ _ (ad_ne hinj (live_c (by omega)) (live_s hi (by omega)) (by omega))).trans hfo
  have hF_3 : f_1 ((ad (100 + 10 * i))) = eS 5 [.int (nI (A.1 2 i)), .ref ((ad (101 + 10 * i))), .int (nI (A.1 8 i)), .int (nI (A.1 9 i)), .int (nI a), .ref ((ad (103 + 10 * i)))] := by rw [ef_1]; exact va_up_self _ _ _
  have hF_4 : f_1 ((ad (103 + 10 * i))) = eS 2 [.ref ((ad (104 + 10 * i))), .int (nI (A.1 14 i))] := by rw [ef_1]; exact (va_up_ne _ _ (ad_ne hinj (live_s hi (by omega)) (live_s hi (by omega)) (by omega))).trans hS3
  have hF_5 : f_1 ((ad (104 + 10 * i))) = eD K 1000 (gk A i) := by rw [ef_1]; exact (va_up_ne _ _ (ad_ne hinj (live_s hi (by omega)) (live_s hi (by omega)) (by omega))).trans hS4
  have hk0 : k_blend A (nI i) (nI a) = 0 := by rw [k_blend, if_neg (fun z => z hs9), if_neg (fun z => z (iR_nI (by omega) (by omega) (by omega)))]
  refine lv_iload hx hb dX6_blend_24 (lv_at hl 0 rfl) ?_
  rw [← hQ]
  refine vx_ret ?_
  exact z_iret hC hM hr hlk rfl (by decide) (by decide) ⟨hk0, by rw [hiv], by rw [a_blend, if_pos hk0, hiv, hiva]; exact CR.star hI hi w4 w5 (by omega) (by rw [ef_1])⟩ dX6_blend_26
set_option maxHeartbeats 400000 in
set_option maxRecDepth 100000 in
theorem p_light {l : Launch} {base : Nat} {K : zK} {L : List Nat} {f : Nat → va_E} (hst : l.stackTraces = false) {A : zA} {ad : Nat → Nat} (hI : CI K L f A ad) (x y1 : Int32) : zXMet l yX6_light cX6_light 4 (some .long) (zr 7 2 12 104) base K L f [.ref ((ad 1)), .int x, .int y1] (zQl base K (fun r L1 f1 => k_light A x y1 = 0 ∧ r = v_light A x y1 ∧ CR K A ad L f A L1 f1)) (fun E L1 f1 => xE [xIO] (k_light A x y1) E ∧ CR K A ad L f A L1 f1) := by
  have hI9 := hI
  obtain ⟨hV, hmem, hinj, hCX, hCF, hh5, hl6, hl8, hl10, hSt, hWo, hPa⟩ := hI9
  have hV9 := hV
  obtain ⟨hv1, hv2, hv3, hvS, -, -, -, -, hv11, hvW, hv23, -, hvP⟩ := hV9
  have hLo := hmem 1 (live_c (by omega))
  have hfo : f (ad 1) = eS 7 [.ref ((ad 6)), .ref ((ad 8)), .ref ((ad 10)), .ref ((ad 5)), .int (nI (hN A 1000)), .ref ((ad 2))] := hCX
  have hth : ∀ n E, k_light A x y1 = n + 1 → [xIO][n]? = some E → (xE [xIO] (k_light A x y1) E ∧ CR K A ad L f A L f) := fun n E h1 h2 => ⟨⟨by omega, by rw [h1]; exact h2⟩, CR.id hI⟩
  refine z_xmet (by decide) (Nat.le_of_ble_eq_true rfl) (fun p e s m below meth c ls hC hM hr hlk hxt hl => ?_)
  have hx := hC.1
  have hb := hC.2.1
  have hml := hC.2.2.1
  have hown := hC.2.2.2.1
  have hts := hC.2.2.2.2.1
  generalize hA : ([.ref ((ad 1)), .int x, .int y1] : List Value).toArray = args at hC ⊢
  generalize hQ : vx_MQ _ _ _ _ _ _ _ _ = Q
  obtain ⟨locs, hlocs⟩ : ∃ z : List Loc, z = [] := ⟨_, rfl⟩
  obtain ⟨H, hH⟩ : ∃ z : Heap, z = s.heap := ⟨_, rfl⟩
  rw [← hlocs, ← hH] at hM ⊢
  have hl : lv_has ls 4 [(0, .ref ((ad 1))), (1, .int x), (2, .int y1)] := hl
  refine lv_aload_n hx hb dX6_light_0 rfl (lv_at hl 0 rfl) ?_
  refine lv_iload_n hx hb dX6_light_1 rfl (lv_at hl 1 rfl) ?_
  refine z_xpcallq hQ (z_xrunV hC hM (c_starAt hst hLo hfo hl6 (by omega) (fs := fun i => [.int (nI (A.1 2 i)), .ref (ad (101 + 10 * i)), .int (nI (A.1 8 i)), .int (nI (A.1 9 i)), .int (nI (A.1 10 i)), .ref (ad (103 + 10 * i))]) (fun i hi => ⟨hmem _ (live_s hi (by omega)), (hSt i hi).1⟩) x) zy_X6_starAt zm_X6_62 hLo hfo zcl_X6 rfl rfl rfl hl.1 (Nat.le_of_ble_eq_true rfl) ⟨by decide, by decide⟩ ⟨by decide, by decide⟩ dX6_light_2) hM hxt hlk (by decide) (by decide) (fun E hE => by obtain ⟨rfl, h9⟩ := hE; exact hth 0 _ (if_neg (fun z => h9 z.1)) rfl) (fun r_2 hp_2 H locs hM => ?_)
  obtain ⟨i, hi, hx9, rfl⟩ := hp_2
  subst hx9
  have hi60 : i < 60 := by omega
  have hs9 : isS A (nI i) := iR_nI (by omega) (by omega) (by omega)
  have hiv := iv_nI (i := i) (by omega)
  obtain ⟨hS1, hS2, hS3, hS4, hS5⟩ := hSt i hi
  obtain ⟨w1, w2, w3, w4, w5, w6, w7, w8⟩ := hvS i hi
  refine lv_astore_n (lv' := [(3, .ref ((ad (100 + 10 * i)))), (0, .ref ((ad 1))), (1, .int (nI i)), (2, .int y1)]) hx hb dX6_light_5 rfl hl (by decide) rfl (fun ls hl => ?_)
  refine lv_iload_n hx hb dX6_light_6 rfl (lv_at hl 3 rfl) ?_
  refine z_xpcallv hQ (z_xrunS hC hM (c_reqHour hst y1) zy_X6_requireHour zm_X6_91 rfl rfl hl.1 (Nat.le_of_ble_eq_true rfl) ⟨by decide, by decide⟩ ⟨by decide, by decide⟩ dX6_light_7) hM hxt hlk (by decide) (by decide) (fun E hE => by obtain ⟨rfl, h9⟩ := hE; exact hth 0 _ (if_neg (fun z => h9 z.2)) rfl) (fun hp_7 H locs hM => ?_)
  obtain ⟨a, ha1, ha2, rfl⟩ := inR_nI (by decide) hp_7
  have hiva := iv_nI (i := a) (by omega)
  refine lv_aload_n hx hb dX6_light_10 rfl (lv_at hl 0 rfl) ?_
  refine lv_iload_n hx hb dX6_light_11 rfl (lv_at hl 3 rfl) ?_
  refine z_fcalld (z_runV hC hM (c_lightIn (hmem _ (live_s hi (by omega))) hS1 hS2 w3 (by omega) w4 (by omega) (fun k hk9 => ⟨hmem _ (live_p hi hk9), hS5 k hk9, (w8 k hk9).2.2.1, (w8 k hk9).2.1, by have := (w8 k hk9).2.2.2.2.1; omega⟩) (lt_ok hV hi a).1) zy_X4_lightIn zm_X6_94 (hmem _ (live_s hi (by omega))) hS1 zcl_X4 rfl rfl rfl hl.1 (Nat.le_of_ble_eq_true rfl) ⟨by decide, by decide⟩ ⟨by decide, by decide⟩ dX6_light_12) hM (fun H locs hM => ?_)
  refine z_fcalll (z_runS hC hM (c_bitsOf (Lb_bits (lt_ok hV hi a).2)) zy_X6_bitsOf zm_X6_98 rfl rfl hl.1 (Nat.le_of_ble_eq_true rfl) ⟨by decide, by decide⟩ ⟨by decide, by decide⟩ dX6_light_15) hM (fun H locs hM => ?_)
  rw [← hQ]
  refine vx_ret ?_
  exact z_lret hC hM hr hlk (by decide) (by decide) ⟨if_pos ⟨hs9, iR_nI (by omega) (by omega) (by omega)⟩, by rw [v_light, hiv, hiva], CR.id hI⟩ dX6_light_18
set_option maxHeartbeats 400000 in
set_option maxRecDepth 100000 in
theorem p_kept {l : Launch} {base : Nat} {K : zK} {L : List Nat} {f : Nat → va_E} (hst : l.stackTraces = false) {A : zA} {ad : Nat → Nat} (hI : CI K L f A ad) (x y1 : Int32) : zXMet l yX6_kept cX6_kept 4 (some .long) (zr 7 2 12 104) base K L f [.ref ((ad 1)), .int x, .int y1] (zQl base K (fun r L1 f1 => k_kept A x y1 = 0 ∧ r = v_kept A x y1 ∧ CR K A ad L f A L1 f1)) (fun E L1 f1 => xE [xIO] (k_kept A x y1) E ∧ CR K A ad L f A L1 f1) := by
  have hI9 := hI
  obtain ⟨hV, hmem, hinj, hCX, hCF, hh5, hl6, hl8, hl10, hSt, hWo, hPa⟩ := hI9
  have hV9 := hV
  obtain ⟨hv1, hv2, hv3, hvS, -, -, -, -, hv11, hvW, hv23, -, hvP⟩ := hV9
  have hLo := hmem 1 (live_c (by omega))
  have hfo : f (ad 1) = eS 7 [.ref ((ad 6)), .ref ((ad 8)), .ref ((ad 10)), .ref ((ad 5)), .int (nI (hN A 1000)), .ref ((ad 2))] := hCX
  have hth : ∀ n E, k_kept A x y1 = n + 1 → [xIO][n]? = some E → (xE [xIO] (k_kept A x y1) E ∧ CR K A ad L f A L f) := fun n E h1 h2 => ⟨⟨by omega, by rw [h1]; exact h2⟩, CR.id hI⟩
  refine z_xmet (by decide) (Nat.le_of_ble_eq_true rfl) (fun p e s m below meth c ls hC hM hr hlk hxt hl => ?_)
  have hx := hC.1
  have hb := hC.2.1
  have hml := hC.2.2.1
  have hown := hC.2.2.2.1
  have hts := hC.2.2.2.2.1
  generalize hA : ([.ref ((ad 1)), .int x, .int y1] : List Value).toArray = args at hC ⊢
  generalize hQ : vx_MQ _ _ _ _ _ _ _ _ = Q
  obtain ⟨locs, hlocs⟩ : ∃ z : List Loc, z = [] := ⟨_, rfl⟩
  obtain ⟨H, hH⟩ : ∃ z : Heap, z = s.heap := ⟨_, rfl⟩
  rw [← hlocs, ← hH] at hM ⊢
  have hl : lv_has ls 4 [(0, .ref ((ad 1))), (1, .int x), (2, .int y1)] := hl
  refine lv_aload_n hx hb dX6_kept_0 rfl (lv_at hl 0 rfl) ?_
  refine lv_iload_n hx hb dX6_kept_1 rfl (lv_at hl 1 rfl) ?_
  refine z_xpcallq hQ (z_xrunV hC hM (c_starAt hst hLo hfo hl6 (by omega) (fs := fun i => [.int (nI (A.1 2 i)), .ref (ad (101 + 10 * i)), .int (nI (A.1 8 i)), .int (nI (A.1 9 i)), .int (nI (A.1 10 i)), .ref (ad (103 + 10 * i))]) (fun i hi => ⟨hmem _ (live_s hi (by omega)), (hSt i hi).1⟩) x) zy_X6_starAt zm_X6_62 hLo hfo zcl_X6 rfl rfl rfl hl.1 (Nat.le_of_ble_eq_true rfl) ⟨by decide, by decide⟩ ⟨by decide, by decide⟩ dX6_kept_2) hM hxt hlk (by decide) (by decide) (fun E hE => by obtain ⟨rfl, h9⟩ := hE; exact hth 0 _ (if_neg (fun z => h9 z.1)) rfl) (fun r_2 hp_2 H locs hM => ?_)
  obtain ⟨i, hi, hx9, rfl⟩ := hp_2
  subst hx9
  have hi60 : i < 60 := by omega
  have hs9 : isS A (nI i) := iR_nI (by omega) (by omega) (by omega)
  have hiv := iv_nI (i := i) (by omega)
  obtain ⟨hS1, hS2, hS3, hS4, hS5⟩ := hSt i hi
  obtain ⟨w1, w2, w3, w4, w5, w6, w7, w8⟩ := hvS i hi
  refine lv_astore_n (lv' := [(3, .ref ((ad (100 + 10 * i)))), (0, .ref ((ad 1))), (1, .int (nI i)), (2, .int y1)]) hx hb dX6_kept_5 rfl hl (by decide) rfl (fun ls hl => ?_)
  refine lv_iload_n hx hb dX6_kept_6 rfl (lv_at hl 3 rfl) ?_
  refine z_xpcallv hQ (z_xrunS hC hM (c_reqHour hst y1) zy_X6_requireHour zm_X6_91 rfl rfl hl.1 (Nat.le_of_ble_eq_true rfl) ⟨by decide, by decide⟩ ⟨by decide, by decide⟩ dX6_kept_7) hM hxt hlk (by decide) (by decide) (fun E hE => by obtain ⟨rfl, h9⟩ := hE; exact hth 0 _ (if_neg (fun z => h9 z.2)) rfl) (fun hp_7 H locs hM => ?_)
  obtain ⟨a, ha1, ha2, rfl⟩ := inR_nI (by decide) hp_7
  have hiva := iv_nI (i := a) (by omega)
  refine lv_aload_n hx hb dX6_kept_10 rfl (lv_at hl 0 rfl) ?_
  refine z_getN hC hM (hmem _ (live_s hi (by omega))) hS1 zcl_X4 (by decide) zl_X6_113 rfl dX6_kept_11 ?_
  refine lv_iload_n hx hb dX6_kept_14 rfl (lv_at hl 3 rfl) ?_
  refine z_fcalli (z_runV hC hM (c_hasLight (hmem _ (live_s hi (by omega))) hS3 (hmem _ (live_s hi (by omega))) hS4 (by omega) ((fp_ok (gk_ok hV i)).1 a (by omega))) zy_X1_hasLight zm_X6_122 (hmem _ (live_s hi (by omega))) hS3 zcl_X1 rfl rfl rfl hl.1 (Nat.le_of_ble_eq_true rfl) ⟨by decide, by decide⟩ ⟨by decide, by decide⟩ dX6_kept_15) hM (fun H locs hM => ?_)
  refine z_if_eqB (tgt := 35) hx hb dX6_kept_18 (by decide) (fun c_18 => ?_) (fun c_18 => ?_)
  · refine lv_ldc2 (v := (-1)) hx hb hown (hts _ zk_X6_132) dX6_kept_35 ?_
    rw [← hQ]
    refine vx_ret ?_
    exact z_lret hC hM hr hlk (by decide) (by decide) ⟨if_pos ⟨hs9, iR_nI (by omega) (by omega) (by omega)⟩, by rw [v_kept, hiv, hiva]; exact gk_v0 hV (by omega) c_18, CR.id hI⟩ dX6_kept_38
  · refine lv_aload_n hx hb dX6_kept_21 rfl (lv_at hl 0 rfl) ?_
    refine z_getN hC hM (hmem _ (live_s hi (by omega))) hS1 zcl_X4 (by decide) zl_X6_113 rfl dX6_kept_22 ?_
    refine lv_iload_n hx hb dX6_kept_25 rfl (lv_at hl 3 rfl) ?_
    refine z_fcalld (z_runV hC hM (c_lightOf (hmem _ (live_s hi (by omega))) hS3 (hmem _ (live_s hi (by omega))) hS4 (by omega)) zy_X1_lightOf zm_X6_129 (hmem _ (live_s hi (by omega))) hS3 zcl_X1 rfl rfl rfl hl.1 (Nat.le_of_ble_eq_true rfl) ⟨by decide, by decide⟩ ⟨by decide, by decide⟩ dX6_kept_26) hM (fun H locs hM => ?_)
    refine z_fcalll (z_runS hC hM (c_bitsOf (gk_bits hV i a)) zy_X6_bitsOf zm_X6_98 rfl rfl hl.1 (Nat.le_of_ble_eq_true rfl) ⟨by decide, by decide⟩ ⟨by decide, by decide⟩ dX6_kept_29) hM (fun H locs hM => ?_)
    refine lv_goto (tgt := 38) hx hb dX6_kept_32 (by decide) ?_
    rw [← hQ]
    refine vx_ret ?_
    exact z_lret hC hM hr hlk (by decide) (by decide) ⟨if_pos ⟨hs9, iR_nI (by omega) (by omega) (by omega)⟩, by rw [v_kept, hiv, hiva]; exact gk_v1 (by omega) c_18, CR.id hI⟩ dX6_kept_38
set_option maxHeartbeats 400000 in
set_option maxRecDepth 100000 in
theorem p_anew {l : Launch} {base : Nat} {K : zK} {L : List Nat} {f : Nat → va_E} (hst : l.stackTraces = false) {A : zA} {ad : Nat → Nat} (hI : CI K L f A ad) (x : Int32) : zXMet l yX6_periodAnew cX6_periodAnew 3 (some .int) (zr 7 1 6 118) base K L f [.ref ((ad 1)), .int x] (zQi base K (fun r L1 f1 => k_anew A x = 0 ∧ r = v_anew A x ∧ CR K A ad L f A L1 f1)) (fun E L1 f1 => xE [xIO] (k_anew A x) E ∧ CR K A ad L f A L1 f1) := by
  have hI9 := hI
  obtain ⟨hV, hmem, hinj, hCX, hCF, hh5, hl6, hl8, hl10, hSt, hWo, hPa⟩ := hI9
  have hV9 := hV
  obtain ⟨hv1, hv2, hv3, hvS, -, -, -, -, hv11, hvW, hv23, -, hvP⟩ := hV9
  have hLo := hmem 1 (live_c (by omega))
  have hfo : f (ad 1) = eS 7 [.ref ((ad 6)), .ref ((ad 8)), .ref ((ad 10)), .ref ((ad 5)), .int (nI (hN A 1000)), .ref ((ad 2))] := hCX
  have hth : ∀ n E, k_anew A x = n + 1 → [xIO][n]? = some E → (xE [xIO] (k_anew A x) E ∧ CR K A ad L f A L f) := fun n E h1 h2 => ⟨⟨by omega, by rw [h1]; exact h2⟩, CR.id hI⟩
  refine z_xmet (by decide) (Nat.le_of_ble_eq_true rfl) (fun p e s m below meth c ls hC hM hr hlk hxt hl => ?_)
  have hx := hC.1
  have hb := hC.2.1
  have hml := hC.2.2.1
  have hown := hC.2.2.2.1
  have hts := hC.2.2.2.2.1
  generalize hA : ([.ref ((ad 1)), .int x] : List Value).toArray = args at hC ⊢
  generalize hQ : vx_MQ _ _ _ _ _ _ _ _ = Q
  obtain ⟨locs, hlocs⟩ : ∃ z : List Loc, z = [] := ⟨_, rfl⟩
  obtain ⟨H, hH⟩ : ∃ z : Heap, z = s.heap := ⟨_, rfl⟩
  rw [← hlocs, ← hH] at hM ⊢
  have hl : lv_has ls 3 [(0, .ref ((ad 1))), (1, .int x)] := hl
  refine lv_aload_n hx hb dX6_periodAnew_0 rfl (lv_at hl 0 rfl) ?_
  refine lv_iload_n hx hb dX6_periodAnew_1 rfl (lv_at hl 1 rfl) ?_
  refine z_xpcallq hQ (z_xrunV hC hM (c_worldAt hst hLo hfo hl8 (by omega) (fs := fun w => fsOf (f (ad (300 + 10 * w)))) (fun w hw => ⟨hmem _ (live_w hw (by omega)), by obtain ⟨t9, g9, h9, -⟩ := hWo w hw; show f (ad (300 + 10 * w)) = eS 6 (fsOf (f (ad (300 + 10 * w)))); rw [h9]; rfl⟩) x) zy_X6_worldAt zm_X6_174 hLo hfo zcl_X6 rfl rfl rfl hl.1 (Nat.le_of_ble_eq_true rfl) ⟨by decide, by decide⟩ ⟨by decide, by decide⟩ dX6_periodAnew_2) hM hxt hlk (by decide) (by decide) (fun E hE => by obtain ⟨rfl, h9⟩ := hE; exact hth 0 _ (if_neg h9) rfl) (fun r_2 hp_2 H locs hM => ?_)
  obtain ⟨w, hw, hx9, rfl⟩ := hp_2
  subst hx9
  have hs9 : isW A (nI w) := iR_nI (by omega) (by omega) (by omega)
  have hiv := iv_nI (i := w) (by omega)
  obtain ⟨th, gw, hW1, hW2, hW3, hW4, hW5, hW6⟩ := hWo w hw
  obtain ⟨u1, u2, u3, u4⟩ := hvW w hw
  have u5 := hv23 w
  refine lv_astore_n (lv' := [(2, .ref ((ad (300 + 10 * w)))), (0, .ref ((ad 1))), (1, .int (nI w))]) hx hb dX6_periodAnew_5 rfl hl (by decide) rfl (fun ls hl => ?_)
  refine lv_aload_n hx hb dX6_periodAnew_6 rfl (lv_at hl 1 rfl) ?_
  refine lv_aload_n hx hb dX6_periodAnew_7 rfl (lv_at hl 0 rfl) ?_
  refine z_getN hC hM (hmem _ (live_w hw (by omega))) hW1 zcl_X5 (by decide) zl_X6_191 rfl dX6_periodAnew_8 ?_
  refine lv_aload_n hx hb dX6_periodAnew_11 rfl (lv_at hl 0 rfl) ?_
  refine z_getN hC hM (hmem _ (live_w hw (by omega))) hW1 zcl_X5 (by decide) zl_X6_192 rfl dX6_periodAnew_12 ?_
  refine z_calli (z_runV hC hM (c_bestPeriod hLo hfo (hmem 2 (live_c (by omega))) (hmem 3 (live_c (by omega))) (hmem 4 (live_c (by omega))) hCF (hmem _ (live_w hw (by omega))) hW2 (hmem _ (live_w hw (by omega))) hW3 rfl (fp_ok hW5) (ad_ne hinj (live_c (by omega)) (live_c (by omega)) (by omega)) (ad_ne hinj (live_c (by omega)) (live_c (by omega)) (by omega)) (ad_ne hinj (live_c (by omega)) (live_c (by omega)) (by omega)) (ad_ne hinj (live_c (by omega)) (live_w hw (by omega)) (by omega)) (ad_ne hinj (live_c (by omega)) (live_w hw (by omega)) (by omega)) (ad_ne hinj (live_c (by omega)) (live_c (by omega)) (by omega)) (ad_ne hinj (live_c (by omega)) (live_c (by omega)) (by omega)) (ad_ne hinj (live_c (by omega)) (live_w hw (by omega)) (by omega)) (ad_ne hinj (live_c (by omega)) (live_w hw (by omega)) (by omega)) (ad_ne hinj (live_c (by omega)) (live_c (by omega)) (by omega)) (ad_ne hinj (live_c (by omega)) (live_w hw (by omega)) (by omega)) (ad_ne hinj (live_c (by omega)) (live_w hw (by omega)) (by omega)) (ad_ne hinj (live_c (by omega)) (live_w hw (by omega)) (by omega)) (ad_ne hinj (live_c (by omega)) (live_w hw (by omega)) (by omega)) (ad_ne hinj (live_w hw (by omega)) (live_w hw (by omega)) (by omega)) (nI th)) zy_X6_bestPeriod zm_X6_155 hLo hfo zcl_X6 rfl rfl rfl hl.1 (Nat.le_of_ble_eq_true rfl) ⟨by decide, by decide⟩ ⟨by decide, by decide⟩ dX6_periodAnew_15) hM (fun r L1 f1 H locs hp hM => ?_)
  obtain ⟨rfl, e9, hcf, hfr⟩ := hp
  have e9 := e9.symm
  subst e9
  rw [← hQ]
  refine vx_ret ?_
  exact z_iret hC hM hr hlk rfl (by decide) (by decide) ⟨if_pos hs9, by rw [v_anew, hiv, bp_pd hW5 (iR_nI (by omega) (by omega) (by omega)), hW6, if_neg (by omega)]; rfl, CR.scr hI hcf hfr⟩ dX6_periodAnew_18
set_option maxHeartbeats 400000 in
set_option maxRecDepth 100000 in
theorem p_score {l : Launch} {base : Nat} {K : zK} {L : List Nat} {f : Nat → va_E} (hst : l.stackTraces = false) {A : zA} {ad : Nat → Nat} (hI : CI K L f A ad) (x y1 : Int32) : zXMet l yX6_score cX6_score 3 (some .long) (zr 8 3 18 130) base K L f [.ref ((ad 1)), .int x, .int y1] (zQl base K (fun r L1 f1 => k_fold A x y1 = 0 ∧ r = v_score A x y1 ∧ CR K A ad L f A L1 f1)) (fun E L1 f1 => xE [xIO, xIA, xIS] (k_fold A x y1) E ∧ CR K A ad L f A L1 f1) := by
  have hI9 := hI
  obtain ⟨hV, hmem, hinj, hCX, hCF, hh5, hl6, hl8, hl10, hSt, hWo, hPa⟩ := hI9
  have hV9 := hV
  obtain ⟨hv1, hv2, hv3, hvS, -, -, -, -, hv11, hvW, hv23, -, hvP⟩ := hV9
  have hLo := hmem 1 (live_c (by omega))
  have hfo : f (ad 1) = eS 7 [.ref ((ad 6)), .ref ((ad 8)), .ref ((ad 10)), .ref ((ad 5)), .int (nI (hN A 1000)), .ref ((ad 2))] := hCX
  have hth : ∀ n E, k_fold A x y1 = n + 1 → [xIO, xIA, xIS][n]? = some E → (xE [xIO, xIA, xIS] (k_fold A x y1) E ∧ CR K A ad L f A L f) := fun n E h1 h2 => ⟨⟨by omega, by rw [h1]; exact h2⟩, CR.id hI⟩
  refine z_xmet (by decide) (Nat.le_of_ble_eq_true rfl) (fun p e s m below meth c ls hC hM hr hlk hxt hl => ?_)
  have hx := hC.1
  have hb := hC.2.1
  have hml := hC.2.2.1
  have hown := hC.2.2.2.1
  have hts := hC.2.2.2.2.1
  generalize hA : ([.ref ((ad 1)), .int x, .int y1] : List Value).toArray = args at hC ⊢
  generalize hQ : vx_MQ _ _ _ _ _ _ _ _ = Q
  obtain ⟨locs, hlocs⟩ : ∃ z : List Loc, z = [] := ⟨_, rfl⟩
  obtain ⟨H, hH⟩ : ∃ z : Heap, z = s.heap := ⟨_, rfl⟩
  rw [← hlocs, ← hH] at hM ⊢
  have hl : lv_has ls 3 [(0, .ref ((ad 1))), (1, .int x), (2, .int y1)] := hl
  refine lv_aload_n hx hb dX6_score_0 rfl (lv_at hl 0 rfl) ?_
  refine z_get hC hM hLo hfo zcl_X6 (by decide) zl_X6_33 rfl dX6_score_1 ?_
  refine lv_iload_n hx hb dX6_score_4 rfl (lv_at hl 2 rfl) ?_
  refine lv_aload_n hx hb dX6_score_5 rfl (lv_at hl 0 rfl) ?_
  refine lv_iload_n hx hb dX6_score_6 rfl (lv_at hl 1 rfl) ?_
  refine lv_iload_n hx hb dX6_score_7 rfl (lv_at hl 2 rfl) ?_
  refine z_xpcallq hQ (z_xrunV hC hM (c_nToFold (nn := fun i => ad (103 + 10 * i)) (lo := fun i => ad (104 + 10 * i)) (kc := fun i => A.1 14 i) (v0 := fun i => nI (A.1 2 i)) (v1 := fun i => ad (101 + 10 * i)) (v2 := fun i => nI (A.1 8 i)) (v3 := fun i => nI (A.1 9 i)) (v4 := fun i => nI (A.1 10 i)) hst hLo hfo hl6 (by omega) (fun i hi => ⟨hmem _ (live_s hi (by omega)), (hSt i hi).1⟩) (fun i hi => ⟨hmem _ (live_s hi (by omega)), (hSt i hi).2.2.1⟩) (fun i hi => by show A.1 14 i ≤ 1000; rw [(hvS i hi).2.2.2.2.2.2.1]; exact fN_le _ _) x y1) zy_X6_nightsToFold zm_X6_134 hLo hfo zcl_X6 rfl rfl rfl hl.1 (Nat.le_of_ble_eq_true rfl) ⟨by decide, by decide⟩ ⟨by decide, by decide⟩ dX6_score_8) hM hxt hlk (by decide) (by decide) (fun E hE => hE.elim (fun h => by obtain ⟨rfl, h9⟩ := h; exact hth 0 _ (kf1 h9) rfl) (fun ⟨i, hi, hx, h⟩ => by subst hx; have hs9 : isS A (nI i) := iR_nI (by omega) (by omega) (by omega); have hiv := iv_nI (i := i) (by omega); exact h.elim (fun h => by obtain ⟨rfl, h9⟩ := h; exact hth 1 _ (kf2 hs9 h9) rfl) (fun h => by obtain ⟨rfl, h9, h8⟩ := h; exact hth 2 _ (kf3 hs9 h9 (by rw [hiv]; exact h8)) rfl))) (fun r_8 hp_8 H locs hM => ?_)
  obtain ⟨i, hi, hx9, hy9, hk20, rfl⟩ := hp_8
  subst hx9
  obtain ⟨b, hb1, hb2, rfl⟩ := inR_nI (by decide) hy9
  have hivb := iv_nI (i := b) (by omega)
  have hk20 : 20 ≤ A.1 14 i := hk20
  have hiv := iv_nI (i := i) (by omega)
  have hs9 : isS A (nI i) := iR_nI (by omega) (by omega) (by omega)
  obtain ⟨hS1, hS2, hS3, hS4, hS5⟩ := hSt i hi
  obtain ⟨w1, w2, w3, w4, w5, w6, w7, w8⟩ := hvS i hi
  have hGo := gk_ok hV i
  have hFP := fp_ok hGo
  have hCF9 := hCF
  obtain ⟨fl, mn, sg, cg, hffo, hfso, hfco, hz1, hz2, hz3⟩ := hCF
  have hk0 : k_fold A (nI i) (nI b) = 0 := kf0 hs9 (iR_nI (by omega) (by omega) (by omega)) (by rw [hiv]; exact hk20)
  refine z_fcallv (z_runV hC hM (c_foldBy (hmem _ (live_c (by omega))) hffo (hmem _ (live_c (by omega))) hfso (hmem _ (live_c (by omega))) hfco hz1 (fun j hj => congrArg nI (hz2 j hj)) (hmem _ (live_s hi (by omega))) hS3 (hmem _ (live_s hi (by omega))) hS4 w7 hFP (ad_ne hinj (live_c (by omega)) (live_c (by omega)) (by omega)) (ad_ne hinj (live_c (by omega)) (live_c (by omega)) (by omega)) (ad_ne hinj (live_c (by omega)) (live_s hi (by omega)) (by omega)) (ad_ne hinj (live_c (by omega)) (live_s hi (by omega)) (by omega)) (ad_ne hinj (live_c (by omega)) (live_c (by omega)) (by omega)) (ad_ne hinj (live_c (by omega)) (live_s hi (by omega)) (by omega)) (ad_ne hinj (live_c (by omega)) (live_s hi (by omega)) (by omega)) (ad_ne hinj (live_c (by omega)) (live_s hi (by omega)) (by omega)) (ad_ne hinj (live_c (by omega)) (live_s hi (by omega)) (by omega)) (ad_ne hinj (live_s hi (by omega)) (live_s hi (by omega)) (by omega)) (by omega) (by omega)) zy_X0_foldBy zm_X6_138 (hmem 2 (live_c (by omega))) hffo zcl_X0 rfl rfl rfl hl.1 (Nat.le_of_ble_eq_true rfl) ⟨by decide, by decide⟩ ⟨by decide, by decide⟩ dX6_score_11) hM (fun H locs hM => ?_)
  obtain ⟨f_1, ef_1⟩ : ∃ z9, z9 = va_up f ((ad 3)) (eD K 120 (fS (gk A i) b 1000)) := ⟨_, rfl⟩
  rw [← ef_1] at hM
  have hF_2 : f_1 ((ad 1)) = eS 7 [.ref ((ad 6)), .ref ((ad 8)), .ref ((ad 10)), .ref ((ad 5)), .int (nI (hN A 1000)), .ref ((ad 2))] := by rw [ef_1]; exact (va_up_ne _ _ (ad_ne hinj (live_c (by omega)) (live_c (by omega)) (by omega))).trans hfo
  have hF_3 : f_1 ((ad 2)) = eS 1 [.ref ((ad 3)), .ref ((ad 4)), .int (nI fl), .double mn] := by rw [ef_1]; exact (va_up_ne _ _ (ad_ne hinj (live_c (by omega)) (live_c (by omega)) (by omega))).trans hffo
  have hF_4 : f_1 ((ad 3)) = eD K 120 (fS (gk A i) b 1000) := by rw [ef_1]; exact va_up_self _ _ _
  have hF_5 : f_1 ((ad 4)) = eI K 120 (fun j => nI (cg j)) := by rw [ef_1]; exact (va_up_ne _ _ (ad_ne hinj (live_c (by omega)) (live_c (by omega)) (by omega))).trans hfco
  have hF_6 : f_1 ((ad (103 + 10 * i))) = eS 2 [.ref ((ad (104 + 10 * i))), .int (nI (A.1 14 i))] := by rw [ef_1]; exact (va_up_ne _ _ (ad_ne hinj (live_s hi (by omega)) (live_c (by omega)) (by omega))).trans hS3
  have hF_7 : f_1 ((ad (104 + 10 * i))) = eD K 1000 (gk A i) := by rw [ef_1]; exact (va_up_ne _ _ (ad_ne hinj (live_s hi (by omega)) (live_c (by omega)) (by omega))).trans hS4
  obtain ⟨f_8, ef_8⟩ : ∃ z9, z9 = va_up f_1 ((ad 4)) (eI K 120 (fun j => nI ((fC (gk A i) b 1000) j))) := ⟨_, rfl⟩
  rw [← ef_8] at hM
  have hF_9 : f_8 ((ad 1)) = eS 7 [.ref ((ad 6)), .ref ((ad 8)), .ref ((ad 10)), .ref ((ad 5)), .int (nI (hN A 1000)), .ref ((ad 2))] := by rw [ef_8]; exact (va_up_ne _ _ (ad_ne hinj (live_c (by omega)) (live_c (by omega)) (by omega))).trans hF_2
  have hF_10 : f_8 ((ad 2)) = eS 1 [.ref ((ad 3)), .ref ((ad 4)), .int (nI fl), .double mn] := by rw [ef_8]; exact (va_up_ne _ _ (ad_ne hinj (live_c (by omega)) (live_c (by omega)) (by omega))).trans hF_3
  have hF_11 : f_8 ((ad 3)) = eD K 120 (fS (gk A i) b 1000) := by rw [ef_8]; exact (va_up_ne _ _ (ad_ne hinj (live_c (by omega)) (live_c (by omega)) (by omega))).trans hF_4
  have hF_12 : f_8 ((ad 4)) = eI K 120 (fun j => nI ((fC (gk A i) b 1000) j)) := by rw [ef_8]; exact va_up_self _ _ _
  have hF_13 : f_8 ((ad (103 + 10 * i))) = eS 2 [.ref ((ad (104 + 10 * i))), .int (nI (A.1 14 i))] := by rw [ef_8]; exact (va_up_ne _ _ (ad_ne hinj (live_s hi (by omega)) (live_c (by omega)) (by omega))).trans hF_6
  have hF_14 : f_8 ((ad (104 + 10 * i))) = eD K 1000 (gk A i) := by rw [ef_8]; exact (va_up_ne _ _ (ad_ne hinj (live_s hi (by omega)) (live_c (by omega)) (by omega))).trans hF_7
  obtain ⟨f_15, ef_15⟩ : ∃ z9, z9 = va_up f_8 ((ad 2)) (eS 1 [.ref ((ad 3)), .ref ((ad 4)), .int (nI b), .double (mnT (gk A i))]) := ⟨_, rfl⟩
  rw [← ef_15] at hM
  have hF_16 : f_15 ((ad 1)) = eS 7 [.ref ((ad 6)), .ref ((ad 8)), .ref ((ad 10)), .ref ((ad 5)), .int (nI (hN A 1000)), .ref ((ad 2))] := by rw [ef_15]; exact (va_up_ne _ _ (ad_ne hinj (live_c (by omega)) (live_c (by omega)) (by omega))).trans hF_9
  have hF_17 : f_15 ((ad 2)) = eS 1 [.ref ((ad 3)), .ref ((ad 4)), .int (nI b), .double (mnT (gk A i))] := by rw [ef_15]; exact va_up_self _ _ _
  have hF_18 : f_15 ((ad 3)) = eD K 120 (fS (gk A i) b 1000) := by rw [ef_15]; exact (va_up_ne _ _ (ad_ne hinj (live_c (by omega)) (live_c (by omega)) (by omega))).trans hF_11
  have hF_19 : f_15 ((ad 4)) = eI K 120 (fun j => nI ((fC (gk A i) b 1000) j)) := by rw [ef_15]; exact (va_up_ne _ _ (ad_ne hinj (live_c (by omega)) (live_c (by omega)) (by omega))).trans hF_12
  have hF_20 : f_15 ((ad (103 + 10 * i))) = eS 2 [.ref ((ad (104 + 10 * i))), .int (nI (A.1 14 i))] := by rw [ef_15]; exact (va_up_ne _ _ (ad_ne hinj (live_s hi (by omega)) (live_c (by omega)) (by omega))).trans hF_13
  have hF_21 : f_15 ((ad (104 + 10 * i))) = eD K 1000 (gk A i) := by rw [ef_15]; exact (va_up_ne _ _ (ad_ne hinj (live_s hi (by omega)) (live_c (by omega)) (by omega))).trans hF_14
  refine lv_aload_n hx hb dX6_score_14 rfl (lv_at hl 0 rfl) ?_
  refine z_get hC hM hLo hF_16 zcl_X6 (by decide) zl_X6_33 rfl dX6_score_15 ?_
  refine lv_aload_n hx hb dX6_score_18 rfl (lv_at hl 0 rfl) ?_
  refine z_get hC hM hLo hF_16 zcl_X6 (by decide) zl_X6_33 rfl dX6_score_19 ?_
  refine z_fcalli (z_runV hC hM (c_bestFold (hmem _ (live_c (by omega))) hF_17 (hmem _ (live_c (by omega))) hF_18 (hmem _ (live_c (by omega))) hF_19 (fun j => by have := fC_le (gk A i) b 1000 j; omega) (by omega) (fun x hx9 h9 => FP_fold hFP (by omega) x h9)) zy_X0_bestFold zm_X6_142 (hmem 2 (live_c (by omega))) hF_17 zcl_X0 rfl rfl rfl hl.1 (Nat.le_of_ble_eq_true rfl) ⟨by decide, by decide⟩ ⟨by decide, by decide⟩ dX6_score_22) hM (fun H locs hM => ?_)
  obtain ⟨d, hd9, hdl, hdc⟩ := bFo_some (g := gk A i) (p := b) (by omega) (by omega)
  rw [hd9, show oN (some d) = nI d from rfl]
  refine z_fcalld (z_runV hC hM (c_scoreOf (hmem _ (live_c (by omega))) hF_17 (hmem _ (live_c (by omega))) hF_18 (hmem _ (live_c (by omega))) hF_19 (fun j => by have := fC_le (gk A i) b 1000 j; omega) d (by omega) (fun h9 => FP_fold hFP (by omega) d h9)) zy_X0_scoreOf zm_X6_145 (hmem 2 (live_c (by omega))) hF_17 zcl_X0 rfl rfl rfl hl.1 (Nat.le_of_ble_eq_true rfl) ⟨by decide, by decide⟩ ⟨by decide, by decide⟩ dX6_score_25) hM (fun H locs hM => ?_)
  rw [scB_at hd9]
  refine z_fcalll (z_runS hC hM (c_bitsOf (sc_bits hGo (by omega) (by omega))) zy_X6_bitsOf zm_X6_98 rfl rfl hl.1 (Nat.le_of_ble_eq_true rfl) ⟨by decide, by decide⟩ ⟨by decide, by decide⟩ dX6_score_28) hM (fun H locs hM => ?_)
  rw [← hQ]
  refine vx_ret ?_
  exact z_lret hC hM hr hlk (by decide) (by decide) ⟨hk0, by rw [v_score, hiv, hivb], CR.scr hI (CFx.of (p := b) (g := gk A i) (by omega) (by omega) hF_17 hF_18 hF_19) (fun q h2 h3 h4 => by rw [ef_15, ef_8, ef_1]; simp only [va_up, h2, h3, h4, if_false])⟩ dX6_score_31
set_option maxHeartbeats 400000 in
set_option maxRecDepth 100000 in
theorem p_phase {l : Launch} {base : Nat} {K : zK} {L : List Nat} {f : Nat → va_E} (hst : l.stackTraces = false) {A : zA} {ad : Nat → Nat} (hI : CI K L f A ad) (x y1 : Int32) : zXMet l yX6_phase cX6_phase 3 (some .int) (zr 8 3 18 130) base K L f [.ref ((ad 1)), .int x, .int y1] (zQi base K (fun r L1 f1 => k_fold A x y1 = 0 ∧ r = v_phase A x y1 ∧ CR K A ad L f A L1 f1)) (fun E L1 f1 => xE [xIO, xIA, xIS] (k_fold A x y1) E ∧ CR K A ad L f A L1 f1) := by
  have hI9 := hI
  obtain ⟨hV, hmem, hinj, hCX, hCF, hh5, hl6, hl8, hl10, hSt, hWo, hPa⟩ := hI9
  have hV9 := hV
  obtain ⟨hv1, hv2, hv3, hvS, -, -, -, -, hv11, hvW, hv23, -, hvP⟩ := hV9
  have hLo := hmem 1 (live_c (by omega))
  have hfo : f (ad 1) = eS 7 [.ref ((ad 6)), .ref ((ad 8)), .ref ((ad 10)), .ref ((ad 5)), .int (nI (hN A 1000)), .ref ((ad 2))] := hCX
  have hth : ∀ n E, k_fold A x y1 = n + 1 → [xIO, xIA, xIS][n]? = some E → (xE [xIO, xIA, xIS] (k_fold A x y1) E ∧ CR K A ad L f A L f) := fun n E h1 h2 => ⟨⟨by omega, by rw [h1]; exact h2⟩, CR.id hI⟩
  refine z_xmet (by decide) (Nat.le_of_ble_eq_true rfl) (fun p e s m below meth c ls hC hM hr hlk hxt hl => ?_)
  have hx := hC.1
  have hb := hC.2.1
  have hml := hC.2.2.1
  have hown := hC.2.2.2.1
  have hts := hC.2.2.2.2.1
  generalize hA : ([.ref ((ad 1)), .int x, .int y1] : List Value).toArray = args at hC ⊢
  generalize hQ : vx_MQ _ _ _ _ _ _ _ _ = Q
  obtain ⟨locs, hlocs⟩ : ∃ z : List Loc, z = [] := ⟨_, rfl⟩
  obtain ⟨H, hH⟩ : ∃ z : Heap, z = s.heap := ⟨_, rfl⟩
  rw [← hlocs, ← hH] at hM ⊢
  have hl : lv_has ls 3 [(0, .ref ((ad 1))), (1, .int x), (2, .int y1)] := hl
  refine lv_aload_n hx hb dX6_phase_0 rfl (lv_at hl 0 rfl) ?_
  refine z_get hC hM hLo hfo zcl_X6 (by decide) zl_X6_33 rfl dX6_phase_1 ?_
  refine lv_iload_n hx hb dX6_phase_4 rfl (lv_at hl 2 rfl) ?_
  refine lv_aload_n hx hb dX6_phase_5 rfl (lv_at hl 0 rfl) ?_
  refine lv_iload_n hx hb dX6_phase_6 rfl (lv_at hl 1 rfl) ?_
  refine lv_iload_n hx hb dX6_phase_7 rfl (lv_at hl 2 rfl) ?_
  refine z_xpcallq hQ (z_xrunV hC hM (c_nToFold (nn := fun i => ad (103 + 10 * i)) (lo := fun i => ad (104 + 10 * i)) (kc := fun i => A.1 14 i) (v0 := fun i => nI (A.1 2 i)) (v1 := fun i => ad (101 + 10 * i)) (v2 := fun i => nI (A.1 8 i)) (v3 := fun i => nI (A.1 9 i)) (v4 := fun i => nI (A.1 10 i)) hst hLo hfo hl6 (by omega) (fun i hi => ⟨hmem _ (live_s hi (by omega)), (hSt i hi).1⟩) (fun i hi => ⟨hmem _ (live_s hi (by omega)), (hSt i hi).2.2.1⟩) (fun i hi => by show A.1 14 i ≤ 1000; rw [(hvS i hi).2.2.2.2.2.2.1]; exact fN_le _ _) x y1) zy_X6_nightsToFold zm_X6_134 hLo hfo zcl_X6 rfl rfl rfl hl.1 (Nat.le_of_ble_eq_true rfl) ⟨by decide, by decide⟩ ⟨by decide, by decide⟩ dX6_phase_8) hM hxt hlk (by decide) (by decide) (fun E hE => hE.elim (fun h => by obtain ⟨rfl, h9⟩ := h; exact hth 0 _ (kf1 h9) rfl) (fun ⟨i, hi, hx, h⟩ => by subst hx; have hs9 : isS A (nI i) := iR_nI (by omega) (by omega) (by omega); have hiv := iv_nI (i := i) (by omega); exact h.elim (fun h => by obtain ⟨rfl, h9⟩ := h; exact hth 1 _ (kf2 hs9 h9) rfl) (fun h => by obtain ⟨rfl, h9, h8⟩ := h; exact hth 2 _ (kf3 hs9 h9 (by rw [hiv]; exact h8)) rfl))) (fun r_8 hp_8 H locs hM => ?_)
  obtain ⟨i, hi, hx9, hy9, hk20, rfl⟩ := hp_8
  subst hx9
  obtain ⟨b, hb1, hb2, rfl⟩ := inR_nI (by decide) hy9
  have hivb := iv_nI (i := b) (by omega)
  have hk20 : 20 ≤ A.1 14 i := hk20
  have hiv := iv_nI (i := i) (by omega)
  have hs9 : isS A (nI i) := iR_nI (by omega) (by omega) (by omega)
  obtain ⟨hS1, hS2, hS3, hS4, hS5⟩ := hSt i hi
  obtain ⟨w1, w2, w3, w4, w5, w6, w7, w8⟩ := hvS i hi
  have hGo := gk_ok hV i
  have hFP := fp_ok hGo
  have hCF9 := hCF
  obtain ⟨fl, mn, sg, cg, hffo, hfso, hfco, hz1, hz2, hz3⟩ := hCF
  have hk0 : k_fold A (nI i) (nI b) = 0 := kf0 hs9 (iR_nI (by omega) (by omega) (by omega)) (by rw [hiv]; exact hk20)
  refine z_fcallv (z_runV hC hM (c_foldBy (hmem _ (live_c (by omega))) hffo (hmem _ (live_c (by omega))) hfso (hmem _ (live_c (by omega))) hfco hz1 (fun j hj => congrArg nI (hz2 j hj)) (hmem _ (live_s hi (by omega))) hS3 (hmem _ (live_s hi (by omega))) hS4 w7 hFP (ad_ne hinj (live_c (by omega)) (live_c (by omega)) (by omega)) (ad_ne hinj (live_c (by omega)) (live_c (by omega)) (by omega)) (ad_ne hinj (live_c (by omega)) (live_s hi (by omega)) (by omega)) (ad_ne hinj (live_c (by omega)) (live_s hi (by omega)) (by omega)) (ad_ne hinj (live_c (by omega)) (live_c (by omega)) (by omega)) (ad_ne hinj (live_c (by omega)) (live_s hi (by omega)) (by omega)) (ad_ne hinj (live_c (by omega)) (live_s hi (by omega)) (by omega)) (ad_ne hinj (live_c (by omega)) (live_s hi (by omega)) (by omega)) (ad_ne hinj (live_c (by omega)) (live_s hi (by omega)) (by omega)) (ad_ne hinj (live_s hi (by omega)) (live_s hi (by omega)) (by omega)) (by omega) (by omega)) zy_X0_foldBy zm_X6_138 (hmem 2 (live_c (by omega))) hffo zcl_X0 rfl rfl rfl hl.1 (Nat.le_of_ble_eq_true rfl) ⟨by decide, by decide⟩ ⟨by decide, by decide⟩ dX6_phase_11) hM (fun H locs hM => ?_)
  obtain ⟨f_1, ef_1⟩ : ∃ z9, z9 = va_up f ((ad 3)) (eD K 120 (fS (gk A i) b 1000)) := ⟨_, rfl⟩
  rw [← ef_1] at hM
  have hF_2 : f_1 ((ad 1)) = eS 7 [.ref ((ad 6)), .ref ((ad 8)), .ref ((ad 10)), .ref ((ad 5)), .int (nI (hN A 1000)), .ref ((ad 2))] := by rw [ef_1]; exact (va_up_ne _ _ (ad_ne hinj (live_c (by omega)) (live_c (by omega)) (by omega))).trans hfo
  have hF_3 : f_1 ((ad 2)) = eS 1 [.ref ((ad 3)), .ref ((ad 4)), .int (nI fl), .double mn] := by rw [ef_1]; exact (va_up_ne _ _ (ad_ne hinj (live_c (by omega)) (live_c (by omega)) (by omega))).trans hffo
  have hF_4 : f_1 ((ad 3)) = eD K 120 (fS (gk A i) b 1000) := by rw [ef_1]; exact va_up_self _ _ _
  have hF_5 : f_1 ((ad 4)) = eI K 120 (fun j => nI (cg j)) := by rw [ef_1]; exact (va_up_ne _ _ (ad_ne hinj (live_c (by omega)) (live_c (by omega)) (by omega))).trans hfco
  have hF_6 : f_1 ((ad (103 + 10 * i))) = eS 2 [.ref ((ad (104 + 10 * i))), .int (nI (A.1 14 i))] := by rw [ef_1]; exact (va_up_ne _ _ (ad_ne hinj (live_s hi (by omega)) (live_c (by omega)) (by omega))).trans hS3
  have hF_7 : f_1 ((ad (104 + 10 * i))) = eD K 1000 (gk A i) := by rw [ef_1]; exact (va_up_ne _ _ (ad_ne hinj (live_s hi (by omega)) (live_c (by omega)) (by omega))).trans hS4
  obtain ⟨f_8, ef_8⟩ : ∃ z9, z9 = va_up f_1 ((ad 4)) (eI K 120 (fun j => nI ((fC (gk A i) b 1000) j))) := ⟨_, rfl⟩
  rw [← ef_8] at hM
  have hF_9 : f_8 ((ad 1)) = eS 7 [.ref ((ad 6)), .ref ((ad 8)), .ref ((ad 10)), .ref ((ad 5)), .int (nI (hN A 1000)), .ref ((ad 2))] := by rw [ef_8]; exact (va_up_ne _ _ (ad_ne hinj (live_c (by omega)) (live_c (by omega)) (by omega))).trans hF_2
  have hF_10 : f_8 ((ad 2)) = eS 1 [.ref ((ad 3)), .ref ((ad 4)), .int (nI fl), .double mn] := by rw [ef_8]; exact (va_up_ne _ _ (ad_ne hinj (live_c (by omega)) (live_c (by omega)) (by omega))).trans hF_3
  have hF_11 : f_8 ((ad 3)) = eD K 120 (fS (gk A i) b 1000) := by rw [ef_8]; exact (va_up_ne _ _ (ad_ne hinj (live_c (by omega)) (live_c (by omega)) (by omega))).trans hF_4
  have hF_12 : f_8 ((ad 4)) = eI K 120 (fun j => nI ((fC (gk A i) b 1000) j)) := by rw [ef_8]; exact va_up_self _ _ _
  have hF_13 : f_8 ((ad (103 + 10 * i))) = eS 2 [.ref ((ad (104 + 10 * i))), .int (nI (A.1 14 i))] := by rw [ef_8]; exact (va_up_ne _ _ (ad_ne hinj (live_s hi (by omega)) (live_c (by omega)) (by omega))).trans hF_6
  have hF_14 : f_8 ((ad (104 + 10 * i))) = eD K 1000 (gk A i) := by rw [ef_8]; exact (va_up_ne _ _ (ad_ne hinj (live_s hi (by omega)) (live_c (by omega)) (by omega))).trans hF_7
  obtain ⟨f_15, ef_15⟩ : ∃ z9, z9 = va_up f_8 ((ad 2)) (eS 1 [.ref ((ad 3)), .ref ((ad 4)), .int (nI b), .double (mnT (gk A i))]) := ⟨_, rfl⟩
  rw [← ef_15] at hM
  have hF_16 : f_15 ((ad 1)) = eS 7 [.ref ((ad 6)), .ref ((ad 8)), .ref ((ad 10)), .ref ((ad 5)), .int (nI (hN A 1000)), .ref ((ad 2))] := by rw [ef_15]; exact (va_up_ne _ _ (ad_ne hinj (live_c (by omega)) (live_c (by omega)) (by omega))).trans hF_9
  have hF_17 : f_15 ((ad 2)) = eS 1 [.ref ((ad 3)), .ref ((ad 4)), .int (nI b), .double (mnT (gk A i))] := by rw [ef_15]; exact va_up_self _ _ _
  have hF_18 : f_15 ((ad 3)) = eD K 120 (fS (gk A i) b 1000) := by rw [ef_15]; exact (va_up_ne _ _ (ad_ne hinj (live_c (by omega)) (live_c (by omega)) (by omega))).trans hF_11
  have hF_19 : f_15 ((ad 4)) = eI K 120 (fun j => nI ((fC (gk A i) b 1000) j)) := by rw [ef_15]; exact (va_up_ne _ _ (ad_ne hinj (live_c (by omega)) (live_c (by omega)) (by omega))).trans hF_12
  have hF_20 : f_15 ((ad (103 + 10 * i))) = eS 2 [.ref ((ad (104 + 10 * i))), .int (nI (A.1 14 i))] := by rw [ef_15]; exact (va_up_ne _ _ (ad_ne hinj (live_s hi (by omega)) (live_c (by omega)) (by omega))).trans hF_13
  have hF_21 : f_15 ((ad (104 + 10 * i))) = eD K 1000 (gk A i) := by rw [ef_15]; exact (va_up_ne _ _ (ad_ne hinj (live_s hi (by omega)) (live_c (by omega)) (by omega))).trans hF_14
  refine lv_aload_n hx hb dX6_phase_14 rfl (lv_at hl 0 rfl) ?_
  refine z_get hC hM hLo hF_16 zcl_X6 (by decide) zl_X6_33 rfl dX6_phase_15 ?_
  refine z_fcalli (z_runV hC hM (c_bestFold (hmem _ (live_c (by omega))) hF_17 (hmem _ (live_c (by omega))) hF_18 (hmem _ (live_c (by omega))) hF_19 (fun j => by have := fC_le (gk A i) b 1000 j; omega) (by omega) (fun x hx9 h9 => FP_fold hFP (by omega) x h9)) zy_X0_bestFold zm_X6_142 (hmem 2 (live_c (by omega))) hF_17 zcl_X0 rfl rfl rfl hl.1 (Nat.le_of_ble_eq_true rfl) ⟨by decide, by decide⟩ ⟨by decide, by decide⟩ dX6_phase_18) hM (fun H locs hM => ?_)
  rw [← hQ]
  refine vx_ret ?_
  exact z_iret hC hM hr hlk rfl (by decide) (by decide) ⟨hk0, by rw [v_phase, hiv, hivb]; rfl, CR.scr hI (CFx.of (p := b) (g := gk A i) (by omega) (by omega) hF_17 hF_18 hF_19) (fun q h2 h3 h4 => by rw [ef_15, ef_8, ef_1]; simp only [va_up, h2, h3, h4, if_false])⟩ dX6_phase_21
set_option maxHeartbeats 400000 in
set_option maxRecDepth 100000 in
theorem p_period {l : Launch} {base : Nat} {K : zK} {L : List Nat} {f : Nat → va_E} (hst : l.stackTraces = false) {A : zA} {ad : Nat → Nat} (hI : CI K L f A ad) (x y1 : Int32) : zXMet l yX6_period cX6_period 3 (some .int) (zr 8 3 18 144) base K L f [.ref ((ad 1)), .int x, .int y1] (zQi base K (fun r L1 f1 => k_period A x y1 = 0 ∧ r = v_period A x y1 ∧ CR K A ad L f A L1 f1)) (fun E L1 f1 => xE [xIO, xIA, xIS] (k_period A x y1) E ∧ CR K A ad L f A L1 f1) := by
  have hI9 := hI
  obtain ⟨hV, hmem, hinj, hCX, hCF, hh5, hl6, hl8, hl10, hSt, hWo, hPa⟩ := hI9
  have hV9 := hV
  obtain ⟨hv1, hv2, hv3, hvS, -, -, -, -, hv11, hvW, hv23, -, hvP⟩ := hV9
  have hLo := hmem 1 (live_c (by omega))
  have hfo : f (ad 1) = eS 7 [.ref ((ad 6)), .ref ((ad 8)), .ref ((ad 10)), .ref ((ad 5)), .int (nI (hN A 1000)), .ref ((ad 2))] := hCX
  have hth : ∀ n E, k_period A x y1 = n + 1 → [xIO, xIA, xIS][n]? = some E → (xE [xIO, xIA, xIS] (k_period A x y1) E ∧ CR K A ad L f A L f) := fun n E h1 h2 => ⟨⟨by omega, by rw [h1]; exact h2⟩, CR.id hI⟩
  refine z_xmet (by decide) (Nat.le_of_ble_eq_true rfl) (fun p e s m below meth c ls hC hM hr hlk hxt hl => ?_)
  have hx := hC.1
  have hb := hC.2.1
  have hml := hC.2.2.1
  have hown := hC.2.2.2.1
  have hts := hC.2.2.2.2.1
  generalize hA : ([.ref ((ad 1)), .int x, .int y1] : List Value).toArray = args at hC ⊢
  generalize hQ : vx_MQ _ _ _ _ _ _ _ _ = Q
  obtain ⟨locs, hlocs⟩ : ∃ z : List Loc, z = [] := ⟨_, rfl⟩
  obtain ⟨H, hH⟩ : ∃ z : Heap, z = s.heap := ⟨_, rfl⟩
  rw [← hlocs, ← hH] at hM ⊢
  have hl : lv_has ls 3 [(0, .ref ((ad 1))), (1, .int x), (2, .int y1)] := hl
  refine lv_aload_n hx hb dX6_period_0 rfl (lv_at hl 0 rfl) ?_
  refine lv_aload_n hx hb dX6_period_1 rfl (lv_at hl 0 rfl) ?_
  refine lv_iload_n hx hb dX6_period_2 rfl (lv_at hl 1 rfl) ?_
  refine lv_iload_n hx hb dX6_period_3 rfl (lv_at hl 2 rfl) ?_
  refine z_xpcallq hQ (z_xrunV hC hM (c_nToSearch (nn := fun i => ad (103 + 10 * i)) (lo := fun i => ad (104 + 10 * i)) (kc := fun i => A.1 14 i) (v0 := fun i => nI (A.1 2 i)) (v1 := fun i => ad (101 + 10 * i)) (v2 := fun i => nI (A.1 8 i)) (v3 := fun i => nI (A.1 9 i)) (v4 := fun i => nI (A.1 10 i)) hst hLo hfo hl6 (by omega) (fun i hi => ⟨hmem _ (live_s hi (by omega)), (hSt i hi).1⟩) (fun i hi => ⟨hmem _ (live_s hi (by omega)), (hSt i hi).2.2.1⟩) x y1) zy_X6_nightsToSearch zm_X6_148 hLo hfo zcl_X6 rfl rfl rfl hl.1 (Nat.le_of_ble_eq_true rfl) ⟨by decide, by decide⟩ ⟨by decide, by decide⟩ dX6_period_4) hM hxt hlk (by decide) (by decide) (fun E hE => hE.elim (fun h => by obtain ⟨rfl, h9⟩ := h; exact hth 0 _ (kp1 h9) rfl) (fun ⟨i, hi, hx, h⟩ => by subst hx; have hs9 : isS A (nI i) := iR_nI (by omega) (by omega) (by omega); have hiv := iv_nI (i := i) (by omega); obtain ⟨rfl, h9⟩ := h; exact hth 1 _ (kp2 hs9 h9) rfl)) (fun r_4 hp_4 H locs hM => ?_)
  obtain ⟨i, hi, hx9, hy9, rfl⟩ := hp_4
  subst hx9
  have hiv := iv_nI (i := i) (by omega)
  have hs9 : isS A (nI i) := iR_nI (by omega) (by omega) (by omega)
  have hy8 : iR y1 0 1000000 := hy9
  obtain ⟨hS1, hS2, hS3, hS4, hS5⟩ := hSt i hi
  obtain ⟨w1, w2, w3, w4, w5, w6, w7, w8⟩ := hvS i hi
  have hGo := gk_ok hV i
  have hFP := fp_ok hGo
  have hkl := fN_le (gk A i) 1000
  refine lv_iload_n hx hb dX6_period_7 rfl (lv_at hl 2 rfl) ?_
  refine z_xqcalli hQ (z_xrunV hC hM (c_periodToTell hst hLo hfo (hmem 2 (live_c (by omega))) (hmem 3 (live_c (by omega))) (hmem 4 (live_c (by omega))) hCF (hmem _ (live_s hi (by omega))) hS3 (hmem _ (live_s hi (by omega))) hS4 w7 hFP (ad_ne hinj (live_c (by omega)) (live_c (by omega)) (by omega)) (ad_ne hinj (live_c (by omega)) (live_c (by omega)) (by omega)) (ad_ne hinj (live_c (by omega)) (live_c (by omega)) (by omega)) (ad_ne hinj (live_c (by omega)) (live_s hi (by omega)) (by omega)) (ad_ne hinj (live_c (by omega)) (live_s hi (by omega)) (by omega)) (ad_ne hinj (live_c (by omega)) (live_c (by omega)) (by omega)) (ad_ne hinj (live_c (by omega)) (live_c (by omega)) (by omega)) (ad_ne hinj (live_c (by omega)) (live_s hi (by omega)) (by omega)) (ad_ne hinj (live_c (by omega)) (live_s hi (by omega)) (by omega)) (ad_ne hinj (live_c (by omega)) (live_c (by omega)) (by omega)) (ad_ne hinj (live_c (by omega)) (live_s hi (by omega)) (by omega)) (ad_ne hinj (live_c (by omega)) (live_s hi (by omega)) (by omega)) (ad_ne hinj (live_c (by omega)) (live_s hi (by omega)) (by omega)) (ad_ne hinj (live_c (by omega)) (live_s hi (by omega)) (by omega)) (ad_ne hinj (live_s hi (by omega)) (live_s hi (by omega)) (by omega)) y1) zy_X6_periodToTell zm_X6_151 hLo hfo zcl_X6 rfl rfl rfl hl.1 (Nat.le_of_ble_eq_true rfl) ⟨by decide, by decide⟩ ⟨by decide, by decide⟩ dX6_period_8) hM hxt hlk (by decide) (by decide) (fun E L1 f1 h9 => by obtain ⟨⟨rfl, h8⟩, e9, hcf, hfr⟩ := h9; have e9 := e9.symm; subst e9; have hk3 := kp3 hs9 hy8 (by rw [hiv]; exact bp_0 hGo hy8 h8); exact ⟨⟨by rw [hk3]; decide, by rw [hk3]; rfl⟩, CR.scr hI hcf hfr⟩) (fun r L1 f1 H locs hp hM => ?_)
  obtain ⟨⟨k, hk9, rfl⟩, e9, hcf, hfr⟩ := hp
  have e9 := e9.symm
  subst e9
  obtain ⟨hpd, hpd0⟩ := bp_1 hGo hy8 hk9
  obtain ⟨hkl, hkh⟩ := bpT_lt hk9
  rw [← hQ]
  refine vx_ret ?_
  exact z_iret hC hM hr hlk rfl (by decide) (by decide) ⟨kp0 hs9 hy8 (by rw [hiv]; exact hpd0), by rw [v_period, hiv, hpd], CR.scr hI hcf hfr⟩ dX6_period_11
set_option maxHeartbeats 400000 in
set_option maxRecDepth 100000 in
theorem p_whyNot {l : Launch} {base : Nat} {K : zK} {L : List Nat} {f : Nat → va_E} (hst : l.stackTraces = false) {A : zA} {ad : Nat → Nat} (hI : CI K L f A ad) (x y1 : Int32) : zXMet l yX6_whyNot cX6_whyNot 4 (some .int) (zr 8 2 12 144) base K L f [.ref ((ad 1)), .int x, .int y1] (zQi base K (fun r L1 f1 => k_whyNot A x y1 = 0 ∧ r = v_whyNot A x y1 ∧ CR K A ad L f A L1 f1)) (fun E L1 f1 => xE [xIO, xIA] (k_whyNot A x y1) E ∧ CR K A ad L f A L1 f1) := by
  have hI9 := hI
  obtain ⟨hV, hmem, hinj, hCX, hCF, hh5, hl6, hl8, hl10, hSt, hWo, hPa⟩ := hI9
  have hV9 := hV
  obtain ⟨hv1, hv2, hv3, hvS, -, -, -, -, hv11, hvW, hv23, -, hvP⟩ := hV9
  have hLo := hmem 1 (live_c (by omega))
  have hfo : f (ad 1) = eS 7 [.ref ((ad 6)), .ref ((ad 8)), .ref ((ad 10)), .ref ((ad 5)), .int (nI (hN A 1000)), .ref ((ad 2))] := hCX
  have hth : ∀ n E, k_whyNot A x y1 = n + 1 → [xIO, xIA][n]? = some E → (xE [xIO, xIA] (k_whyNot A x y1) E ∧ CR K A ad L f A L f) := fun n E h1 h2 => ⟨⟨by omega, by rw [h1]; exact h2⟩, CR.id hI⟩
  refine z_xmet (by decide) (Nat.le_of_ble_eq_true rfl) (fun p e s m below meth c ls hC hM hr hlk hxt hl => ?_)
  have hx := hC.1
  have hb := hC.2.1
  have hml := hC.2.2.1
  have hown := hC.2.2.2.1
  have hts := hC.2.2.2.2.1
  generalize hA : ([.ref ((ad 1)), .int x, .int y1] : List Value).toArray = args at hC ⊢
  generalize hQ : vx_MQ _ _ _ _ _ _ _ _ = Q
  obtain ⟨locs, hlocs⟩ : ∃ z : List Loc, z = [] := ⟨_, rfl⟩
  obtain ⟨H, hH⟩ : ∃ z : Heap, z = s.heap := ⟨_, rfl⟩
  rw [← hlocs, ← hH] at hM ⊢
  have hl : lv_has ls 4 [(0, .ref ((ad 1))), (1, .int x), (2, .int y1)] := hl
  refine lv_aload_n hx hb dX6_whyNot_0 rfl (lv_at hl 0 rfl) ?_
  refine lv_iload_n hx hb dX6_whyNot_1 rfl (lv_at hl 1 rfl) ?_
  refine lv_iload_n hx hb dX6_whyNot_2 rfl (lv_at hl 2 rfl) ?_
  refine z_xpcallq hQ (z_xrunV hC hM (c_nToSearch (nn := fun i => ad (103 + 10 * i)) (lo := fun i => ad (104 + 10 * i)) (kc := fun i => A.1 14 i) (v0 := fun i => nI (A.1 2 i)) (v1 := fun i => ad (101 + 10 * i)) (v2 := fun i => nI (A.1 8 i)) (v3 := fun i => nI (A.1 9 i)) (v4 := fun i => nI (A.1 10 i)) hst hLo hfo hl6 (by omega) (fun i hi => ⟨hmem _ (live_s hi (by omega)), (hSt i hi).1⟩) (fun i hi => ⟨hmem _ (live_s hi (by omega)), (hSt i hi).2.2.1⟩) x y1) zy_X6_nightsToSearch zm_X6_148 hLo hfo zcl_X6 rfl rfl rfl hl.1 (Nat.le_of_ble_eq_true rfl) ⟨by decide, by decide⟩ ⟨by decide, by decide⟩ dX6_whyNot_3) hM hxt hlk (by decide) (by decide) (fun E hE => hE.elim (fun h => by obtain ⟨rfl, h9⟩ := h; exact hth 0 _ (if_pos h9) rfl) (fun ⟨i, hi, hx, h⟩ => by subst hx; have hs9 : isS A (nI i) := iR_nI (by omega) (by omega) (by omega); have hiv := iv_nI (i := i) (by omega); obtain ⟨rfl, h9⟩ := h; exact hth 1 _ (by unfold k_whyNot; exact (if_neg (fun z => z hs9)).trans (if_pos h9)) rfl)) (fun r_3 hp_3 H locs hM => ?_)
  obtain ⟨i, hi, hx9, hy9, rfl⟩ := hp_3
  subst hx9
  have hiv := iv_nI (i := i) (by omega)
  have hs9 : isS A (nI i) := iR_nI (by omega) (by omega) (by omega)
  have hy8 : iR y1 0 1000000 := hy9
  obtain ⟨hS1, hS2, hS3, hS4, hS5⟩ := hSt i hi
  obtain ⟨w1, w2, w3, w4, w5, w6, w7, w8⟩ := hvS i hi
  have hGo := gk_ok hV i
  have hFP := fp_ok hGo
  have hkl := fN_le (gk A i) 1000
  have hk0 : k_whyNot A (nI i) y1 = 0 := by unfold k_whyNot; exact (if_neg (fun z => z hs9)).trans (if_neg (fun z => z hy8))
  refine lv_astore_n (lv' := [(3, .ref ((ad (103 + 10 * i)))), (0, .ref ((ad 1))), (1, .int (nI i)), (2, .int y1)]) hx hb dX6_whyNot_6 rfl hl (by decide) rfl (fun ls hl => ?_)
  refine lv_aload_n hx hb dX6_whyNot_7 rfl (lv_at hl 0 rfl) ?_
  refine z_getN hC hM (hmem _ (live_s hi (by omega))) hS3 zcl_X1 (by decide) zl_X6_117 rfl dX6_whyNot_8 ?_
  refine lv_bipush (v := nI 20) hx hb dX6_whyNot_11 (by decide) ?_
  refine z_icmp_ge (tgt := 18) hx hb (nI_toInt (by omega)) (nI_toInt (by decide)) dX6_whyNot_13 (by decide) (fun c_13 => ?_) (fun c_13 => ?_)
  · refine lv_aload_n hx hb dX6_whyNot_18 rfl (lv_at hl 1 rfl) ?_
    refine lv_aload_n hx hb dX6_whyNot_19 rfl (lv_at hl 0 rfl) ?_
    refine lv_iload_n hx hb dX6_whyNot_20 rfl (lv_at hl 3 rfl) ?_
    refine z_calli (z_runV hC hM (c_bestPeriod hLo hfo (hmem 2 (live_c (by omega))) (hmem 3 (live_c (by omega))) (hmem 4 (live_c (by omega))) hCF (hmem _ (live_s hi (by omega))) hS3 (hmem _ (live_s hi (by omega))) hS4 w7 hFP (ad_ne hinj (live_c (by omega)) (live_c (by omega)) (by omega)) (ad_ne hinj (live_c (by omega)) (live_c (by omega)) (by omega)) (ad_ne hinj (live_c (by omega)) (live_c (by omega)) (by omega)) (ad_ne hinj (live_c (by omega)) (live_s hi (by omega)) (by omega)) (ad_ne hinj (live_c (by omega)) (live_s hi (by omega)) (by omega)) (ad_ne hinj (live_c (by omega)) (live_c (by omega)) (by omega)) (ad_ne hinj (live_c (by omega)) (live_c (by omega)) (by omega)) (ad_ne hinj (live_c (by omega)) (live_s hi (by omega)) (by omega)) (ad_ne hinj (live_c (by omega)) (live_s hi (by omega)) (by omega)) (ad_ne hinj (live_c (by omega)) (live_c (by omega)) (by omega)) (ad_ne hinj (live_c (by omega)) (live_s hi (by omega)) (by omega)) (ad_ne hinj (live_c (by omega)) (live_s hi (by omega)) (by omega)) (ad_ne hinj (live_c (by omega)) (live_s hi (by omega)) (by omega)) (ad_ne hinj (live_c (by omega)) (live_s hi (by omega)) (by omega)) (ad_ne hinj (live_s hi (by omega)) (live_s hi (by omega)) (by omega)) y1) zy_X6_bestPeriod zm_X6_155 hLo hfo zcl_X6 rfl rfl rfl hl.1 (Nat.le_of_ble_eq_true rfl) ⟨by decide, by decide⟩ ⟨by decide, by decide⟩ dX6_whyNot_21) hM (fun r L1 f1 H locs hp hM => ?_)
    obtain ⟨rfl, e9, hcf, hfr⟩ := hp
    have e9 := e9.symm
    subst e9
    refine lv_iconst (v := (-1)) hx hb dX6_whyNot_24 (by decide) ?_
    refine z_icmp_ne (tgt := 32) hx hb rfl m1_toInt dX6_whyNot_25 (by decide) (fun c_25 => ?_) (fun c_25 => ?_)
    · refine lv_iconst (v := nI 0) hx hb dX6_whyNot_32 (by decide) ?_
      rw [← hQ]
      refine vx_ret ?_
      exact z_iret hC hM hr hlk rfl (by decide) (by decide) ⟨hk0, by obtain ⟨k, hk9⟩ := oN_n1 c_25; rw [v_whyNot, hiv, if_neg (by omega), if_neg (bp_1 hGo hy8 hk9).2]; rfl, CR.scr hI hcf hfr⟩ dX6_whyNot_33
    · refine lv_iconst (v := nI 2) hx hb dX6_whyNot_28 (by decide) ?_
      refine lv_goto (tgt := 33) hx hb dX6_whyNot_29 (by decide) ?_
      rw [← hQ]
      refine vx_ret ?_
      exact z_iret hC hM hr hlk rfl (by decide) (by decide) ⟨hk0, by rw [v_whyNot, hiv, if_neg (by omega), if_pos (bp_0 hGo hy8 (oN_m1 (fun k hk => (bpT_lt hk).2) c_25))]; rfl, CR.scr hI hcf hfr⟩ dX6_whyNot_33
  · refine lv_iconst (v := nI 1) hx hb dX6_whyNot_16 (by decide) ?_
    rw [← hQ]
    refine vx_ret ?_
    exact z_iret hC hM hr hlk rfl (by decide) (by decide) ⟨hk0, by rw [v_whyNot, hiv, if_pos (by omega)]; rfl, CR.id hI⟩ dX6_whyNot_17
set_option maxHeartbeats 400000 in
set_option maxRecDepth 100000 in
theorem p_fallen {l : Launch} {base : Nat} {K : zK} {L : List Nat} {f : Nat → va_E} (hst : l.stackTraces = false) {A : zA} {ad : Nat → Nat} (hI : CI K L f A ad) (x : Int32) : zXMet l yX6_hasFallen cX6_hasFallen 2 (some .boolean) (zr 7 1 6 104) base K L f [.ref ((ad 1)), .int x] (zQi base K (fun r L1 f1 => k_fallen A x = 0 ∧ r = v_fallen A x ∧ CR K A ad L f A L1 f1)) (fun E L1 f1 => xE [xIO] (k_fallen A x) E ∧ CR K A ad L f A L1 f1) := by
  have hI9 := hI
  obtain ⟨hV, hmem, hinj, hCX, hCF, hh5, hl6, hl8, hl10, hSt, hWo, hPa⟩ := hI9
  have hV9 := hV
  obtain ⟨hv1, hv2, hv3, hvS, -, -, -, -, hv11, hvW, hv23, -, hvP⟩ := hV9
  have hLo := hmem 1 (live_c (by omega))
  have hfo : f (ad 1) = eS 7 [.ref ((ad 6)), .ref ((ad 8)), .ref ((ad 10)), .ref ((ad 5)), .int (nI (hN A 1000)), .ref ((ad 2))] := hCX
  have hth : ∀ n E, k_fallen A x = n + 1 → [xIO][n]? = some E → (xE [xIO] (k_fallen A x) E ∧ CR K A ad L f A L f) := fun n E h1 h2 => ⟨⟨by omega, by rw [h1]; exact h2⟩, CR.id hI⟩
  refine z_xmet (by decide) (Nat.le_of_ble_eq_true rfl) (fun p e s m below meth c ls hC hM hr hlk hxt hl => ?_)
  have hx := hC.1
  have hb := hC.2.1
  have hml := hC.2.2.1
  have hown := hC.2.2.2.1
  have hts := hC.2.2.2.2.1
  generalize hA : ([.ref ((ad 1)), .int x] : List Value).toArray = args at hC ⊢
  generalize hQ : vx_MQ _ _ _ _ _ _ _ _ = Q
  obtain ⟨locs, hlocs⟩ : ∃ z : List Loc, z = [] := ⟨_, rfl⟩
  obtain ⟨H, hH⟩ : ∃ z : Heap, z = s.heap := ⟨_, rfl⟩
  rw [← hlocs, ← hH] at hM ⊢
  have hl : lv_has ls 2 [(0, .ref ((ad 1))), (1, .int x)] := hl
  refine lv_aload_n hx hb dX6_hasFallen_0 rfl (lv_at hl 0 rfl) ?_
  refine lv_iload_n hx hb dX6_hasFallen_1 rfl (lv_at hl 1 rfl) ?_
  refine z_xpcallq hQ (z_xrunV hC hM (c_paperAt hst hLo hfo hl10 (by omega) (fs := fun j => fsOf (f (ad (500 + j)))) (fun j hj => ⟨hmem _ (live_q hj), by have h9 := hPa j hj; unfold CP at h9; show f (ad (500 + j)) = eS 3 (fsOf (f (ad (500 + j)))); rw [h9]; rfl⟩) x) zy_X6_paperAt zm_X6_195 hLo hfo zcl_X6 rfl rfl rfl hl.1 (Nat.le_of_ble_eq_true rfl) ⟨by decide, by decide⟩ ⟨by decide, by decide⟩ dX6_hasFallen_2) hM hxt hlk (by decide) (by decide) (fun E hE => by obtain ⟨rfl, h9⟩ := hE; exact hth 0 _ (if_neg h9) rfl) (fun r_2 hp_2 H locs hM => ?_)
  obtain ⟨j, hj, hx9, rfl⟩ := hp_2
  subst hx9
  have hs9 : isP A (nI j) := iR_nI (by omega) (by omega) (by omega)
  have hiv := iv_nI (i := j) (by omega)
  have hP1 := hPa j hj
  unfold CP at hP1
  refine z_getN hC hM (hmem _ (live_q hj)) hP1 zcl_X2 (by decide) zl_X6_217 rfl dX6_hasFallen_5 ?_
  rw [← hQ]
  refine vx_ret ?_
  exact z_iret hC hM hr hlk (by cases fell A j <;> rfl) (by decide) (by decide) ⟨if_pos hs9, by rw [v_fallen, hiv], CR.id hI⟩ dX6_hasFallen_8
