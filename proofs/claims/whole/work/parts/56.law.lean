/-! THE LAW'S LOOP, ITS START (rows laid by wip/whole/law3.py) -/
theorem hN_0 : ∀ n, hN A0 n = 0
  | 0 => rfl
  | n + 1 => by
    show (if A0.1 11 n = 1 then hN A0 n + 1 else hN A0 n) = 0
    rw [if_neg (show ¬ A0.1 11 n = 1 from Nat.zero_ne_one), hN_0 n]
theorem VA_0 : VA A0 := ⟨Nat.zero_le _, Nat.zero_le _, Nat.zero_le _, fun i hi => absurd hi (Nat.not_lt_zero i), fun i _ => ⟨rfl, rfl, rfl, rfl, rfl⟩, fun j _ => rfl, fun j => Nat.zero_le _, fun j hj => absurd hj Nat.zero_ne_one, fun j => Nat.zero_le _, fun w hw => absurd hw (Nat.not_lt_zero w), fun w => Nat.zero_le _, fun w _ => rfl, fun j hj => absurd hj (Nat.not_lt_zero j)⟩
theorem live_0 {u : Nat} (h : live A0 u) : u = 1 ∨ u = 2 ∨ u = 3 ∨ u = 4 ∨ u = 5 ∨ u = 6 ∨ u = 8 ∨ u = 10 := by
  rcases h with h | h | h | ⟨-, h⟩ | ⟨-, h⟩ | ⟨-, h⟩ | ⟨i, hi, -⟩ | ⟨i, hi, -⟩ | ⟨i, hi, -⟩
  · omega
  · omega
  · omega
  · exact absurd h (Nat.lt_irrefl 0)
  · exact absurd h (Nat.lt_irrefl 0)
  · exact absurd h (Nat.lt_irrefl 0)
  · exact absurd hi (Nat.not_lt_zero i)
  · exact absurd hi (Nat.not_lt_zero i)
  · exact absurd hi (Nat.not_lt_zero i)
theorem CI.init {K : zK} {L : List Nat} {f : Nat → va_E} {o q r w hd fo so co : Nat} (ho : o ∈ L)
    (hn : q ∉ L ∧ r ∉ L ++ [q] ∧ w ∉ L ++ [q] ++ [r] ∧ hd ∉ L ++ [q] ++ [r] ++ [w] ∧ fo ∉ L ++ [q] ++ [r] ++ [w] ++ [hd] ∧ so ∉ L ++ [q] ++ [r] ++ [w] ++ [hd] ++ [fo] ∧ co ∉ L ++ [q] ++ [r] ++ [w] ++ [hd] ++ [fo] ++ [so])
    (go : f o = eS 7 [.ref q, .ref r, .ref w, .ref hd, .int (nI 0), .ref fo]) (gq : f q = eS 0 [.int (nI 0), .ref K.2.2.1, .int (nI 0)]) (gr : f r = eS 0 [.int (nI 0), .ref K.2.2.1, .int (nI 0)]) (gw : f w = eS 0 [.int (nI 0), .ref K.2.2.1, .int (nI 0)])
    (gh : f hd = eZ K 1000 (fun _ => 0)) (gf : f fo = eS 1 [.ref so, .ref co, .int (nI 0), .double 0]) (gs : f so = eD K 120 (fun _ => 0)) (gc : f co = eI K 120 (fun _ => 0)) :
    ∃ ad : Nat → Nat, ad 1 = o ∧ CI K (L ++ [q] ++ [r] ++ [w] ++ [hd] ++ [fo] ++ [so] ++ [co]) f A0 ad := by
  obtain ⟨ad, had⟩ : ∃ z : Nat → Nat, z = fun k => if k = 1 then o else if k = 2 then fo else if k = 3 then so else if k = 4 then co else if k = 5 then hd else if k = 6 then q else if k = 8 then r else if k = 10 then w else K.2.2.1 := ⟨_, rfl⟩
  have e1 : ad 1 = o := by rw [had]; rfl
  have e2 : ad 2 = fo := by rw [had]; rfl
  have e3 : ad 3 = so := by rw [had]; rfl
  have e4 : ad 4 = co := by rw [had]; rfl
  have e5 : ad 5 = hd := by rw [had]; rfl
  have e6 : ad 6 = q := by rw [had]; rfl
  have e7 : ad 7 = K.2.2.1 := by rw [had]; rfl
  have e8 : ad 8 = r := by rw [had]; rfl
  have e9 : ad 9 = K.2.2.1 := by rw [had]; rfl
  have e10 : ad 10 = w := by rw [had]; rfl
  have e11 : ad 11 = K.2.2.1 := by rw [had]; rfl
  obtain ⟨h1, h2, h3, h4, h5, h6, h7⟩ := hn
  have s0 : (([1] : List Nat).map ad).Nodup ∧ ∀ x, x ∈ ([1] : List Nat) → ad x ∈ L := ⟨by simp, fun x hx => by rw [List.mem_singleton.mp hx, e1]; exact ho⟩
  have s1 := nd_ix e6 s0 h1
  have s2 := nd_ix e8 s1 h2
  have s3 := nd_ix e10 s2 h3
  have s4 := nd_ix e5 s3 h4
  have s5 := nd_ix e2 s4 h5
  have s6 := nd_ix e3 s5 h6
  have s7 := nd_ix e4 s6 h7
  have hmem : ∀ u, live A0 u → u ∈ (([1] : List Nat) ++ [6] ++ [8] ++ [10] ++ [5] ++ [2] ++ [3] ++ [4]) := fun u hu => by
    rcases live_0 hu with h | h | h | h | h | h | h | h <;> subst h <;> decide
  refine ⟨ad, e1, VA_0, fun u hu => s7.2 u (hmem u hu), fun u v hu hv => inj_map _ s7.1 u v (hmem u hu) (hmem v hv), ?_, ?_, ?_, ?_, ?_, ?_, fun i hi => absurd hi (Nat.not_lt_zero i), fun i hi => absurd hi (Nat.not_lt_zero i), fun i hi => absurd hi (Nat.not_lt_zero i)⟩
  · unfold CX
    rw [e1, e2, e5, e6, e8, e10, go, hN_0]
  · refine ⟨0, 0, fun _ => 0, fun _ => 0, ?_, ?_, ?_, fun _ _ => rfl, fun _ _ => rfl, fun _ => Nat.two_pow_pos 31⟩
    · rw [e2, e3, e4, gf]
    · rw [e3, gs]
    · rw [e4, gc]; rfl
  · rw [e5, gh]; rfl
  · rw [e6, e7]
    exact ⟨by have := s7.2 6 (by decide); rwa [e6] at this, ⟨nI 0, gq⟩, Or.inl ⟨rfl, rfl⟩⟩
  · rw [e8, e9]
    exact ⟨by have := s7.2 8 (by decide); rwa [e8] at this, ⟨nI 0, gr⟩, Or.inl ⟨rfl, rfl⟩⟩
  · rw [e10, e11]
    exact ⟨by have := s7.2 10 (by decide); rwa [e10] at this, ⟨nI 0, gw⟩, Or.inl ⟨rfl, rfl⟩⟩
set_option maxHeartbeats 1000000 in
set_option maxRecDepth 100000 in
theorem law_loop {p : Program} {l : Launch} {e : Env} {s : State} {m : MethodId} {below : List Frame} {meth : Method} {c : Code} {K : zK} (hst : l.stackTraces = false) {b L9 : Nat} {xs : Nat → Int32} (hC : zC p s #[Value.ref b] m c cL_law 8 RL s.heap.size K) (hX : va_X b L9 xs s s.heap) (hbl : b < s.heap.size) (hL9 : L9 ≤ 3072) (hr : meth.sig.returnType = ret) (hlocks : meth.locks = false) {ma : Nat → Nat} {oa : Nat} :
    ∀ (n q : Nat), 6 * q ≤ L9 → L9 < 6 * (q + n) → ∀ (A : zA) (ad : Nat → Nat) (t : Int32) (L : List Nat) (f : Nat → va_E) (H : Heap) (locs : List Loc) (ls : Array Slot), JI K L f A ad ma oa t → lv_has ls 8 [(4, .int (nI (6 * q))), (0, .ref b), (1, .ref (ad 1)), (2, .ref (ma 0)), (3, .ref oa)] → zM s.heap.size K L f s H locs → W p l e room_1 s m #[Value.ref b] below meth c H locs (40 + 12 * q) (15000 + 1200 * q) (lw_Z below #[Value.ref b] s) (F0 m 23 ls []) := by
  have hx := hC.1
  have hb := hC.2.1
  intro n
  induction n with
  | zero => intro q h1 h2; exact absurd h2 (by omega)
  | succ n ih =>
    intro q h1 h2 A ad t L f H locs ls hJ hl hM
    refine lv_iload hx hb dL_law_23 (lv_at hl 0 rfl) ?_
    refine lv_aload_n hx hb dL_law_25 rfl (lv_at hl 1 rfl) ?_
    refine va_slen hx hb hX hbl (Nat.not_le.mpr hbl) hM.2.2 dL_law_26 ?_
    rw [show Int32.ofNat L9 = nI L9 from rfl]
    refine lv_bipush (v := nI 6) hx hb dL_law_27 (by decide) ?_
    refine lv_isub hx hb dL_law_29 ?_
    refine z_icmp_gt (ex := ((6 * q : Nat) : Int)) (ey := (L9 : Int) - 6) (tgt := 1445) hx hb (nI_toInt (by omega)) (by rw [pk_sub_toInt (by omega) (by omega)]; rfl) dL_law_30 (by decide) (fun c_30 => ?_) (fun c_30 => ?_)
    · refine lv_iconst (v := 1) hx hb dL_law_1445 (by decide) ?_
      refine va_forget (fun q hq => hM.2.2.2.2 q hq) ?_
      refine W.widen (k := 601024) (n := 7293034) (by omega) (by omega) ?_
      refine W.base ?_
      exact lw_ret (Drawn.sameBut.refl s.drawn lw_cs) hx hb hr hlocks dL_law_1446
    · have hq : 6 * q + 6 ≤ L9 := by omega
      have KK : ∀ (A : zA) (ad : Nat → Nat) (t : Int32) (L : List Nat) (f : Nat → va_E) (H : Heap) (locs : List Loc) (ls : Array Slot), JI K L f A ad ma oa t → lv_has ls 8 [(4, .int (nI (6 * q))), (0, .ref b), (1, .ref (ad 1)), (2, .ref (ma 0)), (3, .ref oa)] → zM s.heap.size K L f s H locs → W p l e room_1 s m #[Value.ref b] below meth c H locs (40 + 12 * q + 12) (15000 + 1200 * q + 1200) (lw_Z below #[Value.ref b] s) (F0 m 1439 ls []) := by
        intro A ad t L f H locs ls hJ hl hM
        refine lv_iinc (v := nI (6 * q + 6)) (lv' := [(4, .int (nI (6 * q + 6))), (0, .ref b), (1, .ref (ad 1)), (2, .ref (ma 0)), (3, .ref oa)]) hx hb dL_law_1439 hl (k := 0) rfl (nI_add (6 * q) 6) (by decide) rfl (fun ls hl => ?_)
        refine lv_goto (tgt := 23) hx hb dL_law_1442 (by decide) ?_
        rw [show 40 + 12 * q + 12 = 40 + 12 * (q + 1) by omega, show 15000 + 1200 * q + 1200 = 15000 + 1200 * (q + 1) by omega]
        rw [show 6 * q + 6 = 6 * (q + 1) by omega] at hl
        exact ih (q + 1) (by omega) (by omega) A ad t L f H locs ls hJ hl hM
      refine lv_aload_n hx hb dL_law_33 rfl (lv_at hl 1 rfl) ?_
      refine lv_iload hx hb dL_law_34 (lv_at hl 0 rfl) ?_
      refine z_sld hC hM hX hbl (show 6 * q < L9 by omega) hL9 dL_law_36 ?_
      refine lv_bipush (v := nI 31) hx hb dL_law_37 (by decide) ?_
      refine lv_iand hx hb dL_law_39 ?_
      obtain ⟨v, hv⟩ : ∃ v, v = xs (6 * q) &&& nI 31 := ⟨_, rfl⟩
      rw [← hv]
      obtain ⟨z, hz⟩ : ∃ z, z = v.toInt := ⟨_, rfl⟩
      have hcases : z = 0 ∨ z = 1 ∨ z = 2 ∨ z = 3 ∨ z = 4 ∨ z = 5 ∨ z = 6 ∨ z = 7 ∨ z = 8 ∨ z = 9 ∨ z = 10 ∨ z = 11 ∨ z = 12 ∨ z = 13 ∨ z = 14 ∨ z = 15 ∨ z = 16 ∨ z = 17 ∨ z = 18 ∨ (z < 0 ∨ 18 < z) := by omega
      rcases hcases with hz9 | hz9 | hz9 | hz9 | hz9 | hz9 | hz9 | hz9 | hz9 | hz9 | hz9 | hz9 | hz9 | hz9 | hz9 | hz9 | hz9 | hz9 | hz9 | hz9
      · refine lv_tableIn (tgt := 132) (off := 92) hx hb dL_law_40 (by rw [← hz, hz9]; decide) (by rw [← hz, hz9]; decide) (by rw [← hz, hz9]; rfl) (by decide) ?_
        exact k9_star hst hC hX hbl hq hL9 hJ hM hl KK
      · refine lv_tableIn (tgt := 188) (off := 148) hx hb dL_law_40 (by rw [← hz, hz9]; decide) (by rw [← hz, hz9]; decide) (by rw [← hz, hz9]; rfl) (by decide) ?_
        exact k9_planet hst hC hX hbl hq hL9 hJ hM hl KK
      · refine lv_tableIn (tgt := 292) (off := 252) hx hb dL_law_40 (by rw [← hz, hz9]; decide) (by rw [← hz, hz9]; decide) (by rw [← hz, hz9]; rfl) (by decide) ?_
        exact k9_spots hst hC hX hbl hq hL9 hJ hM hl KK
      · refine lv_tableIn (tgt := 372) (off := 332) hx hb dL_law_40 (by rw [← hz, hz9]; decide) (by rw [← hz, hz9]; decide) (by rw [← hz, hz9]; rfl) (by decide) ?_
        exact k9_blend hst hC hX hbl hq hL9 hJ hM hl KK
      · refine lv_tableIn (tgt := 440) (off := 400) hx hb dL_law_40 (by rw [← hz, hz9]; decide) (by rw [← hz, hz9]; decide) (by rw [← hz, hz9]; rfl) (by decide) ?_
        exact k9_light hst hC hX hbl hq hL9 hJ hM hl KK
      · refine lv_tableIn (tgt := 507) (off := 467) hx hb dL_law_40 (by rw [← hz, hz9]; decide) (by rw [← hz, hz9]; decide) (by rw [← hz, hz9]; rfl) (by decide) ?_
        exact k9_cloud hst hC hX hbl hq hL9 hJ hM hl KK
      · refine lv_tableIn (tgt := 575) (off := 535) hx hb dL_law_40 (by rw [← hz, hz9]; decide) (by rw [← hz, hz9]; decide) (by rw [← hz, hz9]; rfl) (by decide) ?_
        exact k9_observe hst hC hX hbl hq hL9 hJ hM hl KK
      · refine lv_tableIn (tgt := 655) (off := 615) hx hb dL_law_40 (by rw [← hz, hz9]; decide) (by rw [← hz, hz9]; decide) (by rw [← hz, hz9]; rfl) (by decide) ?_
        exact k9_kept hst hC hX hbl hq hL9 hJ hM hl KK
      · refine lv_tableIn (tgt := 722) (off := 682) hx hb dL_law_40 (by rw [← hz, hz9]; decide) (by rw [← hz, hz9]; decide) (by rw [← hz, hz9]; rfl) (by decide) ?_
        exact k9_score hst hC hX hbl hq hL9 hJ hM hl KK
      · refine lv_tableIn (tgt := 789) (off := 749) hx hb dL_law_40 (by rw [← hz, hz9]; decide) (by rw [← hz, hz9]; decide) (by rw [← hz, hz9]; rfl) (by decide) ?_
        exact k9_phase hst hC hX hbl hq hL9 hJ hM hl KK
      · refine lv_tableIn (tgt := 857) (off := 817) hx hb dL_law_40 (by rw [← hz, hz9]; decide) (by rw [← hz, hz9]; decide) (by rw [← hz, hz9]; rfl) (by decide) ?_
        exact k9_period hst hC hX hbl hq hL9 hJ hM hl KK
      · refine lv_tableIn (tgt := 925) (off := 885) hx hb dL_law_40 (by rw [← hz, hz9]; decide) (by rw [← hz, hz9]; decide) (by rw [← hz, hz9]; rfl) (by decide) ?_
        exact k9_whyNot hst hC hX hbl hq hL9 hJ hM hl KK
      · refine lv_tableIn (tgt := 993) (off := 953) hx hb dL_law_40 (by rw [← hz, hz9]; decide) (by rw [← hz, hz9]; decide) (by rw [← hz, hz9]; rfl) (by decide) ?_
        exact k9_oddEven hst hC hX hbl hq hL9 hJ hM hl KK
      · refine lv_tableIn (tgt := 1060) (off := 1020) hx hb dL_law_40 (by rw [← hz, hz9]; decide) (by rw [← hz, hz9]; decide) (by rw [← hz, hz9]; rfl) (by decide) ?_
        exact k9_world hst hC hX hbl hq hL9 hJ hM hl KK
      · refine lv_tableIn (tgt := 1128) (off := 1088) hx hb dL_law_40 (by rw [← hz, hz9]; decide) (by rw [← hz, hz9]; decide) (by rw [← hz, hz9]; rfl) (by decide) ?_
        exact k9_about hst hC hX hbl hq hL9 hJ hM hl KK
      · refine lv_tableIn (tgt := 1196) (off := 1156) hx hb dL_law_40 (by rw [← hz, hz9]; decide) (by rw [← hz, hz9]; decide) (by rw [← hz, hz9]; rfl) (by decide) ?_
        exact k9_periodAnew hst hC hX hbl hq hL9 hJ hM hl KK
      · refine lv_tableIn (tgt := 1252) (off := 1212) hx hb dL_law_40 (by rw [← hz, hz9]; decide) (by rw [← hz, hz9]; decide) (by rw [← hz, hz9]; rfl) (by decide) ?_
        exact k9_paper hst hC hX hbl hq hL9 hJ hM hl KK
      · refine lv_tableIn (tgt := 1320) (off := 1280) hx hb dL_law_40 (by rw [← hz, hz9]; decide) (by rw [← hz, hz9]; decide) (by rw [← hz, hz9]; rfl) (by decide) ?_
        exact k9_withdraw hst hC hX hbl hq hL9 hJ hM hl KK
      · refine lv_tableIn (tgt := 1376) (off := 1336) hx hb dL_law_40 (by rw [← hz, hz9]; decide) (by rw [← hz, hz9]; decide) (by rw [← hz, hz9]; rfl) (by decide) ?_
        exact k9_hasFallen hst hC hX hbl hq hL9 hJ hM hl KK
      · refine lv_tableOut (tgt := 1439) hx hb dL_law_40 (by rw [← hz]; exact hz9) (by decide) ?_
        refine W.widen (k := 40 + 12 * q + 12) (n := 15000 + 1200 * q + 1200) (by omega) (by omega) ?_
        exact KK A ad t L f H locs ls hJ hl hM
set_option maxHeartbeats 1000000 in
set_option maxRecDepth 100000 in
/-- YOUR PART: from the entry, for every script of at most 3072 ints, the law comes to its end with true ('hflags': the launch's flags, for a law that throws: no stack traces) -/
theorem whole_start {p : Program} {e : Env} {s : State} {m : MethodId} {below : List Frame} {meth : Method} {c : Code} (l : Launch) (hflags : l.flags = flags0) {b L : Nat} {xs : Nat → Int32} (hL : L ≤ 3072) (C0 : lw_At p s m meth c b L xs) : W p l e room_1 s m #[Value.ref b] below meth c s.heap [] 0 0 (lw_Z below #[Value.ref b] s) (entryFrame m ([Value.ref b] : List Value).toArray 8) := by
  obtain ⟨K, hC⟩ := z_start C0
  obtain ⟨-, -, hr, -, -, -, hX, hbl, hlocks, -⟩ := C0
  have hst : l.stackTraces = false := by unfold Launch.stackTraces; rw [hflags]; decide
  have hx := hC.1
  have hb := hC.2.1
  have hl := lv_entry ([.ref b]) (n := 8) (Nat.le_of_ble_eq_true rfl)
  rw [lg_entry_eq]
  generalize (lg_sl ([.ref b]) ++ List.replicate (8 - (lg_sl ([.ref b])).length) Slot.unset).toArray = ls at hl ⊢
  have hl : lv_has ls 8 [(0, .ref b)] := hl
  have hM : zM s.heap.size K [] (fun _ => eS 0 []) s s.heap [] := ⟨fun k q h => by simp [va_pl] at h, ⟨fun i j p q h => by simp [va_pl] at h, fun k q h => by simp [va_pl] at h⟩, va_S.rf⟩
  refine z_new (fs := [.null, .null, .null, .null, .int (nI 0), .null]) hC hM zcl_X6 zn_L_8 (by decide) (by decide) (by decide) dL_law_0 (fun q_0 H hq_0 hM => ?_)
  refine lv_dup hx hb dL_law_3 rfl ?_
  refine z_callv (z_runI hC hM (c_tinit app_r (va_up_self _ _ _)) zy_X6_init zm_L_78 rfl rfl hl.1 (Nat.le_of_ble_eq_true rfl) ⟨by decide, by decide⟩ ⟨by decide, by decide⟩ dL_law_4) hM (fun L1 f1 H locs hp hM => ?_)
  obtain ⟨q, r, w, hd, fo, so, co, hn, hL1, g0, g1, g2, g3, g4, g5, g6, g7, -⟩ := hp
  obtain ⟨ad, had, hI⟩ := CI.init app_r hn g0 g1 g2 g3 g4 g5 g6 g7
  rw [← hL1] at hI
  refine lv_astore_n (lv' := [(1, .ref q_0), (0, .ref b)]) hx hb dL_law_7 rfl hl (by decide) rfl (fun ls hl => ?_)
  refine z_new (fs := [.int (nI 0), .int (nI 0), .null, .null, .null, .null, .null, .null, .null, .null, .null, .null, .null, .null, .null, .null, .null, .double 0, .int (nI 0), .int (nI 0), .null, .null, .null, .null, .int (nI 0), .null, .null]) hC hM zcl_X7 zn_L_79 (by decide) (by decide) (by decide) dL_law_8 (fun q_8 H hq_8 hM => ?_)
  refine lv_dup hx hb dL_law_11 rfl ?_
  refine z_callv (z_runI hC hM (m_init app_r (va_up_self _ _ _)) zy_X7_init zm_L_81 rfl rfl hl.1 (Nat.le_of_ble_eq_true rfl) ⟨by decide, by decide⟩ ⟨by decide, by decide⟩ dL_law_12) hM (fun L2 f2 H locs hp hM => ?_)
  obtain ⟨ma, hma, hMI, hfm⟩ := hp
  refine lv_astore_n (lv' := [(2, .ref q_8), (1, .ref q_0), (0, .ref b)]) hx hb dL_law_15 rfl hl (by decide) rfl (fun ls hl => ?_)
  refine lv_iconst (v := nI 1) hx hb dL_law_16 (by decide) ?_
  refine z_newJ (n := 1) hC hM zarr_long (by decide) (by decide) (by decide) dL_law_17 (fun q_17 H hq_17 hM => ?_)
  refine lv_astore_n (lv' := [(3, .ref q_17), (2, .ref q_8), (1, .ref q_0), (0, .ref b)]) hx hb dL_law_19 rfl hl (by decide) rfl (fun ls hl => ?_)
  refine lv_iconst (v := nI 0) hx hb dL_law_20 (by decide) ?_
  refine lv_istore (lv' := [(4, .int (nI 0)), (3, .ref q_17), (2, .ref q_8), (1, .ref q_0), (0, .ref b)]) hx hb dL_law_21 hl (by decide) rfl (fun ls hl => ?_)
  have hIa : CI K (L1 ++ [q_8]) (va_up f1 q_8 (eS 8 [.int (nI 0), .int (nI 0), .null, .null, .null, .null, .null, .null, .null, .null, .null, .null, .null, .null, .null, .null, .null, .double 0, .int (nI 0), .int (nI 0), .null, .null, .null, .null, .int (nI 0), .null, .null])) A0 ad := hI.sub app_l (fun u hu => va_up_ne _ _ (ne_of (hI.2.1 u hu) hq_8))
  have hx8 : ∀ u, live A0 u → ad u ≠ q_8 := fun u hu => ne_of (hI.2.1 u hu) hq_8
  have hIb : CI K L2 f2 A0 ad := hIa.sub (fun x hx => (hfm x hx).1) (fun u hu => ((hfm _ (hIa.2.1 u hu)).2 (hx8 u hu)).1)
  have hIc := hIb.sub (f2 := va_up f2 q_17 (eJ K 1 (fun _ => 0))) (app_l (q := q_17)) (fun u hu => va_up_ne _ _ (ne_of (hIb.2.1 u hu) hq_17))
  have hMc := hMI.sub (f1 := va_up f2 q_17 (eJ K 1 (fun _ => 0))) (app_l (q := q_17)) (fun k hk => va_up_ne _ _ (ne_of (hMI.1 k hk) hq_17))
  have hJ : JI K (L2 ++ [q_17]) (va_up f2 q_17 (eJ K 1 (fun _ => 0))) A0 ad ma q_17 (nI 0) := ⟨hIc, hMc, app_r, ⟨_, va_up_self _ _ _⟩, fun u hu => ⟨ne_of (hIb.2.1 u hu) hq_17, fun k hk => Ne.symm (((hfm _ (hIa.2.1 u hu)).2 (hx8 u hu)).2 k hk)⟩, fun k hk => ne_of (hMI.1 k hk) hq_17⟩
  refine W.widen (k := 40 + 12 * 0) (n := 15000 + 1200 * 0) (by decide) (by decide) ?_
  exact law_loop hst hC hX hbl hL hr hlocks (L / 6 + 1) 0 (by omega) (by omega) A0 ad (nI 0) _ _ _ _ ls hJ (by rw [had, hma]; exact lv_sub hl [0, 4, 3, 2, 1] rfl) hM
