/-! THE LAW'S LOOP, ITS START (rows laid by wip/p22/lawend.py) -/
theorem inj_map {ma : Nat → Nat} : ∀ l : List Nat, (l.map ma).Nodup → ∀ k k', k ∈ l → k' ∈ l → ma k = ma k' → k = k'
  | [], _, k, _, h, _, _ => absurd h List.not_mem_nil
  | a :: l, hn, k, k', h, h', e => by
    rw [List.map_cons, List.nodup_cons] at hn
    rcases List.mem_cons.mp h with h1 | h1 <;> rcases List.mem_cons.mp h' with h2 | h2
    · rw [h1, h2]
    · exact absurd (by rw [← h1, e]; exact List.mem_map.mpr ⟨k', h2, rfl⟩) hn.1
    · exact absurd (by rw [← h2, ← e]; exact List.mem_map.mpr ⟨k, h1, rfl⟩) hn.1
    · exact inj_map l hn.2 k k' h1 h2 e
theorem nd_ix {ma : Nat → Nat} {P L : List Nat} {k q : Nat} (e : ma k = q) (h : (P.map ma).Nodup ∧ ∀ x, x ∈ P → ma x ∈ L) (hq : q ∉ L) : ((P ++ [k]).map ma).Nodup ∧ ∀ x, x ∈ P ++ [k] → ma x ∈ L ++ [q] := by
  refine ⟨?_, fun x hx => ?_⟩
  · rw [List.map_append, List.nodup_append]
    refine ⟨h.1, by simp, fun a ha b hb => ?_⟩
    obtain ⟨x, hx, rfl⟩ := List.mem_map.mp ha
    have hb : b = ma k := by simpa using hb
    rw [hb, e]
    exact fun z => hq (z ▸ h.2 x hx)
  · rcases List.mem_append.mp hx with hx | hx
    · exact List.mem_append_left _ (h.2 x hx)
    · have hx : x = k := by simpa using hx
      rw [hx, e]; exact List.mem_append_right _ List.mem_cons_self
def A0 : zA := (fun _ _ => 0, fun _ => 0)
theorem hN_0 : ∀ n, hN A0 n = 0
  | 0 => rfl
  | n + 1 => by
    show (if A0.1 11 n = 1 then hN A0 n + 1 else hN A0 n) = 0
    rw [if_neg (show ¬ A0.1 11 n = 1 from Nat.zero_ne_one), hN_0 n]
theorem VA_0 : VA A0 := ⟨Nat.zero_le _, Nat.zero_le _, Nat.zero_le _, fun i hi => absurd hi (Nat.not_lt_zero i), fun i _ => ⟨rfl, rfl, rfl, rfl, rfl⟩, fun j _ => rfl, fun j => Nat.zero_le _, fun j hj => absurd hj Nat.zero_ne_one, fun j => Nat.zero_le _, fun w hw => absurd hw (Nat.not_lt_zero w), fun w => Nat.zero_le _, fun w _ => rfl, fun j hj => absurd hj (Nat.not_lt_zero j)⟩
theorem live_0 {u : Nat} (h : live A0 u) : u = 1 ∨ u = 2 ∨ u = 3 ∨ u = 4 ∨ u = 5 ∨ u = 6 ∨ u = 8 ∨ u = 10 := by
  rcases h with h | h | h | ⟨-, h⟩ | ⟨-, h⟩ | ⟨-, h⟩ | ⟨i, hi, -⟩ | ⟨i, hi, -⟩ | ⟨i, hi, -⟩
  · omega
  · omega
  · omega
  · exact absurd h (Nat.lt_irrefl 0)
  · exact absurd h (Nat.lt_irrefl 0)
  · exact absurd h (Nat.lt_irrefl 0)
  · exact absurd hi (Nat.not_lt_zero i)
  · exact absurd hi (Nat.not_lt_zero i)
  · exact absurd hi (Nat.not_lt_zero i)
theorem CI.init {K : zK} {L : List Nat} {f : Nat → va_E} {o q r w hd fo so co : Nat} (ho : o ∈ L)
    (hn : q ∉ L ∧ r ∉ L ++ [q] ∧ w ∉ L ++ [q] ++ [r] ∧ hd ∉ L ++ [q] ++ [r] ++ [w] ∧ fo ∉ L ++ [q] ++ [r] ++ [w] ++ [hd] ∧ so ∉ L ++ [q] ++ [r] ++ [w] ++ [hd] ++ [fo] ∧ co ∉ L ++ [q] ++ [r] ++ [w] ++ [hd] ++ [fo] ++ [so])
    (go : f o = eS 7 [.ref q, .ref r, .ref w, .ref hd, .int (nI 0), .ref fo]) (gq : f q = eS 0 [.int (nI 0), .ref K.2.2.1, .int (nI 0)]) (gr : f r = eS 0 [.int (nI 0), .ref K.2.2.1, .int (nI 0)]) (gw : f w = eS 0 [.int (nI 0), .ref K.2.2.1, .int (nI 0)])
    (gh : f hd = eZ K 1000 (fun _ => 0)) (gf : f fo = eS 1 [.ref so, .ref co, .int (nI 0), .double 0]) (gs : f so = eD K 120 (fun _ => 0)) (gc : f co = eI K 120 (fun _ => 0)) :
    ∃ ad : Nat → Nat, ad 1 = o ∧ CI K (L ++ [q] ++ [r] ++ [w] ++ [hd] ++ [fo] ++ [so] ++ [co]) f A0 ad := by
  obtain ⟨ad, had⟩ : ∃ z : Nat → Nat, z = fun k => if k = 1 then o else if k = 2 then fo else if k = 3 then so else if k = 4 then co else if k = 5 then hd else if k = 6 then q else if k = 8 then r else if k = 10 then w else K.2.2.1 := ⟨_, rfl⟩
  have e1 : ad 1 = o := by rw [had]; rfl
  have e2 : ad 2 = fo := by rw [had]; rfl
  have e3 : ad 3 = so := by rw [had]; rfl
  have e4 : ad 4 = co := by rw [had]; rfl
  have e5 : ad 5 = hd := by rw [had]; rfl
  have e6 : ad 6 = q := by rw [had]; rfl
  have e7 : ad 7 = K.2.2.1 := by rw [had]; rfl
  have e8 : ad 8 = r := by rw [had]; rfl
  have e9 : ad 9 = K.2.2.1 := by rw [had]; rfl
  have e10 : ad 10 = w := by rw [had]; rfl
  have e11 : ad 11 = K.2.2.1 := by rw [had]; rfl
  obtain ⟨h1, h2, h3, h4, h5, h6, h7⟩ := hn
  have s0 : (([1] : List Nat).map ad).Nodup ∧ ∀ x, x ∈ ([1] : List Nat) → ad x ∈ L := ⟨by simp, fun x hx => by rw [List.mem_singleton.mp hx, e1]; exact ho⟩
  have s1 := nd_ix e6 s0 h1
  have s2 := nd_ix e8 s1 h2
  have s3 := nd_ix e10 s2 h3
  have s4 := nd_ix e5 s3 h4
  have s5 := nd_ix e2 s4 h5
  have s6 := nd_ix e3 s5 h6
  have s7 := nd_ix e4 s6 h7
  have hmem : ∀ u, live A0 u → u ∈ (([1] : List Nat) ++ [6] ++ [8] ++ [10] ++ [5] ++ [2] ++ [3] ++ [4]) := fun u hu => by
    rcases live_0 hu with h | h | h | h | h | h | h | h <;> subst h <;> decide
  refine ⟨ad, e1, VA_0, fun u hu => s7.2 u (hmem u hu), fun u v hu hv => inj_map _ s7.1 u v (hmem u hu) (hmem v hv), ?_, ?_, ?_, ?_, ?_, ?_, fun i hi => absurd hi (Nat.not_lt_zero i), fun i hi => absurd hi (Nat.not_lt_zero i), fun i hi => absurd hi (Nat.not_lt_zero i)⟩
  · unfold CX
    rw [e1, e2, e5, e6, e8, e10, go, hN_0]
  · refine ⟨0, 0, fun _ => 0, fun _ => 0, ?_, ?_, ?_, fun _ _ => rfl, fun _ _ => rfl, fun _ => Nat.two_pow_pos 31⟩
    · rw [e2, e3, e4, gf]
    · rw [e3, gs]
    · rw [e4, gc]; rfl
  · rw [e5, gh]; rfl
  · rw [e6, e7]
    exact ⟨by have := s7.2 6 (by decide); rwa [e6] at this, ⟨nI 0, gq⟩, Or.inl ⟨rfl, rfl⟩⟩
  · rw [e8, e9]
    exact ⟨by have := s7.2 8 (by decide); rwa [e8] at this, ⟨nI 0, gr⟩, Or.inl ⟨rfl, rfl⟩⟩
  · rw [e10, e11]
    exact ⟨by have := s7.2 10 (by decide); rwa [e10] at this, ⟨nI 0, gw⟩, Or.inl ⟨rfl, rfl⟩⟩
set_option maxHeartbeats 1000000 in
set_option maxRecDepth 100000 in
theorem law_loop {p : Program} {l : Launch} {e : Env} {s : State} {m : MethodId} {below : List Frame} {meth : Method} {c : Code} {K : zK} (hst : l.stackTraces = false) {b L9 : Nat} {xs : Nat → Int32} (hC : zC p s #[Value.ref b] m c cL_law 23 RL s.heap.size K) (hX : va_X b L9 xs s s.heap) (hbl : b < s.heap.size) (hL9 : L9 ≤ 3072) {B : Nat → Nat} (hr : meth.sig.returnType = ret) (hlocks : meth.locks = false) : ∀ (tn : Nat) (A : zA) (tm : Nat) (bl kt : Nat → Nat) (ad : Nat → Nat) (L : List Nat) (f : Nat → va_E) (H : Heap) (locs : List Loc) (ls : Array Slot), INV K A B tm bl kt L f ad → lv_has ls 23 [(0, .ref b), (1, .ref ((ad 1))), (2, .ref ((B 2))), (3, .ref ((B 3))), (4, .ref ((B 4))), (5, .ref ((B 5))), (6, .ref ((B 6))), (7, .ref ((B 7))), (8, .ref ((B 8))), (9, .ref ((B 9))), (10, .ref ((B 10))), (11, .int (nI (nw A))), (12, .int (nI (np A))), (13, .int (nI tm)), (14, .int (nI tn))] → tn ≤ 44 → zM s.heap.size K L f s H locs → W p l e room_1 s m #[Value.ref b] below meth c H locs (100 + 200 * tn) (20000 + 3500 * tn) (lw_Z below #[Value.ref b] s) (F0 m 103 ls []) := by
  have hx := hC.1
  have hb := hC.2.1
  refine z_lp 44 1 (by decide) (fun tn ih => ?_)
  intro A tm bl kt ad L f H locs ls hI hl htn hM
  refine lv_iload hx hb dL_law_103 (lv_at hl 14 rfl) ?_
  refine lv_bipush (v := nI 44) hx hb dL_law_105 (by decide) ?_
  refine z_icmp_ge (tgt := 1398) hx hb (nI_toInt (by omega)) (nI_toInt (by decide)) dL_law_107 (by decide) (fun c_107 => ?_) (fun c_107 => ?_)
  · refine lv_iconst (v := 1) hx hb dL_law_1398 (by decide) ?_
    refine va_forget (fun q hq => hM.2.2.2.2 q hq) ?_
    refine W.widen (k := 600086) (n := 7301442) (by omega) (by omega) ?_
    refine W.base ?_
    exact lw_ret (Drawn.sameBut.refl s.drawn lw_cs) hx hb hr hlocks dL_law_1399
  · refine k_tu hst hC hX hbl hL9 (by omega) (by omega) hI hM (by omega) hl (fun A tm bl kt ad L f H locs ls hI hl hM => ?_)
    refine lv_iinc (v := nI (tn + 1)) (lv' := [(14, .int (nI (tn + 1))), (0, .ref b), (1, .ref ((ad 1))), (2, .ref ((B 2))), (3, .ref ((B 3))), (4, .ref ((B 4))), (5, .ref ((B 5))), (6, .ref ((B 6))), (7, .ref ((B 7))), (8, .ref ((B 8))), (9, .ref ((B 9))), (10, .ref ((B 10))), (11, .int (nI (nw A))), (12, .int (nI (np A))), (13, .int (nI tm))]) hx hb dL_law_1392 hl (k := 14) rfl (nI_add tn 1) (by decide) rfl (fun ls hl => ?_)
    refine lv_goto (tgt := 103) hx hb dL_law_1395 (by decide) ?_
    refine W.widen (k := 100 + 200 * (tn + 1)) (n := 20000 + 3500 * (tn + 1)) (by omega) (by omega) ?_
    exact ih (by omega) A tm bl kt ad L f H locs ls hI (lv_sub hl [1, 2, 3, 4, 5, 6, 7, 8, 9, 10, 11, 12, 13, 14, 0] rfl) (by omega) hM
def LSn (n : Nat) (K : zK) (A : zA) (B : Nat → Nat) (F : Nat → va_E) (L : List Nat) (f : Nat → va_E) (ad : Nat → Nat) : Prop :=
  CI K L f A ad ∧ (∀ i, 2 ≤ i → i < n → B i ∈ L ∧ f (B i) = F i ∧ ∀ t, live A t → ad t ≠ B i) ∧ ∀ i j, 2 ≤ i → i < n → 2 ≤ j → j < n → i ≠ j → B i ≠ B j
theorem LSn.next {n : Nat} {K : zK} {A : zA} {B : Nat → Nat} {F : Nat → va_E} {L : List Nat} {f : Nat → va_E} {ad : Nat → Nat} (h : LSn n K A B F L f ad) {q : Nat} {x : va_E} (hq : q ∉ L) (hB : B n = q) (hF : F n = x) : LSn (n + 1) K A B F (L ++ [q]) (va_up f q x) ad := by
  obtain ⟨h1, h2, h3⟩ := h
  refine ⟨h1.sub app_l (fun t ht => va_up_ne _ _ (ne_of (h1.2.1 t ht) hq)), fun i i1 i2 => ?_, fun i j i1 i2 j1 j2 hij => ?_⟩
  · by_cases e : i = n
    · subst e
      rw [hB]
      exact ⟨app_r, by rw [va_up_self, hF], fun t ht => ne_of (h1.2.1 t ht) hq⟩
    · obtain ⟨a1, a2, a3⟩ := h2 i i1 (by omega)
      exact ⟨app_l _ a1, by rw [va_up_ne _ _ (ne_of a1 hq), a2], a3⟩
  · by_cases e : i = n
    · subst e
      rw [hB]
      exact Ne.symm (ne_of (h2 j j1 (by omega)).1 hq)
    · by_cases e2 : j = n
      · subst e2
        rw [hB]
        exact ne_of (h2 i i1 (by omega)).1 hq
      · exact h3 i j i1 (by omega) j1 (by omega) hij
theorem kst_0 {m9 : Nat} (h1 : 0 < m9) (h2 : m9 ≤ 244) : k_star A0 (nI (4096 * m9)) = 0 ∧ a_star A0 (nI (4096 * m9)) = nsA A0 (4096 * m9) := by
  have hk : k_star A0 (nI (4096 * m9)) = 0 := by
    unfold k_star
    rw [if_neg (fun z => z (iR_n (by omega) (by omega) (by omega))), if_neg (show ¬ ns A0 = 6 from by decide)]
  refine ⟨hk, ?_⟩
  unfold a_star
  rw [if_pos hk, iv_n (by omega)]
  rfl
theorem jB_0 (k : Nat) : jB 0 k = false := BitVec.getLsbD_zero
theorem INV.init {K : zK} {B : Nat → Nat} {m9 : Nat} {L : List Nat} {f : Nat → va_E} {ad : Nat → Nat} (h1 : 0 < m9) (h2 : m9 ≤ 244) {pv : Nat → Nat} (hpv : pv = va_up (fun _ => 0) 0 (4096 * m9)) (hS : LSt K (nsA A0 (4096 * m9)) B (FF K pv (fun _ => 0) (fun _ => 0) (fun _ => 0) (fun _ => 0) (fun _ => 0) (fun _ => 0) (fun _ => 0) (fun _ => 0)) L f ad) : INV K (nsA A0 (4096 * m9)) B 0 (fun _ => 0) (fun _ => 0) L f ad := by
  refine ⟨pv, fun _ => 0, fun _ => 0, fun _ => 0, fun _ => 0, fun _ => 0, fun _ => 0, hS, ⟨rfl, ⟨m9, h1, h2, rfl⟩, fun k hk => absurd hk (Nat.not_lt_zero k), rfl, by decide, rfl, fun _ => (show (0 : Nat) < 3000 by decide), fun _ => (show (0 : Nat) ≤ 0 + 1 by decide), fun _ _ => rfl, fun x _ => ?_, fun x _ hk => absurd rfl hk, fun w hw => absurd hw (Nat.not_lt_zero w)⟩, ⟨?_, ?_, fun k hk => absurd hk (Nat.not_lt_zero k)⟩, ⟨fun k _ x _ => ?_, fun _ => (show (0 : Nat) ≤ 3 by decide)⟩, fun x _ => ?_, fun w hw => absurd hw (Nat.not_lt_zero w), fun j hj => absurd hj (Nat.not_lt_zero j), fun j => ?_⟩
  · exact ⟨fun z => absurd (show (0 : Nat) = 1 from z) (by decide), fun z => absurd rfl z⟩
  · rw [hpv, va_up_self]; rfl
  · rw [hpv, va_up_ne _ _ (by decide)]; rfl
  · rw [jB_0]; exact (decide_eq_false (show ¬ (0 : Nat) = k + 1 by omega)).symm
  · rw [jB_0]; exact (decide_eq_false (show ¬ (0 : Nat) = 1 by decide)).symm
  · exact (if_neg (Nat.not_lt_zero j)).symm
set_option maxHeartbeats 1000000 in
set_option maxRecDepth 100000 in
/-- from the entry, for every script of at most 260 ints, the law comes to its end with true -/
theorem whole_start {p : Program} {e : Env} {s : State} {m : MethodId} {below : List Frame} {meth : Method} {c : Code} (l : Launch) (hflags : l.flags = flags0) {b L : Nat} {xs : Nat → Int32} (hL : L ≤ 260) (C0 : lw_At p s m meth c b L xs) : W p l e room_1 s m #[Value.ref b] below meth c s.heap [] 0 0 (lw_Z below #[Value.ref b] s) (entryFrame m ([Value.ref b] : List Value).toArray 23) := by
  obtain ⟨L9, hLL⟩ : ∃ x, x = L := ⟨_, rfl⟩
  rw [← hLL] at hL C0
  have hL9 : L9 ≤ 3072 := by omega
  obtain ⟨K, hC⟩ := z_start C0
  obtain ⟨-, -, hr, -, -, -, hX, hbl, hlocks, -⟩ := C0
  have hst : l.stackTraces = false := by unfold Launch.stackTraces; rw [hflags]; decide
  have hx := hC.1
  have hb := hC.2.1
  have hown := hC.2.2.2.1
  have hts := hC.2.2.2.2.1
  have hl := lv_entry ([.ref b]) (n := 23) (Nat.le_of_ble_eq_true rfl)
  rw [lg_entry_eq]
  generalize (lg_sl ([.ref b]) ++ List.replicate (23 - (lg_sl ([.ref b])).length) Slot.unset).toArray = ls at hl ⊢
  have hl : lv_has ls 23 [(0, .ref b)] := hl
  have hM : zM s.heap.size K [] (fun _ => eS 0 []) s s.heap [] := ⟨fun k q h => by simp [va_pl] at h, ⟨fun i j p q h => by simp [va_pl] at h, fun k q h => by simp [va_pl] at h⟩, va_S.rf⟩
  refine z_new (fs := [.null, .null, .null, .null, .int (nI 0), .null]) hC hM zcl_X6 zn_L_11 (by decide) (by decide) (by decide) dL_law_0 (fun q_0 H hq_0 hM => ?_)
  refine lv_dup hx hb dL_law_3 rfl ?_
  refine z_callv (z_runI hC hM (c_tinit app_r (va_up_self _ _ _)) zy_X6_init zm_L_93 rfl rfl hl.1 (Nat.le_of_ble_eq_true rfl) ⟨by decide, by decide⟩ ⟨by decide, by decide⟩ dL_law_4) hM (fun L1 f1 H locs hp hM => ?_)
  obtain ⟨q, r, w, hd, fo, so, co, hn, hL1, g0, g1, g2, g3, g4, g5, g6, g7, -⟩ := hp
  obtain ⟨ad, had, hI⟩ := CI.init app_r hn g0 g1 g2 g3 g4 g5 g6 g7
  rw [← hL1] at hI
  refine lv_astore_n (lv' := [(1, .ref q_0), (0, .ref b)]) hx hb dL_law_7 rfl hl (by decide) rfl (fun ls hl => ?_)
  refine lv_bipush (v := nI 14) hx hb dL_law_8 (by decide) ?_
  refine z_newI (n := 14) hC hM zarr_int (by decide) (by decide) (by decide) dL_law_10 (fun q_10 H hq_10 hM => ?_)
  refine lv_astore_n (lv' := [(2, .ref q_10), (1, .ref q_0), (0, .ref b)]) hx hb dL_law_12 rfl hl (by decide) rfl (fun ls hl => ?_)
  refine lv_iconst (v := nI 3) hx hb dL_law_13 (by decide) ?_
  refine z_newI (n := 3) hC hM zarr_int (by decide) (by decide) (by decide) dL_law_14 (fun q_14 H hq_14 hM => ?_)
  refine lv_astore_n (lv' := [(3, .ref q_14), (2, .ref q_10), (1, .ref q_0), (0, .ref b)]) hx hb dL_law_16 rfl hl (by decide) rfl (fun ls hl => ?_)
  refine lv_bipush (v := nI 48) hx hb dL_law_17 (by decide) ?_
  refine z_newJ (n := 48) hC hM zarr_long (by decide) (by decide) (by decide) dL_law_19 (fun q_19 H hq_19 hM => ?_)
  refine lv_astore (lv' := [(4, .ref q_19), (3, .ref q_14), (2, .ref q_10), (1, .ref q_0), (0, .ref b)]) hx hb dL_law_21 hl (by decide) rfl (fun ls hl => ?_)
  refine lv_bipush (v := nI 16) hx hb dL_law_23 (by decide) ?_
  refine z_newJ (n := 16) hC hM zarr_long (by decide) (by decide) (by decide) dL_law_25 (fun q_25 H hq_25 hM => ?_)
  refine lv_astore (lv' := [(5, .ref q_25), (4, .ref q_19), (3, .ref q_14), (2, .ref q_10), (1, .ref q_0), (0, .ref b)]) hx hb dL_law_27 hl (by decide) rfl (fun ls hl => ?_)
  refine lv_bipush (v := nI 12) hx hb dL_law_29 (by decide) ?_
  refine z_newI (n := 12) hC hM zarr_int (by decide) (by decide) (by decide) dL_law_31 (fun q_31 H hq_31 hM => ?_)
  refine lv_astore (lv' := [(6, .ref q_31), (5, .ref q_25), (4, .ref q_19), (3, .ref q_14), (2, .ref q_10), (1, .ref q_0), (0, .ref b)]) hx hb dL_law_33 hl (by decide) rfl (fun ls hl => ?_)
  refine lv_bipush (v := nI 12) hx hb dL_law_35 (by decide) ?_
  refine z_newI (n := 12) hC hM zarr_int (by decide) (by decide) (by decide) dL_law_37 (fun q_37 H hq_37 hM => ?_)
  refine lv_astore (lv' := [(7, .ref q_37), (6, .ref q_31), (5, .ref q_25), (4, .ref q_19), (3, .ref q_14), (2, .ref q_10), (1, .ref q_0), (0, .ref b)]) hx hb dL_law_39 hl (by decide) rfl (fun ls hl => ?_)
  refine lv_bipush (v := nI 30) hx hb dL_law_41 (by decide) ?_
  refine z_newI (n := 30) hC hM zarr_int (by decide) (by decide) (by decide) dL_law_43 (fun q_43 H hq_43 hM => ?_)
  refine lv_astore (lv' := [(8, .ref q_43), (7, .ref q_37), (6, .ref q_31), (5, .ref q_25), (4, .ref q_19), (3, .ref q_14), (2, .ref q_10), (1, .ref q_0), (0, .ref b)]) hx hb dL_law_45 hl (by decide) rfl (fun ls hl => ?_)
  refine lv_bipush (v := nI 30) hx hb dL_law_47 (by decide) ?_
  refine z_newI (n := 30) hC hM zarr_int (by decide) (by decide) (by decide) dL_law_49 (fun q_49 H hq_49 hM => ?_)
  refine lv_astore (lv' := [(9, .ref q_49), (8, .ref q_43), (7, .ref q_37), (6, .ref q_31), (5, .ref q_25), (4, .ref q_19), (3, .ref q_14), (2, .ref q_10), (1, .ref q_0), (0, .ref b)]) hx hb dL_law_51 hl (by decide) rfl (fun ls hl => ?_)
  refine lv_bipush (v := nI 30) hx hb dL_law_53 (by decide) ?_
  refine z_newI (n := 30) hC hM zarr_int (by decide) (by decide) (by decide) dL_law_55 (fun q_55 H hq_55 hM => ?_)
  refine lv_astore (lv' := [(10, .ref q_55), (9, .ref q_49), (8, .ref q_43), (7, .ref q_37), (6, .ref q_31), (5, .ref q_25), (4, .ref q_19), (3, .ref q_14), (2, .ref q_10), (1, .ref q_0), (0, .ref b)]) hx hb dL_law_57 hl (by decide) rfl (fun ls hl => ?_)
  obtain ⟨B, hB⟩ : ∃ B : Nat → Nat, B = fun i => if i = 2 then q_10 else if i = 3 then q_14 else if i = 4 then q_19 else if i = 5 then q_25 else if i = 6 then q_31 else if i = 7 then q_37 else if i = 8 then q_43 else if i = 9 then q_49 else if i = 10 then q_55 else 0 := ⟨_, rfl⟩
  have t2 : LSn 2 K A0 B (FF K (fun _ => 0) (fun _ => 0) (fun _ => 0) (fun _ => 0) (fun _ => 0) (fun _ => 0) (fun _ => 0) (fun _ => 0) (fun _ => 0)) L1 f1 ad := ⟨hI, fun i i1 i2 => absurd i1 (by omega), fun i j i1 i2 => absurd i1 (by omega)⟩
  have t3 := t2.next hq_10 (by rw [hB]; rfl) rfl
  have t4 := t3.next hq_14 (by rw [hB]; rfl) rfl
  have t5 := t4.next hq_19 (by rw [hB]; rfl) rfl
  have t6 := t5.next hq_25 (by rw [hB]; rfl) rfl
  have t7 := t6.next hq_31 (by rw [hB]; rfl) rfl
  have t8 := t7.next hq_37 (by rw [hB]; rfl) rfl
  have t9 := t8.next hq_43 (by rw [hB]; rfl) rfl
  have t10 := t9.next hq_49 (by rw [hB]; rfl) rfl
  have t11 := t10.next hq_55 (by rw [hB]; rfl) rfl
  have hS : LSt K A0 B (FF K (fun _ => 0) (fun _ => 0) (fun _ => 0) (fun _ => 0) (fun _ => 0) (fun _ => 0) (fun _ => 0) (fun _ => 0) (fun _ => 0)) _ _ ad := ⟨t11.1, fun i i1 i2 => t11.2.1 i i1 (by omega), fun i j i1 i2 j1 j2 => t11.2.2 i j i1 (by omega) j1 (by omega)⟩
  have b2 : q_10 = B 2 := by rw [hB]; rfl
  have b3 : q_14 = B 3 := by rw [hB]; rfl
  have b4 : q_19 = B 4 := by rw [hB]; rfl
  have b5 : q_25 = B 5 := by rw [hB]; rfl
  have b6 : q_31 = B 6 := by rw [hB]; rfl
  have b7 : q_37 = B 7 := by rw [hB]; rfl
  have b8 : q_43 = B 8 := by rw [hB]; rfl
  have b9 : q_49 = B 9 := by rw [hB]; rfl
  have b10 : q_55 = B 10 := by rw [hB]; rfl
  rw [← had, b2, b3, b4, b5, b6, b7, b8, b9, b10] at hl
  have hM : zM s.heap.size K (L1 ++ [q_10] ++ [q_14] ++ [q_19] ++ [q_25] ++ [q_31] ++ [q_37] ++ [q_43] ++ [q_49] ++ [q_55]) (va_up (va_up (va_up (va_up (va_up (va_up (va_up (va_up (va_up (f1) q_10 (eI K 14 (fun _ => 0))) q_14 (eI K 3 (fun _ => 0))) q_19 (eJ K 48 (fun _ => 0))) q_25 (eJ K 16 (fun _ => 0))) q_31 (eI K 12 (fun _ => 0))) q_37 (eI K 12 (fun _ => 0))) q_43 (eI K 30 (fun _ => 0))) q_49 (eI K 30 (fun _ => 0))) q_55 (eI K 30 (fun _ => 0))) s H locs := hM
  have hS : LSt K A0 B (FF K (fun _ => 0) (fun _ => 0) (fun _ => 0) (fun _ => 0) (fun _ => 0) (fun _ => 0) (fun _ => 0) (fun _ => 0) (fun _ => 0)) (L1 ++ [q_10] ++ [q_14] ++ [q_19] ++ [q_25] ++ [q_31] ++ [q_37] ++ [q_43] ++ [q_49] ++ [q_55]) (va_up (va_up (va_up (va_up (va_up (va_up (va_up (va_up (va_up (f1) q_10 (eI K 14 (fun _ => 0))) q_14 (eI K 3 (fun _ => 0))) q_19 (eJ K 48 (fun _ => 0))) q_25 (eJ K 16 (fun _ => 0))) q_31 (eI K 12 (fun _ => 0))) q_37 (eI K 12 (fun _ => 0))) q_43 (eI K 30 (fun _ => 0))) q_49 (eI K 30 (fun _ => 0))) q_55 (eI K 30 (fun _ => 0))) ad := hS
  generalize L1 ++ [q_10] ++ [q_14] ++ [q_19] ++ [q_25] ++ [q_31] ++ [q_37] ++ [q_43] ++ [q_49] ++ [q_55] = L at hM hS
  generalize va_up (va_up (va_up (va_up (va_up (va_up (va_up (va_up (va_up (f1) q_10 (eI K 14 (fun _ => 0))) q_14 (eI K 3 (fun _ => 0))) q_19 (eJ K 48 (fun _ => 0))) q_25 (eJ K 16 (fun _ => 0))) q_31 (eI K 12 (fun _ => 0))) q_37 (eI K 12 (fun _ => 0))) q_43 (eI K 30 (fun _ => 0))) q_49 (eI K 30 (fun _ => 0))) q_55 (eI K 30 (fun _ => 0)) = f at hM hS
  have hl : lv_has ls 23 [(10, .ref ((B 10))), (9, .ref ((B 9))), (8, .ref ((B 8))), (7, .ref ((B 7))), (6, .ref ((B 6))), (5, .ref ((B 5))), (4, .ref ((B 4))), (3, .ref ((B 3))), (2, .ref ((B 2))), (1, .ref ((ad 1))), (0, .ref b)] := hl
  refine lv_iconst (v := nI 0) hx hb dL_law_59 (by decide) ?_
  refine lv_istore (lv' := [(11, .int (nI 0)), (10, .ref ((B 10))), (9, .ref ((B 9))), (8, .ref ((B 8))), (7, .ref ((B 7))), (6, .ref ((B 6))), (5, .ref ((B 5))), (4, .ref ((B 4))), (3, .ref ((B 3))), (2, .ref ((B 2))), (1, .ref ((ad 1))), (0, .ref b)]) hx hb dL_law_60 hl (by decide) rfl (fun ls hl => ?_)
  refine lv_iconst (v := nI 0) hx hb dL_law_62 (by decide) ?_
  refine lv_istore (lv' := [(12, .int (nI 0)), (11, .int (nI 0)), (10, .ref ((B 10))), (9, .ref ((B 9))), (8, .ref ((B 8))), (7, .ref ((B 7))), (6, .ref ((B 6))), (5, .ref ((B 5))), (4, .ref ((B 4))), (3, .ref ((B 3))), (2, .ref ((B 2))), (1, .ref ((ad 1))), (0, .ref b)]) hx hb dL_law_63 hl (by decide) rfl (fun ls hl => ?_)
  refine lv_iconst (v := nI 0) hx hb dL_law_65 (by decide) ?_
  refine lv_istore (lv' := [(13, .int (nI 0)), (12, .int (nI 0)), (11, .int (nI 0)), (10, .ref ((B 10))), (9, .ref ((B 9))), (8, .ref ((B 8))), (7, .ref ((B 7))), (6, .ref ((B 6))), (5, .ref ((B 5))), (4, .ref ((B 4))), (3, .ref ((B 3))), (2, .ref ((B 2))), (1, .ref ((ad 1))), (0, .ref b)]) hx hb dL_law_66 hl (by decide) rfl (fun ls hl => ?_)
  refine lv_aload_n hx hb dL_law_68 rfl (lv_at hl 11 rfl) ?_
  refine lv_iconst (v := nI 0) hx hb dL_law_69 (by decide) ?_
  refine lv_sipush (v := nI 4096) hx hb dL_law_70 (by decide) ?_
  refine lv_iconst (v := nI 1) hx hb dL_law_73 (by decide) ?_
  refine lv_aload_n hx hb dL_law_74 rfl (lv_at hl 13 rfl) ?_
  refine lv_iconst (v := nI 0) hx hb dL_law_75 (by decide) ?_
  refine z_runCell hC hM hX hbl hL9 (show 0 < 2 ^ 30 by decide) zm_L_94 rfl hl.1 (Nat.le_of_ble_eq_true rfl) ⟨by decide, by decide⟩ ⟨by decide, by decide⟩ dL_law_76 (fun H locs hM => ?_)
  obtain ⟨v9, hv8⟩ : ∃ x, x = cellV L9 xs 0 := ⟨_, rfl⟩
  rw [← hv8]
  refine lv_sipush (v := nI 244) hx hb dL_law_79 (by decide) ?_
  refine z_fcalli (z_runS hC hM (c_low v9 244 (by decide) (by decide)) zy_L_low zm_L_64 rfl rfl hl.1 (Nat.le_of_ble_eq_true rfl) ⟨by decide, by decide⟩ ⟨by show 0 + 1 + 7 + 1 + 1 + 1 + 1 + 1 + 1 + 1 + 1 + 1 + 0 ≤ 600086; omega, by show 0 + 6 + 1300 + 14 + 3 + 48 + 16 + 12 + 12 + 30 + 30 + 30 + 0 ≤ 7301442; omega⟩ dL_law_82) hM (fun H locs hM => ?_)
  have hlo1 := lowN_lt (v := v9) (n := 244) (by decide)
  refine z_iadd hx hb dL_law_85 ?_
  obtain ⟨m9, hm9⟩ : ∃ x, x = 1 + lowN v9 244 := ⟨_, rfl⟩
  rw [← hm9]
  have hm1 : 0 < m9 := by omega
  have hm2 : m9 ≤ 244 := by omega
  obtain ⟨hk8, ha8⟩ := kst_0 hm1 hm2
  refine z_imul hx hb dL_law_86 ?_
  refine z_iast hC hM (hS.m (by decide) (by decide)) hS.s2 (by omega) (by omega) dL_law_87 (fun H locs hM => ?_)
  obtain ⟨pv1, hpv1⟩ : ∃ g9, g9 = va_up ((fun _ => 0)) 0 (4096 * m9) := ⟨_, rfl⟩
  rw [up_nI, ← hpv1] at hM
  have hS := hS.u2 pv1
  generalize va_up f (B 2) (eI K 14 (fun j => nI (pv1 j))) = f at hM hS
  refine lv_aload_n hx hb dL_law_88 rfl (lv_at hl 12 rfl) ?_
  refine lv_aload_n hx hb dL_law_89 rfl (lv_at hl 11 rfl) ?_
  refine lv_iconst (v := nI 0) hx hb dL_law_90 (by decide) ?_
  refine z_iald hC hM (hS.m (by decide) (by decide)) hS.s2 (by omega) (by omega) dL_law_91 ?_
  rw [hpv1, va_up_self]
  refine z_xq (av := #[]) (val := fun r : Int32 => some (.int r)) (post := fun r u => k_star A0 (nI (4096 * m9)) = 0 ∧ r = nI (ns A0) ∧ CR K A0 ad L f (a_star A0 (nI (4096 * m9))) u.1 u.2) (z_xrunV hC hM (p_star hst hS.1 (nI (4096 * m9))) zy_X6_star zm_L_98 (ci_1 hS.1) (cx_at hS.1) zcl_X6 rfl rfl rfl hl.1 (Nat.le_of_ble_eq_true rfl) ⟨by decide, by decide⟩ ⟨by show 0 + 1 + 7 + 1 + 1 + 1 + 1 + 1 + 1 + 1 + 1 + 1 + 0 + 12 ≤ 600086; omega, by show 0 + 6 + 1300 + 14 + 3 + 48 + 16 + 12 + 12 + 30 + 30 + 30 + 0 + 1200 ≤ 7301442; omega⟩ dL_law_92) (fun st o t ⟨⟨r, u, h1, h2, h3⟩, h4⟩ => ⟨r, u, h1, h2, h3, h4⟩) hM (fun E ce q9 L1 f1 H locs hp hM _ _ _ => absurd hp.1.1 (by omega)) (fun r L f H locs hp hM => ?_)
  obtain ⟨-, hv9, hCR⟩ := hp
  rw [ha8] at hCR
  obtain ⟨ad, had, hS⟩ := hS.cr hCR
  rw [← had] at hl
  rw [hv9, show nI (ns A0) = nI 0 from rfl]
  refine z_if_eq (tgt := 100) hx hb (nI_toInt (by decide)) dL_law_95 (by decide) (fun c_95 => ?_) (fun c_95 => ?_)
  · refine lv_iconst (v := nI 0) hx hb dL_law_100 (by decide) ?_
    refine lv_istore (lv' := [(14, .int (nI 0)), (13, .int (nI 0)), (12, .int (nI 0)), (11, .int (nI 0)), (10, .ref ((B 10))), (9, .ref ((B 9))), (8, .ref ((B 8))), (7, .ref ((B 7))), (6, .ref ((B 6))), (5, .ref ((B 5))), (4, .ref ((B 4))), (3, .ref ((B 3))), (2, .ref ((B 2))), (1, .ref ((ad 1))), (0, .ref b)]) hx hb dL_law_101 hl (by decide) rfl (fun ls hl => ?_)
    refine W.widen (k := 100 + 200 * 0) (n := 20000 + 3500 * 0) (by show 0 + 1 + 7 + 1 + 1 + 1 + 1 + 1 + 1 + 1 + 1 + 1 + 0 + 12 ≤ 100; decide) (by show 0 + 6 + 1300 + 14 + 3 + 48 + 16 + 12 + 12 + 30 + 30 + 30 + 0 + 1200 ≤ 20000; decide) ?_
    exact law_loop hst hC hX hbl hL9 hr hlocks 0 (nsA A0 (4096 * m9)) 0 (fun _ => 0) (fun _ => 0) ad L f H locs ls (INV.init hm1 hm2 hpv1 hS) (lv_sub hl [14, 13, 12, 11, 10, 9, 8, 7, 6, 5, 4, 3, 2, 1, 0] rfl) (by decide) hM
  · exact absurd c_95 (by omega)
