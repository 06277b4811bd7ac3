/-! THE LAW'S PIECES, fifth part: papers, withdrawals (rows laid by wip/p22/lawp5.py) -/
theorem b2_is (b : Bool) : (b2 b = 1 ↔ b = true) ∧ (b2 b = 0 ↔ b = false) ∧ b2 b ≤ 1 := by
  cases b
  · exact ⟨⟨fun h => absurd h (by decide), fun h => absurd h (by decide)⟩, ⟨fun _ => rfl, fun _ => rfl⟩, by decide⟩
  · exact ⟨⟨fun _ => rfl, fun _ => rfl⟩, ⟨fun h => absurd h (by decide), fun h => absurd h (by decide)⟩, by decide⟩
theorem wn_m1 {k : Nat} (h : k ≤ 30) : wnV k = -1 ↔ k = 0 := by
  constructor
  · intro e
    have h1 := wnV_toInt (k := k) (by omega)
    rw [e] at h1
    have h2 : (-1 : Int32).toInt = -1 := by decide
    omega
  · rintro rfl; rfl
theorem iv_w {k : Nat} (h0 : k ≠ 0) (h : k ≤ 30) : iv (wnV k) = k - 1 := by
  rw [wnV_p (by omega), iv_n (by omega)]
/-- a paper can be written -/
def PC (A : zA) (fa : Nat → Nat) (y k : Nat) : Prop := np A < 30 ∧ A.1 23 y = 0 ∧ (k = 0 ∨ fa (k - 1) = 0)
theorem kpap {A : zA} {ow : Nat → Nat} {ci : Nat → Int32} {fa : Nat → Nat} {y k : Nat} (hV : VA A) (hpp : PAok A ow ci fa) (hy : y < nw A) (hk : k ≤ np A) : (PC A fa y k → k_paper A (nI y) (wnV k) = 0 ∧ a_paper A (nI y) (wnV k) = paA A y k ∧ (k ≠ 0 → fell A (k - 1) = false)) ∧ (¬ PC A fa y k → k_paper A (nI y) (wnV k) = 2 ∧ a_paper A (nI y) (wnV k) = A) := by
  have hw12 := hV.2.1
  have hp30 := hV.2.2.1
  have h23 := hV.2.2.2.2.2.2.2.2.2.2.1 y
  have hiw : isW A (nI y) := iR_n (by omega) (by omega) (by omega)
  have hip : wnV k = -1 ∨ isP A (wnV k) := by
    by_cases e : k = 0
    · exact Or.inl ((wn_m1 (by omega)).mpr e)
    · right
      rw [wnV_p (by omega)]
      exact iR_n (by omega) (by omega) (by omega)
  have hfa : k ≠ 0 → (fa (k - 1) = 0 ↔ fell A (k - 1) = false) := fun e => by
    rw [hpp.2 (k - 1), if_pos (by omega)]
    exact (b2_is _).2.1
  have hkp : k_paper A (nI y) (wnV k) = if A.1 23 y = 1 ∨ (wnV k ≠ -1 ∧ fell A (iv (wnV k)) = true) ∨ np A = 30 then 2 else 0 := by
    unfold k_paper
    rw [if_neg (fun z => z ⟨hiw, hip⟩), iv_n (by omega)]
  constructor
  · rintro ⟨c1, c2, c3⟩
    have hf : k ≠ 0 → fell A (k - 1) = false := fun e => (hfa e).mp (c3.resolve_left e)
    have h0 : k_paper A (nI y) (wnV k) = 0 := by
      rw [hkp, if_neg]
      rintro (z | ⟨z1, z2⟩ | z)
      · omega
      · have e : k ≠ 0 := fun e => z1 ((wn_m1 (by omega)).mpr e)
        rw [iv_w e (by omega), hf e] at z2
        cases z2
      · omega
    refine ⟨h0, ?_, hf⟩
    unfold a_paper
    rw [if_pos h0, iv_n (by omega)]
    congr 1
    by_cases e : k = 0
    · rw [if_pos ((wn_m1 (by omega)).mpr e), e]
    · rw [if_neg (fun z => e ((wn_m1 (by omega)).mp z)), iv_w e (by omega)]
      omega
  · intro c
    have h2 : k_paper A (nI y) (wnV k) = 2 := by
      rw [hkp, if_pos]
      by_cases c2 : A.1 23 y = 1
      · exact Or.inl c2
      · right
        by_cases c1 : np A = 30
        · exact Or.inr c1
        · left
          have e : k ≠ 0 := fun e => c ⟨by omega, by omega, Or.inl e⟩
          refine ⟨fun z => e ((wn_m1 (by omega)).mp z), ?_⟩
          rw [iv_w e (by omega)]
          cases hf : fell A (k - 1) with
          | true => rfl
          | false => exact absurd ⟨by omega, by omega, Or.inr ((hfa e).mpr hf)⟩ c
    refine ⟨h2, ?_⟩
    unfold a_paper
    rw [if_neg (by omega)]
theorem kpap_E {A : zA} {y k : Nat} {E : String} (h0 : k_paper A (nI y) (wnV k) = 0 ∨ k_paper A (nI y) (wnV k) = 2) (h : xE [xIO, xIS] (k_paper A (nI y) (wnV k)) E) : E = xIS := by
  rcases h0 with e | e
  · rw [e] at h; exact absurd h.1 (Nat.lt_irrefl 0)
  · rw [e] at h; exact (Option.some.inj h.2).symm
set_option maxHeartbeats 1000000 in
set_option maxRecDepth 100000 in
theorem k_pa {p : Program} {l : Launch} {e : Env} {s : State} {m : MethodId} {below : List Frame} {meth : Method} {c : Code} {K : zK} (hst : l.stackTraces = false) {b L9 : Nat} {xs : Nat → Int32} (hC : zC p s #[Value.ref b] m c cL_law 23 RL s.heap.size K) (hX : va_X b L9 xs s s.heap) (hbl : b < s.heap.size) (hL9 : L9 ≤ 3072) {B : Nat → Nat} {A : zA} {tm : Nat} {bl kt : Nat → Nat} {ad : Nat → Nat} {L : List Nat} {f : Nat → va_E} {H : Heap} {locs : List Loc} {ls : Array Slot} {cl sl tn : Nat} {v w : Int32} (hcl : cl + 200 ≤ 600086) (hsl : sl + 3500 ≤ 7301442) (hI : INV K A B tm bl kt L f ad) (hM : zM s.heap.size K L f s H locs) (hw0 : 0 < nw A) (hl : lv_has ls 23 [(0, .ref b), (1, .ref ((ad 1))), (2, .ref ((B 2))), (3, .ref ((B 3))), (4, .ref ((B 4))), (5, .ref ((B 5))), (6, .ref ((B 6))), (7, .ref ((B 7))), (8, .ref ((B 8))), (9, .ref ((B 9))), (10, .ref ((B 10))), (11, .int (nI (nw A))), (12, .int (nI (np A))), (13, .int (nI tm)), (14, .int (nI tn)), (15, .int v), (16, .int w)]) {Q : State → Prop} (KK : ∀ (A : zA) (tm : Nat) (bl kt : Nat → Nat) (ad : Nat → Nat) (L : List Nat) (f : Nat → va_E) (H : Heap) (locs : List Loc) (ls : Array Slot), INV K A B tm bl kt L f ad → lv_has ls 23 [(0, .ref b), (1, .ref ((ad 1))), (2, .ref ((B 2))), (3, .ref ((B 3))), (4, .ref ((B 4))), (5, .ref ((B 5))), (6, .ref ((B 6))), (7, .ref ((B 7))), (8, .ref ((B 8))), (9, .ref ((B 9))), (10, .ref ((B 10))), (11, .int (nI (nw A))), (12, .int (nI (np A))), (13, .int (nI tm)), (14, .int (nI tn)), (15, .int v), (16, .int w)] → zM s.heap.size K L f s H locs → W p l e room_1 s m #[Value.ref b] below meth c H locs (cl + 40) (sl + 2000) Q (F0 m 1167 ls [])) : W p l e room_1 s m #[Value.ref b] below meth c H locs cl sl Q (F0 m 884 ls []) := by
  have hx := hC.1
  have hb := hC.2.1
  have hown := hC.2.2.2.1
  have hts := hC.2.2.2.2.1
  obtain ⟨pv, kb, gb, pe, ow, ci, fa, hS, hP, hpa, hkb, hgb, hpe, hpp⟩ := hI
  have hV : VA A := hS.1.1
  have h12 : nw A ≤ 12 := hV.2.1
  have h30 : np A ≤ 30 := hV.2.2.1
  have hfa1 : ∀ j, fa j ≤ 1 := fun j => by
    rw [hpp.2 j]
    split
    · exact (b2_is _).2.2
    · exact Nat.zero_le _
  have hgo1 : ∀ j, A.1 23 j ≤ 1 := hV.2.2.2.2.2.2.2.2.2.2.1
  refine lv_iload hx hb dL_law_884 (lv_at hl 16 rfl) ?_
  refine lv_iload hx hb dL_law_886 (lv_at hl 11 rfl) ?_
  refine z_fcalli (z_runS hC hM (c_low w ((nw A)) hw0 (show nw A < 2 ^ 31 by omega)) zy_L_low zm_L_64 rfl rfl hl.1 (Nat.le_of_ble_eq_true rfl) ⟨by decide, by decide⟩ ⟨by show cl + 0 ≤ 600086; omega, by show sl + 0 ≤ 7301442; omega⟩ dL_law_888) hM (fun H locs hM => ?_)
  have hlo1 := lowN_lt (v := w) (n := (nw A)) hw0
  obtain ⟨y, hy⟩ : ∃ x, x = lowN w ((nw A)) := ⟨_, rfl⟩
  rw [← hy]
  have hy9 : y < nw A := by rw [hy]; exact hlo1
  refine lv_istore (lv' := [(18, .int (nI y)), (0, .ref b), (1, .ref ((ad 1))), (2, .ref ((B 2))), (3, .ref ((B 3))), (4, .ref ((B 4))), (5, .ref ((B 5))), (6, .ref ((B 6))), (7, .ref ((B 7))), (8, .ref ((B 8))), (9, .ref ((B 9))), (10, .ref ((B 10))), (11, .int (nI (nw A))), (12, .int (nI (np A))), (13, .int (nI tm)), (14, .int (nI tn)), (15, .int v), (16, .int w)]) hx hb dL_law_891 hl (by decide) rfl (fun ls hl => ?_)
  have JOIN923 : ∀ (k9 : Nat) (ls : Array Slot) (H : Heap) (locs : List Loc), k9 ≤ np A → lv_has ls 23 [(0, .ref b), (1, .ref ((ad 1))), (2, .ref ((B 2))), (3, .ref ((B 3))), (4, .ref ((B 4))), (5, .ref ((B 5))), (6, .ref ((B 6))), (7, .ref ((B 7))), (8, .ref ((B 8))), (9, .ref ((B 9))), (10, .ref ((B 10))), (11, .int (nI (nw A))), (12, .int (nI (np A))), (13, .int (nI tm)), (14, .int (nI tn)), (15, .int v), (16, .int w), (18, .int (nI y))] → zM s.heap.size K L f s H locs → W p l e room_1 s m #[Value.ref b] below meth c H locs (cl + 0) (sl + 0) Q (F0 m 923 ls [.int (wnV k9)]) := by
    intro k9 ls H locs hk9 hl hM
    refine lv_istore (lv' := [(19, .int (wnV k9)), (0, .ref b), (1, .ref ((ad 1))), (2, .ref ((B 2))), (3, .ref ((B 3))), (4, .ref ((B 4))), (5, .ref ((B 5))), (6, .ref ((B 6))), (7, .ref ((B 7))), (8, .ref ((B 8))), (9, .ref ((B 9))), (10, .ref ((B 10))), (11, .int (nI (nw A))), (12, .int (nI (np A))), (13, .int (nI tm)), (14, .int (nI tn)), (15, .int v), (16, .int w), (18, .int (nI y))]) hx hb dL_law_923 hl (by decide) rfl (fun ls hl => ?_)
    have JOIN958 : ∀ (c1 : Nat) (ls : Array Slot) (H : Heap) (locs : List Loc), (c1 = 1 ∧ PC A fa y k9) ∨ (c1 = 0 ∧ ¬ PC A fa y k9) → lv_has ls 23 [(0, .ref b), (1, .ref ((ad 1))), (2, .ref ((B 2))), (3, .ref ((B 3))), (4, .ref ((B 4))), (5, .ref ((B 5))), (6, .ref ((B 6))), (7, .ref ((B 7))), (8, .ref ((B 8))), (9, .ref ((B 9))), (10, .ref ((B 10))), (11, .int (nI (nw A))), (12, .int (nI (np A))), (13, .int (nI tm)), (14, .int (nI tn)), (15, .int v), (16, .int w), (18, .int (nI y)), (19, .int (wnV k9))] → zM s.heap.size K L f s H locs → W p l e room_1 s m #[Value.ref b] below meth c H locs (cl + 0) (sl + 0) Q (F0 m 958 ls [.int (nI c1)]) := by
      intro c1 ls H locs hc1 hl hM
      refine lv_istore (lv' := [(20, .int (nI c1)), (0, .ref b), (1, .ref ((ad 1))), (2, .ref ((B 2))), (3, .ref ((B 3))), (4, .ref ((B 4))), (5, .ref ((B 5))), (6, .ref ((B 6))), (7, .ref ((B 7))), (8, .ref ((B 8))), (9, .ref ((B 9))), (10, .ref ((B 10))), (11, .int (nI (nw A))), (12, .int (nI (np A))), (13, .int (nI tm)), (14, .int (nI tn)), (15, .int v), (16, .int w), (18, .int (nI y)), (19, .int (wnV k9))]) hx hb dL_law_958 hl (by decide) rfl (fun ls hl => ?_)
      rcases hc1 with ⟨rfl, hpc⟩ | ⟨rfl, hpc⟩
      · obtain ⟨hk8, ha8, hf8⟩ := (kpap hV hpp hy9 hk9).1 hpc
        have hpc1 := hpc.1
        refine lv_aload_n hx hb dL_law_960 rfl (lv_at hl 2 rfl) ?_
        refine lv_iload hx hb dL_law_961 (lv_at hl 18 rfl) ?_
        refine lv_iload hx hb dL_law_963 (lv_at hl 19 rfl) ?_
        refine z_xq (av := #[]) (val := fun r : Int32 => some (.int r)) (post := fun r u => r = (if k_paper A (nI y) (wnV k9) = 0 then nI (np A) else -1) ∧ CR K A ad L f (a_paper A (nI y) (wnV k9)) u.1 u.2) (z_xrunSH hC hM (w_written hst hS.1 (nI y) (wnV k9) (fun E hE => kpap_E (Or.inl hk8) hE)) zyH_written zm_L_125 rfl rfl hl.1 (Nat.le_of_ble_eq_true rfl) ⟨by decide, by decide⟩ ⟨by show cl + 0 + 12 ≤ 600086; omega, by show sl + 0 + 200 ≤ 7301442; omega⟩ dL_law_965) (fun st o t ⟨⟨r, u, h1, h2, h3⟩, h4⟩ => ⟨r, u, h1, h2, h3, h4⟩) hM (fun E ce q9 L1 f1 H locs hp hM _ _ _ => hp.elim) (fun r L f H locs hp hM => ?_)
        obtain ⟨hv9, hCR⟩ := hp
        rw [ha8] at hCR
        obtain ⟨ad, had, hS⟩ := hS.cr hCR
        rw [← had] at hl
        rw [hv9, if_pos hk8]
        refine lv_iload hx hb dL_law_968 (lv_at hl 0 rfl) ?_
        refine z_if_eq (tgt := 978) hx hb (nI_toInt (by decide)) dL_law_970 (by decide) (fun c_970 => ?_) (fun c_970 => ?_)
        · exact absurd c_970 (by omega)
        · refine lv_iload hx hb dL_law_973 (lv_at hl 13 rfl) ?_
          refine lv_goto (tgt := 979) hx hb dL_law_975 (by decide) ?_
          refine z_icmp_eq (tgt := 984) hx hb (nI_toInt (by omega)) (nI_toInt (by omega)) dL_law_979 (by decide) (fun c_979 => ?_) (fun c_979 => ?_)
          · refine lv_iload hx hb dL_law_984 (lv_at hl 0 rfl) ?_
            refine z_if_eq (tgt := 1006) hx hb (nI_toInt (by decide)) dL_law_986 (by decide) (fun c_986 => ?_) (fun c_986 => ?_)
            · exact absurd c_986 (by omega)
            · refine lv_aload hx hb dL_law_989 (lv_at hl 9 rfl) ?_
              refine lv_iload hx hb dL_law_991 (lv_at hl 13 rfl) ?_
              refine lv_iload hx hb dL_law_993 (lv_at hl 18 rfl) ?_
              refine z_iast hC hM (hS.m (by decide) (by decide)) hS.s8 (by omega) (by omega) dL_law_995 (fun H locs hM => ?_)
              obtain ⟨ow2, how2⟩ : ∃ g9, g9 = va_up ow (np A) y := ⟨_, rfl⟩
              rw [up_nI, ← how2] at hM
              have hS := hS.u8 ow2
              generalize va_up f (B 8) (eI K 30 (fun j => nI (ow2 j))) = f at hM hS
              refine lv_aload hx hb dL_law_996 (lv_at hl 10 rfl) ?_
              refine lv_iload hx hb dL_law_998 (lv_at hl 13 rfl) ?_
              refine lv_iload hx hb dL_law_1000 (lv_at hl 19 rfl) ?_
              refine z_iast hC hM (hS.m (by decide) (by decide)) hS.s9 (by omega) (by omega) dL_law_1002 (fun H locs hM => ?_)
              obtain ⟨ci2, hci2⟩ : ∃ g9, g9 = va_up ci (np A) (wnV k9) := ⟨_, rfl⟩
              rw [← hci2] at hM
              have hS := hS.u9 ci2
              generalize va_up f (B 9) (eI K 30 ci2) = f at hM hS
              refine lv_iinc (v := nI ((np A) + 1)) (lv' := [(12, .int (nI ((np A) + 1))), (20, .int (nI 1)), (0, .ref b), (1, .ref ((ad 1))), (2, .ref ((B 2))), (3, .ref ((B 3))), (4, .ref ((B 4))), (5, .ref ((B 5))), (6, .ref ((B 6))), (7, .ref ((B 7))), (8, .ref ((B 8))), (9, .ref ((B 9))), (10, .ref ((B 10))), (11, .int (nI (nw A))), (13, .int (nI tm)), (14, .int (nI tn)), (15, .int v), (16, .int w), (18, .int (nI y)), (19, .int (wnV k9))]) hx hb dL_law_1003 hl (k := 13) rfl (nI_add (np A) 1) (by decide) rfl (fun ls hl => ?_)
              refine lv_goto (tgt := 1167) hx hb dL_law_1006 (by decide) ?_
              refine W.widen (k := cl + 40) (n := sl + 2000) (by show cl + 0 + 12 ≤ cl + 40; omega) (by show sl + 0 + 200 ≤ sl + 2000; omega) ?_
              exact KK (paA A y k9) tm bl kt ad L f H locs ls ⟨pv, kb, gb, pe, ow2, ci2, fa, hS, hP.paper, hpa.congr (fun k hk => by rcases hk with h | h | h | h | h <;> subst h <;> rfl), hkb, hgb, hpe, by rw [how2, hci2]; exact hpp.paper hV hpc.1 hy9 hk9 (by have := hpc.2.1; omega) hf8⟩ (lv_sub hl [2, 3, 4, 5, 6, 7, 8, 9, 10, 11, 12, 13, 0, 14, 15, 16, 17] rfl) hM
          · exact absurd rfl c_979
      · obtain ⟨hk8, ha8⟩ := (kpap hV hpp hy9 hk9).2 hpc
        refine lv_aload_n hx hb dL_law_960 rfl (lv_at hl 2 rfl) ?_
        refine lv_iload hx hb dL_law_961 (lv_at hl 18 rfl) ?_
        refine lv_iload hx hb dL_law_963 (lv_at hl 19 rfl) ?_
        refine z_xq (av := #[]) (val := fun r : Int32 => some (.int r)) (post := fun r u => r = (if k_paper A (nI y) (wnV k9) = 0 then nI (np A) else -1) ∧ CR K A ad L f (a_paper A (nI y) (wnV k9)) u.1 u.2) (z_xrunSH hC hM (w_written hst hS.1 (nI y) (wnV k9) (fun E hE => kpap_E (Or.inr hk8) hE)) zyH_written zm_L_125 rfl rfl hl.1 (Nat.le_of_ble_eq_true rfl) ⟨by decide, by decide⟩ ⟨by show cl + 0 + 12 ≤ 600086; omega, by show sl + 0 + 200 ≤ 7301442; omega⟩ dL_law_965) (fun st o t ⟨⟨r, u, h1, h2, h3⟩, h4⟩ => ⟨r, u, h1, h2, h3, h4⟩) hM (fun E ce q9 L1 f1 H locs hp hM _ _ _ => hp.elim) (fun r L f H locs hp hM => ?_)
        obtain ⟨hv9, hCR⟩ := hp
        rw [ha8] at hCR
        obtain ⟨ad, had, hS⟩ := hS.cr hCR
        rw [← had] at hl
        rw [hv9, if_neg (by omega)]
        refine lv_iload hx hb dL_law_968 (lv_at hl 0 rfl) ?_
        refine z_if_eq (tgt := 978) hx hb (nI_toInt (by decide)) dL_law_970 (by decide) (fun c_970 => ?_) (fun c_970 => ?_)
        · refine lv_iconst (v := (-1)) hx hb dL_law_978 (by decide) ?_
          refine z_icmp_eq (tgt := 984) hx hb m1_toInt m1_toInt dL_law_979 (by decide) (fun c_979 => ?_) (fun c_979 => ?_)
          · refine lv_iload hx hb dL_law_984 (lv_at hl 0 rfl) ?_
            refine z_if_eq (tgt := 1006) hx hb (nI_toInt (by decide)) dL_law_986 (by decide) (fun c_986 => ?_) (fun c_986 => ?_)
            · refine lv_goto (tgt := 1167) hx hb dL_law_1006 (by decide) ?_
              refine W.widen (k := cl + 40) (n := sl + 2000) (by show cl + 0 + 12 ≤ cl + 40; omega) (by show sl + 0 + 200 ≤ sl + 2000; omega) ?_
              exact KK _ _ _ _ _ _ _ _ _ _ ⟨pv, kb, gb, pe, ow, ci, fa, hS, hP, hpa, hkb, hgb, hpe, hpp⟩ (lv_sub hl [1, 2, 3, 4, 5, 6, 7, 8, 9, 10, 11, 12, 13, 14, 15, 16, 17] rfl) hM
            · exact absurd c_986 (by omega)
          · exact absurd rfl c_979
        · exact absurd c_970 (by omega)
    refine lv_iload hx hb dL_law_925 (lv_at hl 13 rfl) ?_
    refine lv_bipush (v := nI 30) hx hb dL_law_927 (by decide) ?_
    refine z_icmp_ge (tgt := 957) hx hb (nI_toInt (by omega)) (nI_toInt (by decide)) dL_law_929 (by decide) (fun c_929 => ?_) (fun c_929 => ?_)
    · refine lv_iconst (v := nI 0) hx hb dL_law_957 (by decide) ?_
      refine W.widen (k := cl + 0) (n := sl + 0) (by show cl + 0 ≤ cl + 0; omega) (by show sl + 0 ≤ sl + 0; omega) ?_
      exact JOIN958 0 ls H locs (Or.inr ⟨rfl, fun z => by obtain ⟨z1, z2, z3⟩ := z; omega⟩) (lv_sub hl [1, 2, 3, 4, 5, 6, 7, 8, 9, 10, 11, 12, 13, 14, 15, 16, 17, 18, 0] rfl) hM
    · refine lv_aload hx hb dL_law_932 (lv_at hl 8 rfl) ?_
      refine lv_iload hx hb dL_law_934 (lv_at hl 18 rfl) ?_
      have hg9 := hgo1 y
      refine z_iald hC hM (hS.m (by decide) (by decide)) hS.s7 (by omega) (by omega) dL_law_936 ?_
      refine z_if_ne (tgt := 957) hx hb (nI_toInt (by omega)) dL_law_937 (by decide) (fun c_937 => ?_) (fun c_937 => ?_)
      · refine lv_iconst (v := nI 0) hx hb dL_law_957 (by decide) ?_
        refine W.widen (k := cl + 0) (n := sl + 0) (by show cl + 0 ≤ cl + 0; omega) (by show sl + 0 ≤ sl + 0; omega) ?_
        exact JOIN958 0 ls H locs (Or.inr ⟨rfl, fun z => by obtain ⟨z1, z2, z3⟩ := z; omega⟩) (lv_sub hl [1, 2, 3, 4, 5, 6, 7, 8, 9, 10, 11, 12, 13, 14, 15, 16, 17, 18, 0] rfl) hM
      · refine lv_iload hx hb dL_law_940 (lv_at hl 0 rfl) ?_
        refine z_if_lt (tgt := 953) hx hb rfl dL_law_942 (by decide) (fun c_942 => ?_) (fun c_942 => ?_)
        · skip
          rw [wnV_toInt (by omega)] at c_942
          refine lv_iconst (v := nI 1) hx hb dL_law_953 (by decide) ?_
          refine lv_goto (tgt := 958) hx hb dL_law_954 (by decide) ?_
          refine W.widen (k := cl + 0) (n := sl + 0) (by show cl + 0 ≤ cl + 0; omega) (by show sl + 0 ≤ sl + 0; omega) ?_
          exact JOIN958 1 ls H locs (Or.inl ⟨rfl, by omega, by omega, by omega⟩) (lv_sub hl [1, 2, 3, 4, 5, 6, 7, 8, 9, 10, 11, 12, 13, 14, 15, 16, 17, 18, 0] rfl) hM
        · skip
          rw [wnV_toInt (by omega)] at c_942
          rw [wnV_p (show 0 < k9 by omega)] at hl
          refine lv_aload hx hb dL_law_945 (lv_at hl 11 rfl) ?_
          refine lv_iload hx hb dL_law_947 (lv_at hl 0 rfl) ?_
          have hf9 := hfa1 (k9 - 1)
          refine z_iald hC hM (hS.m (by decide) (by decide)) hS.s10 (by omega) (by omega) dL_law_949 ?_
          refine z_if_ne (tgt := 957) hx hb (nI_toInt (by omega)) dL_law_950 (by decide) (fun c_950 => ?_) (fun c_950 => ?_)
          · refine lv_iconst (v := nI 0) hx hb dL_law_957 (by decide) ?_
            rw [← wnV_p (show 0 < k9 by omega)] at hl
            refine W.widen (k := cl + 0) (n := sl + 0) (by show cl + 0 ≤ cl + 0; omega) (by show sl + 0 ≤ sl + 0; omega) ?_
            exact JOIN958 0 ls H locs (Or.inr ⟨rfl, fun z => by obtain ⟨z1, z2, z3⟩ := z; omega⟩) (lv_sub hl [1, 2, 3, 4, 5, 6, 7, 8, 9, 10, 11, 12, 13, 14, 15, 16, 17, 18, 0] rfl) hM
          · refine lv_iconst (v := nI 1) hx hb dL_law_953 (by decide) ?_
            refine lv_goto (tgt := 958) hx hb dL_law_954 (by decide) ?_
            rw [← wnV_p (show 0 < k9 by omega)] at hl
            refine W.widen (k := cl + 0) (n := sl + 0) (by show cl + 0 ≤ cl + 0; omega) (by show sl + 0 ≤ sl + 0; omega) ?_
            exact JOIN958 1 ls H locs (Or.inl ⟨rfl, by omega, by omega, by omega⟩) (lv_sub hl [1, 2, 3, 4, 5, 6, 7, 8, 9, 10, 11, 12, 13, 14, 15, 16, 17, 18, 0] rfl) hM
  refine lv_iload hx hb dL_law_893 (lv_at hl 13 rfl) ?_
  refine z_if_eq (tgt := 909) hx hb (nI_toInt (by omega)) dL_law_895 (by decide) (fun c_895 => ?_) (fun c_895 => ?_)
  · refine lv_iconst (v := (-1)) hx hb dL_law_909 (by decide) ?_
    refine lv_goto (tgt := 923) hx hb dL_law_910 (by decide) ?_
    refine W.widen (k := cl + 0) (n := sl + 0) (by show cl + 0 ≤ cl + 0; omega) (by show sl + 0 ≤ sl + 0; omega) ?_
    exact JOIN923 0 ls H locs (Nat.zero_le _) (lv_sub hl [1, 2, 3, 4, 5, 6, 7, 8, 9, 10, 11, 12, 13, 14, 15, 16, 17, 0] rfl) hM
  · refine lv_iload hx hb dL_law_898 (lv_at hl 17 rfl) ?_
    refine lv_iconst (v := nI 5) hx hb dL_law_900 (by decide) ?_
    refine lv_ishr hx hb dL_law_901 ?_
    refine lv_iconst (v := nI 3) hx hb dL_law_902 (by decide) ?_
    refine z_fcalli (z_runS hC hM (c_low ((w >>> (nI 5 &&& 31))) 3 (by decide) (by decide)) zy_L_low zm_L_64 rfl rfl hl.1 (Nat.le_of_ble_eq_true rfl) ⟨by decide, by decide⟩ ⟨by show cl + 0 + 0 ≤ 600086; omega, by show sl + 0 + 0 ≤ 7301442; omega⟩ dL_law_903) hM (fun H locs hM => ?_)
    have hlo2 := lowN_lt (v := (w >>> (nI 5 &&& 31))) (n := 3) (by decide)
    refine z_if_ne (tgt := 913) hx hb (nI_toInt (by omega)) dL_law_906 (by decide) (fun c_906 => ?_) (fun c_906 => ?_)
    · refine lv_iload hx hb dL_law_913 (lv_at hl 17 rfl) ?_
      refine lv_bipush (v := nI 7) hx hb dL_law_915 (by decide) ?_
      refine lv_ishr hx hb dL_law_917 ?_
      refine lv_iload hx hb dL_law_918 (lv_at hl 13 rfl) ?_
      refine z_fcalli (z_runS hC hM (c_low ((w >>> (nI 7 &&& 31))) ((np A)) (show 0 < np A by omega) (show np A < 2 ^ 31 by omega)) zy_L_low zm_L_64 rfl rfl hl.1 (Nat.le_of_ble_eq_true rfl) ⟨by decide, by decide⟩ ⟨by show cl + 0 + 0 + 0 ≤ 600086; omega, by show sl + 0 + 0 + 0 ≤ 7301442; omega⟩ dL_law_920) hM (fun H locs hM => ?_)
      have hlo3 := lowN_lt (v := (w >>> (nI 7 &&& 31))) (n := (np A)) (show 0 < np A by omega)
      rw [← wnV_s (lowN ((w >>> (nI 7 &&& 31))) ((np A)))]
      refine W.widen (k := cl + 0) (n := sl + 0) (by show cl + 0 + 0 + 0 ≤ cl + 0; omega) (by show sl + 0 + 0 + 0 ≤ sl + 0; omega) ?_
      exact JOIN923 (lowN ((w >>> (nI 7 &&& 31))) ((np A)) + 1) ls H locs (by omega) (lv_sub hl [1, 2, 3, 4, 5, 6, 7, 8, 9, 10, 11, 12, 13, 14, 15, 16, 17, 0] rfl) hM
    · refine lv_iconst (v := (-1)) hx hb dL_law_909 (by decide) ?_
      refine lv_goto (tgt := 923) hx hb dL_law_910 (by decide) ?_
      refine W.widen (k := cl + 0) (n := sl + 0) (by show cl + 0 + 0 ≤ cl + 0; omega) (by show sl + 0 + 0 ≤ sl + 0; omega) ?_
      exact JOIN923 0 ls H locs (Nat.zero_le _) (lv_sub hl [1, 2, 3, 4, 5, 6, 7, 8, 9, 10, 11, 12, 13, 14, 15, 16, 17, 0] rfl) hM
theorem fl_w {A : zA} {y i : Nat} (hV : VA A) (hi : i < np A) : (va_up (A.1 23) y 1 (A.1 25 i) = 1 → fell (wdA A y) i = true) ∧ (A.1 26 i ≠ 0 → fell (wdA A y) (A.1 26 i - 1) = true → fell (wdA A y) i = true) ∧ (va_up (A.1 23) y 1 (A.1 25 i) ≠ 1 → (A.1 26 i = 0 ∨ fell (wdA A y) (A.1 26 i - 1) = false) → fell (wdA A y) i = false) := by
  have hc : ∀ j, j < np A → (wdA A y).1 26 j ≤ j := fun j hj => (hV.2.2.2.2.2.2.2.2.2.2.2.2 j hj).2
  have h := fell_rec (A := wdA A y) (N := np A) hc hi
  have h : fell (wdA A y) i = (decide (va_up (A.1 23) y 1 (A.1 25 i) = 1) || (decide (A.1 26 i ≠ 0) && fell (wdA A y) (A.1 26 i - 1))) := h
  refine ⟨fun z => by rw [h, decide_eq_true z, Bool.true_or], fun z1 z2 => by rw [h, decide_eq_true z1, z2, Bool.true_and, Bool.or_true], fun z1 z2 => ?_⟩
  rw [h, decide_eq_false z1, Bool.false_or]
  rcases z2 with e | e
  · rw [decide_eq_false (fun z => z e), Bool.false_and]
  · rw [e, Bool.and_false]
theorem faN_le (A : zA) : ∀ n, faN A n ≤ n
  | 0 => Nat.le_refl 0
  | n + 1 => by
    have := faN_le A n
    unfold faN
    split <;> omega
theorem faN_s (A : zA) (n : Nat) : faN A (n + 1) = if fell A n = true then faN A n + 1 else faN A n := rfl
theorem fa_step {A : zA} {y i c : Nat} (h : (c = 1 ∧ fell A i = false ∧ fell (wdA A y) i = true) ∨ (c = 0 ∧ (fell A i = true ∨ fell (wdA A y) i = false))) : faN (wdA A y) (i + 1) - faN A (i + 1) = faN (wdA A y) i - faN A i + c ∧ b2 (fell A i) + c = b2 (fell (wdA A y) i) := by
  have hm := (flN_fa (A := A) (w := y) i).2
  have hmo := @fell_mono A y i
  rw [faN_s, faN_s]
  rcases h with ⟨rfl, g1, g2⟩ | ⟨rfl, g | g⟩
  · rw [g1, g2, if_pos rfl, if_neg (by decide)]
    exact ⟨by omega, rfl⟩
  · rw [g, hmo g, if_pos rfl, if_pos rfl]
    exact ⟨by omega, rfl⟩
  · have g1 : fell A i = false := by
      cases h9 : fell A i with
      | false => rfl
      | true => rw [hmo h9] at g; cases g
    rw [g1, g, if_neg (by decide), if_neg (by decide)]
    exact ⟨by omega, rfl⟩
theorem kwd_0 {A : zA} {y : Nat} (hy : y < nw A) (h12 : nw A ≤ 12) (h0 : A.1 23 y = 0) : k_withdraw A (nI y) = 0 ∧ a_withdraw A (nI y) = wdA A y := by
  have hk : k_withdraw A (nI y) = 0 := by
    unfold k_withdraw
    rw [if_neg (fun z => z (iR_n (by omega) (by omega) (by omega))), iv_n (by omega), if_neg (by omega)]
  refine ⟨hk, ?_⟩
  unfold a_withdraw
  rw [if_pos hk, iv_n (by omega)]
  rfl
theorem fa_next {A : zA} {y i c : Nat} {fa fa1 : Nat → Nat} (hfa : ∀ j, fa1 j = if j < i then b2 (fell (wdA A y) j) else fa j) (hfi : fa1 i = b2 (fell A i)) (e : b2 (fell A i) + c = b2 (fell (wdA A y) i)) (j : Nat) : va_up fa1 i (b2 (fell A i) + c) j = if j < i + 1 then b2 (fell (wdA A y) j) else fa j := by
  by_cases h : j = i
  · subst h
    rw [va_up_self, if_pos (by omega), e]
  · rw [va_up_ne _ _ h, hfa j]
    by_cases h2 : j < i
    · rw [if_pos h2, if_pos (by omega)]
    · rw [if_neg h2, if_neg (by omega)]
theorem fa_end {A : zA} {y : Nat} {ow : Nat → Nat} {ci : Nat → Int32} {fa : Nat → Nat} (hpp : PAok A ow ci fa) (j : Nat) : (if j < np A then b2 (fell (wdA A y) j) else fa j) = if j < np A then b2 (fell (wdA A y) j) else 0 := by
  by_cases h : j < np A
  · rw [if_pos h, if_pos h]
  · rw [if_neg h, if_neg h, hpp.2 j, if_neg h]
set_option maxHeartbeats 1000000 in
set_option maxRecDepth 100000 in
theorem k_wd {p : Program} {l : Launch} {e : Env} {s : State} {m : MethodId} {below : List Frame} {meth : Method} {c : Code} {K : zK} (hst : l.stackTraces = false) {b L9 : Nat} {xs : Nat → Int32} (hC : zC p s #[Value.ref b] m c cL_law 23 RL s.heap.size K) (hX : va_X b L9 xs s s.heap) (hbl : b < s.heap.size) (hL9 : L9 ≤ 3072) {B : Nat → Nat} {A : zA} {tm : Nat} {bl kt : Nat → Nat} {ad : Nat → Nat} {L : List Nat} {f : Nat → va_E} {H : Heap} {locs : List Loc} {ls : Array Slot} {cl sl tn : Nat} {v w : Int32} (hcl : cl + 200 ≤ 600086) (hsl : sl + 3500 ≤ 7301442) (hI : INV K A B tm bl kt L f ad) (hM : zM s.heap.size K L f s H locs) (hw0 : 0 < nw A) (hl : lv_has ls 23 [(0, .ref b), (1, .ref ((ad 1))), (2, .ref ((B 2))), (3, .ref ((B 3))), (4, .ref ((B 4))), (5, .ref ((B 5))), (6, .ref ((B 6))), (7, .ref ((B 7))), (8, .ref ((B 8))), (9, .ref ((B 9))), (10, .ref ((B 10))), (11, .int (nI (nw A))), (12, .int (nI (np A))), (13, .int (nI tm)), (14, .int (nI tn)), (15, .int v), (16, .int w)]) {Q : State → Prop} (KK : ∀ (A : zA) (tm : Nat) (bl kt : Nat → Nat) (ad : Nat → Nat) (L : List Nat) (f : Nat → va_E) (H : Heap) (locs : List Loc) (ls : Array Slot), INV K A B tm bl kt L f ad → lv_has ls 23 [(0, .ref b), (1, .ref ((ad 1))), (2, .ref ((B 2))), (3, .ref ((B 3))), (4, .ref ((B 4))), (5, .ref ((B 5))), (6, .ref ((B 6))), (7, .ref ((B 7))), (8, .ref ((B 8))), (9, .ref ((B 9))), (10, .ref ((B 10))), (11, .int (nI (nw A))), (12, .int (nI (np A))), (13, .int (nI tm)), (14, .int (nI tn)), (15, .int v), (16, .int w)] → zM s.heap.size K L f s H locs → W p l e room_1 s m #[Value.ref b] below meth c H locs (cl + 40) (sl + 2000) Q (F0 m 1167 ls [])) : W p l e room_1 s m #[Value.ref b] below meth c H locs cl sl Q (F0 m 1023 ls []) := by
  have hx := hC.1
  have hb := hC.2.1
  have hown := hC.2.2.2.1
  have hts := hC.2.2.2.2.1
  obtain ⟨pv, kb, gb, pe, ow, ci, fa, hS, hP, hpa, hkb, hgb, hpe, hpp⟩ := hI
  have hV : VA A := hS.1.1
  have h12 : nw A ≤ 12 := hV.2.1
  have h30 : np A ≤ 30 := hV.2.2.1
  have hgo1 : ∀ j, A.1 23 j ≤ 1 := hV.2.2.2.2.2.2.2.2.2.2.1
  obtain ⟨y, hyw⟩ : ∃ y, y = lowN (w >>> (nI 5 &&& 31)) (nw A) := ⟨_, rfl⟩
  have hy9 : y < nw A := by rw [hyw]; exact lowN_lt hw0
  have hgy := hgo1 y
  refine lv_aload hx hb dL_law_1023 (lv_at hl 7 rfl) ?_
  refine lv_iload hx hb dL_law_1025 (lv_at hl 16 rfl) ?_
  refine lv_iconst (v := nI 5) hx hb dL_law_1027 (by decide) ?_
  refine lv_ishr hx hb dL_law_1028 ?_
  refine lv_iload hx hb dL_law_1029 (lv_at hl 11 rfl) ?_
  refine z_fcalli (z_runS hC hM (c_low (w >>> (nI 5 &&& 31)) (nw A) (by omega) (by omega)) zy_L_low zm_L_64 rfl rfl hl.1 (Nat.le_of_ble_eq_true rfl) ⟨by decide, by decide⟩ ⟨by show cl + 0 ≤ 600086; omega, by show sl + 0 ≤ 7301442; omega⟩ dL_law_1031) hM (fun H locs hM => ?_)
  rw [← hyw]
  refine z_iald hC hM (hS.m (by decide) (by decide)) hS.s7 (by omega) (by omega) dL_law_1034 ?_
  refine z_if_ne (tgt := 1167) hx hb (nI_toInt (by omega)) dL_law_1035 (by decide) (fun c_1035 => ?_) (fun c_1035 => ?_)
  · refine W.widen (k := cl + 40) (n := sl + 2000) (by show cl + 0 ≤ cl + 40; omega) (by show sl + 0 ≤ sl + 2000; omega) ?_
    exact KK _ _ _ _ _ _ _ _ _ _ ⟨pv, kb, gb, pe, ow, ci, fa, hS, hP, hpa, hkb, hgb, hpe, hpp⟩ (lv_sub hl [0, 1, 2, 3, 4, 5, 6, 7, 8, 9, 10, 11, 12, 13, 14, 15, 16] rfl) hM
  · skip
    obtain ⟨hk8, ha8⟩ := kwd_0 (A := A) hy9 h12 (by omega)
    refine lv_iload hx hb dL_law_1038 (lv_at hl 16 rfl) ?_
    refine lv_iconst (v := nI 5) hx hb dL_law_1040 (by decide) ?_
    refine lv_ishr hx hb dL_law_1041 ?_
    refine lv_iload hx hb dL_law_1042 (lv_at hl 11 rfl) ?_
    refine z_fcalli (z_runS hC hM (c_low (w >>> (nI 5 &&& 31)) (nw A) (by omega) (by omega)) zy_L_low zm_L_64 rfl rfl hl.1 (Nat.le_of_ble_eq_true rfl) ⟨by decide, by decide⟩ ⟨by show cl + 0 + 0 ≤ 600086; omega, by show sl + 0 + 0 ≤ 7301442; omega⟩ dL_law_1044) hM (fun H locs hM => ?_)
    rw [← hyw]
    refine lv_istore (lv' := [(18, .int (nI y)), (0, .ref b), (1, .ref ((ad 1))), (2, .ref ((B 2))), (3, .ref ((B 3))), (4, .ref ((B 4))), (5, .ref ((B 5))), (6, .ref ((B 6))), (7, .ref ((B 7))), (8, .ref ((B 8))), (9, .ref ((B 9))), (10, .ref ((B 10))), (11, .int (nI (nw A))), (12, .int (nI (np A))), (13, .int (nI tm)), (14, .int (nI tn)), (15, .int v), (16, .int w)]) hx hb dL_law_1047 hl (by decide) rfl (fun ls hl => ?_)
    refine lv_aload hx hb dL_law_1049 (lv_at hl 8 rfl) ?_
    refine lv_iload hx hb dL_law_1051 (lv_at hl 0 rfl) ?_
    refine lv_iconst (v := nI 1) hx hb dL_law_1053 (by decide) ?_
    refine z_iast hC hM (hS.m (by decide) (by decide)) hS.s7 (by omega) (by omega) dL_law_1054 (fun H locs hM => ?_)
    obtain ⟨go2, hgo2⟩ : ∃ g9, g9 = va_up (A.1 23) y 1 := ⟨_, rfl⟩
    rw [up_nI, ← hgo2] at hM
    have hS := hS.u7 go2
    generalize va_up f (B 7) (eI K 12 (fun j => nI (go2 j))) = f at hM hS
    refine lv_iconst (v := nI 0) hx hb dL_law_1055 (by decide) ?_
    refine lv_istore (lv' := [(19, .int (nI 0)), (18, .int (nI y)), (0, .ref b), (1, .ref ((ad 1))), (2, .ref ((B 2))), (3, .ref ((B 3))), (4, .ref ((B 4))), (5, .ref ((B 5))), (6, .ref ((B 6))), (7, .ref ((B 7))), (8, .ref ((B 8))), (9, .ref ((B 9))), (10, .ref ((B 10))), (11, .int (nI (nw A))), (12, .int (nI (np A))), (13, .int (nI tm)), (14, .int (nI tn)), (15, .int v), (16, .int w)]) hx hb dL_law_1056 hl (by decide) rfl (fun ls hl => ?_)
    refine lv_iconst (v := nI 0) hx hb dL_law_1058 (by decide) ?_
    refine lv_istore (lv' := [(20, .int (nI 0)), (19, .int (nI 0)), (18, .int (nI y)), (0, .ref b), (1, .ref ((ad 1))), (2, .ref ((B 2))), (3, .ref ((B 3))), (4, .ref ((B 4))), (5, .ref ((B 5))), (6, .ref ((B 6))), (7, .ref ((B 7))), (8, .ref ((B 8))), (9, .ref ((B 9))), (10, .ref ((B 10))), (11, .int (nI (nw A))), (12, .int (nI (np A))), (13, .int (nI tm)), (14, .int (nI tn)), (15, .int v), (16, .int w)]) hx hb dL_law_1059 hl (by decide) rfl (fun ls hl => ?_)
    have LOOP1061 : ∀ i : Nat, ∀ (ls : Array Slot) (H : Heap) (locs : List Loc) (f : Nat → va_E) (fa1 : Nat → Nat), lv_has ls 23 [(20, .int (nI i)), (19, .int (nI (faN (wdA A y) i - faN A i))), (0, .ref b), (1, .ref ((ad 1))), (2, .ref ((B 2))), (3, .ref ((B 3))), (4, .ref ((B 4))), (5, .ref ((B 5))), (6, .ref ((B 6))), (7, .ref ((B 7))), (8, .ref ((B 8))), (9, .ref ((B 9))), (10, .ref ((B 10))), (11, .int (nI (nw A))), (12, .int (nI (np A))), (13, .int (nI tm)), (14, .int (nI tn)), (15, .int v), (16, .int w), (18, .int (nI y))] → zM s.heap.size K L f s H locs → (LSt K A B (FF K pv bl kb gb pe (go2) ow ci fa1) L f ad) → (∀ j, fa1 j = if j < i then b2 (fell (wdA A y) j) else fa j) → (i ≤ np A) → W p l e room_1 s m #[Value.ref b] below meth c H locs (cl + 0 + 0) (sl + 0 + 0) Q (F0 m 1061 ls []) := by
      refine z_lp (np A) 1 (by decide) (fun i ih => ?_)
      intro ls H locs f fa1 hl hM hS hfa hi9
      refine lv_iload hx hb dL_law_1061 (lv_at hl 0 rfl) ?_
      refine lv_iload hx hb dL_law_1063 (lv_at hl 14 rfl) ?_
      refine z_icmp_ge (tgt := 1154) hx hb (nI_toInt (by omega)) (nI_toInt (by omega)) dL_law_1065 (by decide) (fun c_1065 => ?_) (fun c_1065 => ?_)
      · skip
        obtain rfl : i = np A := by omega
        have hl : lv_has ls 23 [(19, .int (nI (faN (wdA A y) (np A) - faN A (np A)))), (0, .ref b), (1, .ref ((ad 1))), (2, .ref ((B 2))), (3, .ref ((B 3))), (4, .ref ((B 4))), (5, .ref ((B 5))), (6, .ref ((B 6))), (7, .ref ((B 7))), (8, .ref ((B 8))), (9, .ref ((B 9))), (10, .ref ((B 10))), (11, .int (nI (nw A))), (12, .int (nI (np A))), (13, .int (nI tm)), (14, .int (nI tn)), (15, .int v), (16, .int w), (18, .int (nI y))] := lv_sub hl [1, 2, 3, 4, 5, 6, 7, 8, 9, 10, 11, 12, 13, 14, 15, 16, 17, 18, 19] rfl
        have hfl := faN_le (wdA A y) (np A)
        refine lv_aload_n hx hb dL_law_1154 rfl (lv_at hl 2 rfl) ?_
        refine lv_iload hx hb dL_law_1155 (lv_at hl 18 rfl) ?_
        refine z_xq (av := #[]) (val := fun r : Int32 => some (.int r)) (post := fun r u => k_withdraw A (nI y) = 0 ∧ r = v_withdraw A (nI y) ∧ CR K A ad L f (a_withdraw A (nI y)) u.1 u.2) (z_xrunV hC hM (p_withdraw hst hS.1 (nI y)) zy_X6_withdraw zm_L_129 (ci_1 hS.1) (cx_at hS.1) zcl_X6 rfl rfl rfl hl.1 (Nat.le_of_ble_eq_true rfl) ⟨by decide, by decide⟩ ⟨by show cl + 0 + 0 + 2 ≤ 600086; omega, by show sl + 0 + 0 + 12 ≤ 7301442; omega⟩ dL_law_1157) (fun st o t ⟨⟨r, u, h1, h2, h3⟩, h4⟩ => ⟨r, u, h1, h2, h3, h4⟩) hM (fun E ce q9 L1 f1 H locs hp hM _ _ _ => absurd hp.1.1 (by omega)) (fun r L f H locs hp hM => ?_)
        obtain ⟨-, hv9, hCR⟩ := hp
        rw [ha8] at hCR
        obtain ⟨ad, had, hS⟩ := hS.cr hCR
        rw [← had] at hl
        rw [hv9, show v_withdraw A (nI y) = nI (faN (wdA A y) (np A) - faN A (np A)) from by unfold v_withdraw; rw [ha8]]
        refine lv_iload hx hb dL_law_1160 (lv_at hl 0 rfl) ?_
        refine z_icmp_eq (tgt := 1167) hx hb (nI_toInt (by omega)) (nI_toInt (by omega)) dL_law_1162 (by decide) (fun c_1162 => ?_) (fun c_1162 => ?_)
        · have hS8 : LSt K (wdA A y) B (FF K pv bl kb gb pe ((wdA A y).1 23) ow ci fa1) L f ad := by have h9 := hS; rw [hgo2] at h9; exact h9
          refine W.widen (k := cl + 40) (n := sl + 2000) (by show cl + 0 + 0 + 2 ≤ cl + 40; omega) (by show sl + 0 + 0 + 12 ≤ sl + 2000; omega) ?_
          exact KK (wdA A y) tm bl kt ad L f H locs ls ⟨pv, kb, gb, pe, ow, ci, fa1, hS8, hP.wd, hpa.congr (fun k hk => by rcases hk with h | h | h | h | h <;> subst h <;> rfl), hkb, hgb, hpe, hpp.1, fun j => (hfa j).trans (fa_end hpp j)⟩ (lv_sub hl [1, 2, 3, 4, 5, 6, 7, 8, 9, 10, 11, 12, 13, 14, 15, 16, 17] rfl) hM
        · exact absurd rfl c_1162
      · skip
        have hi8 : i < np A := by omega
        obtain ⟨hf1, hf2, hf3⟩ := fl_w (A := A) (y := y) hV hi8
        have hfi : fa1 i = b2 (fell A i) := by rw [hfa i, if_neg (by omega), hpp.2 i, if_pos hi8]
        have hbi := b2_is (fell A i)
        obtain ⟨hoi, hci⟩ := hpp.1 i hi8
        have h25 := (hV.2.2.2.2.2.2.2.2.2.2.2.2 i hi8).1
        have h26 := (hV.2.2.2.2.2.2.2.2.2.2.2.2 i hi8).2
        have hg25 : va_up (A.1 23) y 1 (A.1 25 i) ≤ 1 := by
          unfold va_up
          split
          · exact Nat.le_refl 1
          · exact hgo1 _
        have JOIN1113 : ∀ (c1 : Nat) (ls : Array Slot) (H : Heap) (locs : List Loc), (c1 = 1 ∧ fell A i = false ∧ fell (wdA A y) i = true) ∨ (c1 = 0 ∧ (fell A i = true ∨ fell (wdA A y) i = false)) → lv_has ls 23 [(20, .int (nI i)), (19, .int (nI (faN (wdA A y) i - faN A i))), (0, .ref b), (1, .ref ((ad 1))), (2, .ref ((B 2))), (3, .ref ((B 3))), (4, .ref ((B 4))), (5, .ref ((B 5))), (6, .ref ((B 6))), (7, .ref ((B 7))), (8, .ref ((B 8))), (9, .ref ((B 9))), (10, .ref ((B 10))), (11, .int (nI (nw A))), (12, .int (nI (np A))), (13, .int (nI tm)), (14, .int (nI tn)), (15, .int v), (16, .int w), (18, .int (nI y))] → zM s.heap.size K L f s H locs → W p l e room_1 s m #[Value.ref b] below meth c H locs (cl + 0 + 0) (sl + 0 + 0) Q (F0 m 1113 ls [.int (nI c1)]) := by
          intro c1 ls H locs hc9 hl hM
          refine lv_istore (lv' := [(21, .int (nI c1)), (20, .int (nI i)), (19, .int (nI (faN (wdA A y) i - faN A i))), (0, .ref b), (1, .ref ((ad 1))), (2, .ref ((B 2))), (3, .ref ((B 3))), (4, .ref ((B 4))), (5, .ref ((B 5))), (6, .ref ((B 6))), (7, .ref ((B 7))), (8, .ref ((B 8))), (9, .ref ((B 9))), (10, .ref ((B 10))), (11, .int (nI (nw A))), (12, .int (nI (np A))), (13, .int (nI tm)), (14, .int (nI tn)), (15, .int v), (16, .int w), (18, .int (nI y))]) hx hb dL_law_1113 hl (by decide) rfl (fun ls hl => ?_)
          have hc8 := hc9
          rcases hc8 with ⟨rfl, -, -⟩ | ⟨rfl, -⟩
          · refine lv_iload hx hb dL_law_1115 (lv_at hl 2 rfl) ?_
            refine lv_iload hx hb dL_law_1117 (lv_at hl 0 rfl) ?_
            refine z_if_eq (tgt := 1126) hx hb (nI_toInt (by decide)) dL_law_1119 (by decide) (fun c_1119 => ?_) (fun c_1119 => ?_)
            · exact absurd c_1119 (by omega)
            · refine lv_iconst (v := nI 1) hx hb dL_law_1122 (by decide) ?_
              refine lv_goto (tgt := 1127) hx hb dL_law_1123 (by decide) ?_
              refine z_iadd hx hb dL_law_1127 ?_
              refine lv_istore (lv' := [(19, .int (nI ((faN (wdA A y) i - faN A i) + 1))), (21, .int (nI 1)), (20, .int (nI i)), (0, .ref b), (1, .ref ((ad 1))), (2, .ref ((B 2))), (3, .ref ((B 3))), (4, .ref ((B 4))), (5, .ref ((B 5))), (6, .ref ((B 6))), (7, .ref ((B 7))), (8, .ref ((B 8))), (9, .ref ((B 9))), (10, .ref ((B 10))), (11, .int (nI (nw A))), (12, .int (nI (np A))), (13, .int (nI tm)), (14, .int (nI tn)), (15, .int v), (16, .int w), (18, .int (nI y))]) hx hb dL_law_1128 hl (by decide) rfl (fun ls hl => ?_)
              refine lv_aload hx hb dL_law_1130 (lv_at hl 13 rfl) ?_
              refine lv_iload hx hb dL_law_1132 (lv_at hl 2 rfl) ?_
              refine lv_dup2_11 hx hb dL_law_1134 rfl rfl ?_
              refine z_iald hC hM (hS.m (by decide) (by decide)) hS.s10 (by omega) (by omega) dL_law_1135 ?_
              rw [hfi]
              refine lv_iload hx hb dL_law_1136 (lv_at hl 1 rfl) ?_
              refine z_if_eq (tgt := 1145) hx hb (nI_toInt (by decide)) dL_law_1138 (by decide) (fun c_1138 => ?_) (fun c_1138 => ?_)
              · exact absurd c_1138 (by omega)
              · refine lv_iconst (v := nI 1) hx hb dL_law_1141 (by decide) ?_
                refine lv_goto (tgt := 1146) hx hb dL_law_1142 (by decide) ?_
                refine z_iadd hx hb dL_law_1146 ?_
                refine z_iast hC hM (hS.m (by decide) (by decide)) hS.s10 (by omega) (by omega) dL_law_1147 (fun H locs hM => ?_)
                obtain ⟨fa2, hfa2⟩ : ∃ g9, g9 = va_up fa1 i ((b2 (fell A i)) + 1) := ⟨_, rfl⟩
                rw [up_nI, ← hfa2] at hM
                have hS := hS.u10 fa2
                generalize va_up f (B 10) (eI K 30 (fun j => nI (fa2 j))) = f at hM hS
                refine lv_iinc (v := nI (i + 1)) (lv' := [(20, .int (nI (i + 1))), (19, .int (nI ((faN (wdA A y) i - faN A i) + 1))), (21, .int (nI 1)), (0, .ref b), (1, .ref ((ad 1))), (2, .ref ((B 2))), (3, .ref ((B 3))), (4, .ref ((B 4))), (5, .ref ((B 5))), (6, .ref ((B 6))), (7, .ref ((B 7))), (8, .ref ((B 8))), (9, .ref ((B 9))), (10, .ref ((B 10))), (11, .int (nI (nw A))), (12, .int (nI (np A))), (13, .int (nI tm)), (14, .int (nI tn)), (15, .int v), (16, .int w), (18, .int (nI y))]) hx hb dL_law_1148 hl (k := 2) rfl (nI_add i 1) (by decide) rfl (fun ls hl => ?_)
                refine lv_goto (tgt := 1061) hx hb dL_law_1151 (by decide) ?_
                obtain ⟨e8, e7⟩ := fa_step hc9
                exact ih (by omega) ls H locs f fa2 (by rw [e8]; exact lv_sub hl [0, 1, 3, 4, 5, 6, 7, 8, 9, 10, 11, 12, 13, 14, 15, 16, 17, 18, 19, 20] rfl) hM hS (fun j => by rw [hfa2]; exact fa_next hfa hfi e7 j) (by omega)
          · refine lv_iload hx hb dL_law_1115 (lv_at hl 2 rfl) ?_
            refine lv_iload hx hb dL_law_1117 (lv_at hl 0 rfl) ?_
            refine z_if_eq (tgt := 1126) hx hb (nI_toInt (by decide)) dL_law_1119 (by decide) (fun c_1119 => ?_) (fun c_1119 => ?_)
            · refine lv_iconst (v := nI 0) hx hb dL_law_1126 (by decide) ?_
              refine z_iadd hx hb dL_law_1127 ?_
              refine lv_istore (lv' := [(19, .int (nI ((faN (wdA A y) i - faN A i) + 0))), (21, .int (nI 0)), (20, .int (nI i)), (0, .ref b), (1, .ref ((ad 1))), (2, .ref ((B 2))), (3, .ref ((B 3))), (4, .ref ((B 4))), (5, .ref ((B 5))), (6, .ref ((B 6))), (7, .ref ((B 7))), (8, .ref ((B 8))), (9, .ref ((B 9))), (10, .ref ((B 10))), (11, .int (nI (nw A))), (12, .int (nI (np A))), (13, .int (nI tm)), (14, .int (nI tn)), (15, .int v), (16, .int w), (18, .int (nI y))]) hx hb dL_law_1128 hl (by decide) rfl (fun ls hl => ?_)
              refine lv_aload hx hb dL_law_1130 (lv_at hl 13 rfl) ?_
              refine lv_iload hx hb dL_law_1132 (lv_at hl 2 rfl) ?_
              refine lv_dup2_11 hx hb dL_law_1134 rfl rfl ?_
              refine z_iald hC hM (hS.m (by decide) (by decide)) hS.s10 (by omega) (by omega) dL_law_1135 ?_
              rw [hfi]
              refine lv_iload hx hb dL_law_1136 (lv_at hl 1 rfl) ?_
              refine z_if_eq (tgt := 1145) hx hb (nI_toInt (by decide)) dL_law_1138 (by decide) (fun c_1138 => ?_) (fun c_1138 => ?_)
              · refine lv_iconst (v := nI 0) hx hb dL_law_1145 (by decide) ?_
                refine z_iadd hx hb dL_law_1146 ?_
                refine z_iast hC hM (hS.m (by decide) (by decide)) hS.s10 (by omega) (by omega) dL_law_1147 (fun H locs hM => ?_)
                obtain ⟨fa2, hfa2⟩ : ∃ g9, g9 = va_up fa1 i ((b2 (fell A i)) + 0) := ⟨_, rfl⟩
                rw [up_nI, ← hfa2] at hM
                have hS := hS.u10 fa2
                generalize va_up f (B 10) (eI K 30 (fun j => nI (fa2 j))) = f at hM hS
                refine lv_iinc (v := nI (i + 1)) (lv' := [(20, .int (nI (i + 1))), (19, .int (nI ((faN (wdA A y) i - faN A i) + 0))), (21, .int (nI 0)), (0, .ref b), (1, .ref ((ad 1))), (2, .ref ((B 2))), (3, .ref ((B 3))), (4, .ref ((B 4))), (5, .ref ((B 5))), (6, .ref ((B 6))), (7, .ref ((B 7))), (8, .ref ((B 8))), (9, .ref ((B 9))), (10, .ref ((B 10))), (11, .int (nI (nw A))), (12, .int (nI (np A))), (13, .int (nI tm)), (14, .int (nI tn)), (15, .int v), (16, .int w), (18, .int (nI y))]) hx hb dL_law_1148 hl (k := 2) rfl (nI_add i 1) (by decide) rfl (fun ls hl => ?_)
                refine lv_goto (tgt := 1061) hx hb dL_law_1151 (by decide) ?_
                obtain ⟨e8, e7⟩ := fa_step hc9
                exact ih (by omega) ls H locs f fa2 (by rw [e8]; exact lv_sub hl [0, 1, 3, 4, 5, 6, 7, 8, 9, 10, 11, 12, 13, 14, 15, 16, 17, 18, 19, 20] rfl) hM hS (fun j => by rw [hfa2]; exact fa_next hfa hfi e7 j) (by omega)
              · exact absurd c_1138 (by omega)
            · exact absurd c_1119 (by omega)
        refine lv_aload hx hb dL_law_1068 (lv_at hl 12 rfl) ?_
        refine lv_iload hx hb dL_law_1070 (lv_at hl 0 rfl) ?_
        refine z_iald hC hM (hS.m (by decide) (by decide)) hS.s10 (by omega) (by omega) dL_law_1072 ?_
        rw [hfi]
        refine z_if_ne (tgt := 1112) hx hb (nI_toInt (by omega)) dL_law_1073 (by decide) (fun c_1073 => ?_) (fun c_1073 => ?_)
        · refine lv_iconst (v := nI 0) hx hb dL_law_1112 (by decide) ?_
          refine W.widen (k := cl + 0 + 0) (n := sl + 0 + 0) (by show cl + 0 + 0 ≤ cl + 0 + 0; omega) (by show sl + 0 + 0 ≤ sl + 0 + 0; omega) ?_
          exact JOIN1113 0 ls H locs (Or.inr ⟨rfl, Or.inl (hbi.1.mp (by have := hbi.2.2; omega))⟩) (lv_sub hl [0, 1, 2, 3, 4, 5, 6, 7, 8, 9, 10, 11, 12, 13, 14, 15, 16, 17, 18, 19] rfl) hM
        · refine lv_aload hx hb dL_law_1076 (lv_at hl 9 rfl) ?_
          refine lv_aload hx hb dL_law_1078 (lv_at hl 10 rfl) ?_
          refine lv_iload hx hb dL_law_1080 (lv_at hl 0 rfl) ?_
          refine z_iald hC hM (hS.m (by decide) (by decide)) hS.s8 (by omega) (by omega) dL_law_1082 ?_
          rw [hoi]
          refine z_iald hC hM (hS.m (by decide) (by decide)) hS.s7 (by omega) (by omega) dL_law_1083 ?_
          rw [hgo2]
          refine lv_iconst (v := nI 1) hx hb dL_law_1084 (by decide) ?_
          refine z_icmp_eq (tgt := 1108) hx hb (nI_toInt (by omega)) (nI_toInt (by decide)) dL_law_1085 (by decide) (fun c_1085 => ?_) (fun c_1085 => ?_)
          · refine lv_iconst (v := nI 1) hx hb dL_law_1108 (by decide) ?_
            refine lv_goto (tgt := 1113) hx hb dL_law_1109 (by decide) ?_
            refine W.widen (k := cl + 0 + 0) (n := sl + 0 + 0) (by show cl + 0 + 0 ≤ cl + 0 + 0; omega) (by show sl + 0 + 0 ≤ sl + 0 + 0; omega) ?_
            exact JOIN1113 1 ls H locs (Or.inl ⟨rfl, hbi.2.1.mp (by omega), hf1 (by omega)⟩) (lv_sub hl [0, 1, 2, 3, 4, 5, 6, 7, 8, 9, 10, 11, 12, 13, 14, 15, 16, 17, 18, 19] rfl) hM
          · refine lv_aload hx hb dL_law_1088 (lv_at hl 11 rfl) ?_
            refine lv_iload hx hb dL_law_1090 (lv_at hl 0 rfl) ?_
            refine z_iald hC hM (hS.m (by decide) (by decide)) hS.s9 (by omega) (by omega) dL_law_1092 ?_
            rw [hci]
            refine z_if_lt (tgt := 1112) hx hb rfl dL_law_1093 (by decide) (fun c_1093 => ?_) (fun c_1093 => ?_)
            · skip
              rw [wnV_toInt (by omega)] at c_1093
              refine lv_iconst (v := nI 0) hx hb dL_law_1112 (by decide) ?_
              refine W.widen (k := cl + 0 + 0) (n := sl + 0 + 0) (by show cl + 0 + 0 ≤ cl + 0 + 0; omega) (by show sl + 0 + 0 ≤ sl + 0 + 0; omega) ?_
              exact JOIN1113 0 ls H locs (Or.inr ⟨rfl, Or.inr (hf3 (by omega) (Or.inl (by omega)))⟩) (lv_sub hl [0, 1, 2, 3, 4, 5, 6, 7, 8, 9, 10, 11, 12, 13, 14, 15, 16, 17, 18, 19] rfl) hM
            · skip
              rw [wnV_toInt (by omega)] at c_1093
              refine lv_aload hx hb dL_law_1096 (lv_at hl 12 rfl) ?_
              refine lv_aload hx hb dL_law_1098 (lv_at hl 11 rfl) ?_
              refine lv_iload hx hb dL_law_1100 (lv_at hl 0 rfl) ?_
              refine z_iald hC hM (hS.m (by decide) (by decide)) hS.s9 (by omega) (by omega) dL_law_1102 ?_
              rw [hci, wnV_p (show 0 < A.1 26 i by omega)]
              refine z_iald hC hM (hS.m (by decide) (by decide)) hS.s10 (by omega) (by omega) dL_law_1103 ?_
              have hbj := b2_is (fell (wdA A y) (A.1 26 i - 1))
              have hfj : fa1 (A.1 26 i - 1) = b2 (fell (wdA A y) (A.1 26 i - 1)) := by rw [hfa, if_pos (by omega)]
              rw [hfj]
              refine lv_iconst (v := nI 1) hx hb dL_law_1104 (by decide) ?_
              refine z_icmp_ne (tgt := 1112) hx hb (nI_toInt (by omega)) (nI_toInt (by decide)) dL_law_1105 (by decide) (fun c_1105 => ?_) (fun c_1105 => ?_)
              · refine lv_iconst (v := nI 0) hx hb dL_law_1112 (by decide) ?_
                refine W.widen (k := cl + 0 + 0) (n := sl + 0 + 0) (by show cl + 0 + 0 ≤ cl + 0 + 0; omega) (by show sl + 0 + 0 ≤ sl + 0 + 0; omega) ?_
                exact JOIN1113 0 ls H locs (Or.inr ⟨rfl, Or.inr (hf3 (by omega) (Or.inr (hbj.2.1.mp (by have := hbj.2.2; omega))))⟩) (lv_sub hl [0, 1, 2, 3, 4, 5, 6, 7, 8, 9, 10, 11, 12, 13, 14, 15, 16, 17, 18, 19] rfl) hM
              · refine lv_iconst (v := nI 1) hx hb dL_law_1108 (by decide) ?_
                refine lv_goto (tgt := 1113) hx hb dL_law_1109 (by decide) ?_
                refine W.widen (k := cl + 0 + 0) (n := sl + 0 + 0) (by show cl + 0 + 0 ≤ cl + 0 + 0; omega) (by show sl + 0 + 0 ≤ sl + 0 + 0; omega) ?_
                exact JOIN1113 1 ls H locs (Or.inl ⟨rfl, hbi.2.1.mp (by omega), hf2 (by omega) (hbj.1.mp (by omega))⟩) (lv_sub hl [0, 1, 2, 3, 4, 5, 6, 7, 8, 9, 10, 11, 12, 13, 14, 15, 16, 17, 18, 19] rfl) hM
    exact LOOP1061 0 ls H locs f fa (lv_sub hl [0, 1, 3, 4, 5, 6, 7, 8, 9, 10, 11, 12, 13, 14, 15, 16, 17, 18, 19, 2] rfl) hM hS (fun j => (if_neg (Nat.not_lt_zero j)).symm) (by omega)
