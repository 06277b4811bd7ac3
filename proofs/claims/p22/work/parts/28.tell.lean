/-! CONTRACTS of Transitry: the period to tell, papers that fall (rows laid by wip/whole/tell.py) -/
set_option maxHeartbeats 400000 in
set_option maxRecDepth 100000 in
theorem c_periodToTell {l : Launch} {base : Nat} {K : zK} {L : List Nat} {f : Nat → va_E} (hst : l.stackTraces = false) {o sl wl pl hd hc fo : Nat} (ho : o ∈ L) (hfo : f o = eS 7 [.ref sl, .ref wl, .ref pl, .ref hd, .int (nI hc), .ref fo]) {so co nn lo kc : Nat} {g : Nat → UInt64} (hfol : fo ∈ L) (hsol : so ∈ L) (hcol : co ∈ L) (hCF : CFx K f fo so co) (hnn : nn ∈ L) (hfn : f nn = eS 2 [.ref lo, .int (nI kc)]) (hlo : lo ∈ L) (hfl : f lo = eD K 1000 g) (hkc : kc = fN g 1000) (hFP : FPok g) (n_o_fo : o ≠ fo) (n_o_so : o ≠ so) (n_o_co : o ≠ co) (n_o_nn : o ≠ nn) (n_o_lo : o ≠ lo) (n_fo_so : fo ≠ so) (n_fo_co : fo ≠ co) (n_fo_nn : fo ≠ nn) (n_fo_lo : fo ≠ lo) (n_so_co : so ≠ co) (n_so_nn : so ≠ nn) (n_so_lo : so ≠ lo) (n_co_nn : co ≠ nn) (n_co_lo : co ≠ lo) (n_nn_lo : nn ≠ lo) (t : Int32) : zXMet l yX6_periodToTell cX6_periodToTell 4 (some .int) (zr 6 1 6 118) base K L f [.ref o, .ref nn, .int t] (zQi base K (fun r L1 f1 => (∃ k, bpT g t = some k ∧ r = nI k) ∧ L1 = L ∧ CFx K f1 fo so co ∧ ∀ q, q ≠ fo → q ≠ so → q ≠ co → f1 q = f q)) (fun E L1 f1 => (E = xIS ∧ bpT g t = none) ∧ L1 = L ∧ CFx K f1 fo so co ∧ ∀ q, q ≠ fo → q ≠ so → q ≠ co → f1 q = f q) := by
  refine z_xmet (by decide) (Nat.le_of_ble_eq_true rfl) (fun p e s m below meth c ls hC hM hr hlk hxt hl => ?_)
  have hx := hC.1
  have hb := hC.2.1
  have hml := hC.2.2.1
  have hown := hC.2.2.2.1
  have hts := hC.2.2.2.2.1
  generalize hA : ([.ref o, .ref nn, .int t] : List Value).toArray = args at hC ⊢
  generalize hQ : vx_MQ _ _ _ _ _ _ _ _ = Q
  obtain ⟨locs, hlocs⟩ : ∃ z : List Loc, z = [] := ⟨_, rfl⟩
  obtain ⟨H, hH⟩ : ∃ z : Heap, z = s.heap := ⟨_, rfl⟩
  rw [← hlocs, ← hH] at hM ⊢
  have hl : lv_has ls 4 [(0, .ref o), (1, .ref nn), (2, .int t)] := hl
  refine lv_aload_n hx hb dX6_periodToTell_0 rfl (lv_at hl 0 rfl) ?_
  refine lv_aload_n hx hb dX6_periodToTell_1 rfl (lv_at hl 1 rfl) ?_
  refine lv_iload_n hx hb dX6_periodToTell_2 rfl (lv_at hl 2 rfl) ?_
  refine z_calli (z_runV hC hM (c_bestPeriod ho hfo hfol hsol hcol hCF hnn hfn hlo hfl hkc hFP n_o_fo n_o_so n_o_co n_o_nn n_o_lo n_fo_so n_fo_co n_fo_nn n_fo_lo n_so_co n_so_nn n_so_lo n_co_nn n_co_lo n_nn_lo t) zy_X6_bestPeriod zm_X6_155 ho hfo zcl_X6 rfl rfl rfl hl.1 (Nat.le_of_ble_eq_true rfl) ⟨by decide, by decide⟩ ⟨by decide, by decide⟩ dX6_periodToTell_3) hM (fun r L1 f1 H locs hp hM => ?_)
  obtain ⟨rfl, e9, hcf, hfr⟩ := hp
  have e9 := e9.symm
  subst e9
  refine lv_istore_n (lv' := [(3, .int (oN (bpT g t))), (0, .ref o), (1, .ref nn), (2, .int t)]) hx hb dX6_periodToTell_6 rfl hl (by decide) rfl (fun ls hl => ?_)
  refine lv_iload_n hx hb dX6_periodToTell_7 rfl (lv_at hl 0 rfl) ?_
  refine lv_iconst (v := (-1)) hx hb dX6_periodToTell_8 (by decide) ?_
  refine z_icmp_ne (tgt := 22) hx hb rfl m1_toInt dX6_periodToTell_9 (by decide) (fun c_9 => ?_) (fun c_9 => ?_)
  · refine lv_iload_n hx hb dX6_periodToTell_22 rfl (lv_at hl 0 rfl) ?_
    rw [← hQ]
    refine vx_ret ?_
    exact z_iret hC hM hr hlk rfl (by decide) (by decide) ⟨(by obtain ⟨k, hk⟩ := oN_n1 c_9; exact ⟨k, hk, by rw [hk]; rfl⟩), rfl, hcf, hfr⟩ dX6_periodToTell_23
  · rw [← hQ]
    exact z_throw (is := 244) (text := "the star has no period") hC hM hst hlk hxt hl.1 zth_IS (by decide) dX6_periodToTell_12 dX6_periodToTell_15 dX6_periodToTell_16 dX6_periodToTell_18 dX6_periodToTell_21 (by decide) (by decide) (by decide) ⟨⟨rfl, oN_m1 (fun k hk => (bpT_lt hk).2) c_9⟩, rfl, hcf, hfr⟩
/-- papers that fall, one after another -/
def flN (fl : Nat → Nat) (Fb : Nat → Bool) : Nat → Nat
  | 0 => 0
  | k + 1 => if fl k = 0 ∧ Fb k = true then flN fl Fb k + 1 else flN fl Fb k
theorem flN_le (fl : Nat → Nat) (Fb : Nat → Bool) : ∀ k, flN fl Fb k ≤ k
  | 0 => Nat.le_refl 0
  | k + 1 => by
    have := flN_le fl Fb k
    unfold flN
    split <;> omega
theorem flN_1 {fl : Nat → Nat} {Fb : Nat → Bool} {k : Nat} (h : fl k = 0) (h1 : Fb k = true) : flN fl Fb k + 1 = flN fl Fb (k + 1) := by rw [flN, if_pos ⟨h, h1⟩]
theorem flN_0 {fl : Nat → Nat} {Fb : Nat → Bool} {k : Nat} (h : ¬ (fl k = 0 ∧ Fb k = true)) : flN fl Fb k = flN fl Fb (k + 1) := by rw [flN, if_neg h]
def PPs (f : Nat → va_E) (n : Nat) (es sw ci fl : Nat → Nat) (Fb : Nat → Bool) (i : Nat) : Prop := ∀ j, j < n → f (es j) = eS 3 [.ref (sw j), va_rf (if ci j = 0 then none else some (es (ci j - 1))), .int (nI (if j < i then b2 (Fb j) else fl j))]
theorem PPs.keep {f : Nat → va_E} {n i : Nat} {es sw ci fl : Nat → Nat} {Fb : Nat → Bool} (h : PPs f n es sw ci fl Fb i) (hf : fl i = b2 (Fb i)) : PPs f n es sw ci fl Fb (i + 1) := by
  intro j hj
  rw [h j hj]
  by_cases e : j = i
  · subst e; rw [if_neg (Nat.lt_irrefl _), if_pos (Nat.lt_succ_self _), hf]
  · by_cases e2 : j < i
    · rw [if_pos e2, if_pos (show j < i + 1 by omega)]
    · rw [if_neg e2, if_neg (show ¬ j < i + 1 by omega)]
theorem PPs.put {f : Nat → va_E} {n i : Nat} {es sw ci fl : Nat → Nat} {Fb : Nat → Bool} {v : Value} (h : PPs f n es sw ci fl Fb i) (hn : ∀ a b, a < n → b < n → es a = es b → a = b) (hi : i < n) (hf : Fb i = true) (hv : va_rf (if ci i = 0 then none else some (es (ci i - 1))) = v) : PPs (va_up f (es i) (eS 3 [.ref (sw i), v, .int (nI 1)])) n es sw ci fl Fb (i + 1) := by
  intro j hj
  by_cases e : j = i
  · subst e; rw [va_up_self, if_pos (Nat.lt_succ_self _), hv, hf]; rfl
  · rw [va_up_ne _ _ (fun z => e (hn j i hj hi z)), h j hj]
    by_cases e2 : j < i
    · rw [if_pos e2, if_pos (show j < i + 1 by omega)]
    · rw [if_neg e2, if_neg (show ¬ j < i + 1 by omega)]
theorem fr_put {f f0 : Nat → va_E} {n i : Nat} {es : Nat → Nat} {v : va_E} (h : ∀ q, (∀ j, j < n → q ≠ es j) → f q = f0 q) (hi : i < n) : ∀ q, (∀ j, j < n → q ≠ es j) → va_up f (es i) v q = f0 q := fun q hq => (va_up_ne _ _ (hq i hi)).trans (h q hq)
theorem b2_1 {b : Bool} (h : b = true) : b2 b = 1 := by rw [h]; rfl
theorem b2_0 {b : Bool} (h : ¬ b = true) : b2 b = 0 := by cases b <;> simp_all [b2]
theorem b2_lt (b : Bool) : b2 b < 2 := by cases b <;> decide
theorem b2_n {b : Bool} : b2 b ≠ 0 ↔ b = true := by cases b <;> decide
set_option maxHeartbeats 400000 in
set_option maxRecDepth 100000 in
theorem c_fall {l : Launch} {base : Nat} {K : zK} {L : List Nat} {f : Nat → va_E} {o sl wl pl hd hc fo : Nat} (ho : o ∈ L) (hfo : f o = eS 7 [.ref sl, .ref wl, .ref pl, .ref hd, .int (nI hc), .ref fo]) {ee n : Nat} {es sw ci fl wd : Nat → Nat} {Fb : Nat → Bool} {wv0 wv1 wv2 wv3 wv4 : Nat → Value} (hLI : LI K L f pl ee n es) (hn : n ≤ 60) (hps0 : ∀ j, j < n → f (es j) = eS 3 [.ref (sw j), va_rf (if ci j = 0 then none else some (es (ci j - 1))), .int (nI (fl j))]) (hps : ∀ j, j < n → es j ∈ L ∧ fl j ≤ 1 ∧ (fl j ≠ 0 → Fb j = true) ∧ ci j ≤ j ∧ Fb j = (decide (wd j = 1) || (decide (ci j ≠ 0) && Fb (ci j - 1)))) (hws : ∀ j, j < n → sw j ∈ L ∧ f (sw j) = eS 6 [wv0 j, wv1 j, wv2 j, wv3 j, wv4 j, .int (nI (wd j))] ∧ wd j ≤ 1) (hinj : ∀ a b, a < n → b < n → es a = es b → a = b) (hno : ∀ j, j < n → o ≠ es j) (hnp : ∀ j, j < n → pl ≠ es j) (hnee : ∀ j, j < n → ee ≠ es j) (hnw : ∀ i, i < n → ∀ j, j < n → sw i ≠ es j) : zMet l yX6_letPapersFall cX6_letPapersFall 4 (some .int) (zr 3 0 0 65) base K L f [.ref o] (zQi base K (fun r L1 f1 => r = nI (flN fl Fb n) ∧ L1 = L ∧ PPs f1 n es sw ci fl Fb n ∧ ∀ q, (∀ j, j < n → q ≠ es j) → f1 q = f q)) := by
  obtain ⟨hpl, ⟨mc, hfp⟩, hor⟩ := hLI
  refine z_met (by decide) (Nat.le_of_ble_eq_true rfl) (fun p e s m below meth c ls hC hM hr hlk hnm hl => ?_)
  have hx := hC.1
  have hb := hC.2.1
  have hml := hC.2.2.1
  have hown := hC.2.2.2.1
  have hts := hC.2.2.2.2.1
  generalize hA : ([.ref o] : List Value).toArray = args at hC ⊢
  generalize hQ : MQ _ _ _ _ _ _ _ = Q
  obtain ⟨locs, hlocs⟩ : ∃ z : List Loc, z = [] := ⟨_, rfl⟩
  obtain ⟨H, hH⟩ : ∃ z : Heap, z = s.heap := ⟨_, rfl⟩
  rw [← hlocs, ← hH] at hM ⊢
  have hl : lv_has ls 4 [(0, .ref o)] := hl
  refine lv_iconst (v := nI 0) hx hb dX6_letPapersFall_0 (by decide) ?_
  refine lv_istore_n (lv' := [(1, .int (nI 0)), (0, .ref o)]) hx hb dX6_letPapersFall_1 rfl hl (by decide) rfl (fun ls hl => ?_)
  refine lv_iconst (v := nI 0) hx hb dX6_letPapersFall_2 (by decide) ?_
  refine lv_istore_n (lv' := [(2, .int (nI 0)), (1, .int (nI 0)), (0, .ref o)]) hx hb dX6_letPapersFall_3 rfl hl (by decide) rfl (fun ls hl => ?_)
  have LOOP4 : ∀ i, i ≤ n → ∀ (ls : Array Slot) (H : Heap) (locs : List Loc) (f1 : Nat → va_E), lv_has ls 4 [(2, .int (nI i)), (1, .int (nI (flN fl Fb i))), (0, .ref o)] → zM base K L f1 s H locs → (PPs f1 n es sw ci fl Fb i) → (∀ q, (∀ j, j < n → q ≠ es j) → f1 q = f q) → W p l e (zr 3 0 0 65) s m args below meth c H locs 0 0 Q (F0 m 4 ls []) := by
    refine z_down n ?_ ?_
    · intro ls H locs f1 hl hM hpp hfr
      have hfo1 := (hfr o hno).trans hfo
      have hfp1 := (hfr pl hnp).trans hfp
      have hfn9 := flN_le fl Fb n
      refine lv_iload_n hx hb dX6_letPapersFall_4 rfl (lv_at hl 0 rfl) ?_
      refine lv_aload_n hx hb dX6_letPapersFall_5 rfl (lv_at hl 2 rfl) ?_
      refine z_get hC hM ho hfo1 zcl_X6 (by decide) zl_X6_19 rfl dX6_letPapersFall_6 ?_
      refine z_fcalli (z_runV hC hM (c_size hpl hfp1) zy_Jx4a65c_size_8abf5 zm_X6_42 hpl hfp1 zcl_Jx4a65c rfl rfl rfl hl.1 (Nat.le_of_ble_eq_true rfl) ⟨by decide, by decide⟩ ⟨by decide, by decide⟩ dX6_letPapersFall_9) hM (fun H locs hM => ?_)
      refine z_icmp_ge (tgt := 55) hx hb (nI_toInt (by omega)) (nI_toInt (by omega)) dX6_letPapersFall_12 (by decide) (fun c_12 => ?_) (fun c_12 => ?_)
      · refine lv_iload_n hx hb dX6_letPapersFall_55 rfl (lv_at hl 1 rfl) ?_
        rw [← hQ]
        exact z_iret hC hM hr hlk rfl (by decide) (by decide) ⟨rfl, rfl, hpp, hfr⟩ dX6_letPapersFall_56
      · exact absurd c_12 (by omega)
    · intro i hi ih ls H locs f1 hl hM hpp hfr
      have hfo1 := (hfr o hno).trans hfo
      have hfp1 := (hfr pl hnp).trans hfp
      have hfn9 := flN_le fl Fb i
      obtain ⟨hle, cap, arr, hfe, hc1, hc2, hnc, harr, -⟩ := hor.resolve_left (fun z => by omega)
      have hfe1 := (hfr ee hnee).trans hfe
      obtain ⟨hLi, hfl1, hfl2, hci, hFb⟩ := hps i hi
      obtain ⟨hLw, hfw, hwd⟩ := hws i hi
      have hfw1 := (hfr (sw i) (hnw i hi)).trans hfw
      have hei := hpp i hi
      rw [if_neg (Nat.lt_irrefl i)] at hei
      refine lv_iload_n hx hb dX6_letPapersFall_4 rfl (lv_at hl 0 rfl) ?_
      refine lv_aload_n hx hb dX6_letPapersFall_5 rfl (lv_at hl 2 rfl) ?_
      refine z_get hC hM ho hfo1 zcl_X6 (by decide) zl_X6_19 rfl dX6_letPapersFall_6 ?_
      refine z_fcalli (z_runV hC hM (c_size hpl hfp1) zy_Jx4a65c_size_8abf5 zm_X6_42 hpl hfp1 zcl_Jx4a65c rfl rfl rfl hl.1 (Nat.le_of_ble_eq_true rfl) ⟨by decide, by decide⟩ ⟨by decide, by decide⟩ dX6_letPapersFall_9) hM (fun H locs hM => ?_)
      refine z_icmp_ge (tgt := 55) hx hb (nI_toInt (by omega)) (nI_toInt (by omega)) dX6_letPapersFall_12 (by decide) (fun c_12 => ?_) (fun c_12 => ?_)
      · exact absurd c_12 (by omega)
      · refine lv_aload_n hx hb dX6_letPapersFall_15 rfl (lv_at hl 2 rfl) ?_
        refine z_get hC hM ho hfo1 zcl_X6 (by decide) zl_X6_19 rfl dX6_letPapersFall_16 ?_
        refine lv_iload_n hx hb dX6_letPapersFall_19 rfl (lv_at hl 0 rfl) ?_
        refine z_fcallq (z_runV hC hM (c_get hpl hfp1 hle hfe1 hi hnc (by omega) (harr i hi)) zy_Jx4a65c_get_915e3 zm_X6_225 hpl hfp1 zcl_Jx4a65c rfl rfl rfl hl.1 (Nat.le_of_ble_eq_true rfl) ⟨by decide, by decide⟩ ⟨by decide, by decide⟩ dX6_letPapersFall_20) hM (fun H locs hM => ?_)
        refine z_cast hC hM hLi hei zcl_X2 zc_X6_199 dX6_letPapersFall_23 ?_
        refine lv_astore_n (lv' := [(3, .ref ((es i))), (2, .int (nI i)), (1, .int (nI (flN fl Fb i))), (0, .ref o)]) hx hb dX6_letPapersFall_26 rfl hl (by decide) rfl (fun ls hl => ?_)
        refine lv_aload_n hx hb dX6_letPapersFall_27 rfl (lv_at hl 0 rfl) ?_
        refine z_getN hC hM hLi hei zcl_X2 (by decide) zl_X6_217 rfl dX6_letPapersFall_28 ?_
        refine z_if_ne (tgt := 49) hx hb (nI_toInt (by omega)) dX6_letPapersFall_31 (by decide) (fun c_31 => ?_) (fun c_31 => ?_)
        · refine lv_iinc (v := nI (i + 1)) (lv' := [(2, .int (nI (i + 1))), (3, .ref ((es i))), (1, .int (nI (flN fl Fb i))), (0, .ref o)]) hx hb dX6_letPapersFall_49 hl (k := 1) rfl (nI_add i 1) (by decide) rfl (fun ls hl => ?_)
          refine lv_goto (tgt := 4) hx hb dX6_letPapersFall_52 (by decide) ?_
          have hF9 := hfl2 (by omega)
          have hpp := hpp.keep (by rw [b2_1 hF9]; omega)
          rw [flN_0 (fl := fl) (Fb := Fb) (k := i) (fun z => by omega)] at hl
          exact ih ls H locs f1 (lv_sub hl [0, 2, 3] rfl) hM hpp hfr
        · refine lv_aload_n hx hb dX6_letPapersFall_34 rfl (lv_at hl 0 rfl) ?_
          rcases Nat.eq_zero_or_pos (ci i) with hc0 | hc0
          · rw [if_pos hc0] at hei
            have hei : f1 (es i) = eS 3 [.ref ((sw i)), .null, .int (nI (fl i))] := hei
            refine z_fcalli (z_runV hC hM (c_must0 hLi hei (by omega) hLw hfw1) zy_X2_mustFall zm_X6_204 hLi hei zcl_X2 rfl rfl rfl hl.1 (Nat.le_of_ble_eq_true rfl) ⟨by decide, by decide⟩ ⟨by decide, by decide⟩ dX6_letPapersFall_35) hM (fun H locs hM => ?_)
            refine z_if_eqB (tgt := 49) hx hb dX6_letPapersFall_38 (by decide) (fun c_38 => ?_) (fun c_38 => ?_)
            · refine lv_iinc (v := nI (i + 1)) (lv' := [(2, .int (nI (i + 1))), (3, .ref ((es i))), (1, .int (nI (flN fl Fb i))), (0, .ref o)]) hx hb dX6_letPapersFall_49 hl (k := 1) rfl (nI_add i 1) (by decide) rfl (fun ls hl => ?_)
              refine lv_goto (tgt := 4) hx hb dX6_letPapersFall_52 (by decide) ?_
              have hF9 : ¬ Fb i = true := by rw [hFb]; simp [hc0]; omega
              have hpp := hpp.keep (by rw [b2_0 hF9]; omega)
              rw [flN_0 (fl := fl) (Fb := Fb) (k := i) (fun z => hF9 z.2)] at hl
              exact ih ls H locs f1 (lv_sub hl [0, 2, 3] rfl) hM hpp hfr
            · refine lv_aload_n hx hb dX6_letPapersFall_41 rfl (lv_at hl 0 rfl) ?_
              refine lv_iconst (v := nI 1) hx hb dX6_letPapersFall_42 (by decide) ?_
              refine z_putN (fs' := [.ref ((sw i)), .null, .int (nI 1)]) hC hM hLi hei zcl_X2 (by decide) zl_X6_217 rfl rfl (by rfl) (Nat.le_of_ble_eq_true rfl) rfl dX6_letPapersFall_43 (fun H locs hM => ?_)
              obtain ⟨f_1, ef_1⟩ : ∃ z9, z9 = va_up f1 ((es i)) (eS 3 [.ref ((sw i)), .null, .int (nI 1)]) := ⟨_, rfl⟩
              rw [← ef_1] at hM
              have hF_2 : f_1 o = eS 7 [.ref sl, .ref wl, .ref pl, .ref hd, .int (nI hc), .ref fo] := by rw [ef_1]; exact (va_up_ne _ _ (hno i hi)).trans hfo1
              have hF_3 : f_1 pl = eS 0 [.int mc, .ref ee, .int (nI n)] := by rw [ef_1]; exact (va_up_ne _ _ (hnp i hi)).trans hfp1
              have hF_4 : f_1 ((es i)) = eS 3 [.ref ((sw i)), .null, .int (nI 1)] := by rw [ef_1]; exact va_up_self _ _ _
              have hF_5 : f_1 ((sw i)) = eS 6 [(wv0 i), (wv1 i), (wv2 i), (wv3 i), (wv4 i), .int (nI (wd i))] := by rw [ef_1]; exact (va_up_ne _ _ (hnw i hi i hi)).trans hfw1
              refine lv_iinc (v := nI ((flN fl Fb i) + 1)) (lv' := [(1, .int (nI ((flN fl Fb i) + 1))), (3, .ref ((es i))), (2, .int (nI i)), (0, .ref o)]) hx hb dX6_letPapersFall_46 hl (k := 2) rfl (nI_add (flN fl Fb i) 1) (by decide) rfl (fun ls hl => ?_)
              refine lv_iinc (v := nI (i + 1)) (lv' := [(2, .int (nI (i + 1))), (1, .int (nI ((flN fl Fb i) + 1))), (3, .ref ((es i))), (0, .ref o)]) hx hb dX6_letPapersFall_49 hl (k := 2) rfl (nI_add i 1) (by decide) rfl (fun ls hl => ?_)
              refine lv_goto (tgt := 4) hx hb dX6_letPapersFall_52 (by decide) ?_
              have hF9 : Fb i = true := by rw [hFb]; simp [hc0]; omega
              have hpp := hpp.put (v := .null) hinj hi hF9 (congrArg va_rf (if_pos hc0))
              have hfr := fr_put (v := eS 3 [.ref (sw i), .null, .int (nI 1)]) hfr hi
              rw [← ef_1] at hpp hfr
              rw [flN_1 (fl := fl) (Fb := Fb) (k := i) (by omega) hF9] at hl
              exact ih ls H locs f_1 (lv_sub hl [0, 1, 3] rfl) hM hpp hfr
          · have hc0 : ¬ ci i = 0 := by omega
            rw [if_neg hc0] at hei
            have hei : f1 (es i) = eS 3 [.ref ((sw i)), .ref ((es (ci i - 1))), .int (nI (fl i))] := hei
            have hek := hpp (ci i - 1) (by omega)
            rw [if_pos (show ci i - 1 < i by omega)] at hek
            refine z_fcalli (z_runV hC hM (c_must1 hLi hei (by omega) (b2_lt _) ((hps _ (by omega)).1) hek hLw hfw1) zy_X2_mustFall zm_X6_204 hLi hei zcl_X2 rfl rfl rfl hl.1 (Nat.le_of_ble_eq_true rfl) ⟨by decide, by decide⟩ ⟨by decide, by decide⟩ dX6_letPapersFall_35) hM (fun H locs hM => ?_)
            refine z_if_eqB (tgt := 49) hx hb dX6_letPapersFall_38 (by decide) (fun c_38 => ?_) (fun c_38 => ?_)
            · refine lv_iinc (v := nI (i + 1)) (lv' := [(2, .int (nI (i + 1))), (3, .ref ((es i))), (1, .int (nI (flN fl Fb i))), (0, .ref o)]) hx hb dX6_letPapersFall_49 hl (k := 1) rfl (nI_add i 1) (by decide) rfl (fun ls hl => ?_)
              refine lv_goto (tgt := 4) hx hb dX6_letPapersFall_52 (by decide) ?_
              have hF9 : ¬ Fb i = true := by rw [hFb]; have c9 := fun z => c_38 (Or.inr (b2_n.mpr z)); have c8 := fun z => c_38 (Or.inl z); simp only [Bool.or_eq_true, Bool.and_eq_true, decide_eq_true_eq]; exact fun z => z.elim (fun z => c8 (by omega)) (fun z => c9 z.2)
              have hpp := hpp.keep (by rw [b2_0 hF9]; omega)
              rw [flN_0 (fl := fl) (Fb := Fb) (k := i) (fun z => hF9 z.2)] at hl
              exact ih ls H locs f1 (lv_sub hl [0, 2, 3] rfl) hM hpp hfr
            · refine lv_aload_n hx hb dX6_letPapersFall_41 rfl (lv_at hl 0 rfl) ?_
              refine lv_iconst (v := nI 1) hx hb dX6_letPapersFall_42 (by decide) ?_
              refine z_putN (fs' := [.ref ((sw i)), .ref ((es (ci i - 1))), .int (nI 1)]) hC hM hLi hei zcl_X2 (by decide) zl_X6_217 rfl rfl (by rfl) (Nat.le_of_ble_eq_true rfl) rfl dX6_letPapersFall_43 (fun H locs hM => ?_)
              obtain ⟨f_6, ef_6⟩ : ∃ z9, z9 = va_up f1 ((es i)) (eS 3 [.ref ((sw i)), .ref ((es (ci i - 1))), .int (nI 1)]) := ⟨_, rfl⟩
              rw [← ef_6] at hM
              have hF_7 : f_6 o = eS 7 [.ref sl, .ref wl, .ref pl, .ref hd, .int (nI hc), .ref fo] := by rw [ef_6]; exact (va_up_ne _ _ (hno i hi)).trans hfo1
              have hF_8 : f_6 pl = eS 0 [.int mc, .ref ee, .int (nI n)] := by rw [ef_6]; exact (va_up_ne _ _ (hnp i hi)).trans hfp1
              have hF_9 : f_6 ((es i)) = eS 3 [.ref ((sw i)), .ref ((es (ci i - 1))), .int (nI 1)] := by rw [ef_6]; exact va_up_self _ _ _
              have hF_10 : f_6 ((sw i)) = eS 6 [(wv0 i), (wv1 i), (wv2 i), (wv3 i), (wv4 i), .int (nI (wd i))] := by rw [ef_6]; exact (va_up_ne _ _ (hnw i hi i hi)).trans hfw1
              refine lv_iinc (v := nI ((flN fl Fb i) + 1)) (lv' := [(1, .int (nI ((flN fl Fb i) + 1))), (3, .ref ((es i))), (2, .int (nI i)), (0, .ref o)]) hx hb dX6_letPapersFall_46 hl (k := 2) rfl (nI_add (flN fl Fb i) 1) (by decide) rfl (fun ls hl => ?_)
              refine lv_iinc (v := nI (i + 1)) (lv' := [(2, .int (nI (i + 1))), (1, .int (nI ((flN fl Fb i) + 1))), (3, .ref ((es i))), (0, .ref o)]) hx hb dX6_letPapersFall_49 hl (k := 2) rfl (nI_add i 1) (by decide) rfl (fun ls hl => ?_)
              refine lv_goto (tgt := 4) hx hb dX6_letPapersFall_52 (by decide) ?_
              have hF9 : Fb i = true := by rw [hFb]; simp only [Bool.or_eq_true, Bool.and_eq_true, decide_eq_true_eq]; exact c_38.elim (fun z => Or.inl (by omega)) (fun z => Or.inr ⟨hc0, b2_n.mp z⟩)
              have hpp := hpp.put (v := .ref (es (ci i - 1))) hinj hi hF9 (congrArg va_rf (if_neg hc0))
              have hfr := fr_put (v := eS 3 [.ref (sw i), .ref (es (ci i - 1)), .int (nI 1)]) hfr hi
              rw [← ef_6] at hpp hfr
              rw [flN_1 (fl := fl) (Fb := Fb) (k := i) (by omega) hF9] at hl
              exact ih ls H locs f_6 (lv_sub hl [0, 1, 3] rfl) hM hpp hfr
  exact LOOP4 0 (Nat.zero_le _) ls H locs f (lv_sub hl [0, 1, 2] rfl) hM (fun j hj => by rw [if_neg (Nat.not_lt_zero j)]; exact hps0 j hj) (fun q _ => rfl)
