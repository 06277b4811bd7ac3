/-! CONTRACTS of Transitry: the period to tell, papers that fall (rows laid by wip/whole/tell.py) -/
set_option maxHeartbeats 400000 in
set_option maxRecDepth 100000 in
theorem c_periodToTell {l : Launch} {base : Nat} {K : zK} {L : List Nat} {f : Nat → va_E} (hst : l.stackTraces = false) {o sl wl pl hd hc fo : Nat} (ho : o ∈ L) (hfo : f o = eS 7 [.ref sl, .ref wl, .ref pl, .ref hd, .int (nI hc), .ref fo]) {so co nn lo kc : Nat} {g : Nat → UInt64} (hfol : fo ∈ L) (hsol : so ∈ L) (hcol : co ∈ L) (hCF : CFx K f fo so co) (hnn : nn ∈ L) (hfn : f nn = eS 2 [.ref lo, .int (nI kc)]) (hlo : lo ∈ L) (hfl : f lo = eD K 1000 g) (hkc : kc = fN g 1000) (hFP : FPok g) (n_o_fo : o ≠ fo) (n_o_so : o ≠ so) (n_o_co : o ≠ co) (n_o_nn : o ≠ nn) (n_o_lo : o ≠ lo) (n_fo_so : fo ≠ so) (n_fo_co : fo ≠ co) (n_fo_nn : fo ≠ nn) (n_fo_lo : fo ≠ lo) (n_so_co : so ≠ co) (n_so_nn : so ≠ nn) (n_so_lo : so ≠ lo) (n_co_nn : co ≠ nn) (n_co_lo : co ≠ lo) (n_nn_lo : nn ≠ lo) (t : Int32) : zXMet l yX6_periodToTell cX6_periodToTell 4 (some .int) (zr 6 1 6 118) base K L f [.ref o, .ref nn, .int t] (zQi base K (fun r L1 f1 => (∃ k, bpT g t = some k ∧ r = nI k) ∧ L1 = L ∧ CFx K f1 fo so co ∧ ∀ q, q ≠ fo → q ≠ so → q ≠ co → f1 q = f q)) (fun E L1 f1 => (E = xIS ∧ bpT g t = none) ∧ L1 = L ∧ CFx K f1 fo so co ∧ ∀ q, q ≠ fo → q ≠ so → q ≠ co → f1 q = f q) := by
  refine z_xmet (by decide) (Nat.le_of_ble_eq_true rfl) (fun p e s m below meth c ls hC hM hr hlk hxt hl => ?_)
  have hx := hC.1
  have hb := hC.2.1
  have hml := hC.2.2.1
  have hown := hC.2.2.2.1
  have hts := hC.2.2.2.2.1
  generalize hA : ([.ref o, .ref nn, .int t] : List Value).toArray = args at hC ⊢
  generalize hQ : vx_MQ _ _ _ _ _ _ _ _ = Q
  obtain ⟨locs, hlocs⟩ : ∃ z : List Loc, z = [] := ⟨_, rfl⟩
  obtain ⟨H, hH⟩ : ∃ z : Heap, z = s.heap := ⟨_, rfl⟩
  rw [← hlocs, ← hH] at hM ⊢
  have hl : lv_has ls 4 [(0, .ref o), (1, .ref nn), (2, .int t)] := hl
  refine lv_aload_n hx hb dX6_periodToTell_0 rfl (lv_at hl 0 rfl) ?_
  refine lv_aload_n hx hb dX6_periodToTell_1 rfl (lv_at hl 1 rfl) ?_
  refine lv_iload_n hx hb dX6_periodToTell_2 rfl (lv_at hl 2 rfl) ?_
  refine z_calli (z_runV hC hM (c_bestPeriod ho hfo hfol hsol hcol hCF hnn hfn hlo hfl hkc hFP n_o_fo n_o_so n_o_co n_o_nn n_o_lo n_fo_so n_fo_co n_fo_nn n_fo_lo n_so_co n_so_nn n_so_lo n_co_nn n_co_lo n_nn_lo t) zy_X6_bestPeriod zm_X6_155 ho hfo zcl_X6 rfl rfl rfl hl.1 (Nat.le_of_ble_eq_true rfl) ⟨by decide, by decide⟩ ⟨by decide, by decide⟩ dX6_periodToTell_3) hM (fun r L1 f1 H locs hp hM => ?_)
  obtain ⟨rfl, e9, hcf, hfr⟩ := hp
  have e9 := e9.symm
  subst e9
  refine lv_istore_n (lv' := [(3, .int (oN (bpT g t))), (0, .ref o), (1, .ref nn), (2, .int t)]) hx hb dX6_periodToTell_6 rfl hl (by decide) rfl (fun ls hl => ?_)
  refine lv_iload_n hx hb dX6_periodToTell_7 rfl (lv_at hl 0 rfl) ?_
  refine lv_iconst (v := (-1)) hx hb dX6_periodToTell_8 (by decide) ?_
  refine z_icmp_ne (tgt := 22) hx hb rfl m1_toInt dX6_periodToTell_9 (by decide) (fun c_9 => ?_) (fun c_9 => ?_)
  · refine lv_iload_n hx hb dX6_periodToTell_22 rfl (lv_at hl 0 rfl) ?_
    rw [← hQ]
    refine vx_ret ?_
    exact z_iret hC hM hr hlk rfl (by decide) (by decide) ⟨(by obtain ⟨k, hk⟩ := oN_n1 c_9; exact ⟨k, hk, by rw [hk]; rfl⟩), rfl, hcf, hfr⟩ dX6_periodToTell_23
  · rw [← hQ]
    exact z_throw (is := 244) (text := "the star has no period") hC hM hst hlk hxt hl.1 zth_IS (by decide) dX6_periodToTell_12 dX6_periodToTell_15 dX6_periodToTell_16 dX6_periodToTell_18 dX6_periodToTell_21 (by decide) (by decide) (by decide) ⟨⟨rfl, oN_m1 (fun k hk => (bpT_lt hk).2) c_9⟩, rfl, hcf, hfr⟩
