/-! METHODS WITH HANDLERS: their frame, their calls; the class's picture beside other cells -/
abbrev wzH (y : MethodName) (b : ByteArray) (n : Nat) (r : Option FieldType) (hh : List (Nat × Nat × Nat × Nat)) : List Cond := .codeWith y b n r hh :: WA
def zYH (y : MethodName) (bytes : ByteArray) (maxL : Nat) (ret : Option FieldType) (hh : List (Nat × Nat × Nat × Nat)) (n : Nat) : Prop := (Cond.codeWith y bytes maxL ret hh ∈ WA ∧ goodWord (Cond.codeWith y bytes maxL ret hh) = true) ∧ Cond.initialized y.cls ∈ WA ∧ y.cls ≠ "java/lang/invoke/MethodHandle" ∧ y.cls ≠ "java/lang/invoke/VarHandle" ∧ (parseMethodDescriptor y.desc).map (fun d => d.parameters.length) = some n
theorem z_xmetH {l : Launch} {y : MethodName} {bytes : ByteArray} {maxL : Nat} {ret : Option FieldType} {hh : List (Nat × Nat × Nat × Nat)} {rm : Room} {base : Nat} {K : zK} {L : List Nat} {f : Nat → va_E} {av : List Value} {Qc : Array Value → State → Outcome → State → Prop} {XC : String → State → State → Prop}
    (hy : plainName y.cls = true) (hlen : (lg_sl av).length ≤ maxL)
    (body : ∀ p e s m below meth c ls, zC p s av.toArray m c bytes maxL y.cls base K → zM base K L f s s.heap [] → meth.sig.returnType = ret → meth.locks = false → c.exceptionTable.toList = tableOf hh → lv_has ls maxL (lv_args 0 av) →
      W p l e rm s m av.toArray below meth c s.heap [] 0 0 (vx_MQ below Qc XC av.toArray s rm.cells rm.slots (base ≤ ·)) (F0 m 0 ls [])) :
    vx_Met l y (wzH y bytes maxL ret hh) rm (va_Pc av (zPre base K L f)) Qc XC rm.cells rm.slots (base ≤ ·) := by
  refine vx_ofWH (cc := bytes) (maxL := maxL) (ret := ret) (hh := hh) hy rfl ?_
  intro p e s m args below meth c s₁ B hml hv
  obtain ⟨rfl, hpre⟩ := hv
  have hts := atoms_spec (ws := wzH y bytes maxL ret hh) B.pre
  have htab := vx_table (x := y) B (hts _ List.mem_cons_self)
  have hown : s.vm.findClass y.cls = some m.cls := findClass_of_methodNamed B.named
  have hl := lv_entry av (n := maxL) hlen
  rw [lg_entry_eq]
  generalize (lg_sl av ++ List.replicate (maxL - (lg_sl av).length) Slot.unset).toArray = ls at hl ⊢
  exact body p e s m below meth c ls ⟨B.exec, B.bytes, hml, hown, fun w hw => hts w (List.mem_cons_of_mem _ hw), hpre.1⟩ (zM.start hpre) B.returns B.notSynchronized htab hl
section ZH
variable {p : Program} {l : Launch} {e : Env} {R : Room} {s : State} {m : MethodId} {args : Array Value} {below : List Frame} {meth : Method} {c : Code} {H : Heap} {locs : List Loc} {cells slots : Nat} {Q : State → Prop}
variable {cc : ByteArray} {nL pc : Nat} {own : String} {base : Nat} {K : zK} {L : List Nat} {f : Nat → va_E} {ls : Array Slot} {rest st0 : List Value} {a : Nat} {mc ms : Nat} {Qc : Array Value → State → Outcome → State → Prop}
theorem z_xrunSH {y : MethodName} {bytes : ByteArray} {maxL n index : Nat} {ret : Option FieldType} {hh : List (Nat × Nat × Nat × Nat)} {rm : Room} {Qc : Array Value → State → Outcome → State → Prop} {XC : String → State → State → Prop} {free : Addr → Prop} {As : List Value}
    (hC : zC p s args m c cc nL own base K) (hM : zM base K L f s H locs) (ct : vx_Met l y (wzH y bytes maxL ret hh) rm (va_Pc As (zPre base K L f)) Qc XC rm.cells rm.slots free) (zy : zYH y bytes maxL ret hh n) (zv : zSt own index y)
    (hst : st0 = As.reverse ++ rest) (hn : As.length = n) (hsz : ls.size = nL) (hcat : (rest.map fun v => v.category).sum ≤ 8) (hR : rm.frames + 1 ≤ R.frames ∧ 8 + (maxL + 11) + rm.locals ≤ R.locals) (hcs : cells + rm.cells ≤ R.cells ∧ slots + rm.slots ≤ R.slots) (hdg : decode cc pc = .ok (.invokestatic index, 3)) :
    vx_Run p l e R s m args below meth c H locs cells slots rm.cells rm.slots (F0 m pc ls st0) rest (Qc As.toArray) XC free := by
  have hG : GoodIn WA (va_wsS own index y (wzH y bytes maxL ret hh)) := fun w hw => by
    have hw : w = .methodLink own index y ∨ w = .static y ∨ w = .initialized y.cls ∨ w = .codeWith y bytes maxL ret hh ∨ w ∈ WA := by
      simpa [va_wsS] using hw
    rcases hw with rfl | rfl | rfl | rfl | hw
    · exact ⟨zv.1, wa_good zv.1⟩
    · exact ⟨zv.2, wa_good zv.2⟩
    · exact ⟨zy.2.1, wa_good zy.2.1⟩
    · exact ⟨zy.1.1, wa_good zy.1.1⟩
    · exact ⟨hw, wa_good hw⟩
  exact vx_runSX (z_fix hC) ct (vx_cwSW n hC.2.2.2.2.1 hG rfl rfl rfl zy.2.2 hR) ⟨zPre.blind, z_pre hC hM⟩ rfl hn hsz hst (lv_room hcat) hdg hcs
theorem z_last {n i : Nat} {g : Nat → Int64} {x : Int64} (hC : zC p s args m c cc nL own base K) (hM : zM base K L f s H locs) (ha : a ∈ L) (hf : f a = eJ K n g) (hi : i < n) (hn : n < 2 ^ 31) (hdg : decode cc pc = .ok (.lastore, 1))
    (kk : ∀ (H1 : Heap) (locs1 : List Loc), zM base K L (va_up f a (eJ K n (va_up g i x))) s H1 locs1 → W p l e R s m args below meth c H1 locs1 cells slots Q (F0 m (pc + 1) ls rest)) : W p l e R s m args below meth c H locs cells slots Q (F0 m pc ls (.long x :: .int (nI i) :: .ref a :: rest)) := by
  obtain ⟨q, hq⟩ := pl_at (f := f) ha
  have hq' := hq
  rw [hf] at hq
  refine va_last hC.1 hC.2.1 hC.2.2.2.2.2.1 hM.1 hM.2.1 hM.2.2 q 4 hq rfl (vp_in_nI hi hn) hdg (fun H1 locs1 hP hD hS => ?_)
  rw [nI_clamp (by omega), show vp_updL g i x = va_up g i x from rfl, pl_set hM.2.1 ha hq'] at hP hD
  exact kk H1 locs1 ⟨hP, hD, hS⟩
/-- what is caught by row n of the table: the rows ahead name other classes -/
theorem z_catch {E : String} {ce : Cell} {q : Addr} {pre suf : List ExceptionTableEntry} {x : ExceptionTableEntry} (hC : zC p s args m c cc nL own base K) (htab : c.exceptionTable.toList = pre ++ x :: suf)
    (hpass : ∀ z ∈ pre, z.catchType ≠ 0 ∧ ∃ nm : String, Cond.classLink own z.catchType nm ∈ WA ∧ (E, nm) ∈ znc) (hx : covers x pc = true) (h0 : x.catchType ≠ 0) (hlink : Cond.classLink own x.catchType E ∈ WA) (hcast : Cond.castable E E ∈ zN) (hcell : H[q]? = some ce) (hv : ce.vm = .none) (hcl : s.vm.findClass E = some ce.cls)
    (kk : W p l e R s m args below meth c H locs cells slots Q (F0 m x.handlerPc ls [.ref q])) : vx_W p l e R s m args below meth c H locs cells slots Q (F0 m pc ls rest) q :=
  vx_catch hC.2.2.2.1 pre x suf htab (fun z hz => by obtain ⟨h1, nm, h2, h3⟩ := hpass z hz; exact Or.inr ⟨h1, nm, hC.2.2.2.2.1 _ h2, hC.2.2.2.2.2.2.2.2.2.2.2.2.2.2.1 _ h3⟩) hx h0 (hC.2.2.2.2.1 _ hlink) ((hC.2.2.2.2.2.2.2.2.2.2.2.1 _ hcast).use rfl) hcell hv hcl kk
end ZH
theorem zcx_IS : Cond.castable xIS xIS ∈ zN := zn_in 195 (by decide +kernel) rfl
theorem zcl_IS : Cond.classLink RL 16 xIS ∈ WA := wa_in 558 (by decide +kernel) rfl
theorem iv_n {n : Nat} (h : n < 2 ^ 31) : iv (nI n) = n := by
  show (nI n).toInt.toNat = n
  rw [nI_toInt h, Int.toNat_natCast]
theorem iv_0 : iv (nI 0) = 0 := iv_n (by decide)
theorem zyH_found : zYH yL_found cL_found 3 (some .int) [(0, 6, 7, 16)] 2 := ⟨⟨wa_in 557 (by decide +kernel) rfl, rfl⟩, wa_in 15 (by decide +kernel) rfl, by decide +kernel, by decide +kernel, by decide +kernel⟩
set_option maxHeartbeats 400000 in
set_option maxRecDepth 100000 in
theorem w_found {l : Launch} {base : Nat} {K : zK} {L : List Nat} {f : Nat → va_E} (hst : l.stackTraces = false) {A : zA} {ad : Nat → Nat} (hI : CI K L f A ad) (x : Int32) (hk : ∀ E, xE [xIO, xIA, xIS] (k_period A (nI 0) x) E → E = xIS) : vx_Met l yL_found (wzH yL_found cL_found 3 (some .int) [(0, 6, 7, 16)]) (zr 9 3 18 166) (va_Pc [.ref ((ad 1)), .int x] (zPre base K L f)) (zQi base K (fun r L1 f1 => r = (if k_period A (nI 0) x = 0 then v_period A (nI 0) x else nI 0) ∧ CR K A ad L f (A) L1 f1)) (zX base K (fun _ _ _ => False)) (zr 9 3 18 166).cells (zr 9 3 18 166).slots (base ≤ ·) := by
  refine z_xmetH (by decide) (Nat.le_of_ble_eq_true rfl) (fun p e s m below meth c ls hC hM hr hlk htab hl => ?_)
  have hx := hC.1
  have hb := hC.2.1
  have hml := hC.2.2.1
  have hown := hC.2.2.2.1
  have hts := hC.2.2.2.2.1
  generalize hA : ([.ref ((ad 1)), .int x] : List Value).toArray = args at hC ⊢
  generalize hQ : vx_MQ _ _ _ _ _ _ _ _ = Q
  obtain ⟨locs, hlocs⟩ : ∃ z : List Loc, z = [] := ⟨_, rfl⟩
  obtain ⟨H, hH⟩ : ∃ z : Heap, z = s.heap := ⟨_, rfl⟩
  rw [← hlocs, ← hH] at hM ⊢
  have hfx : f (ad 1) = eS 7 [.ref (ad 6), .ref (ad 8), .ref (ad 10), .ref (ad 5), .int (nI (hN A 1000)), .ref (ad 2)] := hI.2.2.2.1
  have hLx := hI.2.1 1 (live_c (by omega))
  have hl : lv_has ls 3 [(0, .ref ((ad 1))), (1, .int x)] := hl
  refine lv_aload_n hx hb dL_found_0 rfl (lv_at hl 0 rfl) ?_
  refine lv_iconst (v := nI 0) hx hb dL_found_1 (by decide) ?_
  refine lv_iload_n hx hb dL_found_2 rfl (lv_at hl 1 rfl) ?_
  refine z_xq (av := #[]) (val := fun r : Int32 => some (.int r)) (post := fun r u => k_period A (nI 0) x = 0 ∧ r = v_period A (nI 0) x ∧ CR K A ad L f (A) u.1 u.2) (z_xrunV hC hM (p_period hst hI (nI 0) x) zy_X6_period zm_L_10 hLx hfx zcl_X6 rfl rfl rfl hl.1 (Nat.le_of_ble_eq_true rfl) ⟨by decide, by decide⟩ ⟨by decide, by decide⟩ dL_found_3) (fun st o t ⟨⟨r, u, h1, h2, h3⟩, h4⟩ => ⟨r, u, h1, h2, h3, h4⟩) hM (fun E ce q9 L1 f1 H locs hp hM hcell hcv hcls => ?_) (fun r L1 f1 H locs hp hM => ?_)
  · obtain ⟨hE, hCR⟩ := hp
    obtain rfl : xIS = E := (hk E hE).symm
    refine z_catch (pre := []) (x := ⟨0, 6, 7, 16⟩) (suf := []) hC (htab.trans rfl) (fun z hz => absurd hz List.not_mem_nil) (by decide) (by decide) zcl_IS zcx_IS hcell hcv hcls ?_
    refine lv_astore_n (lv' := [(2, .ref q9), (0, .ref ((ad 1))), (1, .int x)]) hx hb dL_found_7 rfl hl (by decide) rfl (fun ls hl => ?_)
    refine lv_iconst (v := nI 0) hx hb dL_found_8 (by decide) ?_
    rw [← hQ]
    refine vx_ret ?_
    exact z_iret hC hM hr hlk rfl (by decide) (by decide) ⟨(if_neg (Nat.pos_iff_ne_zero.mp hE.1)).symm, hCR⟩ dL_found_9
  · obtain ⟨hk0, hv, hCR⟩ := hp
    rw [← hQ]
    refine vx_ret ?_
    exact z_iret hC hM hr hlk rfl (by decide) (by decide) ⟨hv.trans (if_pos hk0).symm, hCR⟩ dL_found_6
theorem zyH_listed : zYH yL_listed cL_listed 3 (some .int) [(0, 6, 7, 16)] 2 := ⟨⟨wa_in 561 (by decide +kernel) rfl, rfl⟩, wa_in 15 (by decide +kernel) rfl, by decide +kernel, by decide +kernel, by decide +kernel⟩
set_option maxHeartbeats 400000 in
set_option maxRecDepth 100000 in
theorem w_listed {l : Launch} {base : Nat} {K : zK} {L : List Nat} {f : Nat → va_E} (hst : l.stackTraces = false) {A : zA} {ad : Nat → Nat} (hI : CI K L f A ad) (x : Int32) (hk : ∀ E, xE [xIO, xIA, xIS] (k_world A (nI 0) x) E → E = xIS) : vx_Met l yL_listed (wzH yL_listed cL_listed 3 (some .int) [(0, 6, 7, 16)]) (zr 9 12 1200 224) (va_Pc [.ref ((ad 1)), .int x] (zPre base K L f)) (zQi base K (fun r L1 f1 => r = (if k_world A (nI 0) x = 0 then nI (nw A) else -1) ∧ CR K A ad L f (a_world A (nI 0) x) L1 f1)) (zX base K (fun _ _ _ => False)) (zr 9 12 1200 224).cells (zr 9 12 1200 224).slots (base ≤ ·) := by
  refine z_xmetH (by decide) (Nat.le_of_ble_eq_true rfl) (fun p e s m below meth c ls hC hM hr hlk htab hl => ?_)
  have hx := hC.1
  have hb := hC.2.1
  have hml := hC.2.2.1
  have hown := hC.2.2.2.1
  have hts := hC.2.2.2.2.1
  generalize hA : ([.ref ((ad 1)), .int x] : List Value).toArray = args at hC ⊢
  generalize hQ : vx_MQ _ _ _ _ _ _ _ _ = Q
  obtain ⟨locs, hlocs⟩ : ∃ z : List Loc, z = [] := ⟨_, rfl⟩
  obtain ⟨H, hH⟩ : ∃ z : Heap, z = s.heap := ⟨_, rfl⟩
  rw [← hlocs, ← hH] at hM ⊢
  have hfx : f (ad 1) = eS 7 [.ref (ad 6), .ref (ad 8), .ref (ad 10), .ref (ad 5), .int (nI (hN A 1000)), .ref (ad 2)] := hI.2.2.2.1
  have hLx := hI.2.1 1 (live_c (by omega))
  have hl : lv_has ls 3 [(0, .ref ((ad 1))), (1, .int x)] := hl
  refine lv_aload_n hx hb dL_listed_0 rfl (lv_at hl 0 rfl) ?_
  refine lv_iconst (v := nI 0) hx hb dL_listed_1 (by decide) ?_
  refine lv_iload_n hx hb dL_listed_2 rfl (lv_at hl 1 rfl) ?_
  refine z_xq (av := #[]) (val := fun r : Int32 => some (.int r)) (post := fun r u => k_world A (nI 0) x = 0 ∧ r = nI (nw A) ∧ CR K A ad L f (a_world A (nI 0) x) u.1 u.2) (z_xrunV hC hM (p_world hst hI (nI 0) x) zy_X6_world zm_L_18 hLx hfx zcl_X6 rfl rfl rfl hl.1 (Nat.le_of_ble_eq_true rfl) ⟨by decide, by decide⟩ ⟨by decide, by decide⟩ dL_listed_3) (fun st o t ⟨⟨r, u, h1, h2, h3⟩, h4⟩ => ⟨r, u, h1, h2, h3, h4⟩) hM (fun E ce q9 L1 f1 H locs hp hM hcell hcv hcls => ?_) (fun r L1 f1 H locs hp hM => ?_)
  · obtain ⟨hE, hCR⟩ := hp
    obtain rfl : xIS = E := (hk E hE).symm
    refine z_catch (pre := []) (x := ⟨0, 6, 7, 16⟩) (suf := []) hC (htab.trans rfl) (fun z hz => absurd hz List.not_mem_nil) (by decide) (by decide) zcl_IS zcx_IS hcell hcv hcls ?_
    refine lv_astore_n (lv' := [(2, .ref q9), (0, .ref ((ad 1))), (1, .int x)]) hx hb dL_listed_7 rfl hl (by decide) rfl (fun ls hl => ?_)
    refine lv_iconst (v := -1) hx hb dL_listed_8 (by decide) ?_
    rw [← hQ]
    refine vx_ret ?_
    exact z_iret hC hM hr hlk rfl (by decide) (by decide) ⟨(if_neg (Nat.pos_iff_ne_zero.mp hE.1)).symm, hCR⟩ dL_listed_9
  · obtain ⟨hk0, hv, hCR⟩ := hp
    rw [← hQ]
    refine vx_ret ?_
    exact z_iret hC hM hr hlk rfl (by decide) (by decide) ⟨hv.trans (if_pos hk0).symm, hCR⟩ dL_listed_6
theorem zyH_written : zYH yL_written cL_written 4 (some .int) [(0, 6, 7, 16)] 3 := ⟨⟨wa_in 611 (by decide +kernel) rfl, rfl⟩, wa_in 15 (by decide +kernel) rfl, by decide +kernel, by decide +kernel, by decide +kernel⟩
set_option maxHeartbeats 400000 in
set_option maxRecDepth 100000 in
theorem w_written {l : Launch} {base : Nat} {K : zK} {L : List Nat} {f : Nat → va_E} (hst : l.stackTraces = false) {A : zA} {ad : Nat → Nat} (hI : CI K L f A ad) (x y : Int32) (hk : ∀ E, xE [xIO, xIS] (k_paper A x y) E → E = xIS) : vx_Met l yL_written (wzH yL_written cL_written 4 (some .int) [(0, 6, 7, 16)]) (zr 9 12 200 225) (va_Pc [.ref ((ad 1)), .int x, .int y] (zPre base K L f)) (zQi base K (fun r L1 f1 => r = (if k_paper A x y = 0 then nI (np A) else -1) ∧ CR K A ad L f (a_paper A x y) L1 f1)) (zX base K (fun _ _ _ => False)) (zr 9 12 200 225).cells (zr 9 12 200 225).slots (base ≤ ·) := by
  refine z_xmetH (by decide) (Nat.le_of_ble_eq_true rfl) (fun p e s m below meth c ls hC hM hr hlk htab hl => ?_)
  have hx := hC.1
  have hb := hC.2.1
  have hml := hC.2.2.1
  have hown := hC.2.2.2.1
  have hts := hC.2.2.2.2.1
  generalize hA : ([.ref ((ad 1)), .int x, .int y] : List Value).toArray = args at hC ⊢
  generalize hQ : vx_MQ _ _ _ _ _ _ _ _ = Q
  obtain ⟨locs, hlocs⟩ : ∃ z : List Loc, z = [] := ⟨_, rfl⟩
  obtain ⟨H, hH⟩ : ∃ z : Heap, z = s.heap := ⟨_, rfl⟩
  rw [← hlocs, ← hH] at hM ⊢
  have hfx : f (ad 1) = eS 7 [.ref (ad 6), .ref (ad 8), .ref (ad 10), .ref (ad 5), .int (nI (hN A 1000)), .ref (ad 2)] := hI.2.2.2.1
  have hLx := hI.2.1 1 (live_c (by omega))
  have hl : lv_has ls 4 [(0, .ref ((ad 1))), (1, .int x), (2, .int y)] := hl
  refine lv_aload_n hx hb dL_written_0 rfl (lv_at hl 0 rfl) ?_
  refine lv_iload_n hx hb dL_written_1 rfl (lv_at hl 1 rfl) ?_
  refine lv_iload_n hx hb dL_written_2 rfl (lv_at hl 2 rfl) ?_
  refine z_xq (av := #[]) (val := fun r : Int32 => some (.int r)) (post := fun r u => k_paper A x y = 0 ∧ r = nI (np A) ∧ CR K A ad L f (a_paper A x y) u.1 u.2) (z_xrunV hC hM (p_paper hst hI x y) zy_X6_paper zm_L_21 hLx hfx zcl_X6 rfl rfl rfl hl.1 (Nat.le_of_ble_eq_true rfl) ⟨by decide, by decide⟩ ⟨by decide, by decide⟩ dL_written_3) (fun st o t ⟨⟨r, u, h1, h2, h3⟩, h4⟩ => ⟨r, u, h1, h2, h3, h4⟩) hM (fun E ce q9 L1 f1 H locs hp hM hcell hcv hcls => ?_) (fun r L1 f1 H locs hp hM => ?_)
  · obtain ⟨hE, hCR⟩ := hp
    obtain rfl : xIS = E := (hk E hE).symm
    refine z_catch (pre := []) (x := ⟨0, 6, 7, 16⟩) (suf := []) hC (htab.trans rfl) (fun z hz => absurd hz List.not_mem_nil) (by decide) (by decide) zcl_IS zcx_IS hcell hcv hcls ?_
    refine lv_astore_n (lv' := [(3, .ref q9), (0, .ref ((ad 1))), (1, .int x), (2, .int y)]) hx hb dL_written_7 rfl hl (by decide) rfl (fun ls hl => ?_)
    refine lv_iconst (v := -1) hx hb dL_written_8 (by decide) ?_
    rw [← hQ]
    refine vx_ret ?_
    exact z_iret hC hM hr hlk rfl (by decide) (by decide) ⟨(if_neg (Nat.pos_iff_ne_zero.mp hE.1)).symm, hCR⟩ dL_written_9
  · obtain ⟨hk0, hv, hCR⟩ := hp
    rw [← hQ]
    refine vx_ret ?_
    exact z_iret hC hM hr hlk rfl (by decide) (by decide) ⟨hv.trans (if_pos hk0).symm, hCR⟩ dL_written_6
/-- calls that read the script: it lies below all that is ours -/
theorem zX_blind {base b L9 : Nat} {xs : Nat → Int32} {K : zK} {L : List Nat} {f : Nat → va_E} {av : List Value} : FrameBlind (va_Pc av (fun U => zPre base K L f U ∧ (va_X b L9 xs U U.heap ∧ b < U.heap.size))) := fun a U g mk q => ⟨q.1, ⟨zS.same (s := U) (U := U.calling g mk a) rfl q.2.1.1, q.2.1.2⟩, va_X.moved (u := U) (U := U.calling g mk a) (Vm.Alike.refl _) q.2.2.1, q.2.2.2⟩
set_option maxHeartbeats 400000 in
set_option maxRecDepth 100000 in
theorem c_cell {l : Launch} {base b L9 : Nat} {xs : Nat → Int32} {K : zK} {L : List Nat} {f : Nat → va_E} (hbb : b < base) (hL9 : L9 ≤ 3072) (k : Nat) (hk : k < 2 ^ 30) : Met l yL_cell (wz yL_cell cL_cell 2 (some .int)) (zr 0 0 0 0) (va_Pc [.ref b, .int (nI k)] (fun U => zPre base K L f U ∧ (va_X b L9 xs U U.heap ∧ b < U.heap.size))) (zFi base K (cellV L9 xs k) L f) (zr 0 0 0 0).cells (zr 0 0 0 0).slots (base ≤ ·) := by
  refine Met.ofW (cc := cL_cell) (maxL := 2) (ret := some .int) (by decide) rfl ?_
  intro p e s m args below meth c s₁ B hml hv
  obtain ⟨rfl, hpre, hX, hbl⟩ := hv
  have hts := atoms_spec (ws := wz yL_cell cL_cell 2 (some .int)) B.pre
  have hown : s.vm.findClass yL_cell.cls = some m.cls := findClass_of_methodNamed B.named
  have hl := lv_entry [.ref b, .int (nI k)] (n := 2) (Nat.le_of_ble_eq_true rfl)
  rw [lg_entry_eq]
  generalize (lg_sl [.ref b, .int (nI k)] ++ List.replicate (2 - (lg_sl [.ref b, .int (nI k)]).length) Slot.unset).toArray = ls at hl ⊢
  have hC : zC p s #[.ref b, .int (nI k)] m c cL_cell 2 yL_cell.cls base K := ⟨B.exec, B.bytes, hml, hown, fun w hw => hts w (List.mem_cons_of_mem _ hw), hpre.1⟩
  have hM : zM base K L f s s.heap [] := zM.start hpre
  have hr := B.returns
  have hlk := B.notSynchronized
  have hx := hC.1
  have hb := hC.2.1
  have hts := hC.2.2.2.2.1
  have hA : ¬ base ≤ b := by omega
  have hl : lv_has ls 2 [(0, .ref b), (1, .int (nI k))] := hl
  refine lv_iload_n hx hb dL_cell_0 rfl (lv_at hl 1 rfl) ?_
  refine lv_aload_n hx hb dL_cell_1 rfl (lv_at hl 0 rfl) ?_
  refine va_slen hx hb hX hbl hA hM.2.2 dL_cell_2 ?_
  rw [show Int32.ofNat L9 = nI L9 from rfl]
  refine z_icmp_ge (tgt := 12) hx hb (nI_toInt (by omega)) (nI_toInt (by omega)) dL_cell_3 (by decide) (fun c_3 => ?_) (fun c_3 => ?_)
  · refine lv_ldc (v := 1000308331) hx hb hown (hts _ zk_L_7) dL_cell_12 ?_
    refine lv_iload_n hx hb dL_cell_14 rfl (lv_at hl 1 rfl) ?_
    refine lv_iconst (v := 1) hx hb dL_cell_15 (by decide) ?_
    refine lv_iadd hx hb dL_cell_16 ?_
    refine lv_imul hx hb dL_cell_17 ?_
    refine lv_ldc (v := 751363505) hx hb hown (hts _ zk_L_8) dL_cell_18 ?_
    refine lv_iadd hx hb dL_cell_20 ?_
    exact z_iret hC hM hr hlk rfl (by decide) (by decide) ⟨(if_neg (by omega)).symm, rfl, rfl⟩ dL_cell_21
  · refine lv_aload_n hx hb dL_cell_6 rfl (lv_at hl 0 rfl) ?_
    refine lv_iload_n hx hb dL_cell_7 rfl (lv_at hl 1 rfl) ?_
    refine va_sld hx hb hX hbl hA hM.2.2 (vp_in_nI (show k < L9 by omega) (by omega)) dL_cell_8 ?_
    rw [nI_clamp (by omega)]
    refine lv_goto (tgt := 21) hx hb dL_cell_9 (by decide) ?_
    exact z_iret hC hM hr hlk rfl (by decide) (by decide) ⟨(if_pos (by omega)).symm, rfl, rfl⟩ dL_cell_21
section ZX9
variable {p : Program} {l : Launch} {e : Env} {R : Room} {s : State} {m : MethodId} {args : Array Value} {below : List Frame} {meth : Method} {c : Code} {H : Heap} {locs : List Loc} {cells slots : Nat} {Q : State → Prop}
variable {cc : ByteArray} {nL pc : Nat} {own : String} {K : zK} {L : List Nat} {f : Nat → va_E} {ls : Array Slot} {rest st0 : List Value}
theorem z_runCell {b L9 k index : Nat} {xs : Nat → Int32} (hC : zC p s args m c cc nL own s.heap.size K) (hM : zM s.heap.size K L f s H locs) (hX : va_X b L9 xs s s.heap) (hbl : b < s.heap.size) (hL9 : L9 ≤ 3072) (hk : k < 2 ^ 30) (zv : zSt own index yL_cell)
    (hst : st0 = [.int (nI k), .ref b] ++ rest) (hsz : ls.size = nL) (hcat : (rest.map fun v => v.category).sum ≤ 8) (hR : 1 ≤ R.frames ∧ 21 ≤ R.locals) (hcs : cells ≤ R.cells ∧ slots ≤ R.slots) (hdg : decode cc pc = .ok (.invokestatic index, 3))
    (kk : ∀ (H1 : Heap) (locs1 : List Loc), zM s.heap.size K L f s H1 locs1 → W p l e R s m args below meth c H1 locs1 cells slots Q (F0 m (pc + 3) ls (.int (cellV L9 xs k) :: rest))) : W p l e R s m args below meth c H locs cells slots Q (F0 m pc ls st0) := by
  have hpre : ∀ U : State, U.heap = H → s.WarmedH U.vm → va_Pc [.ref b, .int (nI k)] (fun U => zPre s.heap.size K L f U ∧ (va_X b L9 xs U U.heap ∧ b < U.heap.size)) ([.ref b, .int (nI k)] : List Value).toArray U := fun U hU hW => by
    have h1 := (z_pre (av := [.ref b, .int (nI k)]) hC hM U hU hW).2
    refine ⟨rfl, h1, ?_, ?_⟩
    · rw [hU]
      exact va_X.moved hW.alike (hX.kept (hM.2.2.2.1 b hbl (by omega)))
    · rw [hU]; exact Nat.lt_of_lt_of_le hbl hM.2.2.1
  have hrun : va_Run p l e R s m args below meth c H locs cells slots (zr 0 0 0 0).cells (zr 0 0 0 0).slots (F0 m pc ls st0) rest (zFi s.heap.size K (cellV L9 xs k) L f ([.ref b, .int (nI k)] : List Value).toArray) (s.heap.size ≤ ·) :=
    va_runS (z_fix hC) (c_cell hbl hL9 k hk) ⟨z_callB hC zy_L_cell zv.1 (by show 0 + 1 ≤ R.frames ∧ 8 + (2 + 11) + 0 ≤ R.locals; omega), hC.2.2.2.2.1 _ zv.2⟩ ⟨zX_blind, hpre⟩ rfl rfl hsz hst (lv_room hcat) hdg hcs
  exact z_fcalli hrun hM kk
end ZX9
