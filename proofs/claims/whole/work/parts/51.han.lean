/-! METHODS WITH HANDLERS: their frame, their calls; the class's picture beside other cells -/
abbrev wzH (y : MethodName) (b : ByteArray) (n : Nat) (r : Option FieldType) (hh : List (Nat × Nat × Nat × Nat)) : List Cond := .codeWith y b n r hh :: WA
def zYH (y : MethodName) (bytes : ByteArray) (maxL : Nat) (ret : Option FieldType) (hh : List (Nat × Nat × Nat × Nat)) (n : Nat) : Prop := (Cond.codeWith y bytes maxL ret hh ∈ WA ∧ goodWord (Cond.codeWith y bytes maxL ret hh) = true) ∧ Cond.initialized y.cls ∈ WA ∧ y.cls ≠ "java/lang/invoke/MethodHandle" ∧ y.cls ≠ "java/lang/invoke/VarHandle" ∧ (parseMethodDescriptor y.desc).map (fun d => d.parameters.length) = some n
theorem z_xmetH {l : Launch} {y : MethodName} {bytes : ByteArray} {maxL : Nat} {ret : Option FieldType} {hh : List (Nat × Nat × Nat × Nat)} {rm : Room} {base : Nat} {K : zK} {L : List Nat} {f : Nat → va_E} {av : List Value} {Qc : Array Value → State → Outcome → State → Prop} {XC : String → State → State → Prop}
    (hy : plainName y.cls = true) (hlen : (lg_sl av).length ≤ maxL)
    (body : ∀ p e s m below meth c ls, zC p s av.toArray m c bytes maxL y.cls base K → zM base K L f s s.heap [] → meth.sig.returnType = ret → meth.locks = false → c.exceptionTable.toList = tableOf hh → lv_has ls maxL (lv_args 0 av) →
      W p l e rm s m av.toArray below meth c s.heap [] 0 0 (vx_MQ below Qc XC av.toArray s rm.cells rm.slots (base ≤ ·)) (F0 m 0 ls [])) :
    vx_Met l y (wzH y bytes maxL ret hh) rm (va_Pc av (zPre base K L f)) Qc XC rm.cells rm.slots (base ≤ ·) := by
  refine vx_ofWH (cc := bytes) (maxL := maxL) (ret := ret) (hh := hh) hy rfl ?_
  intro p e s m args below meth c s₁ B hml hv
  obtain ⟨rfl, hpre⟩ := hv
  have hts := atoms_spec (ws := wzH y bytes maxL ret hh) B.pre
  have htab := vx_table (x := y) B (hts _ List.mem_cons_self)
  have hown : s.vm.findClass y.cls = some m.cls := findClass_of_methodNamed B.named
  have hl := lv_entry av (n := maxL) hlen
  rw [lg_entry_eq]
  generalize (lg_sl av ++ List.replicate (maxL - (lg_sl av).length) Slot.unset).toArray = ls at hl ⊢
  exact body p e s m below meth c ls ⟨B.exec, B.bytes, hml, hown, fun w hw => hts w (List.mem_cons_of_mem _ hw), hpre.1⟩ (zM.start hpre) B.returns B.notSynchronized htab hl
section ZH
variable {p : Program} {l : Launch} {e : Env} {R : Room} {s : State} {m : MethodId} {args : Array Value} {below : List Frame} {meth : Method} {c : Code} {H : Heap} {locs : List Loc} {cells slots : Nat} {Q : State → Prop}
variable {cc : ByteArray} {nL pc : Nat} {own : String} {base : Nat} {K : zK} {L : List Nat} {f : Nat → va_E} {ls : Array Slot} {rest st0 : List Value} {a : Nat} {mc ms : Nat} {Qc : Array Value → State → Outcome → State → Prop}
theorem z_xrunSH {y : MethodName} {bytes : ByteArray} {maxL n index : Nat} {ret : Option FieldType} {hh : List (Nat × Nat × Nat × Nat)} {rm : Room} {Qc : Array Value → State → Outcome → State → Prop} {XC : String → State → State → Prop} {free : Addr → Prop} {As : List Value}
    (hC : zC p s args m c cc nL own base K) (hM : zM base K L f s H locs) (ct : vx_Met l y (wzH y bytes maxL ret hh) rm (va_Pc As (zPre base K L f)) Qc XC rm.cells rm.slots free) (zy : zYH y bytes maxL ret hh n) (zv : zSt own index y)
    (hst : st0 = As.reverse ++ rest) (hn : As.length = n) (hsz : ls.size = nL) (hcat : (rest.map fun v => v.category).sum ≤ 8) (hR : rm.frames + 1 ≤ R.frames ∧ 8 + (maxL + 11) + rm.locals ≤ R.locals) (hcs : cells + rm.cells ≤ R.cells ∧ slots + rm.slots ≤ R.slots) (hdg : decode cc pc = .ok (.invokestatic index, 3)) :
    vx_Run p l e R s m args below meth c H locs cells slots rm.cells rm.slots (F0 m pc ls st0) rest (Qc As.toArray) XC free := by
  have hG : GoodIn WA (va_wsS own index y (wzH y bytes maxL ret hh)) := fun w hw => by
    have hw : w = .methodLink own index y ∨ w = .static y ∨ w = .initialized y.cls ∨ w = .codeWith y bytes maxL ret hh ∨ w ∈ WA := by
      simpa [va_wsS] using hw
    rcases hw with rfl | rfl | rfl | rfl | hw
    · exact ⟨zv.1, wa_good zv.1⟩
    · exact ⟨zv.2, wa_good zv.2⟩
    · exact ⟨zy.2.1, wa_good zy.2.1⟩
    · exact ⟨zy.1.1, wa_good zy.1.1⟩
    · exact ⟨hw, wa_good hw⟩
  exact vx_runSX (z_fix hC) ct (vx_cwSW n hC.2.2.2.2.1 hG rfl rfl rfl zy.2.2 hR) ⟨zPre.blind, z_pre hC hM⟩ rfl hn hsz hst (lv_room hcat) hdg hcs
theorem z_last {n i : Nat} {g : Nat → Int64} {x : Int64} (hC : zC p s args m c cc nL own base K) (hM : zM base K L f s H locs) (ha : a ∈ L) (hf : f a = eJ K n g) (hi : i < n) (hn : n < 2 ^ 31) (hdg : decode cc pc = .ok (.lastore, 1))
    (kk : ∀ (H1 : Heap) (locs1 : List Loc), zM base K L (va_up f a (eJ K n (va_up g i x))) s H1 locs1 → W p l e R s m args below meth c H1 locs1 cells slots Q (F0 m (pc + 1) ls rest)) : W p l e R s m args below meth c H locs cells slots Q (F0 m pc ls (.long x :: .int (nI i) :: .ref a :: rest)) := by
  obtain ⟨q, hq⟩ := pl_at (f := f) ha
  have hq' := hq
  rw [hf] at hq
  refine va_last hC.1 hC.2.1 hC.2.2.2.2.2.1 hM.1 hM.2.1 hM.2.2 q 4 hq rfl (vp_in_nI hi hn) hdg (fun H1 locs1 hP hD hS => ?_)
  rw [nI_clamp (by omega), show vp_updL g i x = va_up g i x from rfl, pl_set hM.2.1 ha hq'] at hP hD
  exact kk H1 locs1 ⟨hP, hD, hS⟩
/-- what is caught by row n of the table: the rows ahead name other classes -/
theorem z_catch {E : String} {ce : Cell} {q : Addr} {pre suf : List ExceptionTableEntry} {x : ExceptionTableEntry} (hC : zC p s args m c cc nL own base K) (htab : c.exceptionTable.toList = pre ++ x :: suf)
    (hpass : ∀ z ∈ pre, z.catchType ≠ 0 ∧ ∃ nm : String, Cond.classLink own z.catchType nm ∈ WA ∧ (E, nm) ∈ znc) (hx : covers x pc = true) (h0 : x.catchType ≠ 0) (hlink : Cond.classLink own x.catchType E ∈ WA) (hcast : Cond.castable E E ∈ zN) (hcell : H[q]? = some ce) (hv : ce.vm = .none) (hcl : s.vm.findClass E = some ce.cls)
    (kk : W p l e R s m args below meth c H locs cells slots Q (F0 m x.handlerPc ls [.ref q])) : vx_W p l e R s m args below meth c H locs cells slots Q (F0 m pc ls rest) q :=
  vx_catch hC.2.2.2.1 pre x suf htab (fun z hz => by obtain ⟨h1, nm, h2, h3⟩ := hpass z hz; exact Or.inr ⟨h1, nm, hC.2.2.2.2.1 _ h2, hC.2.2.2.2.2.2.2.2.2.2.2.2.2.2.1 _ h3⟩) hx h0 (hC.2.2.2.2.1 _ hlink) ((hC.2.2.2.2.2.2.2.2.2.2.2.1 _ hcast).use rfl) hcell hv hcl kk
end ZH
theorem zcx_IA : Cond.castable xIA xIA ∈ zN := zn_in 143 (by decide +kernel) rfl
theorem zcx_IS : Cond.castable xIS xIS ∈ zN := zn_in 215 (by decide +kernel) rfl
theorem zcx_IO : Cond.castable xIO xIO ∈ zN := zn_in 350 (by decide +kernel) rfl
theorem zcl_IA : Cond.classLink RL 13 xIA ∈ WA := wa_in 131 (by decide +kernel) rfl
theorem zcl_IS : Cond.classLink RL 15 xIS ∈ WA := wa_in 132 (by decide +kernel) rfl
theorem zcl_IO : Cond.classLink RL 21 xIO ∈ WA := wa_in 339 (by decide +kernel) rfl
/-- behind a call of the class: its picture, and the answer in the long's cell -/
def WR (K : zK) (A : zA) (ad : Nat → Nat) (L : List Nat) (f : Nat → va_E) (A' : zA) (oa k : Nat) (v : Int64) (L1 : List Nat) (f1 : Nat → va_E) : Prop := ∃ (f0 : Nat → va_E) (g1 : Nat → Int64), CR K A ad L f A' L1 f0 ∧ f1 = va_up f0 oa (eJ K 1 g1) ∧ (k = 0 → g1 0 = v)
theorem CR.out {K : zK} {A A' : zA} {ad : Nat → Nat} {L L1 : List Nat} {f f0 : Nat → va_E} {oa : Nat} (h : CR K A ad L f A' L1 f0) (ho : oa ∈ L) (hno : ∀ t, live A t → ad t ≠ oa) : oa ∈ L1 ∧ f0 oa = f oa := by
  obtain ⟨ad', -, -, h3, h4⟩ := h
  exact ⟨h3 _ ho, (h4 _ ho hno).1⟩
theorem WR.x {K : zK} {A A' : zA} {ad : Nat → Nat} {L L1 : List Nat} {f f0 : Nat → va_E} {oa k : Nat} {v : Int64} {g : Nat → Int64} (h : CR K A ad L f A' L1 f0) (ho : oa ∈ L) (hno : ∀ t, live A t → ad t ≠ oa) (hfo : f oa = eJ K 1 g) (hk : k ≠ 0) : WR K A ad L f A' oa k v L1 f0 :=
  ⟨f0, g, h, (up_id _ _ ((h.out ho hno).2.trans hfo)).symm, fun z => absurd z hk⟩
theorem xE_cases {es : List String} {k : Nat} {E : String} (h : xE es k E) : ∃ j, k = j + 1 ∧ es[j]? = some E := ⟨k - 1, by have := h.1; omega, h.2⟩
theorem fallen_cases (A : zA) (x : Int32) : v_fallen A x = nI 0 ∨ v_fallen A x = nI 1 := by
  unfold v_fallen
  cases fell A (iv x)
  · exact Or.inl rfl
  · exact Or.inr rfl
