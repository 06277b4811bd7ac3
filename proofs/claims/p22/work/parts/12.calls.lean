/-! THE FRAME, second part: contracts over the whole world, calls, ends, arrays -/
/-- a body: from the entry to the end -/
theorem z_met {l : Launch} {y : MethodName} {bytes : ByteArray} {maxL : Nat} {ret : Option FieldType} {rm : Room} {base : Nat} {K : zK} {L : List Nat} {f : Nat → va_E} {av : List Value} {Qc : Array Value → State → Outcome → State → Prop}
    (hy : plainName y.cls = true) (hlen : (lg_sl av).length ≤ maxL)
    (body : ∀ p e s m below meth c ls, zC p s av.toArray m c bytes maxL y.cls base K → zM base K L f s s.heap [] → meth.sig.returnType = ret → meth.locks = false → meth.name = y.name → lv_has ls maxL (lv_args 0 av) →
      W p l e rm s m av.toArray below meth c s.heap [] 0 0 (MQ below Qc av.toArray s rm.cells rm.slots (base ≤ ·)) (F0 m 0 ls [])) :
    Met l y (wz y bytes maxL ret) rm (va_Pc av (zPre base K L f)) Qc rm.cells rm.slots (base ≤ ·) := by
  refine Met.ofW (cc := bytes) (maxL := maxL) (ret := ret) hy rfl ?_
  intro p e s m args below meth c s₁ B hml hv
  obtain ⟨rfl, hpre⟩ := hv
  have hts := atoms_spec (ws := wz y bytes maxL ret) B.pre
  have hown : s.vm.findClass y.cls = some m.cls := findClass_of_methodNamed B.named
  have hl := lv_entry av (n := maxL) hlen
  rw [lg_entry_eq]
  generalize (lg_sl av ++ List.replicate (maxL - (lg_sl av).length) Slot.unset).toArray = ls at hl ⊢
  exact body p e s m below meth c ls ⟨B.exec, B.bytes, hml, hown, fun w hw => hts w (List.mem_cons_of_mem _ hw), hpre.1⟩ (zM.start hpre) B.returns B.notSynchronized (name_of_methodNamed B.named B.method).1 hl
/-- a body that may throw -/
theorem z_xmet {l : Launch} {y : MethodName} {bytes : ByteArray} {maxL : Nat} {ret : Option FieldType} {rm : Room} {base : Nat} {K : zK} {L : List Nat} {f : Nat → va_E} {av : List Value} {Qc : Array Value → State → Outcome → State → Prop} {XC : String → State → State → Prop}
    (hy : plainName y.cls = true) (hlen : (lg_sl av).length ≤ maxL)
    (body : ∀ p e s m below meth c ls, zC p s av.toArray m c bytes maxL y.cls base K → zM base K L f s s.heap [] → meth.sig.returnType = ret → meth.locks = false → (∀ x ∈ c.exceptionTable.toList, False) → lv_has ls maxL (lv_args 0 av) →
      W p l e rm s m av.toArray below meth c s.heap [] 0 0 (vx_MQ below Qc XC av.toArray s rm.cells rm.slots (base ≤ ·)) (F0 m 0 ls [])) :
    vx_Met l y (wz y bytes maxL ret) rm (va_Pc av (zPre base K L f)) Qc XC rm.cells rm.slots (base ≤ ·) := by
  refine vx_ofW (cc := bytes) (maxL := maxL) (ret := ret) hy rfl ?_
  intro p e s m args below meth c s₁ B hml hx hv
  obtain ⟨rfl, hpre⟩ := hv
  have hts := atoms_spec (ws := wz y bytes maxL ret) B.pre
  have hown : s.vm.findClass y.cls = some m.cls := findClass_of_methodNamed B.named
  have hl := lv_entry av (n := maxL) hlen
  rw [lg_entry_eq]
  generalize (lg_sl av ++ List.replicate (maxL - (lg_sl av).length) Slot.unset).toArray = ls at hl ⊢
  exact body p e s m below meth c ls ⟨B.exec, B.bytes, hml, hown, fun w hw => hts w (List.mem_cons_of_mem _ hw), hpre.1⟩ (zM.start hpre) B.returns B.notSynchronized hx hl
abbrev zQi (base : Nat) (K : zK) (post : Int32 → List Nat → (Nat → va_E) → Prop) := va_Qi (fun (r : Int32) (u : zW) => post r u.1 u.2) (zB base K) (base ≤ ·)
abbrev zQl (base : Nat) (K : zK) (post : Int64 → List Nat → (Nat → va_E) → Prop) := va_Ql (fun (r : Int64) (u : zW) => post r u.1 u.2) (zB base K) (base ≤ ·)
abbrev zQd (base : Nat) (K : zK) (post : UInt64 → List Nat → (Nat → va_E) → Prop) := va_Qd (fun (r : UInt64) (u : zW) => post r u.1 u.2) (zB base K) (base ≤ ·)
abbrev zQv (base : Nat) (K : zK) (post : List Nat → (Nat → va_E) → Prop) := va_Qv (fun (u : zW) => post u.1 u.2) (zB base K) (base ≤ ·)
abbrev zQq (base : Nat) (K : zK) (post : Option Nat → List Nat → (Nat → va_E) → Prop) := va_Qq (fun (r : Option Nat) (u : zW) => post r u.1 u.2) (zB base K) (base ≤ ·)
section ZS
variable {p : Program} {l : Launch} {e : Env} {R : Room} {s : State} {m : MethodId} {args : Array Value} {below : List Frame} {meth : Method} {c : Code} {H : Heap} {locs : List Loc} {cells slots : Nat} {Q : State → Prop}
variable {cc : ByteArray} {nL pc : Nat} {own : String} {base : Nat} {K : zK} {L : List Nat} {f : Nat → va_E} {ls : Array Slot} {rest st0 : List Value} {a : Nat} {mc ms : Nat} {XC : String → State → State → Prop}
theorem zM.F (hM : zM base K L f s H locs) {t : State} (ht : t.heap = H) : va_F (base ≤ ·) s t := hM.2.2.F ht
theorem zM.B (hM : zM base K L f s H locs) {t : State} (ht : t.heap = H) : zB base K (L, f) t := ⟨by rw [ht]; exact hM.1, hM.2.1⟩
theorem z_iret {ty : FieldType} {v : Int32} {post : Int32 → List Nat → (Nat → va_E) → Prop} (hC : zC p s args m c cc nL own base K) (hM : zM base K L f s H locs) (hr : meth.sig.returnType = some ty) (hlk : meth.locks = false) (hn : narrow ty (.int v) = .int v) (hc : cells ≤ mc) (hs : slots ≤ ms) (hp : post v L f) (hdg : decode cc pc = .ok (.ireturn, 1)) :
    W p l e R s m args below meth c H locs cells slots (MQ below (zQi base K post) args s mc ms (base ≤ ·)) (F0 m pc ls [.int v]) := by
  refine W.widen (k := mc) (n := ms) hc hs ?_
  exact W.zret (v := v) hC.1 hC.2.1 hr hn (fun t ht hW => ⟨⟨v, (L, f), rfl, hp, hM.B ht⟩, hM.F ht⟩) hM.2.2.2.2 hdg hlk
theorem z_lret {v : Int64} {post : Int64 → List Nat → (Nat → va_E) → Prop} (hC : zC p s args m c cc nL own base K) (hM : zM base K L f s H locs) (hr : meth.sig.returnType = some .long) (hlk : meth.locks = false) (hc : cells ≤ mc) (hs : slots ≤ ms) (hp : post v L f) (hdg : decode cc pc = .ok (.lreturn, 1)) :
    W p l e R s m args below meth c H locs cells slots (MQ below (zQl base K post) args s mc ms (base ≤ ·)) (F0 m pc ls [.long v]) := by
  refine W.widen (k := mc) (n := ms) hc hs ?_
  exact W.lret (v := v) hC.1 hC.2.1 hr (fun t ht hW => ⟨⟨v, (L, f), rfl, hp, hM.B ht⟩, hM.F ht⟩) hM.2.2.2.2 hdg hlk
theorem z_dret {v : UInt64} {post : UInt64 → List Nat → (Nat → va_E) → Prop} (hC : zC p s args m c cc nL own base K) (hM : zM base K L f s H locs) (hr : meth.sig.returnType = some .double) (hlk : meth.locks = false) (hc : cells ≤ mc) (hs : slots ≤ ms) (hp : post v L f) (hdg : decode cc pc = .ok (.dreturn, 1)) :
    W p l e R s m args below meth c H locs cells slots (MQ below (zQd base K post) args s mc ms (base ≤ ·)) (F0 m pc ls [.double v]) := by
  refine W.widen (k := mc) (n := ms) hc hs ?_
  exact W.dret (v := v) hC.1 hC.2.1 hr (fun t ht hW => ⟨⟨v, (L, f), rfl, hp, hM.B ht⟩, hM.F ht⟩) hM.2.2.2.2 hdg hlk
theorem z_vret {post : List Nat → (Nat → va_E) → Prop} (hC : zC p s args m c cc nL own base K) (hM : zM base K L f s H locs) (hr : meth.sig.returnType = none) (hlk : meth.locks = false) (hc : cells ≤ mc) (hs : slots ≤ ms) (hp : post L f) (hdg : decode cc pc = .ok (.return_, 1)) :
    W p l e R s m args below meth c H locs cells slots (MQ below (zQv base K post) args s mc ms (base ≤ ·)) (F0 m pc ls []) := by
  refine W.widen (k := mc) (n := ms) hc hs ?_
  exact W.vret hC.1 hC.2.1 hr (fun t ht hW => ⟨⟨(L, f), rfl, hp, hM.B ht⟩, hM.F ht⟩) hM.2.2.2.2 hdg hlk
theorem z_qret {rt : FieldType} {v : Option Nat} {post : Option Nat → List Nat → (Nat → va_E) → Prop} (hC : zC p s args m c cc nL own base K) (hM : zM base K L f s H locs) (hr : meth.sig.returnType = some rt) (hrt : (∃ n, rt = .object n) ∨ ∃ t, rt = .array t) (hlk : meth.locks = false) (hc : cells ≤ mc) (hs : slots ≤ ms) (hp : post v L f) (hdg : decode cc pc = .ok (.areturn, 1)) :
    W p l e R s m args below meth c H locs cells slots (MQ below (zQq base K post) args s mc ms (base ≤ ·)) (F0 m pc ls [va_rf v]) := by
  refine W.widen (k := mc) (n := ms) hc hs ?_
  exact W.aret (v := va_rf v) hC.1 hC.2.1 hr hrt (va_rf_or v) (fun t ht hW => ⟨⟨v, (L, f), rfl, hp, hM.B ht⟩, hM.F ht⟩) hM.2.2.2.2 hdg hlk
/-- calls -/
theorem z_pre {av : List Value} (hC : zC p s args m c cc nL own base K) (hM : zM base K L f s H locs) : ∀ U : State, U.heap = H → s.WarmedH U.vm → va_Pc av (zPre base K L f) av.toArray U := fun U hU hW => ⟨rfl, by rw [hU]; exact zS.warm hW (zS.kept hM.2.2 hC.2.2.2.2.2), by rw [hU]; exact hM.1, hM.2.1⟩
theorem z_callB {y : MethodName} {bytes : ByteArray} {maxL n index : Nat} {ret : Option FieldType} {rm : Room} (hC : zC p s args m c cc nL own base K) (zy : zY y bytes maxL ret n) (hl : Cond.methodLink own index y ∈ WA) (hR : rm.frames + 1 ≤ R.frames ∧ 8 + (maxL + 11) + rm.locals ≤ R.locals) : CallB R s args own index y bytes maxL ret (wz y bytes maxL ret) rm rm.cells rm.slots n :=
  callB_of n hC.2.2.2.2.1 (wz_in zy.1) rfl rfl rfl (hC.2.2.2.2.1 _ zy.2.1) (hC.2.2.2.2.1 _ hl) zy.2.2 hR
theorem z_fix (hC : zC p s args m c cc nL own base K) : CallFix p m c cc nL s args WA own := ⟨hC.1, hC.2.1, hC.2.2.1, hC.2.2.2.1, hC.2.2.2.2.1⟩
theorem z_recv {ci N : Nat} {C : String} {T : u_T} {ty : Nat → FieldType} {fs : List Value} (hC : zC p s args m c cc nL own base K) (hM : zM base K L f s H locs) (ha : a ∈ L) (hf : f a = eS ci fs) (hcl : zCl ci C T N ty) : ∃ cellB : Cell, H[a]? = some cellB ∧ cellB.vm.isStatics = false ∧ s.vm.findClass C = some cellB.cls := by
  obtain ⟨q, hq⟩ := pl_at (f := f) ha
  rw [hf] at hq
  exact va_recv hC.2.2.2.2.2.1 hM.1 hcl.1 hq
theorem z_runV {y : MethodName} {bytes : ByteArray} {maxL n index ci N : Nat} {C : String} {T : u_T} {ty : Nat → FieldType} {fs : List Value} {ret : Option FieldType} {rm : Room} {Qc : Array Value → State → Outcome → State → Prop} {free : Addr → Prop} {As : List Value}
    (hC : zC p s args m c cc nL own base K) (hM : zM base K L f s H locs) (ct : Met l y (wz y bytes maxL ret) rm (va_Pc (.ref a :: As) (zPre base K L f)) Qc rm.cells rm.slots free) (zy : zY y bytes maxL ret n) (zv : zV own index y) (ha : a ∈ L) (hf : f a = eS ci fs) (hcl : zCl ci C T N ty) (hyc : y.cls = C)
    (hst : st0 = As.reverse ++ .ref a :: rest) (hn : As.length = n) (hsz : ls.size = nL) (hcat : (rest.map fun v => v.category).sum ≤ 8) (hR : rm.frames + 1 ≤ R.frames ∧ 8 + (maxL + 11) + rm.locals ≤ R.locals) (hcs : cells + rm.cells ≤ R.cells ∧ slots + rm.slots ≤ R.slots) (hdg : decode cc pc = .ok (.invokevirtual index, 3)) :
    va_Run p l e R s m args below meth c H locs cells slots rm.cells rm.slots (F0 m pc ls st0) rest (Qc (Value.ref a :: As).toArray) free := by
  subst hyc
  exact va_runV (z_fix hC) ct ⟨z_callB hC zy zv.1 hR, hC.2.2.2.2.1 _ zv.2.1, hC.2.2.2.2.1 _ zv.2.2⟩ ⟨zPre.blind, z_recv hC hM ha hf hcl, z_pre hC hM⟩ rfl hn hsz hst (lv_room hcat) hdg hcs
theorem z_runS {y : MethodName} {bytes : ByteArray} {maxL n index : Nat} {ret : Option FieldType} {rm : Room} {Qc : Array Value → State → Outcome → State → Prop} {free : Addr → Prop} {As : List Value}
    (hC : zC p s args m c cc nL own base K) (hM : zM base K L f s H locs) (ct : Met l y (wz y bytes maxL ret) rm (va_Pc As (zPre base K L f)) Qc rm.cells rm.slots free) (zy : zY y bytes maxL ret n) (zv : zSt own index y)
    (hst : st0 = As.reverse ++ rest) (hn : As.length = n) (hsz : ls.size = nL) (hcat : (rest.map fun v => v.category).sum ≤ 8) (hR : rm.frames + 1 ≤ R.frames ∧ 8 + (maxL + 11) + rm.locals ≤ R.locals) (hcs : cells + rm.cells ≤ R.cells ∧ slots + rm.slots ≤ R.slots) (hdg : decode cc pc = .ok (.invokestatic index, 3)) :
    va_Run p l e R s m args below meth c H locs cells slots rm.cells rm.slots (F0 m pc ls st0) rest (Qc As.toArray) free :=
  va_runS (z_fix hC) ct ⟨z_callB hC zy zv.1 hR, hC.2.2.2.2.1 _ zv.2⟩ ⟨zPre.blind, z_pre hC hM⟩ rfl hn hsz hst (lv_room hcat) hdg hcs
theorem z_runI {y : MethodName} {bytes : ByteArray} {maxL n index : Nat} {rm : Room} {Qc : Array Value → State → Outcome → State → Prop} {free : Addr → Prop} {As : List Value}
    (hC : zC p s args m c cc nL own base K) (hM : zM base K L f s H locs) (ct : Met l y (wz y bytes maxL none) rm (va_Pc (.ref a :: As) (zPre base K L f)) Qc rm.cells rm.slots free) (zy : zY y bytes maxL none n) (zv : zI own index y)
    (hst : st0 = As.reverse ++ .ref a :: rest) (hn : As.length = n) (hsz : ls.size = nL) (hcat : (rest.map fun v => v.category).sum ≤ 8) (hR : rm.frames + 1 ≤ R.frames ∧ 8 + (maxL + 11) + rm.locals ≤ R.locals) (hcs : cells + rm.cells ≤ R.cells ∧ slots + rm.slots ≤ R.slots) (hdg : decode cc pc = .ok (.invokespecial index, 3)) :
    va_Run p l e R s m args below meth c H locs cells slots rm.cells rm.slots (F0 m pc ls st0) rest (Qc (Value.ref a :: As).toArray) free :=
  va_runI (z_fix hC) ct ⟨z_callB hC zy zv.1 hR, zv.2.2, hC.2.2.2.2.1 _ zv.2.1⟩ ⟨zPre.blind, z_pre hC hM⟩ rfl hn hsz hst (lv_room hcat) hdg hcs
theorem z_calli {mc1 ms1 : Nat} {av : Array Value} {post : Int32 → List Nat → (Nat → va_E) → Prop} (hr : va_Run p l e R s m args below meth c H locs cells slots mc1 ms1 (F0 m pc ls st0) rest (zQi base K post av) (base ≤ ·)) (hM : zM base K L f s H locs)
    (kk : ∀ (r : Int32) (L1 : List Nat) (f1 : Nat → va_E) (H1 : Heap) (locs1 : List Loc), post r L1 f1 → zM base K L1 f1 s H1 locs1 → W p l e R s m args below meth c H1 locs1 (cells + mc1) (slots + ms1) Q (F0 m (pc + 3) ls (.int r :: rest))) : W p l e R s m args below meth c H locs cells slots Q (F0 m pc ls st0) :=
  va_calli hr hM.2.2 (fun _ _ h => h) (fun _ h => h) (fun r u t H1 locs1 ht hvm hp hB _ _ hS => kk r u.1 u.2 H1 locs1 hp ⟨by rw [← ht]; exact hB.1, hB.2, hS⟩)
theorem z_calll {mc1 ms1 : Nat} {av : Array Value} {post : Int64 → List Nat → (Nat → va_E) → Prop} (hr : va_Run p l e R s m args below meth c H locs cells slots mc1 ms1 (F0 m pc ls st0) rest (zQl base K post av) (base ≤ ·)) (hM : zM base K L f s H locs)
    (kk : ∀ (r : Int64) (L1 : List Nat) (f1 : Nat → va_E) (H1 : Heap) (locs1 : List Loc), post r L1 f1 → zM base K L1 f1 s H1 locs1 → W p l e R s m args below meth c H1 locs1 (cells + mc1) (slots + ms1) Q (F0 m (pc + 3) ls (.long r :: rest))) : W p l e R s m args below meth c H locs cells slots Q (F0 m pc ls st0) :=
  va_calll hr hM.2.2 (fun _ _ h => h) (fun _ h => h) (fun r u t H1 locs1 ht hvm hp hB _ _ hS => kk r u.1 u.2 H1 locs1 hp ⟨by rw [← ht]; exact hB.1, hB.2, hS⟩)
theorem z_calld {mc1 ms1 : Nat} {av : Array Value} {post : UInt64 → List Nat → (Nat → va_E) → Prop} (hr : va_Run p l e R s m args below meth c H locs cells slots mc1 ms1 (F0 m pc ls st0) rest (zQd base K post av) (base ≤ ·)) (hM : zM base K L f s H locs)
    (kk : ∀ (r : UInt64) (L1 : List Nat) (f1 : Nat → va_E) (H1 : Heap) (locs1 : List Loc), post r L1 f1 → zM base K L1 f1 s H1 locs1 → W p l e R s m args below meth c H1 locs1 (cells + mc1) (slots + ms1) Q (F0 m (pc + 3) ls (.double r :: rest))) : W p l e R s m args below meth c H locs cells slots Q (F0 m pc ls st0) :=
  va_calld hr hM.2.2 (fun _ _ h => h) (fun _ h => h) (fun r u t H1 locs1 ht hvm hp hB _ _ hS => kk r u.1 u.2 H1 locs1 hp ⟨by rw [← ht]; exact hB.1, hB.2, hS⟩)
theorem z_callv {mc1 ms1 : Nat} {av : Array Value} {post : List Nat → (Nat → va_E) → Prop} (hr : va_Run p l e R s m args below meth c H locs cells slots mc1 ms1 (F0 m pc ls st0) rest (zQv base K post av) (base ≤ ·)) (hM : zM base K L f s H locs)
    (kk : ∀ (L1 : List Nat) (f1 : Nat → va_E) (H1 : Heap) (locs1 : List Loc), post L1 f1 → zM base K L1 f1 s H1 locs1 → W p l e R s m args below meth c H1 locs1 (cells + mc1) (slots + ms1) Q (F0 m (pc + 3) ls rest)) : W p l e R s m args below meth c H locs cells slots Q (F0 m pc ls st0) :=
  va_callv hr hM.2.2 (fun _ _ h => h) (fun _ h => h) (fun u t H1 locs1 ht hvm hp hB _ _ hS => kk u.1 u.2 H1 locs1 hp ⟨by rw [← ht]; exact hB.1, hB.2, hS⟩)
theorem z_callq {mc1 ms1 : Nat} {av : Array Value} {post : Option Nat → List Nat → (Nat → va_E) → Prop} (hr : va_Run p l e R s m args below meth c H locs cells slots mc1 ms1 (F0 m pc ls st0) rest (zQq base K post av) (base ≤ ·)) (hM : zM base K L f s H locs)
    (kk : ∀ (r : Option Nat) (L1 : List Nat) (f1 : Nat → va_E) (H1 : Heap) (locs1 : List Loc), post r L1 f1 → zM base K L1 f1 s H1 locs1 → W p l e R s m args below meth c H1 locs1 (cells + mc1) (slots + ms1) Q (F0 m (pc + 3) ls (va_rf r :: rest))) : W p l e R s m args below meth c H locs cells slots Q (F0 m pc ls st0) :=
  va_callq hr hM.2.2 (fun _ _ h => h) (fun _ h => h) (fun r u t H1 locs1 ht hvm hp hB _ _ hS => kk r u.1 u.2 H1 locs1 hp ⟨by rw [← ht]; exact hB.1, hB.2, hS⟩)
/-- arrays, by whole numbers -/
theorem z_dald {n i : Nat} {g : Nat → UInt64} (hC : zC p s args m c cc nL own base K) (hM : zM base K L f s H locs) (ha : a ∈ L) (hf : f a = eD K n g) (hi : i < n) (hn : n < 2 ^ 31) (hdg : decode cc pc = .ok (.daload, 1))
    (kk : W p l e R s m args below meth c H locs cells slots Q (F0 m (pc + 1) ls (.double (g i) :: rest))) : W p l e R s m args below meth c H locs cells slots Q (F0 m pc ls (.int (nI i) :: .ref a :: rest)) := by
  obtain ⟨q, hq⟩ := pl_at (f := f) ha
  rw [hf] at hq
  refine va_dald hC.1 hC.2.1 hC.2.2.2.2.2.1 hM.1 q 0 hq rfl (vp_in_nI hi hn) hdg ?_
  rw [nI_clamp (by omega)]
  exact kk
theorem z_iald {n i : Nat} {g : Nat → Int32} (hC : zC p s args m c cc nL own base K) (hM : zM base K L f s H locs) (ha : a ∈ L) (hf : f a = eI K n g) (hi : i < n) (hn : n < 2 ^ 31) (hdg : decode cc pc = .ok (.iaload, 1))
    (kk : W p l e R s m args below meth c H locs cells slots Q (F0 m (pc + 1) ls (.int (g i) :: rest))) : W p l e R s m args below meth c H locs cells slots Q (F0 m pc ls (.int (nI i) :: .ref a :: rest)) := by
  obtain ⟨q, hq⟩ := pl_at (f := f) ha
  rw [hf] at hq
  refine va_iald hC.1 hC.2.1 hC.2.2.2.2.2.1 hM.1 q 1 hq rfl (vp_in_nI hi hn) hdg ?_
  rw [nI_clamp (by omega)]
  exact kk
theorem z_zald {n i : Nat} {g : Nat → Int32} (hC : zC p s args m c cc nL own base K) (hM : zM base K L f s H locs) (ha : a ∈ L) (hf : f a = eZ K n g) (hi : i < n) (hn : n < 2 ^ 31) (hdg : decode cc pc = .ok (.baload, 1))
    (kk : W p l e R s m args below meth c H locs cells slots Q (F0 m (pc + 1) ls (.int (g i) :: rest))) : W p l e R s m args below meth c H locs cells slots Q (F0 m pc ls (.int (nI i) :: .ref a :: rest)) := by
  obtain ⟨q, hq⟩ := pl_at (f := f) ha
  rw [hf] at hq
  refine va_zald hC.1 hC.2.1 hC.2.2.2.2.2.1 hM.1 q 2 hq rfl (vp_in_nI hi hn) hdg ?_
  rw [nI_clamp (by omega)]
  exact kk
theorem z_lald {n i : Nat} {g : Nat → Int64} (hC : zC p s args m c cc nL own base K) (hM : zM base K L f s H locs) (ha : a ∈ L) (hf : f a = eJ K n g) (hi : i < n) (hn : n < 2 ^ 31) (hdg : decode cc pc = .ok (.laload, 1))
    (kk : W p l e R s m args below meth c H locs cells slots Q (F0 m (pc + 1) ls (.long (g i) :: rest))) : W p l e R s m args below meth c H locs cells slots Q (F0 m pc ls (.int (nI i) :: .ref a :: rest)) := by
  obtain ⟨q, hq⟩ := pl_at (f := f) ha
  rw [hf] at hq
  refine va_lald hC.1 hC.2.1 hC.2.2.2.2.2.1 hM.1 q 4 hq rfl (vp_in_nI hi hn) hdg ?_
  rw [nI_clamp (by omega)]
  exact kk
theorem z_aald {n i : Nat} {g : Nat → Option Nat} (hC : zC p s args m c cc nL own base K) (hM : zM base K L f s H locs) (ha : a ∈ L) (hf : f a = eO K n g) (hi : i < n) (hn : n < 2 ^ 31) (hdg : decode cc pc = .ok (.aaload, 1))
    (kk : W p l e R s m args below meth c H locs cells slots Q (F0 m (pc + 1) ls (va_rf (g i) :: rest))) : W p l e R s m args below meth c H locs cells slots Q (F0 m pc ls (.int (nI i) :: .ref a :: rest)) := by
  obtain ⟨q, hq⟩ := pl_at (f := f) ha
  rw [hf] at hq
  refine va_aldq hC.1 hC.2.1 hC.2.2.2.2.2.1 hM.1 q 3 hq rfl (vp_in_nI hi hn) hdg ?_
  rw [nI_clamp (by omega)]
  exact kk
theorem z_dast {n i : Nat} {g : Nat → UInt64} {x : UInt64} (hC : zC p s args m c cc nL own base K) (hM : zM base K L f s H locs) (ha : a ∈ L) (hf : f a = eD K n g) (hi : i < n) (hn : n < 2 ^ 31) (hdg : decode cc pc = .ok (.dastore, 1))
    (kk : ∀ (H1 : Heap) (locs1 : List Loc), zM base K L (va_up f a (eD K n (va_up g i x))) s H1 locs1 → W p l e R s m args below meth c H1 locs1 cells slots Q (F0 m (pc + 1) ls rest)) : W p l e R s m args below meth c H locs cells slots Q (F0 m pc ls (.double x :: .int (nI i) :: .ref a :: rest)) := by
  obtain ⟨q, hq⟩ := pl_at (f := f) ha
  have hq' := hq
  rw [hf] at hq
  refine va_dast hC.1 hC.2.1 hC.2.2.2.2.2.1 hM.1 hM.2.1 hM.2.2 q 0 hq rfl (vp_in_nI hi hn) hdg (fun H1 locs1 hP hD hS => ?_)
  rw [nI_clamp (by omega), show vf_upd g i x = va_up g i x from rfl, pl_set hM.2.1 ha hq'] at hP hD
  exact kk H1 locs1 ⟨hP, hD, hS⟩
theorem z_iast {n i : Nat} {g : Nat → Int32} {x : Int32} (hC : zC p s args m c cc nL own base K) (hM : zM base K L f s H locs) (ha : a ∈ L) (hf : f a = eI K n g) (hi : i < n) (hn : n < 2 ^ 31) (hdg : decode cc pc = .ok (.iastore, 1))
    (kk : ∀ (H1 : Heap) (locs1 : List Loc), zM base K L (va_up f a (eI K n (va_up g i x))) s H1 locs1 → W p l e R s m args below meth c H1 locs1 cells slots Q (F0 m (pc + 1) ls rest)) : W p l e R s m args below meth c H locs cells slots Q (F0 m pc ls (.int x :: .int (nI i) :: .ref a :: rest)) := by
  obtain ⟨q, hq⟩ := pl_at (f := f) ha
  have hq' := hq
  rw [hf] at hq
  refine va_iast hC.1 hC.2.1 hC.2.2.2.2.2.1 hM.1 hM.2.1 hM.2.2 q 1 hq rfl (vp_in_nI hi hn) hdg (fun H1 locs1 hP hD hS => ?_)
  rw [nI_clamp (by omega), show upd g i x = va_up g i x from rfl, pl_set hM.2.1 ha hq'] at hP hD
  exact kk H1 locs1 ⟨hP, hD, hS⟩
theorem z_zast {n i : Nat} {g : Nat → Int32} {x : Int32} (hC : zC p s args m c cc nL own base K) (hM : zM base K L f s H locs) (ha : a ∈ L) (hf : f a = eZ K n g) (hi : i < n) (hn : n < 2 ^ 31) (hx : vp_nar .boolean x = x) (hdg : decode cc pc = .ok (.bastore, 1))
    (kk : ∀ (H1 : Heap) (locs1 : List Loc), zM base K L (va_up f a (eZ K n (va_up g i x))) s H1 locs1 → W p l e R s m args below meth c H1 locs1 cells slots Q (F0 m (pc + 1) ls rest)) : W p l e R s m args below meth c H locs cells slots Q (F0 m pc ls (.int x :: .int (nI i) :: .ref a :: rest)) := by
  obtain ⟨q, hq⟩ := pl_at (f := f) ha
  have hq' := hq
  rw [hf] at hq
  refine va_zast hC.1 hC.2.1 hC.2.2.2.2.2.1 hM.1 hM.2.1 hM.2.2 q 2 hq rfl (vp_in_nI hi hn) hdg (fun H1 locs1 hP hD hS => ?_)
  rw [nI_clamp (by omega), hx, show upd g i x = va_up g i x from rfl, pl_set hM.2.1 ha hq'] at hP hD
  exact kk H1 locs1 ⟨hP, hD, hS⟩
theorem z_alen {x : vp_A} {cA : ClassId} {ty : FieldType} {n : Nat} (t0 : Nat) (hC : zC p s args m c cc nL own base K) (hM : zM base K L f s H locs) (ha : a ∈ L) (hf : f a = .inl (cA, x)) (ht : (ztys K)[t0]? = some (cA, ty)) (hn : x.1 = n) (hdg : decode cc pc = .ok (.arraylength, 1))
    (kk : W p l e R s m args below meth c H locs cells slots Q (F0 m (pc + 1) ls (.int (nI n) :: rest))) : W p l e R s m args below meth c H locs cells slots Q (F0 m pc ls (.ref a :: rest)) := by
  obtain ⟨q, hq⟩ := pl_at (f := f) ha
  rw [hf] at hq
  subst hn
  exact va_alen hC.1 hC.2.1 hC.2.2.2.2.2.1 hM.1 q t0 hq ht rfl hdg kk
theorem z_new {C : String} {T : u_T} {N ci index : Nat} {ty : Nat → FieldType} {fs : List Value} (hC : zC p s args m c cc nL own base K) (hM : zM base K L f s H locs) (hcl : zCl ci C T N ty) (zn : zNewW own index C N) (hfs : ∀ j, j < N → defaultValue (ty j) = vp_V fs j) (hcells : cells + 1 ≤ R.cells) (hslots : slots + N ≤ R.slots) (hdg : decode cc pc = .ok (.new index, 3))
    (kk : ∀ (q : Nat) (H1 : Heap), q ∉ L → zM base K (L ++ [q]) (va_up f q (eS ci fs)) s H1 locs → W p l e R s m args below meth c H1 locs (cells + 1) (slots + N) Q (F0 m (pc + 3) ls (.ref q :: rest))) : W p l e R s m args below meth c H locs cells slots Q (F0 m pc ls rest) := by
  have hb : base ≤ s.heap.size := hC.2.2.2.2.2.2.2.2.2.2.2.2.2.2.2.2
  refine va_new hC.1 hC.2.1 hC.2.2.2.2.1 hcl.2.1 ty hcl.2.2.1 hC.2.2.2.1 (hC.2.2.2.2.1 _ zn.1) (hC.2.2.2.2.1 _ zn.2.1) (hC.2.2.2.2.1 _ zn.2.2) hC.2.2.2.2.2.1 hM.1 hM.2.1 hM.2.2 (fun q h => Nat.le_trans hb h) hcl.1 hfs hcells hslots hdg (fun q H1 hP hD hS => ?_)
  have hq : q ∉ L := by
    intro h
    obtain ⟨k, hk⟩ := pl_at (f := f) h
    have hkl : k < (va_pl L f).length := (List.getElem?_eq_some_iff.mp hk).1
    have := hD.1 k (va_pl L f).length (q, f q) (q, eS ci fs) (by rw [List.getElem?_append_left hkl]; exact hk) (by rw [List.getElem?_append_right (Nat.le_refl _)]; simp) rfl
    omega
  rw [va_pl_push hq] at hP hD
  exact kk q H1 hq ⟨hP, hD, hS⟩
end ZS
