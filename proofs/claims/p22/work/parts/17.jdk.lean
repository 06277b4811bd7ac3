/-! THE FRAME, seventh part: rows for the JDK's lists -/
/-- an object of ours that any list may hold -/
def zAny (L : List Nat) (f : Nat → va_E) (y : Nat) : Prop := y ∈ L ∧ ∃ (ci : Nat) (fs : List Value) (C : String) (T : u_T) (N : Nat) (ty : Nat → FieldType), f y = eS ci fs ∧ ci ≠ 0 ∧ zCl ci C T N ty ∧ Cond.castable C "java/lang/Object" ∈ zN
section ZJ
variable {p : Program} {l : Launch} {e : Env} {R : Room} {s : State} {m : MethodId} {args : Array Value} {below : List Frame} {meth : Method} {c : Code} {H : Heap} {locs : List Loc} {cells slots : Nat} {Q : State → Prop}
variable {cc : ByteArray} {nL pc : Nat} {own : String} {base : Nat} {K : zK} {L : List Nat} {f : Nat → va_E} {ls : Array Slot} {rest st0 : List Value} {a : Nat} {mc ms : Nat} {Qc : Array Value → State → Outcome → State → Prop}
theorem z_any (hC : zC p s args m c cc nL own base K) (hM : zM base K L f s H locs) {y : Nat} (h : zAny L f y) : va_Any "java/lang/Object" s H y := by
  obtain ⟨hy, ci, fs, C, T, N, ty, hf, -, hcl, hca⟩ := h
  obtain ⟨q, hq⟩ := pl_at (f := f) hy
  rw [hf] at hq
  exact va_rAny hC.2.2.2.2.2.1 hM.1 hq hcl.1 (vb_asgC (hC.2.2.2.2.2.2.2.2.2.2.2.1 _ hca))
theorem z_aast {n i v : Nat} {g : Nat → Option Nat} (hC : zC p s args m c cc nL own base K) (hM : zM base K L f s H locs) (ha : a ∈ L) (hf : f a = eO K n g) (hv : zAny L f v) (hi : i < n) (hn : n < 2 ^ 31) (hdg : decode cc pc = .ok (.aastore, 1))
    (kk : ∀ (H1 : Heap) (locs1 : List Loc), zM base K L (va_up f a (eO K n (va_up g i (some v)))) s H1 locs1 → W p l e R s m args below meth c H1 locs1 cells slots Q (F0 m (pc + 1) ls rest)) : W p l e R s m args below meth c H locs cells slots Q (F0 m pc ls (.ref v :: .int (nI i) :: .ref a :: rest)) := by
  obtain ⟨q, hq⟩ := pl_at (f := f) ha
  have hq' := hq
  rw [hf] at hq
  refine va_astqM hC.1 hC.2.1 hC.2.2.2.2.2.1 hM.1 hM.2.1 hM.2.2 q 3 hq rfl (z_any hC hM hv) (vp_in_nI hi hn) hdg (fun H1 locs1 hP hD hS => ?_)
  rw [nI_clamp (by omega), pl_set hM.2.1 ha hq'] at hP hD
  exact kk H1 locs1 ⟨hP, hD, hS⟩
theorem z_acopy {index n0 n1 n b : Nat} {g h : Nat → Option Nat} (hC : zC p s args m c cc nL own base K) (hM : zM base K L f s H locs) (hsz : ls.size = nL) (hlk : Cond.methodLink own index arraycopyName ∈ WA) (hb : b ∈ L) (hfb : f b = eO K n0 g) (ha : a ∈ L) (hf : f a = eO K n1 h) (h0 : n ≤ n0) (h1 : n ≤ n1) (hn : n < 2 ^ 31) (hel : ∀ i, i < n → ∀ y, g i = some y → zAny L f y) (w1 : Cond.native arraycopyName ∈ WA) (w2 : Cond.static arraycopyName ∈ WA) (w3 : Cond.initialized "java/lang/System" ∈ WA)
    (hframes : 1 ≤ R.frames) (hlocals : (rest.map fun v => v.category).sum + (nativeFrameWords "java/lang/System" "arraycopy" 5 + 11) ≤ R.locals) (hdg : decode cc pc = .ok (.invokestatic index, 3))
    (kk : ∀ (H1 : Heap) (locs1 : List Loc), zM base K L (va_up f a (eO K n1 (va_cpy g h 0 0 n))) s H1 locs1 → W p l e R s m args below meth c H1 locs1 cells slots Q (F0 m (pc + 3) ls rest)) : W p l e R s m args below meth c H locs cells slots Q (F0 m pc ls (.int (nI n) :: .int (nI 0) :: .ref a :: .int (nI 0) :: .ref b :: rest)) := by
  obtain ⟨q, hq⟩ := pl_at (f := f) ha
  obtain ⟨q2, hq2⟩ := pl_at (f := f) hb
  have hq' := hq
  rw [hf] at hq
  rw [hfb] at hq2
  have z0 : (nI 0).toNatClampNeg = 0 := by decide
  have zn : (nI n).toNatClampNeg = n := nI_clamp hn
  refine va_copyM hC.1 hC.2.1 (hC.2.2.1.trans hsz.symm) hC.2.2.2.1 (hC.2.2.2.2.1 _ hlk) (hC.2.2.2.2.1 _ w1) (hC.2.2.2.2.1 _ w2) (hC.2.2.2.2.1 _ w3) hC.2.2.2.2.2.1 hM.1 hM.2.1 hM.2.2 q2 q 3 3 hq2 hq rfl rfl (by decide) (by decide) (nI_pos hn) (by rw [z0, zn]; omega) (by rw [z0, zn]; omega) (fun i hi y hy => ?_) hframes hlocals hdg (fun H1 locs1 hP hD hS => ?_)
  · rw [zn] at hi
    rw [z0, Nat.zero_add] at hy
    exact z_any hC hM (hel i hi y hy)
  · rw [z0, zn, pl_set hM.2.1 ha hq'] at hP hD
    exact kk H1 locs1 ⟨hP, hD, hS⟩
theorem z_getC {index n : Nat} {g : Nat → Option Nat} (hC : zC p s args m c cc nL own base K) (hM : zM base K L f s H locs) (hsz : ls.size = nL) (hlk : Cond.methodLink own index ⟨"java/lang/Object", "getClass", "()Ljava/lang/Class;"⟩ ∈ WA) (w1 : Cond.declares ⟨"java/lang/Object", "getClass", "()Ljava/lang/Class;"⟩ ∈ zN) (w2 : Cond.selects "[Ljava/lang/Object;" ⟨"java/lang/Object", "getClass", "()Ljava/lang/Class;"⟩ ⟨"java/lang/Object", "getClass", "()Ljava/lang/Class;"⟩ ∈ WA) (w3 : Cond.instanceMethod ⟨"java/lang/Object", "getClass", "()Ljava/lang/Class;"⟩ ∈ WA) (w4 : Cond.native ⟨"java/lang/Object", "getClass", "()Ljava/lang/Class;"⟩ ∈ WA) (ha : a ∈ L) (hf : f a = eO K n g)
    (hframes : 1 ≤ R.frames) (hlocals : (rest.map fun v => v.category).sum + 14 ≤ R.locals) (hdg : decode cc pc = .ok (.invokevirtual index, 3))
    (k : W p l e R s m args below meth c H locs cells slots Q (F0 m (pc + 3) ls (.ref K.2.2.2 :: rest))) : W p l e R s m args below meth c H locs cells slots Q (F0 m pc ls (.ref a :: rest)) := by
  obtain ⟨q, hq⟩ := pl_at (f := f) ha
  rw [hf] at hq
  have hra := (hC.2.2.2.2.2.1.2 3 _ rfl).2
  refine va_getC hC.1 hC.2.1 (hC.2.2.1.trans hsz.symm) hC.2.2.2.1 (hC.2.2.2.2.1 _ hlk) ((hC.2.2.2.2.2.2.2.2.2.2.2.1 _ w1).use rfl) (hC.2.2.2.2.1 _ w2) (hC.2.2.2.2.1 _ w3) (hC.2.2.2.2.1 _ w4) hC.2.2.2.2.2.2.2.2.2.2.2.2.1 ⟨_, hM.1 q _ hq, rfl, va_nmO hra (by decide)⟩ hframes hlocals hdg k
theorem z_ldcM {index : Nat} (hC : zC p s args m c cc nL own base K) (hlk : Cond.classLink own index "[Ljava/lang/Object;" ∈ WA) (hdg : decode cc pc = .ok (.ldc index, 2))
    (k : W p l e R s m args below meth c H locs cells slots Q (F0 m (pc + 2) ls (.ref K.2.2.2 :: rest))) : W p l e R s m args below meth c H locs cells slots Q (F0 m pc ls rest) :=
  va_ldcM hC.1 hC.2.1 hC.2.2.2.1 (hC.2.2.2.2.1 _ hlk) hC.2.2.2.2.2.2.2.2.2.2.2.2.1 hdg k
theorem z_acmp_ne {x y : Option Nat} {vx vy : Value} (hx : vx = va_rf x) (hy : vy = va_rf y) (hexec : p.tables.exec = Jvm.exec) (hb : c.code = cc) {off : Int} {tgt : Nat} (hdg : decode cc pc = .ok (.if_acmp .ne off, 3)) (ht : (pc : Int) + off = (tgt : Int))
    (kt : x ≠ y → W p l e R s m args below meth c H locs cells slots Q (F0 m tgt ls rest)) (kf : x = y → W p l e R s m args below meth c H locs cells slots Q (F0 m (pc + 3) ls rest)) : W p l e R s m args below meth c H locs cells slots Q (F0 m pc ls (vy :: vx :: rest)) := by
  subst hx hy
  exact lv_acmp_ne hexec hb hdg ht kt kf
theorem z_acmp_eq {x y : Option Nat} {vx vy : Value} (hx : vx = va_rf x) (hy : vy = va_rf y) (hexec : p.tables.exec = Jvm.exec) (hb : c.code = cc) {off : Int} {tgt : Nat} (hdg : decode cc pc = .ok (.if_acmp .eq off, 3)) (ht : (pc : Int) + off = (tgt : Int))
    (kt : x = y → W p l e R s m args below meth c H locs cells slots Q (F0 m tgt ls rest)) (kf : x ≠ y → W p l e R s m args below meth c H locs cells slots Q (F0 m (pc + 3) ls rest)) : W p l e R s m args below meth c H locs cells slots Q (F0 m pc ls (vy :: vx :: rest)) := by
  subst hx hy
  exact lv_acmp_eq hexec hb hdg ht kt kf
/-- the empty array of new lists -/
theorem z_gets {index : Nat} (hC : zC p s args m c cc nL own base K) (hM : zM base K L f s H locs) (hlk : Cond.fieldLink own index "java/util/ArrayList" "DEFAULTCAPACITY_EMPTY_ELEMENTDATA" "[Ljava/lang/Object;" ∈ WA) (hdg : decode cc pc = .ok (.getstatic index, 3))
    (k : W p l e R s m args below meth c H locs cells slots Q (F0 m (pc + 3) ls (.ref K.2.2.1 :: rest))) : W p l e R s m args below meth c H locs cells slots Q (F0 m pc ls rest) :=
  va_gets hC.1 hC.2.1 hC.2.2.2.2.2.2.2.2.1 hM.2.2 hC.2.2.2.1 (hC.2.2.2.2.1 _ hlk) (fun _ h => h) hdg k
theorem z_alen0 (hC : zC p s args m c cc nL own base K) (hM : zM base K L f s H locs) (hdg : decode cc pc = .ok (.arraylength, 1))
    (k : W p l e R s m args below meth c H locs cells slots Q (F0 m (pc + 1) ls (.int (nI 0) :: rest))) : W p l e R s m args below meth c H locs cells slots Q (F0 m pc ls (.ref K.2.2.1 :: rest)) := by
  obtain ⟨cell, h1, h2, h3, h4, h5, h6, h7⟩ := hC.2.2.2.2.2.2.2.2.2.1
  have hlt := (Array.getElem?_eq_some_iff.mp h1).1
  refine W.alen (n := nI 0) hC.1 hC.2.1 (by rw [hM.2.2.2.1 _ hlt h7]; exact h1) h2 h5 rfl rfl hdg k
theorem z_zero (hC : zC p s args m c cc nL own base K) (hM : zM base K L f s H locs) : K.2.2.1 ∉ L := by
  intro h
  obtain ⟨k, hk⟩ := pl_at (f := f) h
  have h1 := hM.2.1.2 k _ hk
  have h2 := hC.2.2.2.2.2.2.2.2.2.2.2.2.2.2.2.1
  exact absurd h1 (Nat.not_le.mpr h2)
end ZJ
theorem zj_decl : Cond.declares ⟨"java/lang/Object", "getClass", "()Ljava/lang/Class;"⟩ ∈ zN := zn_in 705 (by decide +kernel) rfl
theorem zj_sel : Cond.selects "[Ljava/lang/Object;" ⟨"java/lang/Object", "getClass", "()Ljava/lang/Class;"⟩ ⟨"java/lang/Object", "getClass", "()Ljava/lang/Class;"⟩ ∈ WA := wa_in 704 (by decide +kernel) rfl
theorem zj_inst : Cond.instanceMethod ⟨"java/lang/Object", "getClass", "()Ljava/lang/Class;"⟩ ∈ WA := wa_in 287 (by decide +kernel) rfl
theorem zj_acs : Cond.static arraycopyName ∈ WA := wa_in 311 (by decide +kernel) rfl
theorem zj_ini : Cond.initialized "java/lang/System" ∈ WA := wa_in 31 (by decide +kernel) rfl
theorem zca_X2 : Cond.castable RX2 "java/lang/Object" ∈ zN := zn_in 700 (by decide +kernel) rfl
theorem zca_X3 : Cond.castable RX3 "java/lang/Object" ∈ zN := zn_in 698 (by decide +kernel) rfl
theorem zca_X4 : Cond.castable RX4 "java/lang/Object" ∈ zN := zn_in 695 (by decide +kernel) rfl
theorem zca_X5 : Cond.castable RX5 "java/lang/Object" ∈ zN := zn_in 699 (by decide +kernel) rfl
theorem zca_D : Cond.castable "[D" "java/lang/Cloneable" ∈ zN := zn_in 577 (by decide +kernel) rfl
theorem z_ishr1 {p : Program} {l : Launch} {e : Env} {R : Room} {s : State} {m : MethodId} {args : Array Value} {below : List Frame} {meth : Method} {c : Code} {H : Heap} {locs : List Loc} {cells slots : Nat} {Q : State → Prop} {cc : ByteArray} {pc : Nat} {ls : Array Slot} {rest : List Value} (hx : p.tables.exec = Jvm.exec) (hb : c.code = cc) {a : Nat} (ha : a < 2 ^ 31) (hdg : decode cc pc = .ok (.ishr, 1)) (k : W p l e R s m args below meth c H locs cells slots Q (F0 m (pc + 1) ls (.int (nI (a / 2)) :: rest))) : W p l e R s m args below meth c H locs cells slots Q (F0 m pc ls (.int (nI 1) :: .int (nI a) :: rest)) := by
  refine lv_ishr hx hb hdg ?_
  have h := pk_shrN (n := a) ha (nI 1 &&& 31) 1 (by decide)
  rw [Nat.pow_one] at h
  rw [h]
  exact k
theorem z_anyUp {L : List Nat} {f f1 : Nat → va_E} {q y : Nat} {e : va_E} (hq : q ∉ L) (h : zAny L f y) (ef : f1 = va_up f q e) : zAny (L ++ [q]) f1 y := by
  obtain ⟨h1, ci, fs, C, T, N, ty, h2, h3⟩ := h
  refine ⟨List.mem_append_left _ h1, ci, fs, C, T, N, ty, ?_, h3⟩
  have hy : y ≠ q := fun z => hq (by rw [← z]; exact h1)
  rw [ef, va_up_ne _ _ hy, h2]
theorem z_anyArr {L : List Nat} {f f1 : Nat → va_E} {a y : Nat} {e : va_E} {x : ClassId × vp_A} (h : zAny L f y) (ha : f a = .inl x) (ef : f1 = va_up f a e) : zAny L f1 y := by
  obtain ⟨h1, ci, fs, C, T, N, ty, h2, h3⟩ := h
  refine ⟨h1, ci, fs, C, T, N, ty, ?_, h3⟩
  rw [ef, va_up_ne _ _ (fun z => by rw [z, ha] at h2; cases h2), h2]
theorem z_anyObj {L : List Nat} {f f1 : Nat → va_E} {a y : Nat} {e : va_E} {fs0 : List Value} (h : zAny L f y) (ha : f a = eS 0 fs0) (ef : f1 = va_up f a e) : zAny L f1 y := by
  obtain ⟨h1, ci, fs, C, T, N, ty, h2, h0, h3⟩ := h
  refine ⟨h1, ci, fs, C, T, N, ty, ?_, h0, h3⟩
  rw [ef, va_up_ne _ _ (fun z => by rw [z, ha] at h2; exact h0 (Prod.mk.inj (Sum.inr.inj h2)).1.symm), h2]
theorem zmx1 : Cond.static Lib.Math.max.name ∈ WA := wa_in 277 (by decide +kernel) rfl
theorem zmx2 : Cond.code Lib.Math.max.name Lib.Math.max.code 2 (some .int) ∈ WA := wa_in 278 (by decide +kernel) rfl
theorem zmn1 : Cond.static Lib.Math.min.name ∈ WA := wa_in 308 (by decide +kernel) rfl
theorem zmn2 : Cond.code Lib.Math.min.name Lib.Math.min.code 2 (some .int) ∈ WA := wa_in 309 (by decide +kernel) rfl
theorem zmi : Cond.initialized "java/lang/Math" ∈ WA := wa_in 29 (by decide +kernel) rfl
section ZMM
variable {p : Program} {l : Launch} {e : Env} {R : Room} {s : State} {m : MethodId} {args : Array Value} {below : List Frame} {meth : Method} {c : Code} {H : Heap} {locs : List Loc} {cells slots : Nat} {Q : State → Prop}
variable {cc : ByteArray} {nL pc : Nat} {own : String} {base : Nat} {K : zK} {ls : Array Slot} {rest : List Value}
theorem z_max {index a b : Nat} (hC : zC p s args m c cc nL own base K) (hsz : ls.size = nL) (hlk : Cond.methodLink own index Lib.Math.max.name ∈ WA) (ha : a < 2 ^ 31) (hb : b < 2 ^ 31) (hf : 1 ≤ R.frames) (hlo : (rest.map fun v => v.category).sum + 13 ≤ R.locals) (hcs : cells ≤ R.cells ∧ slots ≤ R.slots) (hdg : decode cc pc = .ok (.invokestatic index, 3))
    (k : W p l e R s m args below meth c H locs cells slots Q (F0 m (pc + 3) ls (.int (nI (max a b)) :: rest))) : W p l e R s m args below meth c H locs cells slots Q (F0 m pc ls (.int (nI b) :: .int (nI a) :: rest)) := by
  refine va_mmax hC.1 hC.2.1 (hC.2.2.1.trans hsz.symm) hC.2.2.2.1 (hC.2.2.2.2.1 _ hlk) (hC.2.2.2.2.1 _ zmx1) (hC.2.2.2.2.1 _ zmi) (hC.2.2.2.2.1 _ zmx2) hf hlo hcs.1 hcs.2 hdg ?_
  by_cases h : a < b
  · rw [if_pos (nI_lt h hb)]
    rw [Nat.max_eq_right (Nat.le_of_lt h)] at k
    exact k
  · rw [if_neg (nI_nlt (by omega) ha)]
    rw [Nat.max_eq_left (by omega)] at k
    exact k
theorem z_min {index a b : Nat} (hC : zC p s args m c cc nL own base K) (hsz : ls.size = nL) (hlk : Cond.methodLink own index Lib.Math.min.name ∈ WA) (ha : a < 2 ^ 31) (hb : b < 2 ^ 31) (hf : 1 ≤ R.frames) (hlo : (rest.map fun v => v.category).sum + 13 ≤ R.locals) (hcs : cells ≤ R.cells ∧ slots ≤ R.slots) (hdg : decode cc pc = .ok (.invokestatic index, 3))
    (k : W p l e R s m args below meth c H locs cells slots Q (F0 m (pc + 3) ls (.int (nI (min a b)) :: rest))) : W p l e R s m args below meth c H locs cells slots Q (F0 m pc ls (.int (nI b) :: .int (nI a) :: rest)) := by
  refine va_mmin hC.1 hC.2.1 (hC.2.2.1.trans hsz.symm) hC.2.2.2.1 (hC.2.2.2.2.1 _ hlk) (hC.2.2.2.2.1 _ zmn1) (hC.2.2.2.2.1 _ zmi) (hC.2.2.2.2.1 _ zmn2) hf hlo hcs.1 hcs.2 hdg ?_
  by_cases h : b < a
  · rw [if_pos (nI_lt h ha)]
    rw [Nat.min_eq_right (Nat.le_of_lt h)] at k
    exact k
  · rw [if_neg (nI_nlt (by omega) hb)]
    rw [Nat.min_eq_left (by omega)] at k
    exact k
end ZMM
theorem z_objInit {p : Program} {l : Launch} {e : Env} {R : Room} {s : State} {m : MethodId} {args : Array Value} {below : List Frame} {meth : Method} {c : Code} {H : Heap} {locs : List Loc} {cells slots : Nat} {Q : State → Prop} {cc : ByteArray} {nL pc index a : Nat} {own : String} {base : Nat} {K : zK} {ls : Array Slot} {rest : List Value} (hC : zC p s args m c cc nL own base K) (hlk : Cond.methodLink own index objectInit ∈ WA) (hsz : ls.size = nL) (hf : 1 ≤ R.frames) (hlo : (rest.map fun v => v.category).sum + 12 ≤ R.locals) (hdg : decode cc pc = .ok (.invokespecial index, 3))
    (k : W p l e R s m args below meth c H locs cells slots Q (F0 m (pc + 3) ls rest)) : W p l e R s m args below meth c H locs cells slots Q (F0 m pc ls (.ref a :: rest)) :=
  W.objInit (g := F0 m pc ls (.ref a :: rest)) (rest := rest) hC.1 hC.2.1 hC.2.2.2.1 (hC.2.2.2.2.1 _ hlk) (hC.2.2.2.2.1 _ zobj1) (hC.2.2.2.2.1 _ zobj2) rfl (hsz.trans hC.2.2.1.symm) rfl hdg hf (by show 2 * 0 + _ + 12 ≤ _; omega) k
/-- a body of a class that has natives too (Math) -/
theorem z_metF {l : Launch} {y : MethodName} {bytes : ByteArray} {maxL : Nat} {ret : Option FieldType} {rm : Room} {base : Nat} {K : zK} {L : List Nat} {f : Nat → va_E} {av : List Value} {Qc : Array Value → State → Outcome → State → Prop}
    (hy : plainFor y = true) (hlen : (lg_sl av).length ≤ maxL)
    (body : ∀ p e s m below meth c ls, zC p s av.toArray m c bytes maxL y.cls base K → zM base K L f s s.heap [] → meth.sig.returnType = ret → meth.locks = false → meth.name = y.name → lv_has ls maxL (lv_args 0 av) →
      W p l e rm s m av.toArray below meth c s.heap [] 0 0 (MQ below Qc av.toArray s rm.cells rm.slots (base ≤ ·)) (F0 m 0 ls [])) :
    Met l y (wz y bytes maxL ret) rm (va_Pc av (zPre base K L f)) Qc rm.cells rm.slots (base ≤ ·) := by
  refine va_MetF (cc := bytes) (maxL := maxL) (ret := ret) hy rfl ?_
  intro p e s m args below meth c s₁ B hml hv
  obtain ⟨rfl, hpre⟩ := hv
  have hts := atoms_spec (ws := wz y bytes maxL ret) B.pre
  have hown : s.vm.findClass y.cls = some m.cls := findClass_of_methodNamed B.named
  have hl := lv_entry av (n := maxL) hlen
  rw [lg_entry_eq]
  generalize (lg_sl av ++ List.replicate (maxL - (lg_sl av).length) Slot.unset).toArray = ls at hl ⊢
  exact body p e s m below meth c ls ⟨B.exec, B.bytes, hml, hown, fun w hw => hts w (List.mem_cons_of_mem _ hw), hpre.1⟩ (zM.start hpre) B.returns B.notSynchronized (name_of_methodNamed B.named B.method).1 hl
theorem zcl1 : Cond.methodLink RX1 19 ⟨"[D", "clone", "()Ljava/lang/Object;"⟩ ∈ WA := wa_in 572 (by decide +kernel) rfl
theorem zcl2 : Cond.sameMethod "[D" "java/lang/Object" "clone" "()Ljava/lang/Object;" ∈ WA := wa_in 573 (by decide +kernel) rfl
theorem zcl3 : Cond.instanceMethod ⟨"java/lang/Object", "clone", "()Ljava/lang/Object;"⟩ ∈ WA := wa_in 575 (by decide +kernel) rfl
theorem zcl4 : Cond.selects "[D" ⟨"[D", "clone", "()Ljava/lang/Object;"⟩ ⟨"java/lang/Object", "clone", "()Ljava/lang/Object;"⟩ ∈ WA := wa_in 576 (by decide +kernel) rfl
section ZCL
variable {p : Program} {l : Launch} {e : Env} {R : Room} {s : State} {m : MethodId} {args : Array Value} {below : List Frame} {meth : Method} {c : Code} {H : Heap} {locs : List Loc} {cells slots : Nat} {Q : State → Prop}
variable {cc : ByteArray} {nL pc : Nat} {own : String} {base : Nat} {K : zK} {L : List Nat} {f : Nat → va_E} {ls : Array Slot} {rest st0 : List Value} {a : Nat}
theorem z_nmD (hC : zC p s args m c cc nL own base K) : s.vm.findClass "[D" = some (K.2.1 0) := (hC.2.2.2.2.2.1.2 0 _ rfl).2
theorem z_cloneD {n index : Nat} {g : Nat → UInt64} (hC : zC p s args m c cc nL own base K) (hM : zM base K L f s H locs) (hsz : ls.size = nL) (ha : a ∈ L) (hf : f a = eD K n g) (hlk : Cond.methodLink own index ⟨"[D", "clone", "()Ljava/lang/Object;"⟩ ∈ WA)
    (hframes : 1 ≤ R.frames) (hlocals : (rest.map fun v => v.category).sum + 14 ≤ R.locals) (hcells : cells + 1 ≤ R.cells) (hslots : slots + n ≤ R.slots) (hdg : decode cc pc = .ok (.invokevirtual index, 3))
    (kk : ∀ (q : Nat) (H1 : Heap), q ∉ L → zM base K (L ++ [q]) (va_up f q (eD K n g)) s H1 locs → W p l e R s m args below meth c H1 locs (cells + 1) (slots + n) Q (F0 m (pc + 3) ls (.ref q :: rest))) : W p l e R s m args below meth c H locs cells slots Q (F0 m pc ls (.ref a :: rest)) := by
  have hb : base ≤ s.heap.size := hC.2.2.2.2.2.2.2.2.2.2.2.2.2.2.2.2
  obtain ⟨k, hk⟩ := pl_at (f := f) ha
  rw [hf] at hk
  refine va_clone hC.1 hC.2.1 (hC.2.2.1.trans hsz.symm) hC.2.2.2.1 (hC.2.2.2.2.1 _ hlk) (hC.2.2.2.2.1 _ zcl2) (hC.2.2.2.2.1 _ znat_clone) (hC.2.2.2.2.1 _ zcl3) (hC.2.2.2.2.1 _ zcl4) (hC.2.2.2.2.2.2.2.2.2.2.2.1 _ zca_D) hC.2.2.2.2.2.1 hM.1 hM.2.1 hM.2.2 (fun q h => Nat.le_trans hb h) k 0 hk rfl (z_nmD hC) (fun i v hv => ?_) hframes hlocals hcells hslots hdg (fun q H1 hK hP hD hS => ?_)
  · by_cases hi : i < n
    · have := arrV_read (K.2.1 0) (fun j => Value.double (g j)) hi
      rw [vp_cell_d] at hv
      rw [this] at hv
      cases hv
      rfl
    · rw [vp_cell_d, Array.getElem?_eq_none (by rw [arrV_size]; omega)] at hv
      cases hv
  · have hq := z_notin hD
    rw [va_pl_push hq] at hP hD
    exact kk q H1 hq ⟨hP, hD, hS⟩
theorem z_castD {n index : Nat} {g : Nat → UInt64} (hC : zC p s args m c cc nL own base K) (hM : zM base K L f s H locs) (ha : a ∈ L) (hf : f a = eD K n g) (hlk : Cond.classLink own index "[D" ∈ WA) (hdg : decode cc pc = .ok (.checkcast index, 3))
    (k : W p l e R s m args below meth c H locs cells slots Q (F0 m (pc + 3) ls (.ref a :: rest))) : W p l e R s m args below meth c H locs cells slots Q (F0 m pc ls (.ref a :: rest)) := by
  obtain ⟨q, hq⟩ := pl_at (f := f) ha
  rw [hf] at hq
  exact va_castA hC.1 hC.2.1 hC.2.2.2.1 (hC.2.2.2.2.1 _ hlk) hM.1 q hq (z_nmD hC) hdg k
end ZCL
