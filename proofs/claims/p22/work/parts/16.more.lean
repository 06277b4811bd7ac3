/-! THE FRAME, sixth part: making arrays, private constructors, references that may be null -/
theorem za_uniq {K : zK} {s : State} {cl : List vw_C} {D : va_G} {cA c0 : ClassId} {ty : FieldType} (h : va_K D cl (ztys K ++ [(cA, ty)]) s) (t0 : Nat) (ht : (ztys K)[t0]? = some (c0, ty)) : cA = c0 := by
  have h1 := (h.2 5 (cA, ty) rfl).2
  have hl : t0 < (ztys K).length := (List.getElem?_eq_some_iff.mp ht).1
  have h2 := (h.2 t0 (c0, ty) (by rw [List.getElem?_append_left hl]; exact ht)).2
  cases ty with
  | object C =>
    obtain ⟨-, -, -, -, -, e1⟩ := h1
    obtain ⟨-, -, -, -, -, e2⟩ := h2
    exact Option.some.inj (e1.symm.trans e2)
  | _ => exact Option.some.inj (Eq.trans (Eq.symm h1) h2)
theorem z_notin {A : Nat → Prop} {L : List Nat} {f : Nat → va_E} {q : Nat} {x : va_E} (hD : va_D A (va_pl L f ++ [(q, x)])) : q ∉ L := by
  intro h
  obtain ⟨k, hk⟩ := pl_at (f := f) h
  have hkl : k < (va_pl L f).length := (List.getElem?_eq_some_iff.mp hk).1
  have := hD.1 k (va_pl L f).length (q, f q) (q, x) (by rw [List.getElem?_append_left hkl]; exact hk) (by rw [List.getElem?_append_right (Nat.le_refl _)]; simp) rfl
  omega
theorem cb_int {n B : Nat} (h : n * 8 ≤ B) : n * componentBytes .int ≤ B := by
  have e : componentBytes FieldType.int = 4 := by decide
  rw [e]
  omega
theorem cb_boolean {n B : Nat} (h : n * 8 ≤ B) : n * componentBytes .boolean ≤ B := by
  have e : componentBytes FieldType.boolean = 1 := by decide
  rw [e]
  omega
theorem cb_double {n B : Nat} (h : n * 8 ≤ B) : n * componentBytes .double ≤ B := by
  have e : componentBytes FieldType.double = 8 := by decide
  rw [e]
  omega
theorem cb_long {n B : Nat} (h : n * 8 ≤ B) : n * componentBytes .long ≤ B := by
  have e : componentBytes FieldType.long = 8 := by decide
  rw [e]
  omega
section ZA
variable {p : Program} {l : Launch} {e : Env} {R : Room} {s : State} {m : MethodId} {args : Array Value} {below : List Frame} {meth : Method} {c : Code} {H : Heap} {locs : List Loc} {cells slots : Nat} {Q : State → Prop}
variable {cc : ByteArray} {nL pc : Nat} {own : String} {base : Nat} {K : zK} {L : List Nat} {f : Nat → va_E} {ls : Array Slot} {rest st0 : List Value} {a : Nat} {mc ms : Nat} {Qc : Array Value → State → Outcome → State → Prop}
theorem z_newa {atype : ArrayType} {ty : FieldType} {x : vp_A} {c0 : ClassId} (t0 : Nat) (ht : (ztys K)[t0]? = some (c0, ty)) (hty : newarray.typeOf atype = ty) {n : Nat} (ha : ∀ cA : ClassId, vp_cell cA x = arrV cA n (fun _ => defaultValue ty)) (hC : zC p s args m c cc nL own base K) (hM : zM base K L f s H locs) (harr : Cond.arrayClass ty ∈ WA) (hn : n * 8 ≤ 536870912) (hbytes : n * componentBytes ty ≤ 536870912) (hcells : cells + 1 ≤ R.cells) (hslots : slots + n ≤ R.slots) (hdg : decode cc pc = .ok (.newarray atype, 2))
    (kk : ∀ (q : Nat) (H1 : Heap), q ∉ L → zM base K (L ++ [q]) (va_up f q (.inl (c0, x))) s H1 locs → W p l e R s m args below meth c H1 locs (cells + 1) (slots + n) Q (F0 m (pc + 2) ls (.ref q :: rest))) : W p l e R s m args below meth c H locs cells slots Q (F0 m pc ls (.int (nI n) :: rest)) := by
  have hb : base ≤ s.heap.size := hC.2.2.2.2.2.2.2.2.2.2.2.2.2.2.2.2
  refine va_newa hC.1 hC.2.1 (atype := atype) (by rw [hty]; exact hC.2.2.2.2.1 _ harr) hty hC.2.2.2.2.2.1 hM.1 hM.2.1 hM.2.2 (fun q h => Nat.le_trans hb h) ha (nI_pos (by omega)) (nI_clamp (by omega)) hbytes hcells hslots hdg (fun q cA H1 hK hP hD hS => ?_)
  have := za_uniq hK t0 ht
  subst this
  have hq := z_notin hD
  rw [va_pl_push hq] at hP hD
  exact kk q H1 hq ⟨hP, hD, hS⟩
theorem z_newI {n : Nat} (hC : zC p s args m c cc nL own base K) (hM : zM base K L f s H locs) (harr : Cond.arrayClass .int ∈ WA) (hn : n * 8 ≤ 536870912) (hcells : cells + 1 ≤ R.cells) (hslots : slots + n ≤ R.slots) (hdg : decode cc pc = .ok (.newarray .int, 2))
    (kk : ∀ (q : Nat) (H1 : Heap), q ∉ L → zM base K (L ++ [q]) (va_up f q (eI K n (fun _ => 0))) s H1 locs → W p l e R s m args below meth c H1 locs (cells + 1) (slots + n) Q (F0 m (pc + 2) ls (.ref q :: rest))) : W p l e R s m args below meth c H locs cells slots Q (F0 m pc ls (.int (nI n) :: rest)) :=
  z_newa (n := n) (x := (n, .inl (fun _ => 0))) 1 rfl rfl (fun _ => rfl) hC hM harr hn (cb_int hn) hcells hslots hdg kk
theorem z_newZ {n : Nat} (hC : zC p s args m c cc nL own base K) (hM : zM base K L f s H locs) (harr : Cond.arrayClass .boolean ∈ WA) (hn : n * 8 ≤ 536870912) (hcells : cells + 1 ≤ R.cells) (hslots : slots + n ≤ R.slots) (hdg : decode cc pc = .ok (.newarray .boolean, 2))
    (kk : ∀ (q : Nat) (H1 : Heap), q ∉ L → zM base K (L ++ [q]) (va_up f q (eZ K n (fun _ => 0))) s H1 locs → W p l e R s m args below meth c H1 locs (cells + 1) (slots + n) Q (F0 m (pc + 2) ls (.ref q :: rest))) : W p l e R s m args below meth c H locs cells slots Q (F0 m pc ls (.int (nI n) :: rest)) :=
  z_newa (n := n) (x := (n, .inl (fun _ => 0))) 2 rfl rfl (fun _ => rfl) hC hM harr hn (cb_boolean hn) hcells hslots hdg kk
theorem z_newD {n : Nat} (hC : zC p s args m c cc nL own base K) (hM : zM base K L f s H locs) (harr : Cond.arrayClass .double ∈ WA) (hn : n * 8 ≤ 536870912) (hcells : cells + 1 ≤ R.cells) (hslots : slots + n ≤ R.slots) (hdg : decode cc pc = .ok (.newarray .double, 2))
    (kk : ∀ (q : Nat) (H1 : Heap), q ∉ L → zM base K (L ++ [q]) (va_up f q (eD K n (fun _ => 0))) s H1 locs → W p l e R s m args below meth c H1 locs (cells + 1) (slots + n) Q (F0 m (pc + 2) ls (.ref q :: rest))) : W p l e R s m args below meth c H locs cells slots Q (F0 m pc ls (.int (nI n) :: rest)) :=
  z_newa (n := n) (x := (n, .inr (.inr (.inr (.inl (fun _ => 0)))))) 0 rfl rfl (fun _ => rfl) hC hM harr hn (cb_double hn) hcells hslots hdg kk
theorem z_newJ {n : Nat} (hC : zC p s args m c cc nL own base K) (hM : zM base K L f s H locs) (harr : Cond.arrayClass .long ∈ WA) (hn : n * 8 ≤ 536870912) (hcells : cells + 1 ≤ R.cells) (hslots : slots + n ≤ R.slots) (hdg : decode cc pc = .ok (.newarray .long, 2))
    (kk : ∀ (q : Nat) (H1 : Heap), q ∉ L → zM base K (L ++ [q]) (va_up f q (eJ K n (fun _ => 0))) s H1 locs → W p l e R s m args below meth c H1 locs (cells + 1) (slots + n) Q (F0 m (pc + 2) ls (.ref q :: rest))) : W p l e R s m args below meth c H locs cells slots Q (F0 m pc ls (.int (nI n) :: rest)) :=
  z_newa (n := n) (x := (n, .inr (.inl (fun _ => 0)))) 4 rfl rfl (fun _ => rfl) hC hM harr hn (cb_long hn) hcells hslots hdg kk
theorem z_newO {n : Nat} {index : Nat} (hC : zC p s args m c cc nL own base K) (hM : zM base K L f s H locs) (hlk : Cond.classLink own index "java/lang/Object" ∈ WA) (hn : n * 8 ≤ 536870912) (hcells : cells + 1 ≤ R.cells) (hslots : slots + n ≤ R.slots) (hdg : decode cc pc = .ok (.anewarray index, 3))
    (kk : ∀ (q : Nat) (H1 : Heap), q ∉ L → zM base K (L ++ [q]) (va_up f q (eO K n (fun _ => none))) s H1 locs → W p l e R s m args below meth c H1 locs (cells + 1) (slots + n) Q (F0 m (pc + 3) ls (.ref q :: rest))) : W p l e R s m args below meth c H locs cells slots Q (F0 m pc ls (.int (nI n) :: rest)) := by
  have hb : base ≤ s.heap.size := hC.2.2.2.2.2.2.2.2.2.2.2.2.2.2.2.2
  refine va_newq hC.1 hC.2.1 hC.2.2.2.1 (hC.2.2.2.2.1 _ hlk) hC.2.2.2.2.2.2.2.2.2.2.2.2.2.1 hC.2.2.2.2.2.1 hM.1 hM.2.1 hM.2.2 (fun q h => Nat.le_trans hb h) (nI_pos (by omega)) (nI_clamp (by omega)) (by omega) hcells hslots hdg (fun q cA H1 hK hP hD hS => ?_)
  have := za_uniq hK 3 rfl
  subst this
  have hq := z_notin hD
  rw [va_pl_push hq] at hP hD
  exact kk q H1 hq ⟨hP, hD, hS⟩
/-- a private constructor of a nest mate -/
theorem z_runIN {y : MethodName} {bytes : ByteArray} {maxL n index : Nat} {host : String} {rm : Room} {Qc : Array Value → State → Outcome → State → Prop} {free : Addr → Prop} {As : List Value}
    (hC : zC p s args m c cc nL own base K) (hM : zM base K L f s H locs) (ct : Met l y (wz y bytes maxL none) rm (va_Pc (.ref a :: As) (zPre base K L f)) Qc rm.cells rm.slots free) (zy : zY y bytes maxL none n) (zv : Cond.methodLinkNest own index y host ∈ zN ∧ Cond.instanceMethod y ∈ WA) (hy1 : y.name = "<init>")
    (hst : st0 = As.reverse ++ .ref a :: rest) (hn : As.length = n) (hsz : ls.size = nL) (hcat : (rest.map fun v => v.category).sum ≤ 8) (hR : rm.frames + 1 ≤ R.frames ∧ 8 + (maxL + 11) + rm.locals ≤ R.locals) (hcs : cells + rm.cells ≤ R.cells ∧ slots + rm.slots ≤ R.slots) (hdg : decode cc pc = .ok (.invokespecial index, 3)) :
    va_Run p l e R s m args below meth c H locs cells slots rm.cells rm.slots (F0 m pc ls st0) rest (Qc (Value.ref a :: As).toArray) free :=
  va_runIN (z_fix hC) ct ⟨va_cnB n hC.2.2.2.2.1 (wz_in zy.1) rfl rfl rfl (hC.2.2.2.2.2.2.2.2.2.2.2.1 _ zv.1) (hC.2.2.2.2.1 _ zy.2.1) zy.2.2 hR, hy1, hC.2.2.2.2.1 _ zv.2⟩ ⟨zPre.blind, z_pre hC hM⟩ rfl hn hsz hst (lv_room hcat) hdg hcs
theorem z_narq (C : String) (v : Option Nat) : narrow (.object C) (va_rf v) = va_rf v := by cases v <;> rfl
theorem z_fitq (C : String) (v : Option Nat) : fits (.object C) (va_rf v) = true := by cases v <;> rfl
/-- a cast to the class that the cell is of -/
theorem z_cast {ci N index : Nat} {C : String} {T : u_T} {ty : Nat → FieldType} {fs : List Value} (hC : zC p s args m c cc nL own base K) (hM : zM base K L f s H locs) (ha : a ∈ L) (hf : f a = eS ci fs) (hcl : zCl ci C T N ty) (hlk : Cond.classLink own index C ∈ WA) (hdg : decode cc pc = .ok (.checkcast index, 3))
    (k : W p l e R s m args below meth c H locs cells slots Q (F0 m (pc + 3) ls (.ref a :: rest))) : W p l e R s m args below meth c H locs cells slots Q (F0 m pc ls (.ref a :: rest)) := by
  have hat : ClassAt s C (K.1.1 ci) := by
    obtain ⟨-, h⟩ := hC.2.2.2.2.2.1.1 ci _ hcl.1
    exact h
  exact va_castS hC.1 hC.2.1 hC.2.2.2.1 (hC.2.2.2.2.1 _ hlk) hat (z_recv hC hM ha hf hcl) hdg k
end ZA
