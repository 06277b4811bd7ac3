/-! THE FRAME of this proof: one memory picture for all methods. A world is a list L of addresses and what f says of each (the kit's pool); every contract is said of the whole world (L, f); 'base' is the heap's size when the law begins: all cells of ours lie above it. -/
def WA : List Cond := lw_tbl.filter goodWord
theorem wa_good {w : Cond} (h : w ∈ WA) : (w.onTables && w.keeps) = true ∨ ∃ ty, w = .arrayClass ty := good_of_word (List.mem_filter.mp h).2
theorem wa_in {w : Cond} (i : Nat) (h : lw_tbl[i]? = some w) (g : goodWord w = true) : w ∈ WA := List.mem_filter.mpr ⟨List.mem_of_getElem? h, g⟩
theorem wa_list {ws : List Cond} (ps : List Nat) (hp : ws = ps.filterMap (fun i => lw_tbl[i]?)) (hg : ws.all goodWord = true) : ∀ w ∈ ws, w ∈ WA := by
  intro w hw
  have h1 := List.all_eq_true.mp hg w hw
  rw [hp] at hw
  obtain ⟨i, -, hi⟩ := List.mem_filterMap.mp hw
  exact wa_in i hi h1
abbrev wz (y : MethodName) (b : ByteArray) (n : Nat) (r : Option FieldType) : List Cond := .code y b n r :: WA
theorem wz_in {y : MethodName} {b : ByteArray} {n : Nat} {r : Option FieldType} (h : Cond.code y b n r ∈ WA) : GoodIn WA (wz y b n r) := fun w hw => (List.mem_cons.mp hw).elim (fun e => by rw [e]; exact ⟨h, wa_good h⟩) (fun h => ⟨h, wa_good h⟩)
/-- words that stay, but are not 'good': nests, casts, declarations -/
def zk : Cond → Bool
  | .fieldLinkNest .. => true
  | .methodLinkNest .. => true
  | .castable .. => true
  | .declares .. => true
  | _ => false
def zN : List Cond := lw_tbl.filter zk
theorem zn_in {w : Cond} (i : Nat) (h : lw_tbl[i]? = some w) (g : zk w = true) : w ∈ zN := List.mem_filter.mpr ⟨List.mem_of_getElem? h, g⟩
theorem zk_tab {w : Cond} (h : zk w = true) : w.onTables = true := by
  cases w <;> first | rfl | (simp [zk] at h)
theorem zk_warm {w : Cond} (h : zk w = true) {s U : State} (hW : s.WarmedH U.vm) (hZ : va_Nw w s) : va_Nw w U := by
  cases w with
  | fieldLinkNest a i b n d h0 => exact va_Nw.warmF hW hZ
  | methodLinkNest a i x h0 => exact va_Nw.warmM hW hZ
  | castable a b => exact va_Nw.warmC hW hZ
  | declares x => exact va_Nw.warmD hW hZ
  | _ => simp [zk] at h
/-- class numbers and slots, the array classes by places, the empty array of new lists, the class object of arrays of objects -/
abbrev zK : Type := va_G × (Nat → ClassId) × Nat × Nat
def ztys (K : zK) : List (ClassId × FieldType) := [(K.2.1 0, .double), (K.2.1 1, .int), (K.2.1 2, .boolean), (K.2.1 3, .object "java/lang/Object"), (K.2.1 4, .long)]
abbrev eD (K : zK) (n : Nat) (f : Nat → UInt64) : va_E := .inl (K.2.1 0, n, .inr (.inr (.inr (.inl f))))
abbrev eI (K : zK) (n : Nat) (f : Nat → Int32) : va_E := .inl (K.2.1 1, n, .inl f)
abbrev eZ (K : zK) (n : Nat) (f : Nat → Int32) : va_E := .inl (K.2.1 2, n, .inl f)
abbrev eO (K : zK) (n : Nat) (f : Nat → Option Nat) : va_E := .inl (K.2.1 3, n, .inr (.inr (.inr (.inr f))))
abbrev eJ (K : zK) (n : Nat) (f : Nat → Int64) : va_E := .inl (K.2.1 4, n, .inr (.inl f))
abbrev eS (ci : Nat) (fs : List Value) : va_E := .inr (ci, fs)
def zstr : List (Nat × String) := [(240, "an argument is out of its range"), (48, "there are as many stars as there can be"), (222, "there is no such star"), (75, "the star has as many planets as it can have"), (233, "there is no such hour"), (237, "the last hour is before the first"), (242, "too few hours were kept"), (244, "the star has no period"), (164, "there are as many worlds as there can be"), (229, "there is no such world"), (231, "there is no such paper"), (208, "a paper cannot cite what was withdrawn or has fallen"), (210, "there are as many papers as there can be"), (212, "the world is withdrawn")]
def xIO : String := "java/lang/IndexOutOfBoundsException"
def xIA : String := "java/lang/IllegalArgumentException"
def xIS : String := "java/lang/IllegalStateException"
def znc : List (String × String) := [(xIO, xIS), (xIA, xIS)]
/-- what stays for the whole run: the tables, the statics that are read, the texts -/
def zS (base : Nat) (K : zK) (U : State) (H : Heap) : Prop :=
  va_K K.1 vwCl (ztys K) U ∧ vx_Zq Bundle.tN "UNASSIGNED_STACK" Bundle.steD (base ≤ ·) U H ∧ vx_Zq Bundle.tN "SUPPRESSED_SENTINEL" Bundle.listD (base ≤ ·) U H ∧
  va_Z "java/util/ArrayList" "DEFAULTCAPACITY_EMPTY_ELEMENTDATA" "[Ljava/lang/Object;" (.ref K.2.2.1) (base ≤ ·) U H ∧ va_T (.object "java/lang/Object") K.2.2.1 0 (fun _ => .null) (base ≤ ·) U H ∧
  (∀ q ∈ zstr, ∃ a, vk_R "Transitry" q.1 q.2 a U) ∧ (∀ w ∈ zN, va_Nw w U) ∧ va_Mi "[Ljava/lang/Object;" K.2.2.2 U ∧ va_AO "java/lang/Object" U ∧ (∀ q ∈ znc, va_Nc q.1 q.2 U) ∧ K.2.2.1 < base ∧ base ≤ H.size
theorem zS.warm {base : Nat} {K : zK} {s U : State} {H : Heap} (hW : s.WarmedH U.vm) (h : zS base K s H) : zS base K U H := by
  obtain ⟨h1, h2, h3, h4, h5, h6, h7, h8, h9, h10, h11, h12⟩ := h
  have hv := hW.alike
  exact ⟨va_K.moved hv h1, h2.moved hv, h3.moved hv, va_Z.moved hv h4, va_T.moved hv h5, fun q hq => let ⟨a, ha⟩ := h6 q hq; ⟨a, vk_R.warm hW ha⟩, fun w hw => zk_warm (List.mem_filter.mp hw).2 hW (h7 w hw), va_Mi.moved hv h8, va_AO.moved hv h9, fun q hq => va_Nc.moved hv (h10 q hq), h11, h12⟩
theorem zS.same {base : Nat} {K : zK} {s U : State} {H : Heap} (hv : s.vm = U.vm) (h : zS base K s H) : zS base K U H := by
  obtain ⟨h1, h2, h3, h4, h5, h6, h7, h8, h9, h10, h11, h12⟩ := h
  have ha : s.vm.Alike U.vm := by rw [hv]; exact Vm.Alike.refl _
  exact ⟨va_K.moved ha h1, h2.moved ha, h3.moved ha, va_Z.moved ha h4, va_T.moved ha h5, fun q hq => let ⟨a, h⟩ := h6 q hq; ⟨a, vk_R.same hv.symm h⟩, fun w hw => (h7 w hw).same (zk_tab (List.mem_filter.mp hw).2) hv, va_Mi.moved ha h8, va_AO.moved ha h9, fun q hq => va_Nc.moved ha (h10 q hq), h11, h12⟩
theorem zS.kept {base : Nat} {K : zK} {U : State} {H0 H : Heap} {locs : List Loc} (hS : va_S (base ≤ ·) H0 H locs) (h : zS base K U H0) : zS base K U H := by
  obtain ⟨h1, h2, h3, h4, h5, h6, h7, h8, h9, h10, h11, h12⟩ := h
  exact ⟨h1, h2.kept hS.2.1, h3.kept hS.2.1, h4.kept hS.2.1, h5.kept hS.2.1, h6, h7, h8, h9, h10, h11, Nat.le_trans h12 hS.1⟩
/-- the world of a method at its start, and behind it -/
def zPre (base : Nat) (K : zK) (L : List Nat) (f : Nat → va_E) (U : State) : Prop := zS base K U U.heap ∧ va_P K.1 vwCl (va_pl L f) U.heap ∧ va_D (base ≤ ·) (va_pl L f)
abbrev zW : Type := List Nat × (Nat → va_E)
def zB (base : Nat) (K : zK) (u : zW) (t : State) : Prop := va_P K.1 vwCl (va_pl u.1 u.2) t.heap ∧ va_D (base ≤ ·) (va_pl u.1 u.2)
def zBr (base : Nat) (K : zK) (u : zW × Option Nat) (t : State) : Prop := zB base K u.1 t
theorem zPre.blind {base : Nat} {K : zK} {L : List Nat} {f : Nat → va_E} {av : List Value} : FrameBlind (va_Pc av (zPre base K L f)) := fun a U g mk q => ⟨q.1, zS.same (s := U) (U := U.calling g mk a) rfl q.2.1, q.2.2⟩
/-- the fixed part of a walk -/
def zC (p : Program) (s : State) (args : Array Value) (m : MethodId) (c : Code) (cc : ByteArray) (nL : Nat) (own : String) (base : Nat) (K : zK) : Prop :=
  p.tables.exec = Jvm.exec ∧ c.code = cc ∧ c.maxLocals = nL ∧ s.vm.findClass own = some m.cls ∧ (∀ w ∈ WA, w.before args s = true) ∧ zS base K s s.heap
/-- the moving part -/
def zM (base : Nat) (K : zK) (L : List Nat) (f : Nat → va_E) (s : State) (H : Heap) (locs : List Loc) : Prop := va_P K.1 vwCl (va_pl L f) H ∧ va_D (base ≤ ·) (va_pl L f) ∧ va_S (base ≤ ·) s.heap H locs
theorem zM.start {base : Nat} {K : zK} {L : List Nat} {f : Nat → va_E} {s : State} (h : zPre base K L f s) : zM base K L f s s.heap [] := ⟨h.2.1, h.2.2, va_S.rf⟩
theorem pl_at {L : List Nat} {f : Nat → va_E} {a : Nat} (h : a ∈ L) : ∃ k : Nat, (va_pl L f)[k]? = some (a, f a) := List.getElem?_of_mem (List.mem_map.mpr ⟨a, h, rfl⟩)
theorem pl_set {A : Nat → Prop} {L : List Nat} {f : Nat → va_E} {a k : Nat} {e : va_E} (hD : va_D A (va_pl L f)) (h : a ∈ L) (hk : (va_pl L f)[k]? = some (a, f a)) : (va_pl L f).set k (a, e) = va_pl L (va_up f a e) := by
  have := va_pl_set (X := []) hD h hk (e := e)
  simpa using this
theorem zM.new {base : Nat} {K : zK} {L : List Nat} {f : Nat → va_E} {s : State} {H : Heap} {locs : List Loc} (h : zM base K L f s H locs) {a : Nat} (ha : H.size ≤ a) : a ∉ L := va_pl_fresh (X := []) h.1 ha
theorem zM.lt {base : Nat} {K : zK} {L : List Nat} {f : Nat → va_E} {s : State} {H : Heap} {locs : List Loc} (h : zM base K L f s H locs) {a : Nat} (ha : a ∈ L) : a < H.size := va_pl_lt (X := []) h.1 ha
/-- bundles of words -/
def zCl (ci : Nat) (C : String) (T : u_T) (N : Nat) (ty : Nat → FieldType) : Prop := vwCl[ci]? = some (C, T, N) ∧ (∀ w ∈ u_ws C T N, w ∈ WA) ∧ (∀ k, k < N → parseFieldDescriptor (T k).2.2.1 = some (ty k)) ∧ ∀ a, a < N → ∀ b, b < N → a ≠ b → (T a).2.1 ≠ (T b).2.1
def zL (own : String) (index : Nat) (ref : String) (T : u_T) (k : Nat) : Prop := Cond.fieldLink own index ref (T k).2.1 (T k).2.2.1 ∈ WA ∧ (ref = (T k).1 ∨ Cond.sameField ref (T k).1 (T k).2.1 (T k).2.2.1 ∈ WA)
def zLN (own : String) (index : Nat) (ref : String) (T : u_T) (k : Nat) (host : String) : Prop := Cond.fieldLinkNest own index ref (T k).2.1 (T k).2.2.1 host ∈ zN ∧ ref = (T k).1
def zY (y : MethodName) (bytes : ByteArray) (maxL : Nat) (ret : Option FieldType) (n : Nat) : Prop := Cond.code y bytes maxL ret ∈ WA ∧ Cond.initialized y.cls ∈ WA ∧ y.cls ≠ "java/lang/invoke/MethodHandle" ∧ y.cls ≠ "java/lang/invoke/VarHandle" ∧ (parseMethodDescriptor y.desc).map (fun d => d.parameters.length) = some n
def zV (own : String) (index : Nat) (y : MethodName) : Prop := Cond.methodLink own index y ∈ WA ∧ Cond.instanceMethod y ∈ WA ∧ Cond.selects y.cls y y ∈ WA
def zSt (own : String) (index : Nat) (y : MethodName) : Prop := Cond.methodLink own index y ∈ WA ∧ Cond.static y ∈ WA
def zI (own : String) (index : Nat) (y : MethodName) : Prop := Cond.methodLink own index y ∈ WA ∧ Cond.instanceMethod y ∈ WA ∧ y.name = "<init>"
def zNewW (own : String) (index : Nat) (C : String) (N : Nat) : Prop := Cond.classLink own index C ∈ WA ∧ Cond.instantiable C N ∈ WA ∧ Cond.initialized C ∈ WA
section ZR
variable {p : Program} {l : Launch} {e : Env} {R : Room} {s : State} {m : MethodId} {args : Array Value} {below : List Frame} {meth : Method} {c : Code} {H : Heap} {locs : List Loc} {cells slots : Nat} {Q : State → Prop}
variable {cc : ByteArray} {nL pc : Nat} {own : String} {base : Nat} {K : zK} {L : List Nat} {f : Nat → va_E} {ls : Array Slot} {rest : List Value} {a : Nat}
theorem zS.same_ref {ref : String} {T : u_T} {k : Nat} (hC : zC p s args m c cc nL own base K) (h : ref = (T k).1 ∨ Cond.sameField ref (T k).1 (T k).2.1 (T k).2.2.1 ∈ WA) : ∀ x, s.fieldFound? (T k).1 (T k).2.1 (T k).2.2.1 = some x → s.fieldFound? ref (T k).2.1 (T k).2.2.1 = some x := by
  rcases h with h | h
  · subst h; exact fun _ h => h
  · exact fun x hx => u_same (hC.2.2.2.2.1 _ h) x hx
theorem z_get {ref C : String} {T : u_T} {N ci index k : Nat} {ty : Nat → FieldType} {fs : List Value} {v : Value} (hC : zC p s args m c cc nL own base K) (hM : zM base K L f s H locs) (ha : a ∈ L) (hf : f a = eS ci fs) (hcl : zCl ci C T N ty) (hk : k < N) (hl : zL own index ref T k) (hv : fs[k]? = some v) (hdg : decode cc pc = .ok (.getfield index, 3))
    (kk : W p l e R s m args below meth c H locs cells slots Q (F0 m (pc + 3) ls (v :: rest))) : W p l e R s m args below meth c H locs cells slots Q (F0 m pc ls (.ref a :: rest)) := by
  obtain ⟨q, hq⟩ := pl_at (f := f) ha
  rw [hf] at hq
  exact va_get hC.1 hC.2.1 hC.2.2.2.2.1 hcl.2.1 hC.2.2.2.1 hC.2.2.2.2.2.1 hM.1 q hq hcl.1 k hk (hC.2.2.2.2.1 _ hl.1) (zS.same_ref hC hl.2) hv hdg kk
theorem z_getN {ref C host : String} {T : u_T} {N ci index k : Nat} {ty : Nat → FieldType} {fs : List Value} {v : Value} (hC : zC p s args m c cc nL own base K) (hM : zM base K L f s H locs) (ha : a ∈ L) (hf : f a = eS ci fs) (hcl : zCl ci C T N ty) (hk : k < N) (hl : zLN own index ref T k host) (hv : fs[k]? = some v) (hdg : decode cc pc = .ok (.getfield index, 3))
    (kk : W p l e R s m args below meth c H locs cells slots Q (F0 m (pc + 3) ls (v :: rest))) : W p l e R s m args below meth c H locs cells slots Q (F0 m pc ls (.ref a :: rest)) := by
  obtain ⟨q, hq⟩ := pl_at (f := f) ha
  rw [hf] at hq
  obtain ⟨h1, h2⟩ := hl
  subst h2
  exact va_getN hC.1 hC.2.1 hC.2.2.2.2.1 hcl.2.1 hC.2.2.2.1 hC.2.2.2.2.2.1 hM.1 q hq hcl.1 k hk ((hC.2.2.2.2.2.2.2.2.2.2.2.1 _ h1).use rfl) (fun _ h => h) hv hdg kk
theorem z_put {ref C : String} {T : u_T} {N ci index k : Nat} {ty : Nat → FieldType} {fs fs' : List Value} {v : Value} (hC : zC p s args m c cc nL own base K) (hM : zM base K L f s H locs) (ha : a ∈ L) (hf : f a = eS ci fs) (hcl : zCl ci C T N ty) (hk : k < N) (hl : zL own index ref T k) (hfin : (T k).2.2.2 = false) (hn : narrow (ty k) v = v) (hfit : fits (ty k) v = true) (hlen : k < fs.length) (he : fs.set k v = fs') (hdg : decode cc pc = .ok (.putfield index, 3))
    (kk : ∀ (H1 : Heap) (locs1 : List Loc), zM base K L (va_up f a (eS ci fs')) s H1 locs1 → W p l e R s m args below meth c H1 locs1 cells slots Q (F0 m (pc + 3) ls rest)) : W p l e R s m args below meth c H locs cells slots Q (F0 m pc ls (v :: .ref a :: rest)) := by
  obtain ⟨q, hq⟩ := pl_at (f := f) ha
  have hq' := hq
  rw [hf] at hq
  refine va_put hC.1 hC.2.1 hC.2.2.2.2.1 hcl.2.1 ty hcl.2.2.1 hcl.2.2.2 hC.2.2.2.1 hC.2.2.2.2.2.1 hM.1 hM.2.1 hM.2.2 q hq hcl.1 k hk (hC.2.2.2.2.1 _ hl.1) (zS.same_ref hC hl.2) hfin (hcl.2.2.1 k hk) hn hfit hlen hdg (fun H1 locs1 hP hD hS => ?_)
  rw [he, pl_set hM.2.1 ha hq'] at hP hD
  exact kk H1 locs1 ⟨hP, hD, hS⟩
theorem z_putN {ref C host : String} {T : u_T} {N ci index k : Nat} {ty : Nat → FieldType} {fs fs' : List Value} {v : Value} (hC : zC p s args m c cc nL own base K) (hM : zM base K L f s H locs) (ha : a ∈ L) (hf : f a = eS ci fs) (hcl : zCl ci C T N ty) (hk : k < N) (hl : zLN own index ref T k host) (hfin : (T k).2.2.2 = false) (hn : narrow (ty k) v = v) (hfit : fits (ty k) v = true) (hlen : k < fs.length) (he : fs.set k v = fs') (hdg : decode cc pc = .ok (.putfield index, 3))
    (kk : ∀ (H1 : Heap) (locs1 : List Loc), zM base K L (va_up f a (eS ci fs')) s H1 locs1 → W p l e R s m args below meth c H1 locs1 cells slots Q (F0 m (pc + 3) ls rest)) : W p l e R s m args below meth c H locs cells slots Q (F0 m pc ls (v :: .ref a :: rest)) := by
  obtain ⟨q, hq⟩ := pl_at (f := f) ha
  have hq' := hq
  rw [hf] at hq
  obtain ⟨h1, h2⟩ := hl
  subst h2
  refine va_putN hC.1 hC.2.1 hC.2.2.2.2.1 hcl.2.1 ty hcl.2.2.1 hcl.2.2.2 hC.2.2.2.1 hC.2.2.2.2.2.1 hM.1 hM.2.1 hM.2.2 q hq hcl.1 k hk ((hC.2.2.2.2.2.2.2.2.2.2.2.1 _ h1).use rfl) (fun _ h => h) hfin (hcl.2.2.1 k hk) hn hfit hlen hdg (fun H1 locs1 hP hD hS => ?_)
  rw [he, pl_set hM.2.1 ha hq'] at hP hD
  exact kk H1 locs1 ⟨hP, hD, hS⟩
theorem z_putF {ref C : String} {T : u_T} {N ci index k : Nat} {ty : Nat → FieldType} {fs fs' : List Value} {v : Value} (hC : zC p s args m c cc nL own base K) (hM : zM base K L f s H locs) (hin : meth.name = "<init>") (ha : a ∈ L) (hf : f a = eS ci fs) (hcl : zCl ci C T N ty) (hk : k < N) (hl : zL own index ref T k) (hdecl : (T k).1 = own) (hfin : (T k).2.2.2 = true) (hn : narrow (ty k) v = v) (hfit : fits (ty k) v = true) (hlen : k < fs.length) (he : fs.set k v = fs') (hdg : decode cc pc = .ok (.putfield index, 3))
    (kk : ∀ (H1 : Heap) (locs1 : List Loc), zM base K L (va_up f a (eS ci fs')) s H1 locs1 → W p l e R s m args below meth c H1 locs1 cells slots Q (F0 m (pc + 3) ls rest)) : W p l e R s m args below meth c H locs cells slots Q (F0 m pc ls (v :: .ref a :: rest)) := by
  obtain ⟨q, hq⟩ := pl_at (f := f) ha
  have hq' := hq
  rw [hf] at hq
  refine va_putF hC.1 hC.2.1 hC.2.2.2.2.1 hcl.2.1 ty hcl.2.2.1 hcl.2.2.2 hC.2.2.2.1 hC.2.2.2.2.2.1 hM.1 hM.2.1 hM.2.2 q hq hcl.1 k hk (hC.2.2.2.2.1 _ hl.1) (zS.same_ref hC hl.2) hfin hin hdecl (hcl.2.2.1 k hk) hn hfit hlen hdg (fun H1 locs1 hP hD hS => ?_)
  rw [he, pl_set hM.2.1 ha hq'] at hP hD
  exact kk H1 locs1 ⟨hP, hD, hS⟩
end ZR
