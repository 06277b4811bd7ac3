/-! THE FRAME, third part: throwing, and calls of methods that may throw -/
abbrev zX (base : Nat) (K : zK) (px : String → List Nat → (Nat → va_E) → Prop) := vx_X (fun _ : zW => True) (fun E (u : zW) t => px E u.1 u.2 ∧ zB base K u t) (base ≤ ·)
def zxn : List String := ["java/lang/RuntimeException", "java/lang/Exception"]
def zTh (ik ic : Nat) (cls : String) : Prop := (∀ w ∈ vx_atS RX6 ic cls zxn, w ∈ lw_tbl ∧ (goodWord w || zk w) = true) ∧ (∀ w ∈ Cond.classLink RX6 ik cls :: Cond.initialized cls :: vx_atS RX6 ic cls zxn, vx_ot w = true) ∧ Cond.classLink RX6 ik cls ∈ WA ∧ Cond.initialized cls ∈ WA ∧ Bundle.fit cls = true
section ZT
variable {p : Program} {l : Launch} {e : Env} {R : Room} {s : State} {m : MethodId} {args : Array Value} {below : List Frame} {meth : Method} {c : Code} {H : Heap} {locs : List Loc} {cells slots : Nat} {Q : State → Prop}
variable {cc : ByteArray} {nL pc : Nat} {own : String} {base : Nat} {K : zK} {L : List Nat} {f : Nat → va_E} {ls : Array Slot} {rest st0 : List Value} {a : Nat} {mc ms : Nat} {Qc : Array Value → State → Outcome → State → Prop} {px : String → List Nat → (Nat → va_E) → Prop}
/-- some of the world's cells, as they are or will be said of -/
theorem zM.part {L' : List Nat} {f' : Nat → va_E} (h : zM base K L f s H locs) (hL : ∀ a ∈ L', a ∈ L ∧ f a = f' a) (hn : L'.Nodup) : zM base K L' f' s H locs := by
  obtain ⟨hP, hD, hS⟩ := h
  have at' : ∀ (k : Nat) (q : Nat × va_E), (va_pl L' f')[k]? = some q → ∃ k' : Nat, (va_pl L f)[k']? = some q := by
    intro k q hk
    obtain ⟨b, hb, rfl⟩ := List.mem_map.mp (List.mem_of_getElem? hk)
    obtain ⟨h1, h2⟩ := hL b hb
    obtain ⟨k', hk'⟩ := pl_at (f := f) h1
    exact ⟨k', by rw [hk', h2]⟩
  refine ⟨fun k q hk => let ⟨k', hk'⟩ := at' k q hk; hP k' q hk', ⟨fun i j p q hi hj hpq => ?_, fun k q hk => let ⟨k', hk'⟩ := at' k q hk; hD.2 k' q hk'⟩, hS⟩
  unfold va_pl at hi hj
  rw [List.getElem?_map] at hi hj
  cases h1 : L'[i]? with
  | none => rw [h1] at hi; cases hi
  | some x =>
    cases h2 : L'[j]? with
    | none => rw [h2] at hj; cases hj
    | some y =>
      rw [h1] at hi; rw [h2] at hj
      cases hi; cases hj
      have hxy : x = y := hpq
      subst hxy
      have li := (List.getElem?_eq_some_iff.mp h1)
      have lj := (List.getElem?_eq_some_iff.mp h2)
      obtain ⟨li1, li2⟩ := li
      obtain ⟨lj1, lj2⟩ := lj
      exact (List.getElem_inj hn).mp (li2.trans lj2.symm)
theorem zM.nodup (h : zM base K L f s H locs) : L.Nodup := by
  refine List.pairwise_iff_getElem.mpr (fun i j hi hj hij hE => ?_)
  have e1 : L[i]? = some L[i] := List.getElem?_eq_getElem hi
  have e2 : L[j]? = some L[i] := by rw [hE]; exact List.getElem?_eq_getElem hj
  have := h.2.1.1 i j (L[i], f L[i]) (L[i], f L[i]) (by unfold va_pl; rw [List.getElem?_map, e1]; rfl) (by unfold va_pl; rw [List.getElem?_map, e2]; rfl) rfl
  omega
theorem z_throw {cls text : String} {ik is ic : Nat} (hC : zC p s args m c cc nL RX6 base K) (hM : zM base K L f s H locs) (hst : l.stackTraces = false) (hlk : meth.locks = false) (hxt : ∀ x ∈ c.exceptionTable.toList, False) (hsz : ls.size = nL) (zt : zTh ik ic cls) (hstr : (is, text) ∈ zstr)
    (d0 : decode cc pc = .ok (.new ik, 3)) (d3 : decode cc (pc + 3) = .ok (.dup, 1)) (d4 : decode cc (pc + 4) = .ok (.ldc is, 2)) (d6 : decode cc (pc + 6) = .ok (.invokespecial ic, 3)) (d9 : decode cc (pc + 9) = .ok (.athrow, 1))
    (hR : 5 < R.frames ∧ (rest.map fun v => v.category).sum + 82 ≤ R.locals ∧ cells + 1 ≤ R.cells ∧ slots + 6 ≤ R.slots) (hc : cells + 1 ≤ mc) (hs : slots + 6 ≤ ms) (hp : px cls L f) :
    W p l e R s m args below meth c H locs cells slots (vx_MQ below Qc (zX base K px) args s mc ms (base ≤ ·)) (F0 m pc ls rest) := by
  obtain ⟨h1, hU, hN, h4, h5, h6, h7, h8⟩ := hC.2.2.2.2.2
  obtain ⟨sa, hsa⟩ := h6 _ hstr
  refine vx_throwS (A := (base ≤ ·)) (names := zxn) (text := text) hC.1 hC.2.1 hst hC.2.2.2.1 zt.2.2.2.2 (by decide +kernel) (hC.2.2.2.2.1 _ zt.2.2.1) (hC.2.2.2.2.1 _ zt.2.2.2.1) hsa (fun w hw => ?_) zt.2.1 hU hN hM.2.2 (hsz.trans hC.2.2.1.symm) d0 d3 d4 d6 d9 (fun x hx => (hxt x hx).elim) hR.1 hR.2.1 hR.2.2.1 hR.2.2.2 hlk (fun t ht hz hk => ?_) hM.2.2.2.2 hc hs
  · obtain ⟨g1, g2⟩ := zt.1 w hw
    rcases Bool.or_eq_true _ _ ▸ g2 with g | g
    · exact hC.2.2.2.2.1 w (List.mem_filter.mpr ⟨g1, g⟩)
    · exact (h7 w (List.mem_filter.mpr ⟨g1, g⟩)).use (zk_tab g)
  · refine ⟨(L, f), trivial, ⟨hp, ?_, hM.2.1⟩, ?_⟩
    · exact hM.1.kept (fun k q hq => hk q.1 (hM.1 k q hq).lt)
    · exact ⟨Nat.le_trans hM.2.2.1 hz, fun q h1 h2 => (hk q (Nat.lt_of_lt_of_le h1 hM.2.2.1)).trans (hM.2.2.2.1 q h1 h2)⟩
/-- calls of methods that may throw -/
theorem z_xrunV {y : MethodName} {bytes : ByteArray} {maxL n index ci N : Nat} {C : String} {T : u_T} {ty : Nat → FieldType} {fs : List Value} {ret : Option FieldType} {rm : Room} {Qc : Array Value → State → Outcome → State → Prop} {XC : String → State → State → Prop} {free : Addr → Prop} {As : List Value}
    (hC : zC p s args m c cc nL own base K) (hM : zM base K L f s H locs) (ct : vx_Met l y (wz y bytes maxL ret) rm (va_Pc (.ref a :: As) (zPre base K L f)) Qc XC rm.cells rm.slots free) (zy : zY y bytes maxL ret n) (zv : zV own index y) (ha : a ∈ L) (hf : f a = eS ci fs) (hcl : zCl ci C T N ty) (hyc : y.cls = C)
    (hst : st0 = As.reverse ++ .ref a :: rest) (hn : As.length = n) (hsz : ls.size = nL) (hcat : (rest.map fun v => v.category).sum ≤ 8) (hR : rm.frames + 1 ≤ R.frames ∧ 8 + (maxL + 11) + rm.locals ≤ R.locals) (hcs : cells + rm.cells ≤ R.cells ∧ slots + rm.slots ≤ R.slots) (hdg : decode cc pc = .ok (.invokevirtual index, 3)) :
    vx_Run p l e R s m args below meth c H locs cells slots rm.cells rm.slots (F0 m pc ls st0) rest (Qc (Value.ref a :: As).toArray) XC free := by
  subst hyc
  exact vx_runV (z_fix hC) ct ⟨z_callB hC zy zv.1 hR, hC.2.2.2.2.1 _ zv.2.1, hC.2.2.2.2.1 _ zv.2.2⟩ ⟨zPre.blind, z_recv hC hM ha hf hcl, z_pre hC hM⟩ rfl hn hsz hst (lv_room hcat) hdg hcs
theorem z_xrunS {y : MethodName} {bytes : ByteArray} {maxL n index : Nat} {ret : Option FieldType} {rm : Room} {Qc : Array Value → State → Outcome → State → Prop} {XC : String → State → State → Prop} {free : Addr → Prop} {As : List Value}
    (hC : zC p s args m c cc nL own base K) (hM : zM base K L f s H locs) (ct : vx_Met l y (wz y bytes maxL ret) rm (va_Pc As (zPre base K L f)) Qc XC rm.cells rm.slots free) (zy : zY y bytes maxL ret n) (zv : zSt own index y)
    (hst : st0 = As.reverse ++ rest) (hn : As.length = n) (hsz : ls.size = nL) (hcat : (rest.map fun v => v.category).sum ≤ 8) (hR : rm.frames + 1 ≤ R.frames ∧ 8 + (maxL + 11) + rm.locals ≤ R.locals) (hcs : cells + rm.cells ≤ R.cells ∧ slots + rm.slots ≤ R.slots) (hdg : decode cc pc = .ok (.invokestatic index, 3)) :
    vx_Run p l e R s m args below meth c H locs cells slots rm.cells rm.slots (F0 m pc ls st0) rest (Qc As.toArray) XC free :=
  vx_runS (z_fix hC) ct ⟨z_callB hC zy zv.1 hR, hC.2.2.2.2.1 _ zv.2⟩ ⟨zPre.blind, z_pre hC hM⟩ rfl hn hsz hst (lv_room hcat) hdg hcs
/-- a call that may throw: what is thrown is handed over as it comes -/
theorem z_xq {S : Type} {mc1 ms1 : Nat} {av : Array Value} {px1 : String → List Nat → (Nat → va_E) → Prop} {Qa : State → Outcome → State → Prop} {val : S → Option Value} {post : S → zW → Prop} (hr : vx_Run p l e R s m args below meth c H locs cells slots mc1 ms1 (F0 m pc ls st0) rest Qa (zX base K px1) (base ≤ ·)) (hQ : ∀ st o t, Qa st o t → ∃ r u, o = .returned (val r) ∧ post r u ∧ zB base K u t ∧ va_F (base ≤ ·) st t) (hM : zM base K L f s H locs)
    (kx : ∀ (E : String) (ce : Cell) (q9 : Addr) (L1 : List Nat) (f1 : Nat → va_E) (H1 : Heap) (locs1 : List Loc), px1 E L1 f1 → zM base K L1 f1 s H1 locs1 → H1[q9]? = some ce → ce.vm = .none → s.vm.findClass E = some ce.cls → vx_W p l e R s m args below meth c H1 locs1 (cells + mc1) (slots + ms1) Q (F0 m pc ls rest) q9)
    (kk : ∀ (r : S) (L1 : List Nat) (f1 : Nat → va_E) (H1 : Heap) (locs1 : List Loc), post r (L1, f1) → zM base K L1 f1 s H1 locs1 → W p l e R s m args below meth c H1 locs1 (cells + mc1) (slots + ms1) Q (F0 m (pc + 3) ls ((val r).toList ++ rest))) : W p l e R s m args below meth c H locs cells slots Q (F0 m pc ls st0) := by
  intro T hT X
  rcases hr T hT X with ⟨v, st₀, t, T', LL, h0, X', hL, e1, e2, hq, st⟩ | ⟨q, st₀, t, T', LL, E, ce, h0, X', hL, e1, e2, ⟨u, -, hb, hF⟩, hce, hcv, hcl, st⟩
  · obtain ⟨r, u, hv, hp, hb, hF⟩ := hQ _ _ _ hq
    have hv : v = val r := by cases hv; rfl
    subst hv
    obtain ⟨k1, k2, k3⟩ := vx_keep h0 e1 hM.2.2 (fun _ _ h => h) (fun _ h => h) hL hF
    obtain ⟨t2, a1, b1⟩ := kk r u.1 u.2 T'.heap (locs ++ LL) hp ⟨by rw [e1]; exact hb.1, hb.2, k3⟩ T' rfl X'
    exact ⟨t2, st t2 a1, b1⟩
  · obtain ⟨k1, k2, k3⟩ := vx_keep h0 e1 hM.2.2 (fun _ _ h => h) (fun _ h => h) hL hF
    obtain ⟨t2, a1, b1⟩ := kx E ce q u.1 u.2 T'.heap (locs ++ LL) hb.1 ⟨by rw [e1]; exact hb.2.1, hb.2.2, k3⟩ (by rw [e1]; exact hce) hcv hcl T' rfl X'
    exact ⟨t2, st.trans a1, b1⟩
/-- not caught here -/
theorem z_xout {E : String} {ce : Cell} {q : Addr} (hM : zM base K L f s H locs) (hxt : ∀ x ∈ c.exceptionTable.toList, False) (hlk : meth.locks = false) (hcell : H[q]? = some ce) (hv : ce.vm = .none) (hcl : s.vm.findClass E = some ce.cls) (hp : px E L f) (hc : cells ≤ mc) (hs : slots ≤ ms) :
    vx_W p l e R s m args below meth c H locs cells slots (vx_MQ below Qc (zX base K px) args s mc ms (base ≤ ·)) (F0 m pc ls rest) q :=
  vx_out (fun x hx => (hxt x hx).elim) hlk hcell hv hcl (fun t ht _ => ⟨(L, f), trivial, ⟨hp, hM.B ht⟩, hM.F ht⟩) hM.2.2.2.2 hc hs
theorem z_xcalli {mc1 ms1 : Nat} {av : Array Value} {px1 : String → List Nat → (Nat → va_E) → Prop} {post : Int32 → List Nat → (Nat → va_E) → Prop} (hr : vx_Run p l e R s m args below meth c H locs cells slots mc1 ms1 (F0 m pc ls st0) rest (zQi base K post av) (zX base K px1) (base ≤ ·)) (hM : zM base K L f s H locs) (hxt : ∀ x ∈ c.exceptionTable.toList, False) (hlk : meth.locks = false) (hc : cells + mc1 ≤ mc) (hs : slots + ms1 ≤ ms) (hpx : ∀ E L1 f1, px1 E L1 f1 → px E L1 f1)
    (kk : ∀ (r : Int32) (L1 : List Nat) (f1 : Nat → va_E) (H1 : Heap) (locs1 : List Loc), post r L1 f1 → zM base K L1 f1 s H1 locs1 → W p l e R s m args below meth c H1 locs1 (cells + mc1) (slots + ms1) (vx_MQ below Qc (zX base K px) args s mc ms (base ≤ ·)) (F0 m (pc + 3) ls (.int r :: rest))) : W p l e R s m args below meth c H locs cells slots (vx_MQ below Qc (zX base K px) args s mc ms (base ≤ ·)) (F0 m pc ls st0) :=
  z_xq (av := av) (val := fun r : Int32 => some (.int r)) (post := fun r u => post r u.1 u.2) hr (fun st o t ⟨⟨r, u, h1, h2, h3⟩, h4⟩ => ⟨r, u, h1, h2, h3, h4⟩) hM (fun E ce q9 L1 f1 H1 locs1 hp hM1 h1 h2 h3 => z_xout hM1 hxt hlk h1 h2 h3 (hpx _ _ _ hp) hc hs) kk
theorem z_xcalll {mc1 ms1 : Nat} {av : Array Value} {px1 : String → List Nat → (Nat → va_E) → Prop} {post : Int64 → List Nat → (Nat → va_E) → Prop} (hr : vx_Run p l e R s m args below meth c H locs cells slots mc1 ms1 (F0 m pc ls st0) rest (zQl base K post av) (zX base K px1) (base ≤ ·)) (hM : zM base K L f s H locs) (hxt : ∀ x ∈ c.exceptionTable.toList, False) (hlk : meth.locks = false) (hc : cells + mc1 ≤ mc) (hs : slots + ms1 ≤ ms) (hpx : ∀ E L1 f1, px1 E L1 f1 → px E L1 f1)
    (kk : ∀ (r : Int64) (L1 : List Nat) (f1 : Nat → va_E) (H1 : Heap) (locs1 : List Loc), post r L1 f1 → zM base K L1 f1 s H1 locs1 → W p l e R s m args below meth c H1 locs1 (cells + mc1) (slots + ms1) (vx_MQ below Qc (zX base K px) args s mc ms (base ≤ ·)) (F0 m (pc + 3) ls (.long r :: rest))) : W p l e R s m args below meth c H locs cells slots (vx_MQ below Qc (zX base K px) args s mc ms (base ≤ ·)) (F0 m pc ls st0) :=
  z_xq (av := av) (val := fun r : Int64 => some (.long r)) (post := fun r u => post r u.1 u.2) hr (fun st o t ⟨⟨r, u, h1, h2, h3⟩, h4⟩ => ⟨r, u, h1, h2, h3, h4⟩) hM (fun E ce q9 L1 f1 H1 locs1 hp hM1 h1 h2 h3 => z_xout hM1 hxt hlk h1 h2 h3 (hpx _ _ _ hp) hc hs) kk
theorem z_xcallv {mc1 ms1 : Nat} {av : Array Value} {px1 : String → List Nat → (Nat → va_E) → Prop} {post : List Nat → (Nat → va_E) → Prop} (hr : vx_Run p l e R s m args below meth c H locs cells slots mc1 ms1 (F0 m pc ls st0) rest (zQv base K post av) (zX base K px1) (base ≤ ·)) (hM : zM base K L f s H locs) (hxt : ∀ x ∈ c.exceptionTable.toList, False) (hlk : meth.locks = false) (hc : cells + mc1 ≤ mc) (hs : slots + ms1 ≤ ms) (hpx : ∀ E L1 f1, px1 E L1 f1 → px E L1 f1)
    (kk : ∀ (L1 : List Nat) (f1 : Nat → va_E) (H1 : Heap) (locs1 : List Loc), post L1 f1 → zM base K L1 f1 s H1 locs1 → W p l e R s m args below meth c H1 locs1 (cells + mc1) (slots + ms1) (vx_MQ below Qc (zX base K px) args s mc ms (base ≤ ·)) (F0 m (pc + 3) ls rest)) : W p l e R s m args below meth c H locs cells slots (vx_MQ below Qc (zX base K px) args s mc ms (base ≤ ·)) (F0 m pc ls st0) :=
  z_xq (av := av) (val := fun _ : Unit => none) (post := fun _ u => post u.1 u.2) hr (fun st o t ⟨⟨u, h1, h2, h3⟩, h4⟩ => ⟨(), u, h1, h2, h3, h4⟩) hM (fun E ce q9 L1 f1 H1 locs1 hp hM1 h1 h2 h3 => z_xout hM1 hxt hlk h1 h2 h3 (hpx _ _ _ hp) hc hs) (fun _ => kk)
theorem z_xcallq {mc1 ms1 : Nat} {av : Array Value} {px1 : String → List Nat → (Nat → va_E) → Prop} {post : Option Nat → List Nat → (Nat → va_E) → Prop} (hr : vx_Run p l e R s m args below meth c H locs cells slots mc1 ms1 (F0 m pc ls st0) rest (zQq base K post av) (zX base K px1) (base ≤ ·)) (hM : zM base K L f s H locs) (hxt : ∀ x ∈ c.exceptionTable.toList, False) (hlk : meth.locks = false) (hc : cells + mc1 ≤ mc) (hs : slots + ms1 ≤ ms) (hpx : ∀ E L1 f1, px1 E L1 f1 → px E L1 f1)
    (kk : ∀ (r : Option Nat) (L1 : List Nat) (f1 : Nat → va_E) (H1 : Heap) (locs1 : List Loc), post r L1 f1 → zM base K L1 f1 s H1 locs1 → W p l e R s m args below meth c H1 locs1 (cells + mc1) (slots + ms1) (vx_MQ below Qc (zX base K px) args s mc ms (base ≤ ·)) (F0 m (pc + 3) ls (va_rf r :: rest))) : W p l e R s m args below meth c H locs cells slots (vx_MQ below Qc (zX base K px) args s mc ms (base ≤ ·)) (F0 m pc ls st0) :=
  z_xq (av := av) (val := fun r : Option Nat => some (va_rf r)) (post := fun r u => post r u.1 u.2) hr (fun st o t ⟨⟨r, u, h1, h2, h3⟩, h4⟩ => ⟨r, u, h1, h2, h3, h4⟩) hM (fun E ce q9 L1 f1 H1 locs1 hp hM1 h1 h2 h3 => z_xout hM1 hxt hlk h1 h2 h3 (hpx _ _ _ hp) hc hs) kk
end ZT
theorem zth_IA : zTh 235 239 xIA := ⟨by decide +kernel, by decide +kernel, wa_in 121 (by decide +kernel) rfl, wa_in 24 (by decide +kernel) rfl, by decide +kernel⟩
theorem zth_IO : zTh 220 224 xIO := ⟨by decide +kernel, by decide +kernel, wa_in 323 (by decide +kernel) rfl, wa_in 32 (by decide +kernel) rfl, by decide +kernel⟩
theorem zth_IS : zTh 46 50 xIS := ⟨by decide +kernel, by decide +kernel, wa_in 193 (by decide +kernel) rfl, wa_in 25 (by decide +kernel) rfl, by decide +kernel⟩
