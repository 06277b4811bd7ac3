/-! THE CLAIM OUT OF ONE WALK OF THE LAW'S BODY. Your part is whole_start (and what it stands on); all else here is the same for every law, but numbers. -/
def R_law : String := "TransitryLaw"
def lw_P (b : Addr) (xs : List Int32) (args : Array Value) (s : State) : Prop := args = #[.ref b] ∧ s.IntsAt b xs ∧ xs.length ≤ 260 ∧ (Jvm.Cond.and given_1 narrow_1).before args s = true
/-- what a walk over the start with the record d0 says of its end, said of the start itself -/
theorem lw_closed {s t : State} {o : Outcome} {d0 : Drawn} {L : List Loc} {k n : Nat} (hd0 : s.drawn.sameBut d0 lw_cs) (hv : ∃ v, o = .returned v) (hW : (s.setDrawn d0).WarmedH t.vm) (hs : (s.setDrawn d0).sameButNew ({ t with vm := s.vm } : State) L k n) : State.butDraws s t lw_cs (fun t1 => Framed s o t1 L k n) := by
  have h2 : t.drawn = d0 := congrArg State.drawn hs.1
  refine ⟨⟨hv, hW, State.sameButNew.setDrawn hs s.drawn⟩, ?_, by decide⟩
  rw [h2]
  exact hd0
def lw_Q (_ : Array Value) (s : State) (o : Outcome) (t : State) : Prop := o = .returned (some (.int 1)) ∧ State.butDraws s t lw_cs (fun t1 => Framed s o t1 [] 600086 7301442)
def lw_Z (below : List Frame) (a : Array Value) (s : State) : State → Prop := fun t => ∃ o, t.status = .running ∧ Ended t below o ∧ lw_Q a s o t
/-- the law's own end, with 1 on the stack, nothing written that was there before, its room as the claim has it; d0: the record of draws at this point (at the entry s.drawn: begin with 'refine W.base ?_' and 'have hd0 := Drawn.sameBut.refl s.drawn lw_cs') -/
theorem lw_ret {p : Program} {l : Launch} {e : Env} {s : State} {m : MethodId} {below : List Frame} {meth : Method} {c : Code} {b : Nat} {d0 : Drawn} (hd0 : s.drawn.sameBut d0 lw_cs) (hx : p.tables.exec = Jvm.exec) (hb : c.code = code) (hr : meth.sig.returnType = ret) (hlocks : meth.locks = false) {pc : Nat} {H : Heap} {ls : Array Slot} (hdg : decode code pc = .ok (.ireturn, 1)) : W p l e room_1 (s.setDrawn d0) m #[Value.ref b] below meth c H [] 600086 7301442 (lw_Z below #[Value.ref b] s) (F0 m pc ls [.int 1]) := by
  intro T hT X
  obtain ⟨fs, hret, hrun, hended, hW, hframe⟩ := X.leave (v := some (.int 1)) (hlocks := hlocks) (fun h => by rw [hr] at h; cases h)
  have hmeth' : T.vm.method? m = some meth := X.method'
  refine ⟨T.setFrames fs, ?_, .returned (some (.int 1)), hrun, hended, rfl, lw_closed hd0 ⟨_, rfl⟩ hW hframe⟩
  jvm_step X.here [X.here.top, hx, hb, hdg, hmeth', hr, ret, narrow_b1]
  (try refine ⟨rfl, ?_⟩); (try refine ⟨rfl, ?_⟩)
  first | (intro acts; rw [hret _ acts rfl rfl rfl]) | rw [hret _ _ rfl rfl rfl]
  exact Steps.refl _
/-- what holds at the law's entry: the machine, the code, the tables' words (any of lw_tbl by 'hts w (by decide +kernel)'), the script of L ints xs at the cell b, what the Statement gives of the start (any of its parts by flat_of_before) -/
def lw_At (p : Program) (s : State) (m : MethodId) (meth : Method) (c : Code) (b L : Nat) (xs : Nat → Int32) : Prop :=
  p.tables.exec = Jvm.exec ∧ c.code = code ∧ meth.sig.returnType = ret ∧ c.maxLocals = 23 ∧ s.vm.findClass R_law = some m.cls ∧ (∀ w ∈ lw_tbl, w.before #[Value.ref b] s = true) ∧ va_X b L xs s s.heap ∧ b < s.heap.size ∧ meth.locks = false ∧ (Jvm.Cond.and given_1 narrow_1).before #[Value.ref b] s = true
theorem eval_int {args : Array Value} {s : State} {tm : Term} {z : Int32} (h : (Cond.eq tm (.int z)).before args s = true) : tm.eval args s none [] s = some (.int z) := by
  cases hv : tm.eval args s none [] s with
  | none => simp [Cond.before, Cond.holds, Cond.value, hv] at h
  | some w =>
    have hz : (Term.int z).eval args s none [] s = some (.int z) := rfl
    simp only [Cond.before, Cond.holds, Cond.value, hv, hz] at h
    cases w <;> simp_all
theorem str_of {args : Array Value} {s : State} {own tx : String} {k : Nat} (h : (Cond.stringRef own k tx).before args s = true) (h2 : (Cond.exactly (.string own k) "java/lang/String").before args s = true) : ∃ a, vk_R own k tx a s := by
  obtain ⟨a, c, cell, k9, he, -⟩ := Cond.exactly_spec h2
  exact ⟨a, vk_R.of h he⟩
theorem arr_of {args : Array Value} {s : State} {ty : FieldType} (h : (Cond.arrayClass ty).before args s = true) : ∃ cA : ClassId, ArrOfT s cA ty ∧ s.vm.findClass ("[" ++ ty.toString) = some cA := by
  obtain ⟨cA, kA, comp, h1, h2, h3⟩ := Cond.arrayClass_spec h
  exact ⟨cA, fun n z => ⟨(fun k h => by cases h), kA, h2, comp, h3⟩, h1⟩
theorem arrO_of {args : Array Value} {s : State} (h : (Cond.arrayOver (.object "java/lang/Object")).before args s = true) : ∃ cA : ClassId, ArrOfT s cA (.object "java/lang/Object") ∧ va_RA s cA (.object "java/lang/Object") := by
  obtain ⟨comp, cA, kA, h1, -, h2, h3, h4⟩ := Cond.arrayOver_spec h
  exact ⟨cA, fun n z => ⟨(fun k h => by cases h), kA, h2, comp, h3⟩, kA, comp, h2, h3, h1, h4⟩
set_option maxHeartbeats 4000000 in
set_option maxRecDepth 100000 in
/-- what the Statement gives at the law's entry, in this proof's words -/
theorem z_start {p : Program} {s : State} {m : MethodId} {meth : Method} {c : Code} {b L : Nat} {xs : Nat → Int32} (C0 : lw_At p s m meth c b L xs) : ∃ K : zK, zC p s #[Value.ref b] m c code 23 RL s.heap.size K := by
  obtain ⟨hx, hb, hr, hml, hown, hts, hX, hbl, hlocks, hgv⟩ := C0
  have hs := flat_of_before _ hgv
  have hA : ∀ a : Nat, a < s.heap.size → ¬ (s.heap.size ≤ a) := fun a h => Nat.not_le.mpr h
  have hW : ∀ w ∈ WA, w.before #[Value.ref b] s = true := fun w hw => hts w (List.mem_filter.mp hw).1
  obtain ⟨c0, i0, k0⟩ := u_known (C := RJx4a65c) (T := TJx4a65c) (N := 3) (n := 3) hW zcl_Jx4a65c.2.1 (hts (.instantiable RJx4a65c 3) (List.mem_of_getElem? (i := 47) (by decide +kernel)))
  obtain ⟨c1, i1, k1⟩ := u_known (C := RX0) (T := TX0) (N := 4) (n := 4) hW zcl_X0.2.1 (hts (.instantiable RX0 4) (List.mem_of_getElem? (i := 73) (by decide +kernel)))
  obtain ⟨c2, i2, k2⟩ := u_known (C := RX1) (T := TX1) (N := 2) (n := 2) hW zcl_X1.2.1 (hts (.instantiable RX1 2) (List.mem_of_getElem? (i := 218) (by decide +kernel)))
  obtain ⟨c3, i3, k3⟩ := u_known (C := RX2) (T := TX2) (N := 3) (n := 3) hW zcl_X2.2.1 (hts (.instantiable RX2 3) (List.mem_of_getElem? (i := 616) (by decide +kernel)))
  obtain ⟨c4, i4, k4⟩ := u_known (C := RX3) (T := TX3) (N := 4) (n := 4) hW zcl_X3.2.1 (hts (.instantiable RX3 4) (List.mem_of_getElem? (i := 356) (by decide +kernel)))
  obtain ⟨c5, i5, k5⟩ := u_known (C := RX4) (T := TX4) (N := 6) (n := 6) hW zcl_X4.2.1 (hts (.instantiable RX4 6) (List.mem_of_getElem? (i := 210) (by decide +kernel)))
  obtain ⟨c6, i6, k6⟩ := u_known (C := RX5) (T := TX5) (N := 6) (n := 6) hW zcl_X5.2.1 (hts (.instantiable RX5 6) (List.mem_of_getElem? (i := 567) (by decide +kernel)))
  obtain ⟨c7, i7, k7⟩ := u_known (C := RX6) (T := TX6) (N := 6) (n := 6) hW zcl_X6.2.1 (hts (.instantiable RX6 6) (List.mem_of_getElem? (i := 39) (by decide +kernel)))
  obtain ⟨aD, bD, nD⟩ := arr_of (hW _ zarr_double)
  obtain ⟨aI, bI, nI⟩ := arr_of (hW _ zarr_int)
  obtain ⟨aZ, bZ, nZ⟩ := arr_of (hW _ zarr_boolean)
  obtain ⟨aJ, bJ, nJ⟩ := arr_of (hW _ zarr_long)
  obtain ⟨aO, bO, nO⟩ := arrO_of (hts (.arrayOver (.object "java/lang/Object")) (List.mem_of_getElem? (i := 305) (by decide +kernel)))
  obtain ⟨a0, e1, e2⟩ := va_Tof (tm := (.static "java/util/ArrayList" "DEFAULTCAPACITY_EMPTY_ELEMENTDATA" "[Ljava/lang/Object;")) (ty := .object "java/lang/Object") (N := 0) (f := fun _ => .null) (A := (s.heap.size ≤ ·)) (by decide) (hs (.arrayOf (.static "java/util/ArrayList" "DEFAULTCAPACITY_EMPTY_ELEMENTDATA" "[Ljava/lang/Object;") (.object "java/lang/Object")) (by decide +kernel)) (eval_int (z := 0) (hs (.eq (.length (.static "java/util/ArrayList" "DEFAULTCAPACITY_EMPTY_ELEMENTDATA" "[Ljava/lang/Object;")) (.int 0)) (by decide +kernel))) (fun j hj => absurd hj (Nat.not_lt_zero j)) hA
  have hZ := va_Zof (A := (s.heap.size ≤ ·)) (hts (.laysStatic "java/util/ArrayList" "DEFAULTCAPACITY_EMPTY_ELEMENTDATA" "[Ljava/lang/Object;") (List.mem_of_getElem? (i := 59) (by decide +kernel))) (hts (.initialized "java/util/ArrayList") (List.mem_of_getElem? (i := 19) (by decide +kernel))) e1 hA
  have hU := vx_Zqof (A := (s.heap.size ≤ ·)) (hts (.laysStatic Bundle.tN "UNASSIGNED_STACK" Bundle.steD) (List.mem_of_getElem? (i := 148) (by decide +kernel))) (hts (.initialized Bundle.tN) (List.mem_of_getElem? (i := 21) (by decide +kernel))) (hs (.isRef (.static Bundle.tN "UNASSIGNED_STACK" Bundle.steD)) (by decide +kernel)) hA
  have hN := vx_Zqof (A := (s.heap.size ≤ ·)) (hts (.laysStatic Bundle.tN "SUPPRESSED_SENTINEL" Bundle.listD) (List.mem_of_getElem? (i := 150) (by decide +kernel))) (hts (.initialized Bundle.tN) (List.mem_of_getElem? (i := 21) (by decide +kernel))) (hs (.isRef (.static Bundle.tN "SUPPRESSED_SENTINEL" Bundle.listD)) (by decide +kernel)) hA
  obtain ⟨mi, hmi⟩ := va_Mi.of (hs (.isRef (.mirror "[Ljava/lang/Object;")) (by decide +kernel))
  have hStr : ∀ q ∈ zstr, ∃ a, vk_R "Transitry" q.1 q.2 a s := by
    unfold zstr
    refine List.forall_mem_cons.mpr ⟨str_of (hts (.stringRef "Transitry" 240 "an argument is out of its range") (List.mem_of_getElem? (i := 162) (by decide +kernel))) (hs (.exactly (.string "Transitry" 240) "java/lang/String") (by decide +kernel)), ?_⟩
    refine List.forall_mem_cons.mpr ⟨str_of (hts (.stringRef "Transitry" 48 "there are as many stars as there can be") (List.mem_of_getElem? (i := 202) (by decide +kernel))) (hs (.exactly (.string "Transitry" 48) "java/lang/String") (by decide +kernel)), ?_⟩
    refine List.forall_mem_cons.mpr ⟨str_of (hts (.stringRef "Transitry" 222 "there is no such star") (List.mem_of_getElem? (i := 332) (by decide +kernel))) (hs (.exactly (.string "Transitry" 222) "java/lang/String") (by decide +kernel)), ?_⟩
    refine List.forall_mem_cons.mpr ⟨str_of (hts (.stringRef "Transitry" 75 "the star has as many planets as it can have") (List.mem_of_getElem? (i := 354) (by decide +kernel))) (hs (.exactly (.string "Transitry" 75) "java/lang/String") (by decide +kernel)), ?_⟩
    refine List.forall_mem_cons.mpr ⟨str_of (hts (.stringRef "Transitry" 233 "there is no such hour") (List.mem_of_getElem? (i := 391) (by decide +kernel))) (hs (.exactly (.string "Transitry" 233) "java/lang/String") (by decide +kernel)), ?_⟩
    refine List.forall_mem_cons.mpr ⟨str_of (hts (.stringRef "Transitry" 237 "the last hour is before the first") (List.mem_of_getElem? (i := 425) (by decide +kernel))) (hs (.exactly (.string "Transitry" 237) "java/lang/String") (by decide +kernel)), ?_⟩
    refine List.forall_mem_cons.mpr ⟨str_of (hts (.stringRef "Transitry" 242 "too few hours were kept") (List.mem_of_getElem? (i := 464) (by decide +kernel))) (hs (.exactly (.string "Transitry" 242) "java/lang/String") (by decide +kernel)), ?_⟩
    refine List.forall_mem_cons.mpr ⟨str_of (hts (.stringRef "Transitry" 244 "the star has no period") (List.mem_of_getElem? (i := 508) (by decide +kernel))) (hs (.exactly (.string "Transitry" 244) "java/lang/String") (by decide +kernel)), ?_⟩
    refine List.forall_mem_cons.mpr ⟨str_of (hts (.stringRef "Transitry" 164 "there are as many worlds as there can be") (List.mem_of_getElem? (i := 566) (by decide +kernel))) (hs (.exactly (.string "Transitry" 164) "java/lang/String") (by decide +kernel)), ?_⟩
    refine List.forall_mem_cons.mpr ⟨str_of (hts (.stringRef "Transitry" 229 "there is no such world") (List.mem_of_getElem? (i := 517) (by decide +kernel))) (hs (.exactly (.string "Transitry" 229) "java/lang/String") (by decide +kernel)), ?_⟩
    refine List.forall_mem_cons.mpr ⟨str_of (hts (.stringRef "Transitry" 231 "there is no such paper") (List.mem_of_getElem? (i := 545) (by decide +kernel))) (hs (.exactly (.string "Transitry" 231) "java/lang/String") (by decide +kernel)), ?_⟩
    refine List.forall_mem_cons.mpr ⟨str_of (hts (.stringRef "Transitry" 208 "a paper cannot cite what was withdrawn or has fallen") (List.mem_of_getElem? (i := 632) (by decide +kernel))) (hs (.exactly (.string "Transitry" 208) "java/lang/String") (by decide +kernel)), ?_⟩
    refine List.forall_mem_cons.mpr ⟨str_of (hts (.stringRef "Transitry" 210 "there are as many papers as there can be") (List.mem_of_getElem? (i := 633) (by decide +kernel))) (hs (.exactly (.string "Transitry" 210) "java/lang/String") (by decide +kernel)), ?_⟩
    refine List.forall_mem_cons.mpr ⟨str_of (hts (.stringRef "Transitry" 212 "the world is withdrawn") (List.mem_of_getElem? (i := 527) (by decide +kernel))) (hs (.exactly (.string "Transitry" 212) "java/lang/String") (by decide +kernel)), ?_⟩
    exact fun _ h => absurd h List.not_mem_nil
  have hNc : ∀ q ∈ znc, va_Nc q.1 q.2 s := by
    unfold znc
    refine List.forall_mem_cons.mpr ⟨va_Nc.of (hs (.not (.castable xIO xIS)) (by decide +kernel)), ?_⟩
    refine List.forall_mem_cons.mpr ⟨va_Nc.of (hs (.not (.castable xIA xIS)) (by decide +kernel)), ?_⟩
    exact fun _ h => absurd h List.not_mem_nil
  obtain ⟨K, hK⟩ : ∃ K : zK, K = ((fun k => if k = 0 then c0 else if k = 1 then c1 else if k = 2 then c2 else if k = 3 then c3 else if k = 4 then c4 else if k = 5 then c5 else if k = 6 then c6 else c7, fun k => if k = 0 then i0 else if k = 1 then i1 else if k = 2 then i2 else if k = 3 then i3 else if k = 4 then i4 else if k = 5 then i5 else if k = 6 then i6 else i7), (fun k => if k = 0 then aD else if k = 1 then aI else if k = 2 then aZ else if k = 3 then aO else aJ), a0, mi) := ⟨_, rfl⟩
  refine ⟨K, hx, hb, hml, hown, hW, ⟨?_, ?_⟩, hU, hN, ?_, ?_, hStr, ?_, ?_, ?_, hNc, ?_, Nat.le_refl _⟩
  · intro k q hq
    rw [hK]
    match k, hq with
    | 0, hq => cases hq; exact k0
    | 1, hq => cases hq; exact k1
    | 2, hq => cases hq; exact k2
    | 3, hq => cases hq; exact k3
    | 4, hq => cases hq; exact k4
    | 5, hq => cases hq; exact k5
    | 6, hq => cases hq; exact k6
    | 7, hq => cases hq; exact k7
    | k + 8, hq => simp [vwCl] at hq
  · intro k q hq
    rw [hK] at hq
    match k, hq with
    | 0, hq => cases hq; exact ⟨bD, nD⟩
    | 1, hq => cases hq; exact ⟨bI, nI⟩
    | 2, hq => cases hq; exact ⟨bZ, nZ⟩
    | 3, hq => cases hq; exact ⟨bO, nO⟩
    | 4, hq => cases hq; exact ⟨bJ, nJ⟩
    | k + 5, hq => simp [ztys] at hq
  · rw [hK]; exact hZ
  · rw [hK]; exact e2
  · exact fun w hw => va_tabs (zk_tab (List.mem_filter.mp hw).2) rfl (hts w (List.mem_filter.mp hw).1)
  · rw [hK]; exact hmi
  · exact va_AO.of (hts (.arrayOver (.object "java/lang/Object")) (List.mem_of_getElem? (i := 305) (by decide +kernel)))
  · rw [hK]
    obtain ⟨cell, h9, -⟩ := e2
    exact (Array.getElem?_eq_some_iff.mp h9).1
