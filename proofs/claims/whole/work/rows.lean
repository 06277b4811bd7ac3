section
-- ===== PART A: goes FIRST, ahead of the names: the tables' words, and 'selects' of the private methods out of them =====
/-- a private method of a class that the tables say can be made, by its rows of tables_1 -/
def lw_okq (q : MethodName × Nat) : Prop := (q.1.cls ≠ "java/lang/invoke/MethodHandle" ∧ q.1.cls ≠ "java/lang/invoke/VarHandle") ∧ Cond.instantiable q.1.cls q.2 ∈ tables_1 ∧ Cond.privateMethod q.1 ∈ tables_1 ∧ Cond.instanceMethod q.1 ∈ tables_1
theorem lw_p0 : lw_okq (⟨"java/lang/Throwable", "fillInStackTrace", "(I)Ljava/lang/Throwable;"⟩, 6) := ⟨⟨by decide +kernel, by decide +kernel⟩, List.mem_of_getElem? (i := 153) (by decide +kernel), List.mem_of_getElem? (i := 151) (by decide +kernel), List.mem_of_getElem? (i := 152) (by decide +kernel)⟩
theorem lw_p1 : lw_okq (⟨"java/util/ArrayList", "add", "(Ljava/lang/Object;[Ljava/lang/Object;I)V"⟩, 3) := ⟨⟨by decide +kernel, by decide +kernel⟩, List.mem_of_getElem? (i := 35) (by decide +kernel), List.mem_of_getElem? (i := 255) (by decide +kernel), List.mem_of_getElem? (i := 256) (by decide +kernel)⟩
theorem lw_p2 : lw_okq (⟨"java/util/ArrayList", "grow", "()[Ljava/lang/Object;"⟩, 3) := ⟨⟨by decide +kernel, by decide +kernel⟩, List.mem_of_getElem? (i := 35) (by decide +kernel), List.mem_of_getElem? (i := 259) (by decide +kernel), List.mem_of_getElem? (i := 260) (by decide +kernel)⟩
theorem lw_p3 : lw_okq (⟨"java/util/ArrayList", "grow", "(I)[Ljava/lang/Object;"⟩, 3) := ⟨⟨by decide +kernel, by decide +kernel⟩, List.mem_of_getElem? (i := 35) (by decide +kernel), List.mem_of_getElem? (i := 263) (by decide +kernel), List.mem_of_getElem? (i := 264) (by decide +kernel)⟩
theorem lw_p4 : lw_okq (⟨"Transitry", "starAt", "(I)LTransitry$Star;"⟩, 6) := ⟨⟨by decide +kernel, by decide +kernel⟩, List.mem_of_getElem? (i := 27) (by decide +kernel), List.mem_of_getElem? (i := 318) (by decide +kernel), List.mem_of_getElem? (i := 319) (by decide +kernel)⟩
theorem lw_p5 : lw_okq (⟨"Transitry$Star", "showsSpots", "(I)Z"⟩, 6) := ⟨⟨by decide +kernel, by decide +kernel⟩, List.mem_of_getElem? (i := 203) (by decide +kernel), List.mem_of_getElem? (i := 414) (by decide +kernel), List.mem_of_getElem? (i := 415) (by decide +kernel)⟩
theorem lw_p6 : lw_okq (⟨"Transitry", "isHidden", "(I)Z"⟩, 6) := ⟨⟨by decide +kernel, by decide +kernel⟩, List.mem_of_getElem? (i := 27) (by decide +kernel), List.mem_of_getElem? (i := 437) (by decide +kernel), List.mem_of_getElem? (i := 438) (by decide +kernel)⟩
theorem lw_p7 : lw_okq (⟨"Transitry", "hide", "(I)V"⟩, 6) := ⟨⟨by decide +kernel, by decide +kernel⟩, List.mem_of_getElem? (i := 27) (by decide +kernel), List.mem_of_getElem? (i := 441) (by decide +kernel), List.mem_of_getElem? (i := 442) (by decide +kernel)⟩
theorem lw_p8 : lw_okq (⟨"Transitry", "nightsToFold", "(II)LTransitry$Nights;"⟩, 6) := ⟨⟨by decide +kernel, by decide +kernel⟩, List.mem_of_getElem? (i := 27) (by decide +kernel), List.mem_of_getElem? (i := 480) (by decide +kernel), List.mem_of_getElem? (i := 481) (by decide +kernel)⟩
theorem lw_p9 : lw_okq (⟨"Transitry", "nightsToSearch", "(II)LTransitry$Nights;"⟩, 6) := ⟨⟨by decide +kernel, by decide +kernel⟩, List.mem_of_getElem? (i := 27) (by decide +kernel), List.mem_of_getElem? (i := 526) (by decide +kernel), List.mem_of_getElem? (i := 527) (by decide +kernel)⟩
theorem lw_p10 : lw_okq (⟨"Transitry", "periodToTell", "(LTransitry$Nights;I)I"⟩, 6) := ⟨⟨by decide +kernel, by decide +kernel⟩, List.mem_of_getElem? (i := 27) (by decide +kernel), List.mem_of_getElem? (i := 530) (by decide +kernel), List.mem_of_getElem? (i := 531) (by decide +kernel)⟩
theorem lw_p11 : lw_okq (⟨"Transitry", "bestPeriod", "(LTransitry$Nights;I)I"⟩, 6) := ⟨⟨by decide +kernel, by decide +kernel⟩, List.mem_of_getElem? (i := 27) (by decide +kernel), List.mem_of_getElem? (i := 534) (by decide +kernel), List.mem_of_getElem? (i := 535) (by decide +kernel)⟩
theorem lw_p12 : lw_okq (⟨"Transitry", "worldAt", "(I)LTransitry$World;"⟩, 6) := ⟨⟨by decide +kernel, by decide +kernel⟩, List.mem_of_getElem? (i := 27) (by decide +kernel), List.mem_of_getElem? (i := 613) (by decide +kernel), List.mem_of_getElem? (i := 614) (by decide +kernel)⟩
theorem lw_p13 : lw_okq (⟨"Transitry", "paperAt", "(I)LTransitry$Paper;"⟩, 6) := ⟨⟨by decide +kernel, by decide +kernel⟩, List.mem_of_getElem? (i := 27) (by decide +kernel), List.mem_of_getElem? (i := 632) (by decide +kernel), List.mem_of_getElem? (i := 633) (by decide +kernel)⟩
theorem lw_p14 : lw_okq (⟨"Transitry", "letPapersFall", "()I"⟩, 6) := ⟨⟨by decide +kernel, by decide +kernel⟩, List.mem_of_getElem? (i := 27) (by decide +kernel), List.mem_of_getElem? (i := 668) (by decide +kernel), List.mem_of_getElem? (i := 669) (by decide +kernel)⟩
theorem lw_p15 : lw_okq (⟨"TransitryModel", "isStar", "(I)Z"⟩, 27) := ⟨⟨by decide +kernel, by decide +kernel⟩, List.mem_of_getElem? (i := 679) (by decide +kernel), List.mem_of_getElem? (i := 783) (by decide +kernel), List.mem_of_getElem? (i := 784) (by decide +kernel)⟩
def lw_privs_1 : List (MethodName × Nat) := [(⟨"java/lang/Throwable", "fillInStackTrace", "(I)Ljava/lang/Throwable;"⟩, 6), (⟨"java/util/ArrayList", "add", "(Ljava/lang/Object;[Ljava/lang/Object;I)V"⟩, 3), (⟨"java/util/ArrayList", "grow", "()[Ljava/lang/Object;"⟩, 3), (⟨"java/util/ArrayList", "grow", "(I)[Ljava/lang/Object;"⟩, 3), (⟨"Transitry", "starAt", "(I)LTransitry$Star;"⟩, 6), (⟨"Transitry$Star", "showsSpots", "(I)Z"⟩, 6), (⟨"Transitry", "isHidden", "(I)Z"⟩, 6), (⟨"Transitry", "hide", "(I)V"⟩, 6), (⟨"Transitry", "nightsToFold", "(II)LTransitry$Nights;"⟩, 6), (⟨"Transitry", "nightsToSearch", "(II)LTransitry$Nights;"⟩, 6), (⟨"Transitry", "periodToTell", "(LTransitry$Nights;I)I"⟩, 6), (⟨"Transitry", "bestPeriod", "(LTransitry$Nights;I)I"⟩, 6), (⟨"Transitry", "worldAt", "(I)LTransitry$World;"⟩, 6), (⟨"Transitry", "paperAt", "(I)LTransitry$Paper;"⟩, 6), (⟨"Transitry", "letPapersFall", "()I"⟩, 6), (⟨"TransitryModel", "isStar", "(I)Z"⟩, 27)]
theorem lw_r1 : ∀ q ∈ lw_privs_1, lw_okq q := List.forall_mem_cons.mpr ⟨lw_p0, List.forall_mem_cons.mpr ⟨lw_p1, List.forall_mem_cons.mpr ⟨lw_p2, List.forall_mem_cons.mpr ⟨lw_p3, List.forall_mem_cons.mpr ⟨lw_p4, List.forall_mem_cons.mpr ⟨lw_p5, List.forall_mem_cons.mpr ⟨lw_p6, List.forall_mem_cons.mpr ⟨lw_p7, List.forall_mem_cons.mpr ⟨lw_p8, List.forall_mem_cons.mpr ⟨lw_p9, List.forall_mem_cons.mpr ⟨lw_p10, List.forall_mem_cons.mpr ⟨lw_p11, List.forall_mem_cons.mpr ⟨lw_p12, List.forall_mem_cons.mpr ⟨lw_p13, List.forall_mem_cons.mpr ⟨lw_p14, List.forall_mem_cons.mpr ⟨lw_p15, fun _ h => absurd h List.not_mem_nil⟩⟩⟩⟩⟩⟩⟩⟩⟩⟩⟩⟩⟩⟩⟩⟩
theorem lw_p16 : lw_okq (⟨"TransitryModel", "lightOf", "(II)D"⟩, 27) := ⟨⟨by decide +kernel, by decide +kernel⟩, List.mem_of_getElem? (i := 679) (by decide +kernel), List.mem_of_getElem? (i := 802) (by decide +kernel), List.mem_of_getElem? (i := 803) (by decide +kernel)⟩
theorem lw_p17 : lw_okq (⟨"TransitryModel", "thrownFor", "(II)I"⟩, 27) := ⟨⟨by decide +kernel, by decide +kernel⟩, List.mem_of_getElem? (i := 679) (by decide +kernel), List.mem_of_getElem? (i := 837) (by decide +kernel), List.mem_of_getElem? (i := 838) (by decide +kernel)⟩
theorem lw_p18 : lw_okq (⟨"TransitryModel", "hasFew", "(I)Z"⟩, 27) := ⟨⟨by decide +kernel, by decide +kernel⟩, List.mem_of_getElem? (i := 679) (by decide +kernel), List.mem_of_getElem? (i := 841) (by decide +kernel), List.mem_of_getElem? (i := 842) (by decide +kernel)⟩
theorem lw_p19 : lw_okq (⟨"TransitryModel", "scores", "(II)V"⟩, 27) := ⟨⟨by decide +kernel, by decide +kernel⟩, List.mem_of_getElem? (i := 679) (by decide +kernel), List.mem_of_getElem? (i := 845) (by decide +kernel), List.mem_of_getElem? (i := 846) (by decide +kernel)⟩
theorem lw_p20 : lw_okq (⟨"TransitryModel", "meanOf", "(I)D"⟩, 27) := ⟨⟨by decide +kernel, by decide +kernel⟩, List.mem_of_getElem? (i := 679) (by decide +kernel), List.mem_of_getElem? (i := 849) (by decide +kernel), List.mem_of_getElem? (i := 850) (by decide +kernel)⟩
theorem lw_p21 : lw_okq (⟨"TransitryModel", "folds", "(II)V"⟩, 27) := ⟨⟨by decide +kernel, by decide +kernel⟩, List.mem_of_getElem? (i := 679) (by decide +kernel), List.mem_of_getElem? (i := 853) (by decide +kernel), List.mem_of_getElem? (i := 854) (by decide +kernel)⟩
theorem lw_p22 : lw_okq (⟨"TransitryModel", "periodOf", "(II)I"⟩, 27) := ⟨⟨by decide +kernel, by decide +kernel⟩, List.mem_of_getElem? (i := 679) (by decide +kernel), List.mem_of_getElem? (i := 868) (by decide +kernel), List.mem_of_getElem? (i := 869) (by decide +kernel)⟩
theorem lw_p23 : lw_okq (⟨"TransitryModel", "isWorld", "(I)Z"⟩, 27) := ⟨⟨by decide +kernel, by decide +kernel⟩, List.mem_of_getElem? (i := 679) (by decide +kernel), List.mem_of_getElem? (i := 888) (by decide +kernel), List.mem_of_getElem? (i := 889) (by decide +kernel)⟩
theorem lw_p24 : lw_okq (⟨"TransitryModel", "isPaper", "(I)Z"⟩, 27) := ⟨⟨by decide +kernel, by decide +kernel⟩, List.mem_of_getElem? (i := 679) (by decide +kernel), List.mem_of_getElem? (i := 900) (by decide +kernel), List.mem_of_getElem? (i := 901) (by decide +kernel)⟩
theorem lw_p25 : lw_okq (⟨"TransitryModel", "fell", "(I)Z"⟩, 27) := ⟨⟨by decide +kernel, by decide +kernel⟩, List.mem_of_getElem? (i := 679) (by decide +kernel), List.mem_of_getElem? (i := 904) (by decide +kernel), List.mem_of_getElem? (i := 905) (by decide +kernel)⟩
theorem lw_p26 : lw_okq (⟨"TransitryModel", "fallen", "()I"⟩, 27) := ⟨⟨by decide +kernel, by decide +kernel⟩, List.mem_of_getElem? (i := 679) (by decide +kernel), List.mem_of_getElem? (i := 912) (by decide +kernel), List.mem_of_getElem? (i := 913) (by decide +kernel)⟩
def lw_privs_2 : List (MethodName × Nat) := [(⟨"TransitryModel", "lightOf", "(II)D"⟩, 27), (⟨"TransitryModel", "thrownFor", "(II)I"⟩, 27), (⟨"TransitryModel", "hasFew", "(I)Z"⟩, 27), (⟨"TransitryModel", "scores", "(II)V"⟩, 27), (⟨"TransitryModel", "meanOf", "(I)D"⟩, 27), (⟨"TransitryModel", "folds", "(II)V"⟩, 27), (⟨"TransitryModel", "periodOf", "(II)I"⟩, 27), (⟨"TransitryModel", "isWorld", "(I)Z"⟩, 27), (⟨"TransitryModel", "isPaper", "(I)Z"⟩, 27), (⟨"TransitryModel", "fell", "(I)Z"⟩, 27), (⟨"TransitryModel", "fallen", "()I"⟩, 27)]
theorem lw_r2 : ∀ q ∈ lw_privs_2, lw_okq q := List.forall_mem_cons.mpr ⟨lw_p16, List.forall_mem_cons.mpr ⟨lw_p17, List.forall_mem_cons.mpr ⟨lw_p18, List.forall_mem_cons.mpr ⟨lw_p19, List.forall_mem_cons.mpr ⟨lw_p20, List.forall_mem_cons.mpr ⟨lw_p21, List.forall_mem_cons.mpr ⟨lw_p22, List.forall_mem_cons.mpr ⟨lw_p23, List.forall_mem_cons.mpr ⟨lw_p24, List.forall_mem_cons.mpr ⟨lw_p25, List.forall_mem_cons.mpr ⟨lw_p26, fun _ h => absurd h List.not_mem_nil⟩⟩⟩⟩⟩⟩⟩⟩⟩⟩⟩
def lw_privs : List (MethodName × Nat) := lw_privs_1 ++ (lw_privs_2)
def lw_tbl : List Cond := k2_sels lw_privs ++ tables_1
theorem lw_privs_ok : ∀ q ∈ lw_privs, lw_okq q := by
  show ∀ q ∈ lw_privs_1 ++ (lw_privs_2), lw_okq q
  exact List.forall_mem_append.mpr ⟨lw_r1, lw_r2⟩
/-- the streams that the claim lets the run draw from -/
abbrev lw_cs : List Choice := [Jvm.Choice.named "NaN.bits"]
theorem lw_bits : nanBits ∈ lw_cs := by first | decide | exact List.mem_cons_self | simp [lw_cs, nanBits]
-- ===== end of PART A; then your names; then what follows =====
end
section
/-! ===== BEGIN words of one list among another's, by their places ===== -/
theorem goodIn_r {big : List Cond} (ws : List Cond) (ps : List Nat) (hp : ws = ps.filterMap (fun i => big[i]?)) (h : ws.all goodWord = true) : GoodIn big ws := by
  intro w hw
  have h1 := List.all_eq_true.mp h w hw
  rw [hp] at hw
  obtain ⟨i, -, hi⟩ := List.mem_filterMap.mp hw
  have hm : w ∈ big := by first | exact List.mem_of_getElem? hi | exact List.getElem?_mem hi
  exact ⟨hm, good_of_word h1⟩
theorem goodIn_app {big a b : List Cond} (ha : GoodIn big a) (hb : GoodIn big b) : GoodIn big (a ++ b) := fun w h => (List.mem_append.mp h).elim (ha w) (hb w)
theorem goodIn_ca {big a b : List Cond} {c : Cond} (ha : GoodIn big (c :: a)) (hb : GoodIn big b) : GoodIn big (c :: (a ++ b)) := fun w h => (List.mem_cons.mp h).elim (fun e => ha w (List.mem_cons.mpr (Or.inl e))) (fun h => (List.mem_append.mp h).elim (fun h => ha w (List.mem_cons.mpr (Or.inr h))) (hb w))
theorem goodIn_sub {big ws : List Cond} (hm : ∀ w ∈ ws, w ∈ big) (h : ws.all goodWord = true) : GoodIn big ws := fun w hw => ⟨hm w hw, good_of_word (List.all_eq_true.mp h w hw)⟩
/-! ===== END ===== -/

/-! ===== BEGIN exceptions that leave a method, and their catching by the caller (launches without stack traces) ===== -/
section VXA
/-! The laws vx_back, vx_callV, vx_callS, vx_callSW, vx_throw0, vx_throwS follow proofs of the library, with one case more: JvmDerived/Free/Laws.lean (Back.of_free), Shelf42/LK1.lean (callV, callS), Shelf/KitTraced.lean (throwNew0V, throwNewS). -/
/-- where a method has thrown q: the class by its name, the cell, what was written, the world -/
def vx_T (XC : String → State → State → Prop) (st : State) (q : Addr) (t : State) (mc ms : Nat) (free : Addr → Prop) : Prop :=
  ∃ (E : String) (ce : Cell) (L : List Loc), XC E st t ∧ t.heap[q]? = some ce ∧ ce.vm = .none ∧ st.vm.findClass E = some ce.cls ∧ st.WarmedH t.vm ∧ st.sameButNew ({ t with vm := st.vm } : State) L mc ms ∧ ∀ z ∈ L, free z.base
def vx_Q (Qc : Array Value → State → Outcome → State → Prop) (XC : String → State → State → Prop) (mc ms : Nat) (free : Addr → Prop) : Array Value → State → Outcome → State → Prop := fun a st o t =>
  (Qc a st o t ∧ ∃ L, FrameEnd st o t L mc ms ∧ ∀ q ∈ L, free q.base) ∨ ∃ q, o = .threw q ∧ vx_T XC st q t mc ms free
/-- a callee that returns or throws -/
def vx_Met (l : Launch) (y : MethodName) (ws : List Cond) (rm : Room) (Pc : Array Value → State → Prop) (Qc : Array Value → State → Outcome → State → Prop) (XC : String → State → State → Prop) (mc ms : Nat) (free : Addr → Prop) : Prop :=
  MetFree l y (headSpec ws rm) Pc (fun _ _ _ _ _ => True) (vx_Q Qc XC mc ms free)
def vx_Post (XC : String → State → State → Prop) (mc ms : Nat) (free : Addr → Prop) : Pt → Array Value → Addr → Pt → Prop := fun A a q B =>
  ∃ (g : JFrame) (mk : MethodId) (t : State) (L : List Loc) (E : String) (ce : Cell), B.U.heap = t.heap ∧ B.U.vm = t.vm ∧ XC E (A.U.calling g mk a) t ∧ t.heap[q]? = some ce ∧ ce.vm = .none ∧ A.U.vm.findClass E = some ce.cls ∧ B.locs = A.locs ++ L ∧ (∀ z ∈ L, free z.base) ∧ B.cells = A.cells + mc ∧ B.slots = A.slots + ms
def vx_Back (l : Launch) (R : Room) (p : Program) (e : Env) (below : List Frame) (s : State) (sargs : Array Value) (y : MethodName) (len W9 : Nat)
    (Pre : Pt → Array Value → Prop) (Post : Pt → Array Value → Option Value → Pt → Prop) (PostX : Pt → Array Value → Addr → Pt → Prop) : Prop :=
  ∀ (m : MethodId) (meth : Method) (c : Code) (A : Pt) (g : JFrame) (ig : Instr) (mk : MethodId) (a : Array Value),
    Stand p l e R s m sargs below meth c A.U A.locs A.cells A.slots → g.method = m → g.locals.size = c.maxLocals → decode c.code g.pc = .ok (ig, len) →
    2 * g.monitorRoom + (g.stack.map fun v => v.category).sum ≤ W9 → A.U.methodNamed? y = some mk → Pre A a →
    (∃ (v : Option Value) (B : Pt), Stand p l e R s m sargs below meth c B.U B.locs B.cells B.slots ∧ Post A a v B ∧
      Steps p.tables e below (doInvoke e (A.U.setTop g) [] mk a).1 (B.U.setTop { g with pc := g.pc + len, stack := v.toList ++ g.stack })) ∨
    (∃ (q : Addr) (B : Pt), Stand p l e R s m sargs below meth c B.U B.locs B.cells B.slots ∧ PostX A a q B ∧
      Steps p.tables e below (doInvoke e (A.U.setTop g) [] mk a).1 ((B.U.setTop g).pushFrame (.throwing q)))
section Payer
variable {l : Launch} {R : Room} {p : Program} {e : Env} {below : List Frame} {s : State} {sargs : Array Value} {y : MethodName} {len W9 : Nat}
theorem vx_back {ws : List Cond} {rm : Room} {Pc : Array Value → State → Prop} {Qc : Array Value → State → Outcome → State → Prop} {XC : String → State → State → Prop} {mc ms : Nat} {free : Addr → Prop} {bytes : ByteArray} {maxL : Nat} {ret : Option FieldType}
    (hM : vx_Met l y ws rm Pc Qc XC mc ms free) (hblind : FrameBlind Pc) (hrc : rm.cells = mc) (hrs : rm.slots = ms)
    (hframes : rm.frames + 1 ≤ R.frames) (hlocals : W9 + (maxL + 11) + rm.locals ≤ R.locals)
    (hws : ∀ w ∈ ws, ∀ a' U, s.WarmedH U.vm → w.before a' U = true) (hcode : Cond.code y bytes maxL ret ∈ ws) (hinit : ∀ a' U, s.WarmedH U.vm → (Cond.initialized y.cls).before a' U = true) :
    vx_Back l R p e below s sargs y len W9 (PreOf R mc ms Pc) (PostOf Qc mc ms free) (vx_Post XC mc ms free) := by
  intro m meth c A g ig mk a X hg hsize hdg hW hn hp
  have h1 : (headSpec ws rm).pre.before a A.U = true := atoms_intro fun w hw => hws w hw _ _ X.warmed
  have h2 : (Cond.code y bytes maxL ret).before a A.U = true := hws _ hcode _ _ X.warmed
  have h3 : (Cond.initialized y.cls).before a A.U = true := hinit _ _ X.warmed
  have h4 : A.cells + (headSpec ws rm).room.cells ≤ R.cells := by rw [show (headSpec ws rm).room.cells = mc from hrc]; exact hp.1
  have h5 : A.slots + (headSpec ws rm).room.slots ≤ R.slots := by rw [show (headSpec ws rm).room.slots = ms from hrs]; exact hp.2.1
  have hPc : Pc a (A.U.calling g mk a) := hblind _ _ _ _ hp.2.2
  obtain ⟨U, Ls, c0, s0⟩ := A
  dsimp only [Pt.U, Pt.locs, Pt.cells, Pt.slots] at h1 h2 h3 h4 h5 X hn hPc ⊢
  obtain ⟨methY, cY, hmY, hcY, -, hlY, -, -, -, -⟩ := Cond.code_spec hn h2
  obtain ⟨kY, hkY, -⟩ := className_of_methodNamed hn
  have hinitY : kY.init = .initialized := Cond.initialized_spec (findClass_of_methodNamed hn) hkY h3
  have h : At U g.method c below := by rw [hg]; exact X.here
  have hlocals9 : W9 + (maxL + 11) + (headSpec ws rm).room.locals ≤ R.locals := hlocals
  have happ : (headSpec ws rm).appliesLoose y e.platform (U.calling g mk a) = true :=
    Spec.appliesLoose_calling (g := g) h hdg hn hkY hinitY
      (X.room_calling (g := g) (R' := (headSpec ws rm).room) hsize hmY hcY hframes (by rw [hlY]; omega) h4 h5) h1
  obtain ⟨mid, hmid⟩ := h.above
  have hfr : (U.setTop g).frames = (.java g :: mid) ++ below := by rw [State.frames_setTop' g h.top, hmid]; rfl
  obtain ⟨o, s₂, hsteps, -, hend, hq⟩ := Steps.callFree hM p X.admits X.cas X.clock (acts := []) hfr happ hPc trivial
  have hq' : vx_Q Qc XC mc ms free a (U.calling g mk a) o s₂ := hq
  rw [State.frames_setTop' g h.top] at hend
  obtain ⟨g₀, hg0⟩ := Option.isSome_iff_exists.mp h.top
  obtain ⟨r, hr⟩ := State.topJava?_eq_some.mp hg0
  have hr' : (({ U with heap := s₂.heap, slotsUsed := s₂.slotsUsed } : State).setVm s₂.vm).frames = .java g₀ :: r := hr
  rcases hq' with ⟨hqc, L, hfe, hL⟩ | ⟨q, rfl, E, ce, L, hx, hce, hcv, hcl, hW₂, hsm, hL⟩
  · obtain ⟨⟨v, rfl⟩, hW₂, e2, q2, q3, q4, q5, q6⟩ := id hfe
    have e3 : s₂ = ({ (U.calling g mk a).setFrames s₂.frames with heap := s₂.heap, slotsUsed := s₂.slotsUsed } : State).setVm s₂.vm := by
      have : s₂ = ({ s₂ with vm := (U.calling g mk a).vm } : State).setVm s₂.vm := rfl
      rw [e2] at this
      exact this
    obtain ⟨c₂, i₂, len₂, hc₂, hd₂, hf₂⟩ := hend
    have hW' : U.WarmedH s₂.vm := hW₂
    have hcc : c₂ = c := by
      have h1 : s₂.code? g.method = U.code? g.method := by
        rw [State.code?_eq, State.code?_eq, hW'.alike.method?]
      exact Option.some.inj (hc₂.symm.trans (h1.trans h.code))
    subst hcc
    have hlen : len₂ = len := by rw [hdg] at hd₂; cases hd₂; rfl
    subst hlen
    have hs₂ : s₂ = (({ U with heap := s₂.heap, slotsUsed := s₂.slotsUsed } : State).setVm s₂.vm).setTop { g with pc := g.pc + len₂, stack := v.toList ++ g.stack } := by
      refine e3.trans ?_
      rw [hf₂, State.calling_eq h.top, State.setFrames_setFrames, State.setTop_of_frames _ hr', hr]
      rfl
    have hsame : U.sameButNew ({ U with heap := s₂.heap, slotsUsed := s₂.slotsUsed } : State) L mc ms := by
      refine ⟨?_, q2, q3, q4, q5, q6⟩
      obtain ⟨t, ht, -⟩ := State.frames_cons hr
      show ({ U with heap := s₂.heap, slotsUsed := s₂.slotsUsed } : State) = { U.setFrames U.frames with heap := s₂.heap, slotsUsed := s₂.slotsUsed }
      rw [State.setFrames_self ht]
    subst hg
    refine Or.inl ⟨v, ⟨(({ U with heap := s₂.heap, slotsUsed := s₂.slotsUsed } : State).setVm s₂.vm), Ls ++ L, c0 + mc, s0 + ms⟩,
      ⟨X.admits, X.cas, X.clock, X.frames, X.room, X.hears, X.method, X.code, (X.here.setHeapUsed s₂.heap s₂.slotsUsed).setVm hW'.alike, X.tail, State.WarmedH.trans X.warmed hW', X.limits, X.bytes, X.same.trans (hsame.setVm s.vm)⟩,
      ⟨g, mk, s₂, L, rfl, rfl, hqc, rfl, hL, rfl, rfl⟩, ?_⟩
    show Steps p.tables e below _ ((({ U with heap := s₂.heap, slotsUsed := s₂.slotsUsed } : State).setVm s₂.vm).setTop { g with pc := g.pc + len₂, stack := v.toList ++ g.stack })
    rw [← hs₂]
    exact hsteps
  · obtain ⟨e2, q2, q3, q4, q5, q6⟩ := id hsm
    have e3 : s₂ = ({ (U.calling g mk a).setFrames s₂.frames with heap := s₂.heap, slotsUsed := s₂.slotsUsed } : State).setVm s₂.vm := by
      have : s₂ = ({ s₂ with vm := (U.calling g mk a).vm } : State).setVm s₂.vm := rfl
      rw [e2] at this
      exact this
    have hf₂ : s₂.frames = .throwing q :: .java g :: U.frames.tail := hend
    have hW' : U.WarmedH s₂.vm := hW₂
    have hs₂ : s₂ = ((({ U with heap := s₂.heap, slotsUsed := s₂.slotsUsed } : State).setVm s₂.vm).setTop g).pushFrame (.throwing q) := by
      refine e3.trans ?_
      rw [hf₂, State.calling_eq h.top, State.setFrames_setFrames, State.pushFrame, State.frames_setTop _ hr', State.setTop_of_frames _ hr', State.setFrames_setFrames, hr]
      rfl
    have hsame : U.sameButNew ({ U with heap := s₂.heap, slotsUsed := s₂.slotsUsed } : State) L mc ms := by
      refine ⟨?_, q2, q3, q4, q5, q6⟩
      obtain ⟨t, ht, -⟩ := State.frames_cons hr
      show ({ U with heap := s₂.heap, slotsUsed := s₂.slotsUsed } : State) = { U.setFrames U.frames with heap := s₂.heap, slotsUsed := s₂.slotsUsed }
      rw [State.setFrames_self ht]
    subst hg
    refine Or.inr ⟨q, ⟨(({ U with heap := s₂.heap, slotsUsed := s₂.slotsUsed } : State).setVm s₂.vm), Ls ++ L, c0 + mc, s0 + ms⟩,
      ⟨X.admits, X.cas, X.clock, X.frames, X.room, X.hears, X.method, X.code, (X.here.setHeapUsed s₂.heap s₂.slotsUsed).setVm hW'.alike, X.tail, State.WarmedH.trans X.warmed hW', X.limits, X.bytes, X.same.trans (hsame.setVm s.vm)⟩,
      ⟨g, mk, s₂, L, E, ce, rfl, rfl, hx, hce, hcv, hcl, rfl, hL, rfl, rfl⟩, ?_⟩
    show Steps p.tables e below _ (((({ U with heap := s₂.heap, slotsUsed := s₂.slotsUsed } : State).setVm s₂.vm).setTop g).pushFrame (.throwing q))
    rw [← hs₂]
    exact hsteps
end Payer
section Calls
variable {p : Program} {l : Launch} {e : Env} {R : Room} {s : State} {m : MethodId} {args : Array Value} {below : List Frame} {meth : Method} {c : Code} {T : State} {locs : List Loc} {cells slots : Nat}
theorem vx_callV (X : Stand p l e R s m args below meth c T locs cells slots) (hexec : p.tables.exec = Jvm.exec) {own C : String} {index : Nat} {y : MethodName} {bytes : ByteArray} {maxL : Nat} {ret : Option FieldType}
    (hown : s.vm.findClass own = some m.cls) (hlink : (Cond.methodLink own index y).before args s = true) (hinst : (Cond.instanceMethod y).before args s = true) (hsel : (Cond.selects C y y).before args s = true)
    (hcode : (Cond.code y bytes maxL ret).before args s = true) (hy : y.cls ≠ "java/lang/invoke/MethodHandle" ∧ y.cls ≠ "java/lang/invoke/VarHandle")
    {W9 : Nat} {Pre : Pt → Array Value → Prop} {Post : Pt → Array Value → Option Value → Pt → Prop} {PostX : Pt → Array Value → Addr → Pt → Prop} (hK : vx_Back l R p e below s args y 3 W9 Pre Post PostX)
    {b : Addr} {cellB : Cell} (hcell : T.heap[b]? = some cellB) (hobj : cellB.vm.isStatics = false) (hcls : s.vm.findClass C = some cellB.cls)
    {g : JFrame} (hg : g.method = m) (hsize : g.locals.size = c.maxLocals) {argsL rest : List Value} (hlen : ∀ sig, parseMethodDescriptor y.desc = some sig → argsL.length = sig.parameters.length)
    (hstack : g.stack = argsL.reverse ++ .ref b :: rest) (hW : 2 * g.monitorRoom + (rest.map fun v => v.category).sum ≤ W9) (hdg : decode c.code g.pc = .ok (.invokevirtual index, 3))
    (hpre : ∀ vm₁, s.WarmedH vm₁ → Pre ⟨T.setVm vm₁, locs, cells, slots⟩ (Value.ref b :: argsL).toArray) :
    (∃ (v : Option Value) (vm₁ : Vm) (B : Pt), s.WarmedH vm₁ ∧ Stand p l e R s m args below meth c B.U B.locs B.cells B.slots ∧ Post ⟨T.setVm vm₁, locs, cells, slots⟩ (Value.ref b :: argsL).toArray v B ∧
      ∀ target, Steps p.tables e below (B.U.setTop { g with pc := g.pc + 3, stack := v.toList ++ rest }) target → Steps p.tables e below (T.setTop g) target) ∨
    (∃ (q : Addr) (vm₁ : Vm) (B : Pt), s.WarmedH vm₁ ∧ Stand p l e R s m args below meth c B.U B.locs B.cells B.slots ∧ PostX ⟨T.setVm vm₁, locs, cells, slots⟩ (Value.ref b :: argsL).toArray q B ∧
      Steps p.tables e below (T.setTop g) ((B.U.setTop { g with stack := rest }).pushFrame (.throwing q))) := by
  obtain ⟨mk, methM, hnamed, hmethM, hstM, habM⟩ := Cond.instanceMethod_spec hinst
  obtain ⟨methM', cM, hmethM', -, -, -, -, -, -, hsigM⟩ := Cond.code_spec hnamed hcode
  cases hmethM.symm.trans hmethM'
  obtain ⟨c2, r2, m2, q1, q2, q3, q4, kP, hkP, hkPi⟩ := Cond.selects_spec hsel
  cases hcls.symm.trans q1
  cases (State.methodFound?_of_named hnamed hy).symm.trans q2
  cases hnamed.symm.trans q3
  have hselP : selectMethod e.platform s.vm cellB.cls mk = .method mk := by rw [Launch.admits_selectMethod X.admits]; exact q4
  obtain ⟨vm₁, X₁, hstep₁⟩ := X.invokevirtual hexec hown hlink hnamed hmethM hstM hkP hkPi hy (a := b) (cell := cellB) hcell
    (fun z h => by rw [h] at hobj; cases hobj) hselP hmethM habM hkP hkPi (g := g) hg (argsL := argsL) (rest := rest) (hlen _ hsigM) hstack hdg
  rcases hK m meth c ⟨T.setVm vm₁, locs, cells, slots⟩ { g with stack := rest } (.invokevirtual index) mk (Value.ref b :: argsL).toArray X₁ hg hsize hdg hW (X₁.named hnamed) (hpre vm₁ X₁.warmed) with ⟨v, B, X', hpost, hsteps⟩ | ⟨q, B, X', hpost, hsteps⟩
  · exact Or.inl ⟨v, vm₁, B, X₁.warmed, X', hpost, fun target h => hstep₁ _ fun acts => by rw [doInvoke_state]; exact hsteps.trans h⟩
  · exact Or.inr ⟨q, vm₁, B, X₁.warmed, X', hpost, hstep₁ _ fun acts => by rw [doInvoke_state]; exact hsteps⟩
theorem vx_callS (X : Stand p l e R s m args below meth c T locs cells slots) (hexec : p.tables.exec = Jvm.exec) {own : String} {index : Nat} {y : MethodName} {bytes : ByteArray} {maxL : Nat} {ret : Option FieldType}
    (hown : s.vm.findClass own = some m.cls) (hlink : (Cond.methodLink own index y).before args s = true) (hstat : (Cond.static y).before args s = true) (hinit : (Cond.initialized y.cls).before args s = true)
    (hcode : (Cond.code y bytes maxL ret).before args s = true) (hy : y.cls ≠ "java/lang/invoke/MethodHandle" ∧ y.cls ≠ "java/lang/invoke/VarHandle")
    {W9 : Nat} {Pre : Pt → Array Value → Prop} {Post : Pt → Array Value → Option Value → Pt → Prop} {PostX : Pt → Array Value → Addr → Pt → Prop} (hK : vx_Back l R p e below s args y 3 W9 Pre Post PostX)
    {g : JFrame} (hg : g.method = m) (hsize : g.locals.size = c.maxLocals) {argsL rest : List Value} (hlen : ∀ sig, parseMethodDescriptor y.desc = some sig → argsL.length = sig.parameters.length)
    (hstack : g.stack = argsL.reverse ++ rest) (hW : 2 * g.monitorRoom + (rest.map fun v => v.category).sum ≤ W9) (hdg : decode c.code g.pc = .ok (.invokestatic index, 3))
    (hpre : ∀ vm₁, s.WarmedH vm₁ → Pre ⟨T.setVm vm₁, locs, cells, slots⟩ argsL.toArray) :
    (∃ (v : Option Value) (vm₁ : Vm) (B : Pt), s.WarmedH vm₁ ∧ Stand p l e R s m args below meth c B.U B.locs B.cells B.slots ∧ Post ⟨T.setVm vm₁, locs, cells, slots⟩ argsL.toArray v B ∧
      ∀ target, Steps p.tables e below (B.U.setTop { g with pc := g.pc + 3, stack := v.toList ++ rest }) target → Steps p.tables e below (T.setTop g) target) ∨
    (∃ (q : Addr) (vm₁ : Vm) (B : Pt), s.WarmedH vm₁ ∧ Stand p l e R s m args below meth c B.U B.locs B.cells B.slots ∧ PostX ⟨T.setVm vm₁, locs, cells, slots⟩ argsL.toArray q B ∧
      Steps p.tables e below (T.setTop g) ((B.U.setTop { g with stack := rest }).pushFrame (.throwing q))) := by
  obtain ⟨mk, hnamed⟩ := Cond.code_named hcode
  obtain ⟨methM, cM, hmethM, -, -, -, -, -, -, hsigM⟩ := Cond.code_spec hnamed hcode
  have hstatic : methM.isStatic = true := Cond.static_spec hnamed hmethM hstat
  obtain ⟨kP, hkP, -⟩ := className_of_methodNamed hnamed
  have hinitP : kP.init = .initialized := Cond.initialized_spec (findClass_of_methodNamed hnamed) hkP hinit
  obtain ⟨vm₁, X₁, hstep₁⟩ := X.invokestatic hexec hown hlink hnamed hmethM hstatic hkP hinitP hy (g := g) hg (argsL := argsL) (rest := rest) (hlen _ hsigM) hstack hdg
  rcases hK m meth c ⟨T.setVm vm₁, locs, cells, slots⟩ { g with stack := rest } (.invokestatic index) mk argsL.toArray X₁ hg hsize hdg hW (X₁.named hnamed) (hpre vm₁ X₁.warmed) with ⟨v, B, X', hpost, hsteps⟩ | ⟨q, B, X', hpost, hsteps⟩
  · exact Or.inl ⟨v, vm₁, B, X₁.warmed, X', hpost, fun target h => hstep₁ _ fun acts => by rw [doInvoke_state]; exact hsteps.trans h⟩
  · exact Or.inr ⟨q, vm₁, B, X₁.warmed, X', hpost, hstep₁ _ fun acts => by rw [doInvoke_state]; exact hsteps⟩
end Calls
theorem vx_cls {s : State} {T : State} {vm₁ : Vm} {E : String} {k : ClassId} (hW : s.WarmedH vm₁) (h : (T.setVm vm₁).vm.findClass E = some k) : s.vm.findClass E = some k := by
  have h1 : vm₁.findClass E = some k := h
  rw [hW.alike.findClass] at h1
  exact h1
/-- the method's frame g, with q thrown over it -/
def vx_W (p : Program) (l : Launch) (e : Env) (R : Room) (s : State) (m : MethodId) (args : Array Value) (below : List Frame) (meth : Method) (c : Code) (H : Heap) (locs : List Loc) (cells slots : Nat) (Q : State → Prop) (g : JFrame) (q : Addr) : Prop :=
  ∀ T : State, T.heap = H → Stand p l e R s m args below meth c T locs cells slots → ∃ t, Steps p.tables e below ((T.setTop g).pushFrame (.throwing q)) t ∧ Q t
def vx_Run (p : Program) (l : Launch) (e : Env) (R : Room) (s : State) (m : MethodId) (args : Array Value) (below : List Frame) (meth : Method) (c : Code) (H : Heap) (locs : List Loc) (cells slots mc ms : Nat) (g : JFrame) (rest : List Value) (Qa : State → Outcome → State → Prop) (XC : String → State → State → Prop) (free : Addr → Prop) : Prop :=
  ∀ T : State, T.heap = H → Stand p l e R s m args below meth c T locs cells slots →
    (∃ (v : Option Value) (st₀ t T' : State) (L : List Loc), st₀.heap = H ∧ Stand p l e R s m args below meth c T' (locs ++ L) (cells + mc) (slots + ms) ∧ (∀ q ∈ L, free q.base) ∧ T'.heap = t.heap ∧ T'.vm = t.vm ∧ Qa st₀ (.returned v) t ∧
      Goes p e below T g T' { g with pc := g.pc + 3, stack := v.toList ++ rest }) ∨
    (∃ (q : Addr) (st₀ t T' : State) (L : List Loc) (E : String) (ce : Cell), st₀.heap = H ∧ Stand p l e R s m args below meth c T' (locs ++ L) (cells + mc) (slots + ms) ∧ (∀ z ∈ L, free z.base) ∧ T'.heap = t.heap ∧ T'.vm = t.vm ∧ XC E st₀ t ∧ t.heap[q]? = some ce ∧ ce.vm = .none ∧ s.vm.findClass E = some ce.cls ∧
      Steps p.tables e below (T.setTop g) ((T'.setTop { g with stack := rest }).pushFrame (.throwing q)))
def vx_X {S : Type} (px : S → Prop) (B : String → S → State → Prop) (A : Nat → Prop) : String → State → State → Prop := fun E st t => ∃ u : S, px u ∧ B E u t ∧ va_F A st t
section Runs
variable {p : Program} {l : Launch} {e : Env} {R : Room} {s : State} {m : MethodId} {args : Array Value} {below : List Frame} {meth : Method} {c : Code} {H : Heap} {locs : List Loc} {cells slots : Nat}
variable {y : MethodName} {bytes cc : ByteArray} {maxL nL mc ms n index : Nat} {ret : Option FieldType} {ws : List Cond} {rm : Room} {Pc : Array Value → State → Prop} {Qc : Array Value → State → Outcome → State → Prop} {XC : String → State → State → Prop} {free : Addr → Prop} {Ts : List Cond} {own C : String} {b : Addr} {As rest : List Value} {g : JFrame}
theorem vx_callBack (cb : CallB R s args own index y bytes maxL ret ws rm mc ms n) (hM : vx_Met l y ws rm Pc Qc XC mc ms free) (hbl : FrameBlind Pc) : vx_Back l R p e below s args y 3 8 (PreOf R mc ms Pc) (PostOf Qc mc ms free) (vx_Post XC mc ms free) := by
  obtain ⟨hrc, hrs, hfr, hlo, hws, hcw, -, hini, -⟩ := cb
  exact vx_back (bytes := bytes) (maxL := maxL) (ret := ret) hM hbl hrc hrs hfr hlo hws hcw (fun a' U hW => word_at hW (Or.inl (by first | rfl | simp [Cond.onTables, Cond.keeps, Cond.steady])) hini)
theorem vx_runV (S : CallFix p m c cc nL s args Ts own) (hM : vx_Met l y ws rm Pc Qc XC mc ms free) (cw : CallW R s args own C index y bytes maxL ret ws rm mc ms n) (hp : PreV s H C b Pc As)
    (hg : g.method = m) (hn : As.length = n) (hsize : g.locals.size = nL) (hstack : g.stack = As.reverse ++ .ref b :: rest) (hW : 2 * g.monitorRoom + (rest.map fun v => v.category).sum ≤ 8) (hdg : decode cc g.pc = .ok (.invokevirtual index, 3)) (hf : cells + mc ≤ R.cells ∧ slots + ms ≤ R.slots) :
    vx_Run p l e R s m args below meth c H locs cells slots mc ms g rest (Qc (Value.ref b :: As).toArray) XC free := by
  have hK : vx_Back l R p e below s args y 3 8 (PreOf R mc ms Pc) (PostOf Qc mc ms free) (vx_Post XC mc ms free) := vx_callBack cw.1 hM hp.1
  obtain ⟨⟨-, -, -, -, -, -, hcode, -, hy, hlen, hl⟩, hin, hse⟩ := cw
  obtain ⟨hx, hb, hml, ho, -⟩ := S
  obtain ⟨-, ⟨cellB, hcB, hoB, hclB⟩, hPc⟩ := hp
  intro T hT X
  rcases vx_callV X hx (C := C) (bytes := bytes) (maxL := maxL) (ret := ret) ho hl hin hse hcode hy hK (by rw [hT]; exact hcB) hoB hclB hg (hsize.trans hml.symm) (argsL := As) (rest := rest) (fun sig h => hn.trans (hlen sig h)) hstack hW (by rw [hb]; exact hdg)
    (fun vm₁ hW₁ => ⟨hf.1, hf.2, hPc (T.setVm vm₁) hT hW₁⟩) with ⟨v, vm₁, ⟨U', l2, c2, s2⟩, hW₁, X', ⟨g', mk, t, L, e1, e2, hq, h1, hL, h2, h3⟩, st⟩ | ⟨q, vm₁, ⟨U', l2, c2, s2⟩, hW₁, X', ⟨g', mk, t, L, E, ce, e1, e2, hq, hce, hcv, hcl, h1, hL, h2, h3⟩, st⟩
  · dsimp only [Pt.U, Pt.locs, Pt.cells, Pt.slots] at X' e1 e2 h1 h2 h3 st
    subst h1; subst h2; subst h3
    exact Or.inl ⟨v, (T.setVm vm₁).calling g' mk (Value.ref b :: As).toArray, t, U', L, hT, X', hL, e1, e2, hq, st⟩
  · dsimp only [Pt.U, Pt.locs, Pt.cells, Pt.slots] at X' e1 e2 h1 h2 h3 st hcl
    subst h1; subst h2; subst h3
    exact Or.inr ⟨q, (T.setVm vm₁).calling g' mk (Value.ref b :: As).toArray, t, U', L, E, ce, hT, X', hL, e1, e2, hq, hce, hcv, vx_cls hW₁ hcl, st⟩
theorem vx_runS (S : CallFix p m c cc nL s args Ts own) (hM : vx_Met l y ws rm Pc Qc XC mc ms free) (cw : CallB R s args own index y bytes maxL ret ws rm mc ms n ∧ (Cond.static y).before args s = true) (hp : PreS s H Pc As)
    (hg : g.method = m) (hn : As.length = n) (hsize : g.locals.size = nL) (hstack : g.stack = As.reverse ++ rest) (hW : 2 * g.monitorRoom + (rest.map fun v => v.category).sum ≤ 8) (hdg : decode cc g.pc = .ok (.invokestatic index, 3)) (hf : cells + mc ≤ R.cells ∧ slots + ms ≤ R.slots) :
    vx_Run p l e R s m args below meth c H locs cells slots mc ms g rest (Qc As.toArray) XC free := by
  have hK : vx_Back l R p e below s args y 3 8 (PreOf R mc ms Pc) (PostOf Qc mc ms free) (vx_Post XC mc ms free) := vx_callBack cw.1 hM hp.1
  obtain ⟨⟨-, -, -, -, -, -, hcode, hini, hy, hlen, hl⟩, hstt⟩ := cw
  obtain ⟨hx, hb, hml, ho, -⟩ := S
  intro T hT X
  rcases vx_callS X hx (bytes := bytes) (maxL := maxL) (ret := ret) ho hl hstt hini hcode hy hK hg (hsize.trans hml.symm) (argsL := As) (rest := rest) (fun sig h => hn.trans (hlen sig h)) hstack hW (by rw [hb]; exact hdg)
    (fun vm₁ hW₁ => ⟨hf.1, hf.2, hp.2 (T.setVm vm₁) hT hW₁⟩) with ⟨v, vm₁, ⟨U', l2, c2, s2⟩, hW₁, X', ⟨g', mk, t, L, e1, e2, hq, h1, hL, h2, h3⟩, st⟩ | ⟨q, vm₁, ⟨U', l2, c2, s2⟩, hW₁, X', ⟨g', mk, t, L, E, ce, e1, e2, hq, hce, hcv, hcl, h1, hL, h2, h3⟩, st⟩
  · dsimp only [Pt.U, Pt.locs, Pt.cells, Pt.slots] at X' e1 e2 h1 h2 h3 st
    subst h1; subst h2; subst h3
    exact Or.inl ⟨v, (T.setVm vm₁).calling g' mk As.toArray, t, U', L, hT, X', hL, e1, e2, hq, st⟩
  · dsimp only [Pt.U, Pt.locs, Pt.cells, Pt.slots] at X' e1 e2 h1 h2 h3 st hcl
    subst h1; subst h2; subst h3
    exact Or.inr ⟨q, (T.setVm vm₁).calling g' mk As.toArray, t, U', L, E, ce, hT, X', hL, e1, e2, hq, hce, hcv, vx_cls hW₁ hcl, st⟩
end Runs
section Rows
variable {p : Program} {l : Launch} {e : Env} {R : Room} {s : State} {m : MethodId} {args : Array Value} {below : List Frame} {meth : Method} {c : Code} {H : Heap} {locs : List Loc} {cells slots : Nat} {Q : State → Prop}
variable {mc ms : Nat} {free : Addr → Prop} {A0 A1 : Nat → Prop} {H0 : Heap} {a : Array Value} {pc : Nat} {ls : Array Slot} {st0 rest : List Value}
theorem vx_keep {st₀ t T' : State} {L : List Loc} (h0 : st₀.heap = H) (e1 : T'.heap = t.heap) (hS : va_S A0 H0 H locs) (hA : ∀ q, q < H.size → A1 q → A0 q) (hf : ∀ q, free q → A0 q) (hL : ∀ q ∈ L, free q.base) (hF : va_F A1 st₀ t) :
    H.size ≤ T'.heap.size ∧ (∀ q : Nat, q < H.size → ¬ A1 q → T'.heap[q]? = H[q]?) ∧ va_S A0 H0 T'.heap (locs ++ L) := by
  obtain ⟨hz, hk⟩ := hF
  rw [h0] at hz hk
  exact ⟨by rw [e1]; exact hz, fun q h1 h2 => by rw [e1]; exact hk q h1 h2,
    ⟨Nat.le_trans hS.1 (by rw [e1]; exact hz), fun q h1 h2 => by rw [e1, hk q (Nat.lt_of_lt_of_le h1 hS.1) (fun z => h2 (hA q (Nat.lt_of_lt_of_le h1 hS.1) z))]; exact hS.2.1 q h1 h2, fun q hq => by
      rcases List.mem_append.mp hq with h | h
      · exact hS.2.2 q h
      · exact hf _ (hL q h)⟩⟩
theorem vx_calli {S SX : Type} {post : Int32 → S → Prop} {px : SX → Prop} {B : S → State → Prop} {BX : String → SX → State → Prop} {AX : Nat → Prop} (hr : vx_Run p l e R s m args below meth c H locs cells slots mc ms (F0 m pc ls st0) rest (va_Qi post B A1 a) (vx_X px BX AX) free) (hS : va_S A0 H0 H locs) (hA : ∀ q, q < H.size → A1 q → A0 q) (hf : ∀ q, free q → A0 q) (hAX : ∀ q, q < H.size → AX q → A0 q)
    (kx : ∀ (E : String) (ce : Cell) (q9 : Addr) (u : SX) (t : State) (H1 : Heap) (locs1 : List Loc), t.heap = H1 → s.vm.Alike t.vm → px u → BX E u t → H.size ≤ H1.size → (∀ q : Nat, q < H.size → ¬ AX q → H1[q]? = H[q]?) → va_S A0 H0 H1 locs1 → H1[q9]? = some ce → ce.vm = .none → s.vm.findClass E = some ce.cls → vx_W p l e R s m args below meth c H1 locs1 (cells + mc) (slots + ms) Q (F0 m pc ls rest) q9)
    (kk : ∀ (r : Int32) (u : S) (t : State) (H1 : Heap) (locs1 : List Loc), t.heap = H1 → s.vm.Alike t.vm → post r u → B u t → H.size ≤ H1.size → (∀ q : Nat, q < H.size → ¬ A1 q → H1[q]? = H[q]?) → va_S A0 H0 H1 locs1 → W p l e R s m args below meth c H1 locs1 (cells + mc) (slots + ms) Q (F0 m (pc + 3) ls (.int r :: rest))) : W p l e R s m args below meth c H locs cells slots Q (F0 m pc ls st0) := by
  intro T hT X
  rcases hr T hT X with ⟨v, st₀, t, T', L, h0, X', hL, e1, e2, ⟨⟨r, u, hv, hp, hb⟩, hF⟩, st⟩ | ⟨q, st₀, t, T', L, E, ce, h0, X', hL, e1, e2, ⟨u, hp, hb, hF⟩, hce, hcv, hcl, st⟩
  · cases hv
    obtain ⟨k1, k2, k3⟩ := vx_keep h0 e1 hS hA hf hL hF
    obtain ⟨t2, a1, b1⟩ := kk r u t T'.heap (locs ++ L) e1.symm (by rw [← e2]; exact X'.warmed.alike) hp hb k1 k2 k3 T' rfl X'
    exact ⟨t2, st t2 a1, b1⟩
  · obtain ⟨k1, k2, k3⟩ := vx_keep h0 e1 hS hAX hf hL hF
    obtain ⟨t2, a1, b1⟩ := kx E ce q u t T'.heap (locs ++ L) e1.symm (by rw [← e2]; exact X'.warmed.alike) hp hb k1 k2 k3 (by rw [e1]; exact hce) hcv hcl T' rfl X'
    exact ⟨t2, st.trans a1, b1⟩
theorem vx_calll {S SX : Type} {post : Int64 → S → Prop} {px : SX → Prop} {B : S → State → Prop} {BX : String → SX → State → Prop} {AX : Nat → Prop} (hr : vx_Run p l e R s m args below meth c H locs cells slots mc ms (F0 m pc ls st0) rest (va_Ql post B A1 a) (vx_X px BX AX) free) (hS : va_S A0 H0 H locs) (hA : ∀ q, q < H.size → A1 q → A0 q) (hf : ∀ q, free q → A0 q) (hAX : ∀ q, q < H.size → AX q → A0 q)
    (kx : ∀ (E : String) (ce : Cell) (q9 : Addr) (u : SX) (t : State) (H1 : Heap) (locs1 : List Loc), t.heap = H1 → s.vm.Alike t.vm → px u → BX E u t → H.size ≤ H1.size → (∀ q : Nat, q < H.size → ¬ AX q → H1[q]? = H[q]?) → va_S A0 H0 H1 locs1 → H1[q9]? = some ce → ce.vm = .none → s.vm.findClass E = some ce.cls → vx_W p l e R s m args below meth c H1 locs1 (cells + mc) (slots + ms) Q (F0 m pc ls rest) q9)
    (kk : ∀ (r : Int64) (u : S) (t : State) (H1 : Heap) (locs1 : List Loc), t.heap = H1 → s.vm.Alike t.vm → post r u → B u t → H.size ≤ H1.size → (∀ q : Nat, q < H.size → ¬ A1 q → H1[q]? = H[q]?) → va_S A0 H0 H1 locs1 → W p l e R s m args below meth c H1 locs1 (cells + mc) (slots + ms) Q (F0 m (pc + 3) ls (.long r :: rest))) : W p l e R s m args below meth c H locs cells slots Q (F0 m pc ls st0) := by
  intro T hT X
  rcases hr T hT X with ⟨v, st₀, t, T', L, h0, X', hL, e1, e2, ⟨⟨r, u, hv, hp, hb⟩, hF⟩, st⟩ | ⟨q, st₀, t, T', L, E, ce, h0, X', hL, e1, e2, ⟨u, hp, hb, hF⟩, hce, hcv, hcl, st⟩
  · cases hv
    obtain ⟨k1, k2, k3⟩ := vx_keep h0 e1 hS hA hf hL hF
    obtain ⟨t2, a1, b1⟩ := kk r u t T'.heap (locs ++ L) e1.symm (by rw [← e2]; exact X'.warmed.alike) hp hb k1 k2 k3 T' rfl X'
    exact ⟨t2, st t2 a1, b1⟩
  · obtain ⟨k1, k2, k3⟩ := vx_keep h0 e1 hS hAX hf hL hF
    obtain ⟨t2, a1, b1⟩ := kx E ce q u t T'.heap (locs ++ L) e1.symm (by rw [← e2]; exact X'.warmed.alike) hp hb k1 k2 k3 (by rw [e1]; exact hce) hcv hcl T' rfl X'
    exact ⟨t2, st.trans a1, b1⟩
theorem vx_callf {S SX : Type} {post : UInt32 → S → Prop} {px : SX → Prop} {B : S → State → Prop} {BX : String → SX → State → Prop} {AX : Nat → Prop} (hr : vx_Run p l e R s m args below meth c H locs cells slots mc ms (F0 m pc ls st0) rest (va_Qf post B A1 a) (vx_X px BX AX) free) (hS : va_S A0 H0 H locs) (hA : ∀ q, q < H.size → A1 q → A0 q) (hf : ∀ q, free q → A0 q) (hAX : ∀ q, q < H.size → AX q → A0 q)
    (kx : ∀ (E : String) (ce : Cell) (q9 : Addr) (u : SX) (t : State) (H1 : Heap) (locs1 : List Loc), t.heap = H1 → s.vm.Alike t.vm → px u → BX E u t → H.size ≤ H1.size → (∀ q : Nat, q < H.size → ¬ AX q → H1[q]? = H[q]?) → va_S A0 H0 H1 locs1 → H1[q9]? = some ce → ce.vm = .none → s.vm.findClass E = some ce.cls → vx_W p l e R s m args below meth c H1 locs1 (cells + mc) (slots + ms) Q (F0 m pc ls rest) q9)
    (kk : ∀ (r : UInt32) (u : S) (t : State) (H1 : Heap) (locs1 : List Loc), t.heap = H1 → s.vm.Alike t.vm → post r u → B u t → H.size ≤ H1.size → (∀ q : Nat, q < H.size → ¬ A1 q → H1[q]? = H[q]?) → va_S A0 H0 H1 locs1 → W p l e R s m args below meth c H1 locs1 (cells + mc) (slots + ms) Q (F0 m (pc + 3) ls (.float r :: rest))) : W p l e R s m args below meth c H locs cells slots Q (F0 m pc ls st0) := by
  intro T hT X
  rcases hr T hT X with ⟨v, st₀, t, T', L, h0, X', hL, e1, e2, ⟨⟨r, u, hv, hp, hb⟩, hF⟩, st⟩ | ⟨q, st₀, t, T', L, E, ce, h0, X', hL, e1, e2, ⟨u, hp, hb, hF⟩, hce, hcv, hcl, st⟩
  · cases hv
    obtain ⟨k1, k2, k3⟩ := vx_keep h0 e1 hS hA hf hL hF
    obtain ⟨t2, a1, b1⟩ := kk r u t T'.heap (locs ++ L) e1.symm (by rw [← e2]; exact X'.warmed.alike) hp hb k1 k2 k3 T' rfl X'
    exact ⟨t2, st t2 a1, b1⟩
  · obtain ⟨k1, k2, k3⟩ := vx_keep h0 e1 hS hAX hf hL hF
    obtain ⟨t2, a1, b1⟩ := kx E ce q u t T'.heap (locs ++ L) e1.symm (by rw [← e2]; exact X'.warmed.alike) hp hb k1 k2 k3 (by rw [e1]; exact hce) hcv hcl T' rfl X'
    exact ⟨t2, st.trans a1, b1⟩
theorem vx_calld {S SX : Type} {post : UInt64 → S → Prop} {px : SX → Prop} {B : S → State → Prop} {BX : String → SX → State → Prop} {AX : Nat → Prop} (hr : vx_Run p l e R s m args below meth c H locs cells slots mc ms (F0 m pc ls st0) rest (va_Qd post B A1 a) (vx_X px BX AX) free) (hS : va_S A0 H0 H locs) (hA : ∀ q, q < H.size → A1 q → A0 q) (hf : ∀ q, free q → A0 q) (hAX : ∀ q, q < H.size → AX q → A0 q)
    (kx : ∀ (E : String) (ce : Cell) (q9 : Addr) (u : SX) (t : State) (H1 : Heap) (locs1 : List Loc), t.heap = H1 → s.vm.Alike t.vm → px u → BX E u t → H.size ≤ H1.size → (∀ q : Nat, q < H.size → ¬ AX q → H1[q]? = H[q]?) → va_S A0 H0 H1 locs1 → H1[q9]? = some ce → ce.vm = .none → s.vm.findClass E = some ce.cls → vx_W p l e R s m args below meth c H1 locs1 (cells + mc) (slots + ms) Q (F0 m pc ls rest) q9)
    (kk : ∀ (r : UInt64) (u : S) (t : State) (H1 : Heap) (locs1 : List Loc), t.heap = H1 → s.vm.Alike t.vm → post r u → B u t → H.size ≤ H1.size → (∀ q : Nat, q < H.size → ¬ A1 q → H1[q]? = H[q]?) → va_S A0 H0 H1 locs1 → W p l e R s m args below meth c H1 locs1 (cells + mc) (slots + ms) Q (F0 m (pc + 3) ls (.double r :: rest))) : W p l e R s m args below meth c H locs cells slots Q (F0 m pc ls st0) := by
  intro T hT X
  rcases hr T hT X with ⟨v, st₀, t, T', L, h0, X', hL, e1, e2, ⟨⟨r, u, hv, hp, hb⟩, hF⟩, st⟩ | ⟨q, st₀, t, T', L, E, ce, h0, X', hL, e1, e2, ⟨u, hp, hb, hF⟩, hce, hcv, hcl, st⟩
  · cases hv
    obtain ⟨k1, k2, k3⟩ := vx_keep h0 e1 hS hA hf hL hF
    obtain ⟨t2, a1, b1⟩ := kk r u t T'.heap (locs ++ L) e1.symm (by rw [← e2]; exact X'.warmed.alike) hp hb k1 k2 k3 T' rfl X'
    exact ⟨t2, st t2 a1, b1⟩
  · obtain ⟨k1, k2, k3⟩ := vx_keep h0 e1 hS hAX hf hL hF
    obtain ⟨t2, a1, b1⟩ := kx E ce q u t T'.heap (locs ++ L) e1.symm (by rw [← e2]; exact X'.warmed.alike) hp hb k1 k2 k3 (by rw [e1]; exact hce) hcv hcl T' rfl X'
    exact ⟨t2, st.trans a1, b1⟩
theorem vx_callv {S SX : Type} {post : S → Prop} {px : SX → Prop} {B : S → State → Prop} {BX : String → SX → State → Prop} {AX : Nat → Prop} (hr : vx_Run p l e R s m args below meth c H locs cells slots mc ms (F0 m pc ls st0) rest (va_Qv post B A1 a) (vx_X px BX AX) free) (hS : va_S A0 H0 H locs) (hA : ∀ q, q < H.size → A1 q → A0 q) (hf : ∀ q, free q → A0 q) (hAX : ∀ q, q < H.size → AX q → A0 q)
    (kx : ∀ (E : String) (ce : Cell) (q9 : Addr) (u : SX) (t : State) (H1 : Heap) (locs1 : List Loc), t.heap = H1 → s.vm.Alike t.vm → px u → BX E u t → H.size ≤ H1.size → (∀ q : Nat, q < H.size → ¬ AX q → H1[q]? = H[q]?) → va_S A0 H0 H1 locs1 → H1[q9]? = some ce → ce.vm = .none → s.vm.findClass E = some ce.cls → vx_W p l e R s m args below meth c H1 locs1 (cells + mc) (slots + ms) Q (F0 m pc ls rest) q9)
    (kk : ∀ (u : S) (t : State) (H1 : Heap) (locs1 : List Loc), t.heap = H1 → s.vm.Alike t.vm → post u → B u t → H.size ≤ H1.size → (∀ q : Nat, q < H.size → ¬ A1 q → H1[q]? = H[q]?) → va_S A0 H0 H1 locs1 → W p l e R s m args below meth c H1 locs1 (cells + mc) (slots + ms) Q (F0 m (pc + 3) ls (rest))) : W p l e R s m args below meth c H locs cells slots Q (F0 m pc ls st0) := by
  intro T hT X
  rcases hr T hT X with ⟨v, st₀, t, T', L, h0, X', hL, e1, e2, ⟨⟨u, hv, hp, hb⟩, hF⟩, st⟩ | ⟨q, st₀, t, T', L, E, ce, h0, X', hL, e1, e2, ⟨u, hp, hb, hF⟩, hce, hcv, hcl, st⟩
  · cases hv
    obtain ⟨k1, k2, k3⟩ := vx_keep h0 e1 hS hA hf hL hF
    obtain ⟨t2, a1, b1⟩ := kk u t T'.heap (locs ++ L) e1.symm (by rw [← e2]; exact X'.warmed.alike) hp hb k1 k2 k3 T' rfl X'
    exact ⟨t2, st t2 a1, b1⟩
  · obtain ⟨k1, k2, k3⟩ := vx_keep h0 e1 hS hAX hf hL hF
    obtain ⟨t2, a1, b1⟩ := kx E ce q u t T'.heap (locs ++ L) e1.symm (by rw [← e2]; exact X'.warmed.alike) hp hb k1 k2 k3 (by rw [e1]; exact hce) hcv hcl T' rfl X'
    exact ⟨t2, st.trans a1, b1⟩
/-- caught by the row x of this method's table; the rows ahead don't take it -/
theorem vx_catch {own name : String} {E : String} {ce : Cell} {q : Addr} (hown : s.vm.findClass own = some m.cls) (pre : List ExceptionTableEntry) (x : ExceptionTableEntry) (suf : List ExceptionTableEntry) (hsplit : c.exceptionTable.toList = pre ++ x :: suf)
    (hpass : ∀ z ∈ pre, covers z pc = false ∨ (z.catchType ≠ 0 ∧ ∃ nm : String, (Cond.classLink own z.catchType nm).before args s = true ∧ va_Nc E nm s)) (hx : covers x pc = true) (h0 : x.catchType ≠ 0)
    (hlink : (Cond.classLink own x.catchType name).before args s = true) (hcast : (Cond.castable E name).before args s = true) (hcell : H[q]? = some ce) (hv : ce.vm = .none) (hcl : s.vm.findClass E = some ce.cls)
    (kk : W p l e R s m args below meth c H locs cells slots Q (F0 m x.handlerPc ls [.ref q])) : vx_W p l e R s m args below meth c H locs cells slots Q (F0 m pc ls rest) q := by
  intro T hT X
  have hpl : e.platform.magicAccessors = ({} : Platform).magicAccessors := by rw [X.admits.platform]
  obtain ⟨c3, c4, hc3, hc4, hasg⟩ := Cond.castable_spec hcast
  cases Option.some.inj (hc3.symm.trans hcl)
  obtain ⟨c5, hc5, hcl5⟩ := Cond.classLink_spec hown hlink e.platform hpl
  cases Option.some.inj (hc4.symm.trans hc5)
  obtain ⟨vm', X', st⟩ := X.thenCaughtThrough q (g := F0 m pc ls rest) rfl (Steps.refl _) (by rw [hT]; exact hcell) (by rw [hv]; rfl) (by obtain ⟨k9, h9, -⟩ := Vm.findClass_spec hcl; exact ⟨k9, h9⟩) pre x suf hsplit
    (fun z hz => by
      rcases hpass z hz with h | ⟨hz0, nm, hl1, hn1⟩
      · exact Or.inl h
      · obtain ⟨c6, hc6, hcl6⟩ := Cond.classLink_spec hown hl1 e.platform hpl
        obtain ⟨a8, b8, h1, h2, h3⟩ := hn1
        cases Option.some.inj (h1.symm.trans hcl)
        cases Option.some.inj (h2.symm.trans hc6)
        exact Or.inr ⟨hz0, _, hcl6, h3⟩) hx (Or.inr ⟨h0, c4, hcl5, hasg⟩)
  obtain ⟨t, a1, b1⟩ := kk (T.setVm vm') hT X'
  exact ⟨t, st.trans a1, b1⟩
end Rows
section Ends
variable {p : Program} {l : Launch} {e : Env} {R : Room} {s : State} {m : MethodId} {args : Array Value} {below : List Frame} {meth : Method} {c : Code} {H : Heap} {locs : List Loc} {cells slots : Nat} {Q : State → Prop}
variable {mc ms : Nat} {free : Addr → Prop} {A0 A1 : Nat → Prop} {H0 : Heap} {a : Array Value} {ls : Array Slot} {st0 rest : List Value}
variable {Qc : Array Value → State → Outcome → State → Prop} {XC : String → State → State → Prop}
/-- what a body that may throw owes at its end -/
def vx_MQ (below : List Frame) (Qc : Array Value → State → Outcome → State → Prop) (XC : String → State → State → Prop) (a : Array Value) (s : State) (mc ms : Nat) (free : Addr → Prop) : State → Prop := fun t =>
  ∃ o, t.status = .running ∧ Ended t below o ∧ vx_Q Qc XC mc ms free a s o t
theorem vx_ret {g : JFrame} {mc ms : Nat} (k : W p l e R s m args below meth c H locs cells slots (MQ below Qc args s mc ms free) g) : W p l e R s m args below meth c H locs cells slots (vx_MQ below Qc XC args s mc ms free) g := by
  intro T hT X
  obtain ⟨t, a1, o, b1, b2, b3, b4⟩ := k T hT X
  exact ⟨t, a1, o, b1, b2, Or.inl ⟨b3, b4⟩⟩
/-- not caught here: it goes on to the caller -/
theorem vx_widen {g : JFrame} {q : Addr} {k n : Nat} (h1 : cells ≤ k) (h2 : slots ≤ n) (kk : vx_W p l e R s m args below meth c H locs k n Q g q) : vx_W p l e R s m args below meth c H locs cells slots Q g q := fun T hT X => kk T hT (stand_widen X h1 h2)
theorem vx_out {pc : Nat} {E : String} {ce : Cell} {q : Addr} {mc ms : Nat} (hout : ∀ x ∈ c.exceptionTable.toList, covers x pc = false) (hlocks : meth.locks = false) (hcell : H[q]? = some ce) (hv : ce.vm = .none) (hcl : s.vm.findClass E = some ce.cls)
    (hx : ∀ t : State, t.heap = H → s.vm.Alike t.vm → XC E s t) (hf : ∀ z ∈ locs, free z.base) (hc : cells ≤ mc) (hs : slots ≤ ms) :
    vx_W p l e R s m args below meth c H locs cells slots (vx_MQ below Qc XC args s mc ms free) (F0 m pc ls rest) q := by
  intro T hT X
  obtain ⟨st1, hrun, hend, hW, hsm⟩ := X.leaveThrown q (g := F0 m pc ls rest) rfl rfl rfl hout hlocks
  have hcell9 : (T.setFrames (.throwing q :: below)).heap[q]? = some ce := by
    show T.heap[q]? = some ce
    rw [hT]; exact hcell
  exact ⟨_, st1, .threw q, hrun, hend, Or.inr ⟨q, rfl, E, ce, locs, hx _ hT hW.alike, hcell9, hv, hcl, hW, hsm.mono hc hs, hf⟩⟩
theorem vx_frame {U : State} {k n : Nat} (h : s.sameButNew ({ U with vm := s.vm } : State) locs k n) : s.heap.size ≤ U.heap.size ∧ ∀ q : Nat, q < s.heap.size → (∀ z ∈ locs, z.base ≠ q) → U.heap[q]? = s.heap[q]? := by
  obtain ⟨-, h2, -, -, -, h6⟩ := h
  refine ⟨h2, fun q hq hz => ?_⟩
  obtain ⟨c9, e1, e2, e3, e4⟩ := h6 q _ (Array.getElem?_eq_getElem hq)
  have hs : c9.slots = (s.heap[q]).slots := Array.ext_getElem? fun i => e4 i fun hm => hz _ hm rfl
  have h9 : c9 = s.heap[q] := by
    rw [hs] at e2
    exact e2
  have e5 : U.heap[q]? = some c9 := e1
  rw [e5, h9, Array.getElem?_eq_getElem hq]
/-- the words of a throw but the four that speak of the heap -/
def vx_no (w : Cond) : Bool := decide (w ≠ .isRef (.static Bundle.tN "UNASSIGNED_STACK" Bundle.steD)) && decide (w ≠ .isRef (.static Bundle.tN "SUPPRESSED_SENTINEL" Bundle.listD)) && decide (w ≠ .laysStatic Bundle.tN "UNASSIGNED_STACK" Bundle.steD) && decide (w ≠ .laysStatic Bundle.tN "SUPPRESSED_SENTINEL" Bundle.listD)
def vx_at0 (own : String) (ic : Nat) (X : String) (names : List String) : List Cond := (Bundle.ownAtoms0 own ic X names).filter vx_no
def vx_atS (own : String) (ic : Nat) (X : String) (names : List String) : List Cond := (Bundle.ownAtoms own ic X names).filter vx_no
/-- a word that the tables alone decide, or a good one -/
def vx_ot (w : Cond) : Bool := w.onTables || goodWord w
theorem vx_ot_at {args a' : Array Value} {s U : State} {w : Cond} (hW : s.WarmedH U.vm) (hvm : s.vm = U.vm) (hg : vx_ot w = true) (h : w.before args s = true) : w.before a' U = true := by
  simp only [vx_ot, Bool.or_eq_true] at hg
  rcases hg with hg | hg
  · exact va_tabs hg hvm h
  · exact word_at hW (good_of_word hg) h
/-- a list's words: the good ones out of the method's own list, the others by premises of their own -/
theorem vx_hat {args : Array Value} {s : State} {L B : List Cond} (h1 : ∀ w ∈ L.filter goodWord, w.before args s = true) (h2 : ∀ w ∈ L.filter (fun w => !goodWord w), w ∈ B) (h3 : ∀ w ∈ B, w.before args s = true) : ∀ w ∈ L, w.before args s = true := by
  intro w hw
  by_cases g : goodWord w = true
  · exact h1 w (List.mem_filter.mpr ⟨hw, g⟩)
  · refine h3 w (h2 w (List.mem_filter.mpr ⟨hw, ?_⟩))
    show (!goodWord w) = true
    cases hgw : goodWord w
    · rfl
    · exact absurd hgw g
theorem vx_c {args : Array Value} {s : State} {w : Cond} {B : List Cond} (h : w.before args s = true) (t : ∀ w ∈ B, w.before args s = true) : ∀ w' ∈ w :: B, w'.before args s = true := fun w' h' => (List.mem_cons.mp h').elim (fun e => by rw [e]; exact h) (t w')
theorem vx_n {args : Array Value} {s : State} : ∀ w ∈ ([] : List Cond), w.before args s = true := fun _ h => nomatch h
theorem vx_own {args : Array Value} {s : State} {L : List Cond} (h1 : ∀ w ∈ L.filter vx_no, w.before args s = true)
    (hU : (Cond.isRef (.static Bundle.tN "UNASSIGNED_STACK" Bundle.steD)).before args s = true) (hN : (Cond.isRef (.static Bundle.tN "SUPPRESSED_SENTINEL" Bundle.listD)).before args s = true)
    (lU : (Cond.laysStatic Bundle.tN "UNASSIGNED_STACK" Bundle.steD).before args s = true) (lN : (Cond.laysStatic Bundle.tN "SUPPRESSED_SENTINEL" Bundle.listD).before args s = true) : ∀ w ∈ L, w.before args s = true := by
  intro w hw
  by_cases e1 : w = .isRef (.static Bundle.tN "UNASSIGNED_STACK" Bundle.steD)
  · rw [e1]; exact hU
  · by_cases e2 : w = .isRef (.static Bundle.tN "SUPPRESSED_SENTINEL" Bundle.listD)
    · rw [e2]; exact hN
    · by_cases e3 : w = .laysStatic Bundle.tN "UNASSIGNED_STACK" Bundle.steD
      · rw [e3]; exact lU
      · by_cases e4 : w = .laysStatic Bundle.tN "SUPPRESSED_SENTINEL" Bundle.listD
        · rw [e4]; exact lN
        · exact h1 w (List.mem_filter.mpr ⟨hw, by unfold vx_no; rw [decide_eq_true e1, decide_eq_true e2, decide_eq_true e3, decide_eq_true e4]; rfl⟩)
/-- where a static field lies, its class's statics cell in H -/
def vx_L (C n d : String) (A : Nat → Prop) (U : State) (H : Heap) : Prop := ∃ (c : ClassId) (k : Class) (i : Nat) (f : Field) (a : Nat) (cell : Cell), U.vm.findClass C = some c ∧ U.fieldFound? C n d = some (c, k, i, f) ∧ f.isStatic = true ∧ k.statics = some a ∧ H[a]? = some cell ∧ cell.vm.isStatics = true ∧ cell.cls = c ∧ f.slot < cell.slots.size ∧ k.staticTypes[f.slot]? = some f.type ∧ ¬ A a
theorem vx_L.moved {C n d : String} {A : Nat → Prop} {u U : State} {H : Heap} (hvm : u.vm.Alike U.vm) (h : vx_L C n d A u H) : vx_L C n d A U H := by
  obtain ⟨c, k, i, f, a, cell, h1, h2, h3, h4, h5, h6, h7, h8, h9, h10⟩ := h
  obtain ⟨k', hi', he⟩ := State.fieldFound?_setVm hvm h2
  exact ⟨c, k', i, f, a, cell, by rw [hvm.findClass]; exact h1, hi', h3, by rw [he]; exact h4, h5, h6, h7, h8, by rw [he]; exact h9, h10⟩
theorem vx_L.kept {C n d : String} {A : Nat → Prop} {U : State} {H H1 : Heap} (h : vx_L C n d A U H) (hq : ∀ a : Nat, a < H.size → ¬ A a → H1[a]? = H[a]?) : vx_L C n d A U H1 := by
  obtain ⟨c, k, i, f, a, cell, h1, h2, h3, h4, h5, h6, h7, h8, h9, h10⟩ := h
  exact ⟨c, k, i, f, a, cell, h1, h2, h3, h4, by rw [hq a (Array.getElem?_eq_some_iff.mp h5).1 h10]; exact h5, h6, h7, h8, h9, h10⟩
theorem vx_L.narrow {C n d : String} {A B : Nat → Prop} {U : State} {H : Heap} (h : vx_L C n d A U H) (hAB : ∀ q, B q → A q) : vx_L C n d B U H := by
  obtain ⟨c, k, i, f, a, cell, h1, h2, h3, h4, h5, h6, h7, h8, h9, h10⟩ := h
  exact ⟨c, k, i, f, a, cell, h1, h2, h3, h4, h5, h6, h7, h8, h9, fun z => h10 (hAB _ z)⟩
theorem vx_L.word {C n d : String} {A : Nat → Prop} {s : State} {args : Array Value} (h : vx_L C n d A s s.heap) : (Cond.laysStatic C n d).before args s = true := by
  obtain ⟨c, k, i, f, a, cell, h1, h2, h3, h4, h5, h6, h7, h8, h9, -⟩ := h
  show (Cond.laysStatic C n d).holds args s none s [] = true
  exact Cond.laysStatic_of h1 h2 h3 h4 h5 h6 h7 h8 h9
/-- .. and what it holds: null or some reference -/
def vx_Zq (C n d : String) (A : Nat → Prop) (U : State) (H : Heap) : Prop := va_Zq C n d A U H ∧ vx_L C n d A U H
theorem vx_Zq.moved {C n d : String} {A : Nat → Prop} {u U : State} {H : Heap} (hvm : u.vm.Alike U.vm) (h : vx_Zq C n d A u H) : vx_Zq C n d A U H := ⟨va_Zq.moved hvm h.1, vx_L.moved hvm h.2⟩
theorem vx_Zq.kept {C n d : String} {A : Nat → Prop} {U : State} {H H1 : Heap} (h : vx_Zq C n d A U H) (hq : ∀ a : Nat, a < H.size → ¬ A a → H1[a]? = H[a]?) : vx_Zq C n d A U H1 := ⟨va_Zq.kept h.1 hq, vx_L.kept h.2 hq⟩
theorem vx_Zq.narrow {C n d : String} {A B : Nat → Prop} {U : State} {H : Heap} (h : vx_Zq C n d A U H) (hAB : ∀ q, B q → A q) : vx_Zq C n d B U H := ⟨va_Zq.narrow h.1 hAB, vx_L.narrow h.2 hAB⟩
theorem vx_Zqof {args : Array Value} {s : State} {C n d : String} {A : Nat → Prop} (hl : (Cond.laysStatic C n d).before args s = true) (hini : (Cond.initialized C).before args s = true) (h : (Cond.isRef (.static C n d)).before args s = true) (hA : ∀ a : Nat, a < s.heap.size → ¬ A a) : vx_Zq C n d A s s.heap := by
  refine ⟨va_Zqof hl hini h hA, ?_⟩
  obtain ⟨c, k, i, f, a, cell, h1, h2, h3, h4, h5, h6, h7, h8, h9⟩ := Cond.laysStatic_spec hl
  exact ⟨c, k, i, f, a, cell, h1, h2, h3, h4, h5, h6, h7, h8, h9, hA a (Array.getElem?_eq_some_iff.mp h5).1⟩
theorem vx_isRef {C n d : String} {v : Value} {A : Nat → Prop} {s : State} {args : Array Value} (h : va_Z C n d v A s s.heap) (hv : v.isRef = true) : (Cond.isRef (.static C n d)).before args s = true := by
  obtain ⟨cf, kf, fi, f, a, cell, h1, h2, h3, h4, h5, h6, h7, -⟩ := h
  have he : (Term.static C n d).eval args s none [] s = some v := by
    simp [Term.eval, State.fieldNamed?, h1, h2, h4, h5, h6, h7]
  simp only [Cond.before, Cond.holds, Cond.value, he]
  cases v <;> simp_all [Value.isRef]
theorem vx_isRefq {C n d : String} {A : Nat → Prop} {s : State} {args : Array Value} (h : va_Zq C n d A s s.heap) : (Cond.isRef (.static C n d)).before args s = true := by
  rcases h with h | ⟨t, h⟩
  · exact vx_isRef h rfl
  · exact vx_isRef h rfl
/-- the same frame, seen from here: as if the method were called anew in this heap -/
theorem vx_rebase {T : State} (X : Stand p l e R s m args below meth c T locs cells slots) {R' : Room} (hf : R'.frames ≤ R.frames) (hl : R'.locals ≤ R.locals) (hc : cells + R'.cells ≤ R.cells) (hs : slots + R'.slots ≤ R.slots) :
    Stand p l e R' ((T.setVm s.vm).setFrames (.invoking m args :: below)) m args below meth c T [] 0 0 := by
  have htop : (T.setVm s.vm).topJava?.isSome := X.here.top
  have hF : ((T.setVm s.vm).setFrames (.invoking m args :: below)).frames = .invoking m args :: below := State.frames_setFrames _ (State.cur_lt_of_top htop)
  obtain ⟨g₀, hg0⟩ := Option.isSome_iff_exists.mp htop
  obtain ⟨r, hr⟩ := State.topJava?_eq_some.mp hg0
  have hl9 : e.platform.stackLimits (T.setVm s.vm).me = e.platform.stackLimits s.me := X.limits
  have hb9 : (T.setVm s.vm).me.stackBytes = s.me.stackBytes := X.bytes
  refine ⟨X.admits, X.cas, X.clock, hF, ?_, X.hears, X.method, X.code, X.here, X.tail, X.warmed, ?_, ?_, ?_⟩
  · have h := X.room
    have hU : ((T.setVm s.vm).setFrames (.invoking m args :: below)).localsInUse = s.localsInUse := by
      rw [State.localsInUse_invoking hF (meth := meth) (c := c) X.method X.code, State.localsInUse_invoking X.frames X.method X.code]
    simp only [State.hasRoom, Bool.and_eq_true, decide_eq_true_eq] at h ⊢
    obtain ⟨⟨⟨⟨h1, h2, h3, h4, h5, h6⟩, h7⟩, h8⟩, h9⟩ := h
    rw [X.frames, List.length_cons] at h2 h3
    have q1 := X.heapSize
    have q2 := X.used
    simp only [hF, hU, List.length_cons, State.stackLimits_setFrames, State.stackBytes_setFrames, hl9, hb9]
    refine ⟨⟨⟨⟨by omega, by omega, by omega, by omega, by omega, h6⟩, ?_⟩, ?_⟩, X.book⟩
    · show T.heap.size + R'.cells ≤ e.platform.maxCells
      omega
    · show T.slotsUsed + R'.slots ≤ e.platform.maxSlots
      omega
  · rw [State.stackLimits_setFrames]; rfl
  · rw [State.stackBytes_setFrames]; rfl
  · refine ⟨?_, Nat.le_refl _, Nat.le_refl _, ?_, ?_, fun a c9 h9 => ⟨c9, h9, rfl, rfl, fun _ _ => rfl⟩⟩
    · obtain ⟨t, ht, -⟩ := State.frames_cons hr
      show T.setVm s.vm = { ((T.setVm s.vm).setFrames (.invoking m args :: below)).setFrames (T.setVm s.vm).frames with heap := T.heap, slotsUsed := T.slotsUsed }
      rw [State.setFrames_setFrames, State.setFrames_self ht]
      rfl
    · show T.slotsUsed = T.slotsUsed + ((T.heap.toList.drop T.heap.size).map (·.slots.size)).sum
      rw [List.drop_eq_nil_of_le (Nat.le_of_eq Array.length_toList)]
      rfl
    · show ((T.heap.toList.drop T.heap.size).map (·.slots.size)).sum ≤ 0
      rw [List.drop_eq_nil_of_le (Nat.le_of_eq Array.length_toList)]
      exact Nat.le_refl _
/-- 'throw new E()': new; dup; invokespecial; athrow -/
theorem vx_throw0 {cc : ByteArray} {pc : Nat} (hexec : p.tables.exec = Jvm.exec) (hb : c.code = cc) (hl : l.stackTraces = false) {own cls : String} {names : List String} {ik ic mc ms : Nat} {A : Nat → Prop}
    (hown : s.vm.findClass own = some m.cls) (hcls : Bundle.fit cls = true) (hnames : ∀ n ∈ names, Bundle.fit n = true)
    (hk : (Cond.classLink own ik cls).before args s = true) (hini : (Cond.initialized cls).before args s = true) (hat : ∀ w ∈ vx_at0 own ic cls names, w.before args s = true)
    (hgood : ∀ w ∈ Cond.classLink own ik cls :: Cond.initialized cls :: vx_at0 own ic cls names, vx_ot w = true)
    (hU : vx_Zq Bundle.tN "UNASSIGNED_STACK" Bundle.steD A s s.heap) (hN : vx_Zq Bundle.tN "SUPPRESSED_SENTINEL" Bundle.listD A s s.heap) (hS : va_S A s.heap H locs) (hsize : ls.size = c.maxLocals)
    (d0 : decode cc pc = .ok (.new ik, 3)) (d3 : decode cc (pc + 3) = .ok (.dup, 1)) (d4 : decode cc (pc + 4) = .ok (.invokespecial ic, 3)) (d7 : decode cc (pc + 7) = .ok (.athrow, 1))
    (hout : ∀ x ∈ c.exceptionTable.toList, covers x (pc + 7) = false)
    (hRframes : names.length + 3 < R.frames) (hRlocals : (rest.map fun v => v.category).sum + (13 * (names.length + 1) + 42) ≤ R.locals) (hRcells : cells + 1 ≤ R.cells) (hRslots : slots + 6 ≤ R.slots) (hlocks : meth.locks = false)
    (hx : ∀ t : State, s.vm.Alike t.vm → H.size ≤ t.heap.size → (∀ q : Nat, q < H.size → t.heap[q]? = H[q]?) → XC cls s t)
    (hf : ∀ z ∈ locs, free z.base) (hc : cells + 1 ≤ mc) (hs : slots + 6 ≤ ms) :
    W p l e R s m args below meth c H locs cells slots (vx_MQ below Qc XC args s mc ms free) (F0 m pc ls rest) := by
  intro T hT X
  have htr : e.platform.stackTraces = false := (show e.platform.stackTraces = l.stackTraces by rw [X.admits.platform]).trans hl
  have Y := vx_rebase X (R' := { frames := R.frames, locals := R.locals, cells := 1, slots := 6 }) (Nat.le_refl _) (Nat.le_refl _) hRcells hRslots
  obtain ⟨s', hA⟩ : ∃ z, z = (T.setVm s.vm).setFrames (.invoking m args :: below) := ⟨_, rfl⟩
  rw [← hA] at Y
  have hvm : s'.vm = s.vm := by rw [hA]; rfl
  have hhp : s'.heap = H := by rw [hA]; exact hT
  have hW0 : s.WarmedH s'.vm := by rw [hvm]; exact State.WarmedH.refl s
  have hat' : ∀ w ∈ vx_at0 own ic cls names, w.before args s' = true := fun w hw => vx_ot_at hW0 hvm.symm (hgood w (List.mem_cons_of_mem _ (List.mem_cons_of_mem _ hw))) (hat w hw)
  have hk' : (Cond.classLink own ik cls).before args s' = true := vx_ot_at hW0 hvm.symm (hgood _ List.mem_cons_self) hk
  have hini' : (Cond.initialized cls).before args s' = true := vx_ot_at hW0 hvm.symm (hgood _ (List.mem_cons_of_mem _ List.mem_cons_self)) hini
  have hU' : vx_Zq Bundle.tN "UNASSIGNED_STACK" Bundle.steD A s' s'.heap := by rw [hhp]; exact vx_Zq.moved hW0.alike (hU.kept hS.2.1)
  have hN' : vx_Zq Bundle.tN "SUPPRESSED_SENTINEL" Bundle.listD A s' s'.heap := by rw [hhp]; exact vx_Zq.moved hW0.alike (hN.kept hS.2.1)
  have h : ∀ w ∈ Bundle.ownAtoms0 own ic cls names, w.before args s' = true := vx_own hat' (vx_isRefq hU'.1) (vx_isRefq hN'.1) hU'.2.word hN'.2.word
  have hown' : s'.vm.findClass own = some m.cls := by rw [hvm]; exact hown
  have hins : (Cond.instantiable cls 6).before args s' = true := h _ (by simp [Bundle.ownAtoms0])
  obtain ⟨vm₁, cX, kX, hfX, hkX, -, -, X₁, st1⟩ := Y.newCold hexec (own := own) (C := cls) (index := ik) (n := 6) hown' hk' hins hini'
    (g := F0 m pc ls rest) rfl (by rw [hb]; exact d0) (Nat.le_refl _) (Nat.le_refl _)
  generalize hT1 : (T.setVm vm₁).pushCell { cls := cX, slots := kX.instanceTypes.map defaultValue, vm := .none } = T1 at X₁ st1
  have hcat : (Value.ref T.heap.size).category = 1 := rfl
  have hcellA : T1.heap[T.heap.size]? = some (freshCell cX kX) := by rw [← hT1]; exact State.heap_pushCell_size _ _
  have d3' : decode c.code (pc + 3) = .ok (.dup, 1) := by rw [hb]; exact d3
  obtain ⟨U, hsteps, hrun, hend, hW, hsame, ce, hce, hO⟩ := X₁.ctorThrow0 hexec htr (own := own) (cls := cls) (names := names) (ic := ic) hown' hcls hnames h (fun x hx => nomatch hx) hfX hkX hcellA (by rw [hhp, hT]; exact Nat.le_refl _)
    (g := { method := m, pc := pc + 4, locals := ls, stack := .ref T.heap.size :: .ref T.heap.size :: rest, locked := none }) rfl hsize rfl rfl (rest := rest) rfl
    (by rw [hb]; exact d4) (by rw [hb]; exact d7) hout hRframes (by simp only [List.map_cons, List.sum_cons, hcat]; omega) hlocks
  obtain ⟨f1, f2⟩ := vx_frame hsame
  rw [hhp] at f1 f2
  have hWs : s.WarmedH U.vm := State.WarmedH.trans hW0 hW
  have hcl : s.vm.findClass cls = some ce.cls := by
    have h9 := hO.cls
    rw [hvm] at h9
    exact h9
  have hall : s.sameButNew ({ U with vm := s.vm } : State) locs mc ms := by
    subst hA
    obtain ⟨e1, e2⟩ := hsame
    rw [State.setFrames_setFrames] at e1
    have h2 : (T.setVm s.vm).sameButNew ({ U with vm := s.vm } : State) [] (0 + 1) (0 + 6) := ⟨e1, e2⟩
    have h3 := X.same.trans h2
    rw [List.append_nil] at h3
    exact h3.mono hc hs
  refine ⟨U, ?_, .threw T.heap.size, hrun, hend, Or.inr ⟨T.heap.size, rfl, cls, ce, locs, hx U hWs.alike f1 (fun q hq => f2 q hq (fun z hz => nomatch hz)), hce, hO.vm, hcl, hWs, hall, hf⟩⟩
  refine st1 _ ?_
  show Steps p.tables e below (T1.setTop { method := m, pc := pc + 3, locals := ls, stack := .ref T.heap.size :: rest, locked := none }) _
  jvm_step X₁.here [X₁.here.top, hexec, d3', Value.category]
  exact hsteps
/-- 'throw new E("text")': new; dup; ldc; invokespecial; athrow -/
theorem vx_throwS {cc : ByteArray} {pc : Nat} (hexec : p.tables.exec = Jvm.exec) (hb : c.code = cc) (hl : l.stackTraces = false) {own cls text : String} {names : List String} {ik is ic mc ms sa : Nat} {A : Nat → Prop}
    (hown : s.vm.findClass own = some m.cls) (hcls : Bundle.fit cls = true) (hnames : ∀ n ∈ names, Bundle.fit n = true)
    (hk : (Cond.classLink own ik cls).before args s = true) (hini : (Cond.initialized cls).before args s = true) (hstr : vk_R own is text sa s) (hat : ∀ w ∈ vx_atS own ic cls names, w.before args s = true)
    (hgood : ∀ w ∈ Cond.classLink own ik cls :: Cond.initialized cls :: vx_atS own ic cls names, vx_ot w = true)
    (hU : vx_Zq Bundle.tN "UNASSIGNED_STACK" Bundle.steD A s s.heap) (hN : vx_Zq Bundle.tN "SUPPRESSED_SENTINEL" Bundle.listD A s s.heap) (hS : va_S A s.heap H locs) (hsize : ls.size = c.maxLocals)
    (d0 : decode cc pc = .ok (.new ik, 3)) (d3 : decode cc (pc + 3) = .ok (.dup, 1)) (d4 : decode cc (pc + 4) = .ok (.ldc is, 2)) (d6 : decode cc (pc + 6) = .ok (.invokespecial ic, 3)) (d9 : decode cc (pc + 9) = .ok (.athrow, 1))
    (hout : ∀ x ∈ c.exceptionTable.toList, covers x (pc + 9) = false)
    (hRframes : names.length + 3 < R.frames) (hRlocals : (rest.map fun v => v.category).sum + (13 * (names.length + 1) + 43) ≤ R.locals) (hRcells : cells + 1 ≤ R.cells) (hRslots : slots + 6 ≤ R.slots) (hlocks : meth.locks = false)
    (hx : ∀ t : State, s.vm.Alike t.vm → H.size ≤ t.heap.size → (∀ q : Nat, q < H.size → t.heap[q]? = H[q]?) → XC cls s t)
    (hf : ∀ z ∈ locs, free z.base) (hc : cells + 1 ≤ mc) (hs : slots + 6 ≤ ms) :
    W p l e R s m args below meth c H locs cells slots (vx_MQ below Qc XC args s mc ms free) (F0 m pc ls rest) := by
  intro T hT X
  have htr : e.platform.stackTraces = false := (show e.platform.stackTraces = l.stackTraces by rw [X.admits.platform]).trans hl
  have Y := vx_rebase X (R' := { frames := R.frames, locals := R.locals, cells := 1, slots := 6 }) (Nat.le_refl _) (Nat.le_refl _) hRcells hRslots
  obtain ⟨s', hA⟩ : ∃ z, z = (T.setVm s.vm).setFrames (.invoking m args :: below) := ⟨_, rfl⟩
  rw [← hA] at Y
  have hvm : s'.vm = s.vm := by rw [hA]; rfl
  have hhp : s'.heap = H := by rw [hA]; exact hT
  have hW0 : s.WarmedH s'.vm := by rw [hvm]; exact State.WarmedH.refl s
  have hat' : ∀ w ∈ vx_atS own ic cls names, w.before args s' = true := fun w hw => vx_ot_at hW0 hvm.symm (hgood w (List.mem_cons_of_mem _ (List.mem_cons_of_mem _ hw))) (hat w hw)
  have hk' : (Cond.classLink own ik cls).before args s' = true := vx_ot_at hW0 hvm.symm (hgood _ List.mem_cons_self) hk
  have hini' : (Cond.initialized cls).before args s' = true := vx_ot_at hW0 hvm.symm (hgood _ (List.mem_cons_of_mem _ List.mem_cons_self)) hini
  have hU' : vx_Zq Bundle.tN "UNASSIGNED_STACK" Bundle.steD A s' s'.heap := by rw [hhp]; exact vx_Zq.moved hW0.alike (hU.kept hS.2.1)
  have hN' : vx_Zq Bundle.tN "SUPPRESSED_SENTINEL" Bundle.listD A s' s'.heap := by rw [hhp]; exact vx_Zq.moved hW0.alike (hN.kept hS.2.1)
  have h : ∀ w ∈ Bundle.ownAtoms own ic cls names, w.before args s' = true := vx_own hat' (vx_isRefq hU'.1) (vx_isRefq hN'.1) hU'.2.word hN'.2.word
  have hown' : s'.vm.findClass own = some m.cls := by rw [hvm]; exact hown
  have hins : (Cond.instantiable cls 6).before args s' = true := h _ (by simp [Bundle.ownAtoms])
  obtain ⟨vm₁, cX, kX, hfX, hkX, -, -, X₁, st1⟩ := Y.newCold hexec (own := own) (C := cls) (index := ik) (n := 6) hown' hk' hins hini'
    (g := F0 m pc ls rest) rfl (by rw [hb]; exact d0) (Nat.le_refl _) (Nat.le_refl _)
  generalize hT1 : (T.setVm vm₁).pushCell { cls := cX, slots := kX.instanceTypes.map defaultValue, vm := .none } = T1 at X₁ st1
  have hcat : (Value.ref T.heap.size).category = 1 := rfl
  have hcellA : T1.heap[T.heap.size]? = some (freshCell cX kX) := by rw [← hT1]; exact State.heap_pushCell_size _ _
  have d3' : decode c.code (pc + 3) = .ok (.dup, 1) := by rw [hb]; exact d3
  have d4' : decode c.code (pc + 4) = .ok (.ldc is, 2) := by rw [hb]; exact d4
  have hstr' : vk_R own is text sa s' := vk_R.warm hW0 hstr
  obtain ⟨U, hsteps, hrun, hend, hW, hsame, ce, hce, hO⟩ := X₁.ctorThrowS hexec htr (own := own) (cls := cls) (names := names) (ic := ic) hown' hcls hnames h (fun x hx => nomatch hx) hfX hkX hcellA (by rw [hhp, hT]; exact Nat.le_refl _) (msg := .ref sa) rfl
    (g := { method := m, pc := pc + 6, locals := ls, stack := .ref sa :: .ref T.heap.size :: .ref T.heap.size :: rest, locked := none }) rfl hsize rfl rfl (rest := rest) rfl
    (by rw [hb]; exact d6) (by rw [hb]; exact d9) hout hRframes (by simp only [List.map_cons, List.sum_cons, hcat]; omega) hlocks
  obtain ⟨f1, f2⟩ := vx_frame hsame
  rw [hhp] at f1 f2
  have hWs : s.WarmedH U.vm := State.WarmedH.trans hW0 hW
  have hcl : s.vm.findClass cls = some ce.cls := by
    have h9 := hO.cls
    rw [hvm] at h9
    exact h9
  have hall : s.sameButNew ({ U with vm := s.vm } : State) locs mc ms := by
    subst hA
    obtain ⟨e1, e2⟩ := hsame
    rw [State.setFrames_setFrames] at e1
    have h2 : (T.setVm s.vm).sameButNew ({ U with vm := s.vm } : State) [] (0 + 1) (0 + 6) := ⟨e1, e2⟩
    have h3 := X.same.trans h2
    rw [List.append_nil] at h3
    exact h3.mono hc hs
  refine ⟨U, ?_, .threw T.heap.size, hrun, hend, Or.inr ⟨T.heap.size, rfl, cls, ce, locs, hx U hWs.alike f1 (fun q hq => f2 q hq (fun z hz => nomatch hz)), hce, hO.vm, hcl, hWs, hall, hf⟩⟩
  refine st1 _ ?_
  show Steps p.tables e below (T1.setTop { method := m, pc := pc + 3, locals := ls, stack := .ref T.heap.size :: rest, locked := none }) _
  jvm_step X₁.here [X₁.here.top, hexec, d3', Value.category]
  exact X₁.ldcString hexec (own := own) (text := text) (index := is) (a := sa) hown' hstr'.1 hstr'.2
    (g := { method := m, pc := pc + 4, locals := ls, stack := .ref T.heap.size :: .ref T.heap.size :: rest, locked := none }) rfl d4' _ hsteps
/-- 'throw new E("text")', the text by a wide index -/
theorem vx_throwSW {cc : ByteArray} {pc : Nat} (hexec : p.tables.exec = Jvm.exec) (hb : c.code = cc) (hl : l.stackTraces = false) {own cls text : String} {names : List String} {ik is ic mc ms sa : Nat} {A : Nat → Prop}
    (hown : s.vm.findClass own = some m.cls) (hcls : Bundle.fit cls = true) (hnames : ∀ n ∈ names, Bundle.fit n = true)
    (hk : (Cond.classLink own ik cls).before args s = true) (hini : (Cond.initialized cls).before args s = true) (hstr : vk_R own is text sa s) (hat : ∀ w ∈ vx_atS own ic cls names, w.before args s = true)
    (hgood : ∀ w ∈ Cond.classLink own ik cls :: Cond.initialized cls :: vx_atS own ic cls names, vx_ot w = true)
    (hU : vx_Zq Bundle.tN "UNASSIGNED_STACK" Bundle.steD A s s.heap) (hN : vx_Zq Bundle.tN "SUPPRESSED_SENTINEL" Bundle.listD A s s.heap) (hS : va_S A s.heap H locs) (hsize : ls.size = c.maxLocals)
    (d0 : decode cc pc = .ok (.new ik, 3)) (d3 : decode cc (pc + 3) = .ok (.dup, 1)) (d4 : decode cc (pc + 4) = .ok (.ldc_w is, 3)) (d7 : decode cc (pc + 7) = .ok (.invokespecial ic, 3)) (d10 : decode cc (pc + 10) = .ok (.athrow, 1))
    (hout : ∀ x ∈ c.exceptionTable.toList, covers x (pc + 10) = false)
    (hRframes : names.length + 3 < R.frames) (hRlocals : (rest.map fun v => v.category).sum + (13 * (names.length + 1) + 43) ≤ R.locals) (hRcells : cells + 1 ≤ R.cells) (hRslots : slots + 6 ≤ R.slots) (hlocks : meth.locks = false)
    (hx : ∀ t : State, s.vm.Alike t.vm → H.size ≤ t.heap.size → (∀ q : Nat, q < H.size → t.heap[q]? = H[q]?) → XC cls s t)
    (hf : ∀ z ∈ locs, free z.base) (hc : cells + 1 ≤ mc) (hs : slots + 6 ≤ ms) :
    W p l e R s m args below meth c H locs cells slots (vx_MQ below Qc XC args s mc ms free) (F0 m pc ls rest) := by
  intro T hT X
  have htr : e.platform.stackTraces = false := (show e.platform.stackTraces = l.stackTraces by rw [X.admits.platform]).trans hl
  have Y := vx_rebase X (R' := { frames := R.frames, locals := R.locals, cells := 1, slots := 6 }) (Nat.le_refl _) (Nat.le_refl _) hRcells hRslots
  obtain ⟨s', hA⟩ : ∃ z, z = (T.setVm s.vm).setFrames (.invoking m args :: below) := ⟨_, rfl⟩
  rw [← hA] at Y
  have hvm : s'.vm = s.vm := by rw [hA]; rfl
  have hhp : s'.heap = H := by rw [hA]; exact hT
  have hW0 : s.WarmedH s'.vm := by rw [hvm]; exact State.WarmedH.refl s
  have hat' : ∀ w ∈ vx_atS own ic cls names, w.before args s' = true := fun w hw => vx_ot_at hW0 hvm.symm (hgood w (List.mem_cons_of_mem _ (List.mem_cons_of_mem _ hw))) (hat w hw)
  have hk' : (Cond.classLink own ik cls).before args s' = true := vx_ot_at hW0 hvm.symm (hgood _ List.mem_cons_self) hk
  have hini' : (Cond.initialized cls).before args s' = true := vx_ot_at hW0 hvm.symm (hgood _ (List.mem_cons_of_mem _ List.mem_cons_self)) hini
  have hU' : vx_Zq Bundle.tN "UNASSIGNED_STACK" Bundle.steD A s' s'.heap := by rw [hhp]; exact vx_Zq.moved hW0.alike (hU.kept hS.2.1)
  have hN' : vx_Zq Bundle.tN "SUPPRESSED_SENTINEL" Bundle.listD A s' s'.heap := by rw [hhp]; exact vx_Zq.moved hW0.alike (hN.kept hS.2.1)
  have h : ∀ w ∈ Bundle.ownAtoms own ic cls names, w.before args s' = true := vx_own hat' (vx_isRefq hU'.1) (vx_isRefq hN'.1) hU'.2.word hN'.2.word
  have hown' : s'.vm.findClass own = some m.cls := by rw [hvm]; exact hown
  have hins : (Cond.instantiable cls 6).before args s' = true := h _ (by simp [Bundle.ownAtoms])
  obtain ⟨vm₁, cX, kX, hfX, hkX, -, -, X₁, st1⟩ := Y.newCold hexec (own := own) (C := cls) (index := ik) (n := 6) hown' hk' hins hini'
    (g := F0 m pc ls rest) rfl (by rw [hb]; exact d0) (Nat.le_refl _) (Nat.le_refl _)
  generalize hT1 : (T.setVm vm₁).pushCell { cls := cX, slots := kX.instanceTypes.map defaultValue, vm := .none } = T1 at X₁ st1
  have hcat : (Value.ref T.heap.size).category = 1 := rfl
  have hcellA : T1.heap[T.heap.size]? = some (freshCell cX kX) := by rw [← hT1]; exact State.heap_pushCell_size _ _
  have d3' : decode c.code (pc + 3) = .ok (.dup, 1) := by rw [hb]; exact d3
  have d4' : decode c.code (pc + 4) = .ok (.ldc_w is, 3) := by rw [hb]; exact d4
  have hstr' : vk_R own is text sa s' := vk_R.warm hW0 hstr
  obtain ⟨U, hsteps, hrun, hend, hW, hsame, ce, hce, hO⟩ := X₁.ctorThrowS hexec htr (own := own) (cls := cls) (names := names) (ic := ic) hown' hcls hnames h (fun x hx => nomatch hx) hfX hkX hcellA (by rw [hhp, hT]; exact Nat.le_refl _) (msg := .ref sa) rfl
    (g := { method := m, pc := pc + 7, locals := ls, stack := .ref sa :: .ref T.heap.size :: .ref T.heap.size :: rest, locked := none }) rfl hsize rfl rfl (rest := rest) rfl
    (by rw [hb]; exact d7) (by rw [hb]; exact d10) hout hRframes (by simp only [List.map_cons, List.sum_cons, hcat]; omega) hlocks
  obtain ⟨f1, f2⟩ := vx_frame hsame
  rw [hhp] at f1 f2
  have hWs : s.WarmedH U.vm := State.WarmedH.trans hW0 hW
  have hcl : s.vm.findClass cls = some ce.cls := by
    have h9 := hO.cls
    rw [hvm] at h9
    exact h9
  have hall : s.sameButNew ({ U with vm := s.vm } : State) locs mc ms := by
    subst hA
    obtain ⟨e1, e2⟩ := hsame
    rw [State.setFrames_setFrames] at e1
    have h2 : (T.setVm s.vm).sameButNew ({ U with vm := s.vm } : State) [] (0 + 1) (0 + 6) := ⟨e1, e2⟩
    have h3 := X.same.trans h2
    rw [List.append_nil] at h3
    exact h3.mono hc hs
  refine ⟨U, ?_, .threw T.heap.size, hrun, hend, Or.inr ⟨T.heap.size, rfl, cls, ce, locs, hx U hWs.alike f1 (fun q hq => f2 q hq (fun z hz => nomatch hz)), hce, hO.vm, hcl, hWs, hall, hf⟩⟩
  refine st1 _ ?_
  show Steps p.tables e below (T1.setTop { method := m, pc := pc + 3, locals := ls, stack := .ref T.heap.size :: rest, locked := none }) _
  jvm_step X₁.here [X₁.here.top, hexec, d3', Value.category]
  exact X₁.ldcStringW hexec (own := own) (text := text) (index := is) (a := sa) hown' hstr'.1 hstr'.2
    (g := { method := m, pc := pc + 4, locals := ls, stack := .ref T.heap.size :: .ref T.heap.size :: rest, locked := none }) rfl d4' _ hsteps
end Ends
section Bodies
variable {l : Launch}
theorem vx_ofW {y : MethodName} {ws ws' : List Cond} {rm : Room} {Pc : Array Value → State → Prop} {Qc : Array Value → State → Outcome → State → Prop} {XC : String → State → State → Prop} {mc ms : Nat} {free : Addr → Prop} {cc : ByteArray} {maxL : Nat} {ret : Option FieldType}
    (hy : plainName y.cls = true) (hw : ws = Cond.code y cc maxL ret :: ws')
    (body : ∀ p e s m args below meth c s₁, BodyLoose p l y (headSpec ws rm) cc maxL ret e s m args below meth c s₁ → c.maxLocals = maxL → (∀ x ∈ c.exceptionTable.toList, False) → Pc args s →
      W p l e (headSpec ws rm).room s m args below meth c s.heap [] 0 0 (vx_MQ below Qc XC args s mc ms free) (entryFrame m args maxL)) : vx_Met l y ws rm Pc Qc XC mc ms free := by
  refine MetFree.of_bodyS (code := cc) (maxLocals := maxL) (ret := ret) hy ?_ ?_
  · intro args s m h hn
    obtain ⟨meth, c, h1, h2, h3, h4, h5, h6, -, -⟩ := Cond.code_spec hn (atoms_spec (ws := ws) h _ (by rw [hw]; exact List.mem_cons_self))
    exact ⟨meth, c, h1, h2, h3, h4, h5, h6⟩
  · intro p e s m args below meth c s₁ B hml hP _
    have hh0 : s₁.heap = s.heap := by rw [B.state]; rfl
    have ht : ∀ x ∈ c.exceptionTable.toList, False := by
      obtain ⟨meth9, c9, h1, h2, -, -, -, -, h7, -⟩ := Cond.code_spec B.named (atoms_spec (ws := ws) B.pre _ (by rw [hw]; exact List.mem_cons_self))
      cases Option.some.inj (h1.symm.trans B.method)
      cases Option.some.inj (h2.symm.trans (Stand.of_body B).code)
      intro x hx
      rw [Array.isEmpty_iff.mp h7] at hx
      cases hx
    obtain ⟨t, a1, o, b1, b2, b3⟩ := body p e s m args below meth c s₁ B hml ht hP s₁ hh0 (Stand.of_body B)
    exact ⟨t, o, a1, b1, b2, b3⟩
/-- the table of a body with handlers -/
theorem vx_table {p : Program} {x y : MethodName} {S : Spec} {cc bytes : ByteArray} {maxL maxL' : Nat} {ret ret' : Option FieldType} {e : Env} {s s₁ : State} {m : MethodId} {args : Array Value} {below : List Frame} {meth : Method} {c : Code} {hh : List (Nat × Nat × Nat × Nat)}
    (B : BodyLoose p l y S cc maxL ret e s m args below meth c s₁) (h : (Cond.codeWith y bytes maxL' ret' hh).before args s = true) : c.exceptionTable.toList = tableOf hh := by
  obtain ⟨m9, meth9, c9, hn9, h1, h2, -, -, h6, -⟩ := Cond.codeWith_spec h
  cases Option.some.inj (hn9.symm.trans B.named)
  cases Option.some.inj (h1.symm.trans B.method)
  cases Option.some.inj (h2.symm.trans (Stand.of_body B).code)
  rw [← h6, table_eq]
end Bodies
end VXA
/-! ===== END ===== -/
/-! ===== BEGIN a static call of a method with an exception table ===== -/
section VXS
variable {p : Program} {l : Launch} {e : Env} {R : Room} {s : State} {m : MethodId} {args : Array Value} {below : List Frame} {meth : Method} {c : Code} {T : State} {H : Heap} {locs : List Loc} {cells slots : Nat}
abbrev vx_CSW (R : Room) (s : State) (args : Array Value) (own : String) (index : Nat) (y : MethodName) (bytes : ByteArray) (maxL : Nat) (ret : Option FieldType) (hh : List (Nat × Nat × Nat × Nat)) (ws : List Cond) (rm : Room) (mc ms n : Nat) : Prop :=
  (rm.cells = mc ∧ rm.slots = ms ∧ rm.frames + 1 ≤ R.frames ∧ 8 + (maxL + 11) + rm.locals ≤ R.locals ∧ (∀ w ∈ ws, ∀ (a' : Array Value) (U : State), s.WarmedH U.vm → w.before a' U = true) ∧ Cond.codeWith y bytes maxL ret hh ∈ ws) ∧
  (Cond.codeWith y bytes maxL ret hh).before args s = true ∧ (Cond.initialized y.cls).before args s = true ∧ (y.cls ≠ "java/lang/invoke/MethodHandle" ∧ y.cls ≠ "java/lang/invoke/VarHandle") ∧
  (∀ sig, parseMethodDescriptor y.desc = some sig → n = sig.parameters.length) ∧ (Cond.methodLink own index y).before args s = true ∧ (Cond.static y).before args s = true
theorem vx_cwSW {own : String} {index maxL mc ms : Nat} {y : MethodName} {bytes : ByteArray} {ret : Option FieldType} {hh : List (Nat × Nat × Nat × Nat)} {Ts ws ws' : List Cond} {rm : Room} (n : Nat) (ht : ∀ w ∈ Ts, w.before args s = true) (hT : GoodIn Ts (va_wsS own index y ws)) (hw : ws = Cond.codeWith y bytes maxL ret hh :: ws') (hrc : rm.cells = mc) (hrs : rm.slots = ms)
    (hd : y.cls ≠ "java/lang/invoke/MethodHandle" ∧ y.cls ≠ "java/lang/invoke/VarHandle" ∧ (parseMethodDescriptor y.desc).map (fun d => d.parameters.length) = some n) (hR : rm.frames + 1 ≤ R.frames ∧ 8 + (maxL + 11) + rm.locals ≤ R.locals) :
    vx_CSW R s args own index y bytes maxL ret hh ws rm mc ms n := by
  have ok : ∀ w ∈ va_wsS own index y ws, w.before args s = true := fun w h => ht w (hT w h).1
  have hG : GoodIn Ts ws := fun w h => hT w (by unfold va_wsS; exact List.mem_append_right _ h)
  have hc : Cond.codeWith y bytes maxL ret hh ∈ ws := by rw [hw]; exact List.mem_cons_self
  refine ⟨⟨hrc, hrs, hR.1, hR.2, pay_in ht hG, hc⟩, ht _ (hG _ hc).1, ok _ (by simp [va_wsS]), ⟨hd.1, hd.2.1⟩, fun sig h => ?_, ok _ (by simp [va_wsS]), ok _ (by simp [va_wsS])⟩
  have h2 := hd.2.2
  rw [h] at h2
  exact (Option.some.inj h2).symm
theorem vx_callSW (X : Stand p l e R s m args below meth c T locs cells slots) (hexec : p.tables.exec = Jvm.exec) {own : String} {index : Nat} {y : MethodName} {bytes : ByteArray} {maxL : Nat} {ret : Option FieldType} {hh : List (Nat × Nat × Nat × Nat)}
    (hown : s.vm.findClass own = some m.cls) (hlink : (Cond.methodLink own index y).before args s = true) (hstat : (Cond.static y).before args s = true) (hinit : (Cond.initialized y.cls).before args s = true)
    (hcode : (Cond.codeWith y bytes maxL ret hh).before args s = true) (hy : y.cls ≠ "java/lang/invoke/MethodHandle" ∧ y.cls ≠ "java/lang/invoke/VarHandle")
    {W9 : Nat} {Pre : Pt → Array Value → Prop} {Post : Pt → Array Value → Option Value → Pt → Prop} (hK : Back l R p e below s args y 3 W9 Pre Post)
    {g : JFrame} (hg : g.method = m) (hsize : g.locals.size = c.maxLocals) {argsL rest : List Value} (hlen : ∀ sig, parseMethodDescriptor y.desc = some sig → argsL.length = sig.parameters.length)
    (hstack : g.stack = argsL.reverse ++ rest) (hW : 2 * g.monitorRoom + (rest.map fun v => v.category).sum ≤ W9) (hdg : decode c.code g.pc = .ok (.invokestatic index, 3))
    (hpre : ∀ vm₁, s.WarmedH vm₁ → Pre ⟨T.setVm vm₁, locs, cells, slots⟩ argsL.toArray) :
    ∃ (v : Option Value) (vm₁ : Vm) (B : Pt), s.WarmedH vm₁ ∧ Stand p l e R s m args below meth c B.U B.locs B.cells B.slots ∧ Post ⟨T.setVm vm₁, locs, cells, slots⟩ argsL.toArray v B ∧
      ∀ target, Steps p.tables e below (B.U.setTop { g with pc := g.pc + 3, stack := v.toList ++ rest }) target → Steps p.tables e below (T.setTop g) target := by
  obtain ⟨mk, methM, cM, hnamed, hmethM, -, -, -, -, -, -, hsigM⟩ := Cond.codeWith_spec hcode
  have hstatic : methM.isStatic = true := Cond.static_spec hnamed hmethM hstat
  obtain ⟨kP, hkP, -⟩ := className_of_methodNamed hnamed
  have hinitP : kP.init = .initialized := Cond.initialized_spec (findClass_of_methodNamed hnamed) hkP hinit
  obtain ⟨vm₁, X₁, hstep₁⟩ := X.invokestatic hexec hown hlink hnamed hmethM hstatic hkP hinitP hy (g := g) hg (argsL := argsL) (rest := rest) (hlen _ hsigM) hstack hdg
  obtain ⟨v, B, X', hpost, hsteps⟩ := hK m meth c ⟨T.setVm vm₁, locs, cells, slots⟩ { g with stack := rest } (.invokestatic index) mk argsL.toArray X₁ hg hsize hdg hW (X₁.named hnamed) (hpre vm₁ X₁.warmed)
  exact ⟨v, vm₁, B, X₁.warmed, X', hpost, fun target h => hstep₁ _ fun acts => by rw [doInvoke_state]; exact hsteps.trans h⟩
theorem vx_runSW {y : MethodName} {bytes cc : ByteArray} {maxL nL mc ms n index : Nat} {ret : Option FieldType} {hh : List (Nat × Nat × Nat × Nat)} {ws : List Cond} {rm : Room} {Pc : Array Value → State → Prop} {Qc : Array Value → State → Outcome → State → Prop} {free : Addr → Prop} {Ts : List Cond} {own : String} {As rest : List Value} {g : JFrame}
    (S : CallFix p m c cc nL s args Ts own) (hM : Met l y ws rm Pc Qc mc ms free) (cw : vx_CSW R s args own index y bytes maxL ret hh ws rm mc ms n) (hp : PreS s H Pc As)
    (hg : g.method = m) (hn : As.length = n) (hsize : g.locals.size = nL) (hstack : g.stack = As.reverse ++ rest) (hW : 2 * g.monitorRoom + (rest.map fun v => v.category).sum ≤ 8) (hdg : decode cc g.pc = .ok (.invokestatic index, 3)) (hf : cells + mc ≤ R.cells ∧ slots + ms ≤ R.slots) :
    va_Run p l e R s m args below meth c H locs cells slots mc ms g rest (Qc As.toArray) (free) := by
  obtain ⟨⟨hrc, hrs, hfr, hlo, hws, hcw⟩, hcode, hini, hy, hlen, hl, hstt⟩ := cw
  have hK : Back l R p e below s args y 3 8 (PreOf R mc ms Pc) (PostOf Qc mc ms free) := va_backW (hh := hh) (bytes := bytes) (maxL := maxL) (ret := ret) hM hp.1 hrc hrs hfr hlo hws hcw (fun a' U hW => word_at hW (Or.inl (by first | rfl | simp [Cond.onTables, Cond.keeps, Cond.steady])) hini)
  obtain ⟨hx, hb, hml, ho, -⟩ := S
  intro T hT X
  obtain ⟨v, vm₁, ⟨U', l2, c2, s2⟩, hW₁, X', ⟨g', mk, t, L, e1, e2, hq, h1, hL, h2, h3⟩, st⟩ := vx_callSW X hx (hh := hh) (bytes := bytes) (maxL := maxL) (ret := ret) ho hl hstt hini hcode hy hK hg (hsize.trans hml.symm) (argsL := As) (rest := rest) (fun sig h => hn.trans (hlen sig h)) hstack hW (by rw [hb]; exact hdg)
    (fun vm₁ hW₁ => ⟨hf.1, hf.2, hp.2 (T.setVm vm₁) hT hW₁⟩)
  dsimp only [Pt.U, Pt.locs, Pt.cells, Pt.slots] at X' e1 e2 h1 h2 h3 st
  subst h1; subst h2; subst h3
  exact ⟨v, (T.setVm vm₁).calling g' mk As.toArray, t, U', L, hT, X', hL, e1, e2, hq, st⟩
/-- not caught here, past rows that name other classes: it goes on to the caller -/
theorem vx_outP {p : Program} {l : Launch} {e : Env} {R : Room} {s : State} {m : MethodId} {args : Array Value} {below : List Frame} {meth : Method} {c : Code} {H : Heap} {locs : List Loc} {cells slots : Nat} {free : Addr → Prop} {ls : Array Slot} {rest : List Value} {Qc : Array Value → State → Outcome → State → Prop} {XC : String → State → State → Prop}
    {pc : Nat} {own E : String} {ce : Cell} {q : Addr} {mc ms : Nat} (hown : s.vm.findClass own = some m.cls) (hlocks : meth.locks = false)
    (hpass : ∀ z ∈ c.exceptionTable.toList, covers z pc = false ∨ (z.catchType ≠ 0 ∧ ∃ nm : String, (Cond.classLink own z.catchType nm).before args s = true ∧ va_Nc E nm s)) (hcell : H[q]? = some ce) (hv : ce.vm = .none) (hcl : s.vm.findClass E = some ce.cls)
    (hx : ∀ t : State, t.heap = H → s.vm.Alike t.vm → XC E s t) (hf : ∀ z ∈ locs, free z.base) (hc : cells ≤ mc) (hs : slots ≤ ms) :
    vx_W p l e R s m args below meth c H locs cells slots (vx_MQ below Qc XC args s mc ms free) (F0 m pc ls rest) q := by
  intro T hT X
  have hpl : e.platform.magicAccessors = ({} : Platform).magicAccessors := by rw [X.admits.platform]
  obtain ⟨vm', hW', X', st⟩ := X.outThrough hlocks q (g := F0 m pc ls rest) rfl rfl rfl (cell := ce) (by rw [hT]; exact hcell) (by rw [hv]; rfl)
    (by obtain ⟨k9, h9, -⟩ := Vm.findClass_spec hcl; exact ⟨k9, h9⟩) (fun z hz => by
      rcases hpass z hz with h | ⟨hz0, nm, hl1, hn1⟩
      · exact Or.inl h
      · obtain ⟨c6, hc6, hcl6⟩ := Cond.classLink_spec hown hl1 e.platform hpl
        obtain ⟨a8, b8, h1, h2, h3⟩ := hn1
        cases Option.some.inj (h1.symm.trans hcl)
        cases Option.some.inj (h2.symm.trans hc6)
        exact Or.inr ⟨hz0, _, hcl6, h3⟩)
  obtain ⟨g₀, hfr⟩ := X'.frames_eq
  have hcell9 : ((T.setVm vm').setFrames (.throwing q :: below)).heap[q]? = some ce := by
    show T.heap[q]? = some ce
    rw [hT]; exact hcell
  have hend : Ended ((T.setVm vm').setFrames (.throwing q :: below)) below (.threw q) := State.frames_setFrames _ (State.cur_lt_of_frames hfr)
  refine ⟨(T.setVm vm').setFrames (.throwing q :: below), ?_, .threw q, X'.here.running, hend, Or.inr ⟨q, rfl, E, ce, locs, hx _ hT (X'.ends _).1.alike, hcell9, hv, hcl, (X'.ends _).1, (X'.ends _).2.mono hc hs, hf⟩⟩
  rw [X.pushThrowing_eq]
  exact st
/-- a thing of a world lies in the heap -/
theorem vx_lt {D : va_G} {cl : List vw_C} {ws : va_W} {H1 : Heap} (h : va_P D cl ws H1) {k : Nat} {q : Nat × va_E} (hk : ws[k]? = some q) : q.1 < H1.size := (h k q hk).lt
end VXS
/-! ===== END ===== -/
/-! ===== BEGIN methods with a table of their own: called by a name, returning or throwing ===== -/
section VXH
/-! vx_backW, vx_callVX, vx_callSX, vx_callVW, vx_runVW, vx_runVX, vx_runSX, vx_ofWH follow the same proofs as their sisters above (Free/Laws.lean, Shelf42/LK1.lean); vx_outP calls Shelf42/NT130.lean (outThrough). -/
section
variable {l : Launch} {R : Room} {p : Program} {e : Env} {below : List Frame} {s : State} {sargs : Array Value} {y : MethodName} {len W9 : Nat}
theorem vx_backW {ws : List Cond} {rm : Room} {Pc : Array Value → State → Prop} {Qc : Array Value → State → Outcome → State → Prop} {XC : String → State → State → Prop} {mc ms : Nat} {free : Addr → Prop} {bytes : ByteArray} {maxL : Nat} {ret : Option FieldType} {hh : List (Nat × Nat × Nat × Nat)}
    (hM : vx_Met l y ws rm Pc Qc XC mc ms free) (hblind : FrameBlind Pc) (hrc : rm.cells = mc) (hrs : rm.slots = ms)
    (hframes : rm.frames + 1 ≤ R.frames) (hlocals : W9 + (maxL + 11) + rm.locals ≤ R.locals)
    (hws : ∀ w ∈ ws, ∀ a' U, s.WarmedH U.vm → w.before a' U = true) (hcode : Cond.codeWith y bytes maxL ret hh ∈ ws) (hinit : ∀ a' U, s.WarmedH U.vm → (Cond.initialized y.cls).before a' U = true) :
    vx_Back l R p e below s sargs y len W9 (PreOf R mc ms Pc) (PostOf Qc mc ms free) (vx_Post XC mc ms free) := by
  intro m meth c A g ig mk a X hg hsize hdg hW hn hp
  have h1 : (headSpec ws rm).pre.before a A.U = true := atoms_intro fun w hw => hws w hw _ _ X.warmed
  have h2 : (Cond.codeWith y bytes maxL ret hh).before a A.U = true := hws _ hcode _ _ X.warmed
  have h3 : (Cond.initialized y.cls).before a A.U = true := hinit _ _ X.warmed
  have h4 : A.cells + (headSpec ws rm).room.cells ≤ R.cells := by rw [show (headSpec ws rm).room.cells = mc from hrc]; exact hp.1
  have h5 : A.slots + (headSpec ws rm).room.slots ≤ R.slots := by rw [show (headSpec ws rm).room.slots = ms from hrs]; exact hp.2.1
  have hPc : Pc a (A.U.calling g mk a) := hblind _ _ _ _ hp.2.2
  obtain ⟨U, Ls, c0, s0⟩ := A
  dsimp only [Pt.U, Pt.locs, Pt.cells, Pt.slots] at h1 h2 h3 h4 h5 X hn hPc ⊢
  obtain ⟨m9, methY, cY, hn9, hmY, hcY, -, hlY, -⟩ := Cond.codeWith_spec h2
  cases Option.some.inj (hn9.symm.trans hn)
  obtain ⟨kY, hkY, -⟩ := className_of_methodNamed hn
  have hinitY : kY.init = .initialized := Cond.initialized_spec (findClass_of_methodNamed hn) hkY h3
  have h : At U g.method c below := by rw [hg]; exact X.here
  have hlocals9 : W9 + (maxL + 11) + (headSpec ws rm).room.locals ≤ R.locals := hlocals
  have happ : (headSpec ws rm).appliesLoose y e.platform (U.calling g mk a) = true :=
    Spec.appliesLoose_calling (g := g) h hdg hn hkY hinitY
      (X.room_calling (g := g) (R' := (headSpec ws rm).room) hsize hmY hcY hframes (by rw [hlY]; omega) h4 h5) h1
  obtain ⟨mid, hmid⟩ := h.above
  have hfr : (U.setTop g).frames = (.java g :: mid) ++ below := by rw [State.frames_setTop' g h.top, hmid]; rfl
  obtain ⟨o, s₂, hsteps, -, hend, hq⟩ := Steps.callFree hM p X.admits X.cas X.clock (acts := []) hfr happ hPc trivial
  have hq' : vx_Q Qc XC mc ms free a (U.calling g mk a) o s₂ := hq
  rw [State.frames_setTop' g h.top] at hend
  obtain ⟨g₀, hg0⟩ := Option.isSome_iff_exists.mp h.top
  obtain ⟨r, hr⟩ := State.topJava?_eq_some.mp hg0
  have hr' : (({ U with heap := s₂.heap, slotsUsed := s₂.slotsUsed } : State).setVm s₂.vm).frames = .java g₀ :: r := hr
  rcases hq' with ⟨hqc, L, hfe, hL⟩ | ⟨q, rfl, E, ce, L, hx, hce, hcv, hcl, hW₂, hsm, hL⟩
  · obtain ⟨⟨v, rfl⟩, hW₂, e2, q2, q3, q4, q5, q6⟩ := id hfe
    have e3 : s₂ = ({ (U.calling g mk a).setFrames s₂.frames with heap := s₂.heap, slotsUsed := s₂.slotsUsed } : State).setVm s₂.vm := by
      have : s₂ = ({ s₂ with vm := (U.calling g mk a).vm } : State).setVm s₂.vm := rfl
      rw [e2] at this
      exact this
    obtain ⟨c₂, i₂, len₂, hc₂, hd₂, hf₂⟩ := hend
    have hW' : U.WarmedH s₂.vm := hW₂
    have hcc : c₂ = c := by
      have h1 : s₂.code? g.method = U.code? g.method := by
        rw [State.code?_eq, State.code?_eq, hW'.alike.method?]
      exact Option.some.inj (hc₂.symm.trans (h1.trans h.code))
    subst hcc
    have hlen : len₂ = len := by rw [hdg] at hd₂; cases hd₂; rfl
    subst hlen
    have hs₂ : s₂ = (({ U with heap := s₂.heap, slotsUsed := s₂.slotsUsed } : State).setVm s₂.vm).setTop { g with pc := g.pc + len₂, stack := v.toList ++ g.stack } := by
      refine e3.trans ?_
      rw [hf₂, State.calling_eq h.top, State.setFrames_setFrames, State.setTop_of_frames _ hr', hr]
      rfl
    have hsame : U.sameButNew ({ U with heap := s₂.heap, slotsUsed := s₂.slotsUsed } : State) L mc ms := by
      refine ⟨?_, q2, q3, q4, q5, q6⟩
      obtain ⟨t, ht, -⟩ := State.frames_cons hr
      show ({ U with heap := s₂.heap, slotsUsed := s₂.slotsUsed } : State) = { U.setFrames U.frames with heap := s₂.heap, slotsUsed := s₂.slotsUsed }
      rw [State.setFrames_self ht]
    subst hg
    refine Or.inl ⟨v, ⟨(({ U with heap := s₂.heap, slotsUsed := s₂.slotsUsed } : State).setVm s₂.vm), Ls ++ L, c0 + mc, s0 + ms⟩,
      ⟨X.admits, X.cas, X.clock, X.frames, X.room, X.hears, X.method, X.code, (X.here.setHeapUsed s₂.heap s₂.slotsUsed).setVm hW'.alike, X.tail, State.WarmedH.trans X.warmed hW', X.limits, X.bytes, X.same.trans (hsame.setVm s.vm)⟩,
      ⟨g, mk, s₂, L, rfl, rfl, hqc, rfl, hL, rfl, rfl⟩, ?_⟩
    show Steps p.tables e below _ ((({ U with heap := s₂.heap, slotsUsed := s₂.slotsUsed } : State).setVm s₂.vm).setTop { g with pc := g.pc + len₂, stack := v.toList ++ g.stack })
    rw [← hs₂]
    exact hsteps
  · obtain ⟨e2, q2, q3, q4, q5, q6⟩ := id hsm
    have e3 : s₂ = ({ (U.calling g mk a).setFrames s₂.frames with heap := s₂.heap, slotsUsed := s₂.slotsUsed } : State).setVm s₂.vm := by
      have : s₂ = ({ s₂ with vm := (U.calling g mk a).vm } : State).setVm s₂.vm := rfl
      rw [e2] at this
      exact this
    have hf₂ : s₂.frames = .throwing q :: .java g :: U.frames.tail := hend
    have hW' : U.WarmedH s₂.vm := hW₂
    have hs₂ : s₂ = ((({ U with heap := s₂.heap, slotsUsed := s₂.slotsUsed } : State).setVm s₂.vm).setTop g).pushFrame (.throwing q) := by
      refine e3.trans ?_
      rw [hf₂, State.calling_eq h.top, State.setFrames_setFrames, State.pushFrame, State.frames_setTop _ hr', State.setTop_of_frames _ hr', State.setFrames_setFrames, hr]
      rfl
    have hsame : U.sameButNew ({ U with heap := s₂.heap, slotsUsed := s₂.slotsUsed } : State) L mc ms := by
      refine ⟨?_, q2, q3, q4, q5, q6⟩
      obtain ⟨t, ht, -⟩ := State.frames_cons hr
      show ({ U with heap := s₂.heap, slotsUsed := s₂.slotsUsed } : State) = { U.setFrames U.frames with heap := s₂.heap, slotsUsed := s₂.slotsUsed }
      rw [State.setFrames_self ht]
    subst hg
    refine Or.inr ⟨q, ⟨(({ U with heap := s₂.heap, slotsUsed := s₂.slotsUsed } : State).setVm s₂.vm), Ls ++ L, c0 + mc, s0 + ms⟩,
      ⟨X.admits, X.cas, X.clock, X.frames, X.room, X.hears, X.method, X.code, (X.here.setHeapUsed s₂.heap s₂.slotsUsed).setVm hW'.alike, X.tail, State.WarmedH.trans X.warmed hW', X.limits, X.bytes, X.same.trans (hsame.setVm s.vm)⟩,
      ⟨g, mk, s₂, L, E, ce, rfl, rfl, hx, hce, hcv, hcl, rfl, hL, rfl, rfl⟩, ?_⟩
    show Steps p.tables e below _ (((({ U with heap := s₂.heap, slotsUsed := s₂.slotsUsed } : State).setVm s₂.vm).setTop g).pushFrame (.throwing q))
    rw [← hs₂]
    exact hsteps
end
variable {p : Program} {l : Launch} {e : Env} {R : Room} {s : State} {m : MethodId} {args : Array Value} {below : List Frame} {meth : Method} {c : Code} {T : State} {H : Heap} {locs : List Loc} {cells slots : Nat}
theorem vx_callVX (X : Stand p l e R s m args below meth c T locs cells slots) (hexec : p.tables.exec = Jvm.exec) {own C : String} {index : Nat} {y : MethodName} {bytes : ByteArray} {maxL : Nat} {ret : Option FieldType} {hh : List (Nat × Nat × Nat × Nat)}
    (hown : s.vm.findClass own = some m.cls) (hlink : (Cond.methodLink own index y).before args s = true) (hinst : (Cond.instanceMethod y).before args s = true) (hsel : (Cond.selects C y y).before args s = true)
    (hcode : (Cond.codeWith y bytes maxL ret hh).before args s = true) (hy : y.cls ≠ "java/lang/invoke/MethodHandle" ∧ y.cls ≠ "java/lang/invoke/VarHandle")
    {W9 : Nat} {Pre : Pt → Array Value → Prop} {Post : Pt → Array Value → Option Value → Pt → Prop} {PostX : Pt → Array Value → Addr → Pt → Prop} (hK : vx_Back l R p e below s args y 3 W9 Pre Post PostX)
    {b : Addr} {cellB : Cell} (hcell : T.heap[b]? = some cellB) (hobj : cellB.vm.isStatics = false) (hcls : s.vm.findClass C = some cellB.cls)
    {g : JFrame} (hg : g.method = m) (hsize : g.locals.size = c.maxLocals) {argsL rest : List Value} (hlen : ∀ sig, parseMethodDescriptor y.desc = some sig → argsL.length = sig.parameters.length)
    (hstack : g.stack = argsL.reverse ++ .ref b :: rest) (hW : 2 * g.monitorRoom + (rest.map fun v => v.category).sum ≤ W9) (hdg : decode c.code g.pc = .ok (.invokevirtual index, 3))
    (hpre : ∀ vm₁, s.WarmedH vm₁ → Pre ⟨T.setVm vm₁, locs, cells, slots⟩ (Value.ref b :: argsL).toArray) :
    (∃ (v : Option Value) (vm₁ : Vm) (B : Pt), s.WarmedH vm₁ ∧ Stand p l e R s m args below meth c B.U B.locs B.cells B.slots ∧ Post ⟨T.setVm vm₁, locs, cells, slots⟩ (Value.ref b :: argsL).toArray v B ∧
      ∀ target, Steps p.tables e below (B.U.setTop { g with pc := g.pc + 3, stack := v.toList ++ rest }) target → Steps p.tables e below (T.setTop g) target) ∨
    (∃ (q : Addr) (vm₁ : Vm) (B : Pt), s.WarmedH vm₁ ∧ Stand p l e R s m args below meth c B.U B.locs B.cells B.slots ∧ PostX ⟨T.setVm vm₁, locs, cells, slots⟩ (Value.ref b :: argsL).toArray q B ∧
      Steps p.tables e below (T.setTop g) ((B.U.setTop { g with stack := rest }).pushFrame (.throwing q))) := by
  obtain ⟨mk, methM, hnamed, hmethM, hstM, habM⟩ := Cond.instanceMethod_spec hinst
  obtain ⟨m8, methM', cM, hn8, hmethM', -, -, -, -, -, -, hsigM⟩ := Cond.codeWith_spec hcode
  cases Option.some.inj (hn8.symm.trans hnamed)
  cases hmethM.symm.trans hmethM'
  obtain ⟨c2, r2, m2, q1, q2, q3, q4, kP, hkP, hkPi⟩ := Cond.selects_spec hsel
  cases hcls.symm.trans q1
  cases (State.methodFound?_of_named hnamed hy).symm.trans q2
  cases hnamed.symm.trans q3
  have hselP : selectMethod e.platform s.vm cellB.cls mk = .method mk := by rw [Launch.admits_selectMethod X.admits]; exact q4
  obtain ⟨vm₁, X₁, hstep₁⟩ := X.invokevirtual hexec hown hlink hnamed hmethM hstM hkP hkPi hy (a := b) (cell := cellB) hcell
    (fun z h => by rw [h] at hobj; cases hobj) hselP hmethM habM hkP hkPi (g := g) hg (argsL := argsL) (rest := rest) (hlen _ hsigM) hstack hdg
  rcases hK m meth c ⟨T.setVm vm₁, locs, cells, slots⟩ { g with stack := rest } (.invokevirtual index) mk (Value.ref b :: argsL).toArray X₁ hg hsize hdg hW (X₁.named hnamed) (hpre vm₁ X₁.warmed) with ⟨v, B, X', hpost, hsteps⟩ | ⟨q, B, X', hpost, hsteps⟩
  · exact Or.inl ⟨v, vm₁, B, X₁.warmed, X', hpost, fun target h => hstep₁ _ fun acts => by rw [doInvoke_state]; exact hsteps.trans h⟩
  · exact Or.inr ⟨q, vm₁, B, X₁.warmed, X', hpost, hstep₁ _ fun acts => by rw [doInvoke_state]; exact hsteps⟩
theorem vx_callSX (X : Stand p l e R s m args below meth c T locs cells slots) (hexec : p.tables.exec = Jvm.exec) {own : String} {index : Nat} {y : MethodName} {bytes : ByteArray} {maxL : Nat} {ret : Option FieldType} {hh : List (Nat × Nat × Nat × Nat)}
    (hown : s.vm.findClass own = some m.cls) (hlink : (Cond.methodLink own index y).before args s = true) (hstat : (Cond.static y).before args s = true) (hinit : (Cond.initialized y.cls).before args s = true)
    (hcode : (Cond.codeWith y bytes maxL ret hh).before args s = true) (hy : y.cls ≠ "java/lang/invoke/MethodHandle" ∧ y.cls ≠ "java/lang/invoke/VarHandle")
    {W9 : Nat} {Pre : Pt → Array Value → Prop} {Post : Pt → Array Value → Option Value → Pt → Prop} {PostX : Pt → Array Value → Addr → Pt → Prop} (hK : vx_Back l R p e below s args y 3 W9 Pre Post PostX)
    {g : JFrame} (hg : g.method = m) (hsize : g.locals.size = c.maxLocals) {argsL rest : List Value} (hlen : ∀ sig, parseMethodDescriptor y.desc = some sig → argsL.length = sig.parameters.length)
    (hstack : g.stack = argsL.reverse ++ rest) (hW : 2 * g.monitorRoom + (rest.map fun v => v.category).sum ≤ W9) (hdg : decode c.code g.pc = .ok (.invokestatic index, 3))
    (hpre : ∀ vm₁, s.WarmedH vm₁ → Pre ⟨T.setVm vm₁, locs, cells, slots⟩ argsL.toArray) :
    (∃ (v : Option Value) (vm₁ : Vm) (B : Pt), s.WarmedH vm₁ ∧ Stand p l e R s m args below meth c B.U B.locs B.cells B.slots ∧ Post ⟨T.setVm vm₁, locs, cells, slots⟩ argsL.toArray v B ∧
      ∀ target, Steps p.tables e below (B.U.setTop { g with pc := g.pc + 3, stack := v.toList ++ rest }) target → Steps p.tables e below (T.setTop g) target) ∨
    (∃ (q : Addr) (vm₁ : Vm) (B : Pt), s.WarmedH vm₁ ∧ Stand p l e R s m args below meth c B.U B.locs B.cells B.slots ∧ PostX ⟨T.setVm vm₁, locs, cells, slots⟩ argsL.toArray q B ∧
      Steps p.tables e below (T.setTop g) ((B.U.setTop { g with stack := rest }).pushFrame (.throwing q))) := by
  obtain ⟨mk, methM, cM, hnamed, hmethM, -, -, -, -, -, -, hsigM⟩ := Cond.codeWith_spec hcode
  have hstatic : methM.isStatic = true := Cond.static_spec hnamed hmethM hstat
  obtain ⟨kP, hkP, -⟩ := className_of_methodNamed hnamed
  have hinitP : kP.init = .initialized := Cond.initialized_spec (findClass_of_methodNamed hnamed) hkP hinit
  obtain ⟨vm₁, X₁, hstep₁⟩ := X.invokestatic hexec hown hlink hnamed hmethM hstatic hkP hinitP hy (g := g) hg (argsL := argsL) (rest := rest) (hlen _ hsigM) hstack hdg
  rcases hK m meth c ⟨T.setVm vm₁, locs, cells, slots⟩ { g with stack := rest } (.invokestatic index) mk argsL.toArray X₁ hg hsize hdg hW (X₁.named hnamed) (hpre vm₁ X₁.warmed) with ⟨v, B, X', hpost, hsteps⟩ | ⟨q, B, X', hpost, hsteps⟩
  · exact Or.inl ⟨v, vm₁, B, X₁.warmed, X', hpost, fun target h => hstep₁ _ fun acts => by rw [doInvoke_state]; exact hsteps.trans h⟩
  · exact Or.inr ⟨q, vm₁, B, X₁.warmed, X', hpost, hstep₁ _ fun acts => by rw [doInvoke_state]; exact hsteps⟩
theorem vx_callVW (X : Stand p l e R s m args below meth c T locs cells slots) (hexec : p.tables.exec = Jvm.exec) {own C : String} {index : Nat} {y : MethodName} {bytes : ByteArray} {maxL : Nat} {ret : Option FieldType} {hh : List (Nat × Nat × Nat × Nat)}
    (hown : s.vm.findClass own = some m.cls) (hlink : (Cond.methodLink own index y).before args s = true) (hinst : (Cond.instanceMethod y).before args s = true) (hsel : (Cond.selects C y y).before args s = true)
    (hcode : (Cond.codeWith y bytes maxL ret hh).before args s = true) (hy : y.cls ≠ "java/lang/invoke/MethodHandle" ∧ y.cls ≠ "java/lang/invoke/VarHandle")
    {W9 : Nat} {Pre : Pt → Array Value → Prop} {Post : Pt → Array Value → Option Value → Pt → Prop} (hK : Back l R p e below s args y 3 W9 Pre Post)
    {b : Addr} {cellB : Cell} (hcell : T.heap[b]? = some cellB) (hobj : cellB.vm.isStatics = false) (hcls : s.vm.findClass C = some cellB.cls)
    {g : JFrame} (hg : g.method = m) (hsize : g.locals.size = c.maxLocals) {argsL rest : List Value} (hlen : ∀ sig, parseMethodDescriptor y.desc = some sig → argsL.length = sig.parameters.length)
    (hstack : g.stack = argsL.reverse ++ .ref b :: rest) (hW : 2 * g.monitorRoom + (rest.map fun v => v.category).sum ≤ W9) (hdg : decode c.code g.pc = .ok (.invokevirtual index, 3))
    (hpre : ∀ vm₁, s.WarmedH vm₁ → Pre ⟨T.setVm vm₁, locs, cells, slots⟩ (Value.ref b :: argsL).toArray) :
    ∃ (v : Option Value) (vm₁ : Vm) (B : Pt), s.WarmedH vm₁ ∧ Stand p l e R s m args below meth c B.U B.locs B.cells B.slots ∧ Post ⟨T.setVm vm₁, locs, cells, slots⟩ (Value.ref b :: argsL).toArray v B ∧
      ∀ target, Steps p.tables e below (B.U.setTop { g with pc := g.pc + 3, stack := v.toList ++ rest }) target → Steps p.tables e below (T.setTop g) target := by
  obtain ⟨mk, methM, hnamed, hmethM, hstM, habM⟩ := Cond.instanceMethod_spec hinst
  obtain ⟨m8, methM', cM, hn8, hmethM', -, -, -, -, -, -, hsigM⟩ := Cond.codeWith_spec hcode
  cases Option.some.inj (hn8.symm.trans hnamed)
  cases hmethM.symm.trans hmethM'
  obtain ⟨c2, r2, m2, q1, q2, q3, q4, kP, hkP, hkPi⟩ := Cond.selects_spec hsel
  cases hcls.symm.trans q1
  cases (State.methodFound?_of_named hnamed hy).symm.trans q2
  cases hnamed.symm.trans q3
  have hselP : selectMethod e.platform s.vm cellB.cls mk = .method mk := by rw [Launch.admits_selectMethod X.admits]; exact q4
  obtain ⟨vm₁, X₁, hstep₁⟩ := X.invokevirtual hexec hown hlink hnamed hmethM hstM hkP hkPi hy (a := b) (cell := cellB) hcell
    (fun z h => by rw [h] at hobj; cases hobj) hselP hmethM habM hkP hkPi (g := g) hg (argsL := argsL) (rest := rest) (hlen _ hsigM) hstack hdg
  obtain ⟨v, B, X', hpost, hsteps⟩ := hK m meth c ⟨T.setVm vm₁, locs, cells, slots⟩ { g with stack := rest } (.invokevirtual index) mk (Value.ref b :: argsL).toArray X₁ hg hsize hdg hW (X₁.named hnamed) (hpre vm₁ X₁.warmed)
  exact ⟨v, vm₁, B, X₁.warmed, X', hpost, fun target h => hstep₁ _ fun acts => by rw [doInvoke_state]; exact hsteps.trans h⟩
abbrev vx_CVW (R : Room) (s : State) (args : Array Value) (own C : String) (index : Nat) (y : MethodName) (bytes : ByteArray) (maxL : Nat) (ret : Option FieldType) (hh : List (Nat × Nat × Nat × Nat)) (ws : List Cond) (rm : Room) (mc ms n : Nat) : Prop :=
  (rm.cells = mc ∧ rm.slots = ms ∧ rm.frames + 1 ≤ R.frames ∧ 8 + (maxL + 11) + rm.locals ≤ R.locals ∧ (∀ w ∈ ws, ∀ (a' : Array Value) (U : State), s.WarmedH U.vm → w.before a' U = true) ∧ Cond.codeWith y bytes maxL ret hh ∈ ws) ∧
  (Cond.codeWith y bytes maxL ret hh).before args s = true ∧ (Cond.initialized y.cls).before args s = true ∧ (y.cls ≠ "java/lang/invoke/MethodHandle" ∧ y.cls ≠ "java/lang/invoke/VarHandle") ∧
  (∀ sig, parseMethodDescriptor y.desc = some sig → n = sig.parameters.length) ∧ (Cond.methodLink own index y).before args s = true ∧ (Cond.instanceMethod y).before args s = true ∧ (Cond.selects C y y).before args s = true
theorem vx_cwVW {own C : String} {index maxL mc ms : Nat} {y : MethodName} {bytes : ByteArray} {ret : Option FieldType} {hh : List (Nat × Nat × Nat × Nat)} {Ts ws ws' : List Cond} {rm : Room} (n : Nat) (ht : ∀ w ∈ Ts, w.before args s = true) (hT : GoodIn Ts (wsV own index C y ws)) (hw : ws = Cond.codeWith y bytes maxL ret hh :: ws') (hrc : rm.cells = mc) (hrs : rm.slots = ms)
    (hd : y.cls = C ∧ y.cls ≠ "java/lang/invoke/MethodHandle" ∧ y.cls ≠ "java/lang/invoke/VarHandle" ∧ (parseMethodDescriptor y.desc).map (fun d => d.parameters.length) = some n) (hR : rm.frames + 1 ≤ R.frames ∧ 8 + (maxL + 11) + rm.locals ≤ R.locals) :
    vx_CVW R s args own C index y bytes maxL ret hh ws rm mc ms n := by
  obtain ⟨hC, hd⟩ := hd
  subst hC
  have ok : ∀ w ∈ wsV own index y.cls y ws, w.before args s = true := fun w h => ht w (hT w h).1
  have hG : GoodIn Ts ws := fun w h => hT w (by unfold wsV; exact List.mem_append_right _ h)
  have hc : Cond.codeWith y bytes maxL ret hh ∈ ws := by rw [hw]; exact List.mem_cons_self
  refine ⟨⟨hrc, hrs, hR.1, hR.2, pay_in ht hG, hc⟩, ht _ (hG _ hc).1, ok _ (by simp [wsV]), ⟨hd.1, hd.2.1⟩, fun sig h => ?_, ok _ (by simp [wsV]), ok _ (by simp [wsV]), ok _ (by simp [wsV])⟩
  have h2 := hd.2.2
  rw [h] at h2
  exact (Option.some.inj h2).symm
theorem vx_runVW {y : MethodName} {bytes cc : ByteArray} {maxL nL mc ms n index : Nat} {ret : Option FieldType} {hh : List (Nat × Nat × Nat × Nat)} {ws : List Cond} {rm : Room} {Pc : Array Value → State → Prop} {Qc : Array Value → State → Outcome → State → Prop} {free : Addr → Prop} {Ts : List Cond} {own C : String} {b : Addr} {As rest : List Value} {g : JFrame}
    (S : CallFix p m c cc nL s args Ts own) (hM : Met l y ws rm Pc Qc mc ms free) (cw : vx_CVW R s args own C index y bytes maxL ret hh ws rm mc ms n) (hp : PreV s H C b Pc As)
    (hg : g.method = m) (hn : As.length = n) (hsize : g.locals.size = nL) (hstack : g.stack = As.reverse ++ .ref b :: rest) (hW : 2 * g.monitorRoom + (rest.map fun v => v.category).sum ≤ 8) (hdg : decode cc g.pc = .ok (.invokevirtual index, 3)) (hf : cells + mc ≤ R.cells ∧ slots + ms ≤ R.slots) :
    va_Run p l e R s m args below meth c H locs cells slots mc ms g rest (Qc (Value.ref b :: As).toArray) free := by
  obtain ⟨⟨hrc, hrs, hfr, hlo, hws, hcw⟩, hcode, hini, hy, hlen, hl, hin, hse⟩ := cw
  have hK : Back l R p e below s args y 3 8 (PreOf R mc ms Pc) (PostOf Qc mc ms free) := va_backW (hh := hh) (bytes := bytes) (maxL := maxL) (ret := ret) hM hp.1 hrc hrs hfr hlo hws hcw (fun a' U hW => word_at hW (Or.inl (by first | rfl | simp [Cond.onTables, Cond.keeps, Cond.steady])) hini)
  obtain ⟨hx, hb, hml, ho, -⟩ := S
  obtain ⟨-, ⟨cellB, hcB, hoB, hclB⟩, hPc⟩ := hp
  intro T hT X
  obtain ⟨v, vm₁, ⟨U', l2, c2, s2⟩, hW₁, X', ⟨g', mk, t, L, e1, e2, hq, h1, hL, h2, h3⟩, st⟩ := vx_callVW X hx (C := C) (hh := hh) (bytes := bytes) (maxL := maxL) (ret := ret) ho hl hin hse hcode hy hK (by rw [hT]; exact hcB) hoB hclB hg (hsize.trans hml.symm) (argsL := As) (rest := rest) (fun sig h => hn.trans (hlen sig h)) hstack hW (by rw [hb]; exact hdg)
    (fun vm₁ hW₁ => ⟨hf.1, hf.2, hPc (T.setVm vm₁) hT hW₁⟩)
  dsimp only [Pt.U, Pt.locs, Pt.cells, Pt.slots] at X' e1 e2 h1 h2 h3 st
  subst h1; subst h2; subst h3
  exact ⟨v, (T.setVm vm₁).calling g' mk (Value.ref b :: As).toArray, t, U', L, hT, X', hL, e1, e2, hq, st⟩
section
variable {y : MethodName} {bytes cc : ByteArray} {maxL nL mc ms n index : Nat} {ret : Option FieldType} {ws : List Cond} {rm : Room} {Pc : Array Value → State → Prop} {Qc : Array Value → State → Outcome → State → Prop} {XC : String → State → State → Prop} {free : Addr → Prop} {Ts : List Cond} {own C : String} {b : Addr} {As rest : List Value} {g : JFrame}
theorem vx_runVX {hh : List (Nat × Nat × Nat × Nat)} (S : CallFix p m c cc nL s args Ts own) (hM : vx_Met l y ws rm Pc Qc XC mc ms free) (cw : vx_CVW R s args own C index y bytes maxL ret hh ws rm mc ms n) (hp : PreV s H C b Pc As)
    (hg : g.method = m) (hn : As.length = n) (hsize : g.locals.size = nL) (hstack : g.stack = As.reverse ++ .ref b :: rest) (hW : 2 * g.monitorRoom + (rest.map fun v => v.category).sum ≤ 8) (hdg : decode cc g.pc = .ok (.invokevirtual index, 3)) (hf : cells + mc ≤ R.cells ∧ slots + ms ≤ R.slots) :
    vx_Run p l e R s m args below meth c H locs cells slots mc ms g rest (Qc (Value.ref b :: As).toArray) XC free := by
  obtain ⟨⟨hrc, hrs, hfr, hlo, hws, hcw⟩, hcode, hini, hy, hlen, hl, hin, hse⟩ := cw
  have hK : vx_Back l R p e below s args y 3 8 (PreOf R mc ms Pc) (PostOf Qc mc ms free) (vx_Post XC mc ms free) := vx_backW (hh := hh) (bytes := bytes) (maxL := maxL) (ret := ret) hM hp.1 hrc hrs hfr hlo hws hcw (fun a' U hW => word_at hW (Or.inl (by first | rfl | simp [Cond.onTables, Cond.keeps, Cond.steady])) hini)
  obtain ⟨hx, hb, hml, ho, -⟩ := S
  obtain ⟨-, ⟨cellB, hcB, hoB, hclB⟩, hPc⟩ := hp
  intro T hT X
  rcases vx_callVX X hx (C := C) (hh := hh) (bytes := bytes) (maxL := maxL) (ret := ret) ho hl hin hse hcode hy hK (by rw [hT]; exact hcB) hoB hclB hg (hsize.trans hml.symm) (argsL := As) (rest := rest) (fun sig h => hn.trans (hlen sig h)) hstack hW (by rw [hb]; exact hdg)
    (fun vm₁ hW₁ => ⟨hf.1, hf.2, hPc (T.setVm vm₁) hT hW₁⟩) with ⟨v, vm₁, ⟨U', l2, c2, s2⟩, hW₁, X', ⟨g', mk, t, L, e1, e2, hq, h1, hL, h2, h3⟩, st⟩ | ⟨q, vm₁, ⟨U', l2, c2, s2⟩, hW₁, X', ⟨g', mk, t, L, E, ce, e1, e2, hq, hce, hcv, hcl, h1, hL, h2, h3⟩, st⟩
  · dsimp only [Pt.U, Pt.locs, Pt.cells, Pt.slots] at X' e1 e2 h1 h2 h3 st
    subst h1; subst h2; subst h3
    exact Or.inl ⟨v, (T.setVm vm₁).calling g' mk (Value.ref b :: As).toArray, t, U', L, hT, X', hL, e1, e2, hq, st⟩
  · dsimp only [Pt.U, Pt.locs, Pt.cells, Pt.slots] at X' e1 e2 h1 h2 h3 st hcl
    subst h1; subst h2; subst h3
    exact Or.inr ⟨q, (T.setVm vm₁).calling g' mk (Value.ref b :: As).toArray, t, U', L, E, ce, hT, X', hL, e1, e2, hq, hce, hcv, vx_cls hW₁ hcl, st⟩
theorem vx_runSX {hh : List (Nat × Nat × Nat × Nat)} (S : CallFix p m c cc nL s args Ts own) (hM : vx_Met l y ws rm Pc Qc XC mc ms free) (cw : vx_CSW R s args own index y bytes maxL ret hh ws rm mc ms n) (hp : PreS s H Pc As)
    (hg : g.method = m) (hn : As.length = n) (hsize : g.locals.size = nL) (hstack : g.stack = As.reverse ++ rest) (hW : 2 * g.monitorRoom + (rest.map fun v => v.category).sum ≤ 8) (hdg : decode cc g.pc = .ok (.invokestatic index, 3)) (hf : cells + mc ≤ R.cells ∧ slots + ms ≤ R.slots) :
    vx_Run p l e R s m args below meth c H locs cells slots mc ms g rest (Qc As.toArray) XC free := by
  obtain ⟨⟨hrc, hrs, hfr, hlo, hws, hcw⟩, hcode, hini, hy, hlen, hl, hstt⟩ := cw
  have hK : vx_Back l R p e below s args y 3 8 (PreOf R mc ms Pc) (PostOf Qc mc ms free) (vx_Post XC mc ms free) := vx_backW (hh := hh) (bytes := bytes) (maxL := maxL) (ret := ret) hM hp.1 hrc hrs hfr hlo hws hcw (fun a' U hW => word_at hW (Or.inl (by first | rfl | simp [Cond.onTables, Cond.keeps, Cond.steady])) hini)
  obtain ⟨hx, hb, hml, ho, -⟩ := S
  intro T hT X
  rcases vx_callSX X hx (hh := hh) (bytes := bytes) (maxL := maxL) (ret := ret) ho hl hstt hini hcode hy hK hg (hsize.trans hml.symm) (argsL := As) (rest := rest) (fun sig h => hn.trans (hlen sig h)) hstack hW (by rw [hb]; exact hdg)
    (fun vm₁ hW₁ => ⟨hf.1, hf.2, hp.2 (T.setVm vm₁) hT hW₁⟩) with ⟨v, vm₁, ⟨U', l2, c2, s2⟩, hW₁, X', ⟨g', mk, t, L, e1, e2, hq, h1, hL, h2, h3⟩, st⟩ | ⟨q, vm₁, ⟨U', l2, c2, s2⟩, hW₁, X', ⟨g', mk, t, L, E, ce, e1, e2, hq, hce, hcv, hcl, h1, hL, h2, h3⟩, st⟩
  · dsimp only [Pt.U, Pt.locs, Pt.cells, Pt.slots] at X' e1 e2 h1 h2 h3 st
    subst h1; subst h2; subst h3
    exact Or.inl ⟨v, (T.setVm vm₁).calling g' mk As.toArray, t, U', L, hT, X', hL, e1, e2, hq, st⟩
  · dsimp only [Pt.U, Pt.locs, Pt.cells, Pt.slots] at X' e1 e2 h1 h2 h3 st hcl
    subst h1; subst h2; subst h3
    exact Or.inr ⟨q, (T.setVm vm₁).calling g' mk As.toArray, t, U', L, E, ce, hT, X', hL, e1, e2, hq, hce, hcv, vx_cls hW₁ hcl, st⟩
end
end VXH
theorem vx_ofWH {l : Launch} {y : MethodName} {ws ws' : List Cond} {rm : Room} {Pc : Array Value → State → Prop} {Qc : Array Value → State → Outcome → State → Prop} {XC : String → State → State → Prop} {mc ms : Nat} {free : Addr → Prop} {cc : ByteArray} {maxL : Nat} {ret : Option FieldType} {hh : List (Nat × Nat × Nat × Nat)}
    (hy : plainName y.cls = true) (hw : ws = Cond.codeWith y cc maxL ret hh :: ws')
    (body : ∀ p e s m args below meth c s₁, BodyLoose p l y (headSpec ws rm) cc maxL ret e s m args below meth c s₁ → c.maxLocals = maxL → Pc args s →
      W p l e (headSpec ws rm).room s m args below meth c s.heap [] 0 0 (vx_MQ below Qc XC args s mc ms free) (entryFrame m args maxL)) : vx_Met l y ws rm Pc Qc XC mc ms free := by
  refine MetFree.of_bodyS (code := cc) (maxLocals := maxL) (ret := ret) hy ?_ ?_
  · intro args s m h hn
    obtain ⟨m9, meth, c, hn9, h1, h2, h3, h4, -, h5, h6, -⟩ := Cond.codeWith_spec (atoms_spec (ws := ws) h _ (by rw [hw]; exact List.mem_cons_self))
    cases hn.symm.trans hn9
    exact ⟨meth, c, h1, h2, h3, h4, h5, h6⟩
  · intro p e s m args below meth c s₁ B hml hP _
    have hh0 : s₁.heap = s.heap := by rw [B.state]; rfl
    obtain ⟨t, a1, o, b1, b2, b3⟩ := body p e s m args below meth c s₁ B hml hP s₁ hh0 (Stand.of_body B)
    exact ⟨t, o, a1, b1, b2, b3⟩
/-! ===== END ===== -/
end
section
/-! ===== BEGIN printed: names, fields, word lists, decode rows ===== -/
def RX0 : String := "Transitry$Folding"
def TX0 : u_T := fun k => match k with
  | 0 => ("Transitry$Folding", "sums", "[D", true)
  | 1 => ("Transitry$Folding", "counts", "[I", true)
  | 2 => ("Transitry$Folding", "folds", "I", false)
  | _ => ("Transitry$Folding", "mean", "D", false)
def tyX0 : Nat → FieldType := fun k => match k with
  | 0 => .array .double
  | 1 => .array .int
  | 2 => .int
  | _ => .double
theorem nmX0 : ∀ a, a < 4 → ∀ b, b < 4 → a ≠ b → (TX0 a).2.1 ≠ (TX0 b).2.1 := by decide +kernel
theorem tyX0_ok : ∀ k, k < 4 → parseFieldDescriptor (TX0 k).2.2.1 = some (tyX0 k) := by decide +kernel
abbrev cX0_init : ByteArray := prog_2_method_1_code
def yX0_init : MethodName := ⟨RX0, "<init>", "()V"⟩
abbrev cX0_foldBy : ByteArray := prog_2_method_2_code
def yX0_foldBy : MethodName := ⟨RX0, "foldBy", "(ILTransitry$Nights;)V"⟩
abbrev cX0_hasHours : ByteArray := prog_2_method_3_code
def yX0_hasHours : MethodName := ⟨RX0, "hasHours", "(I)Z"⟩
abbrev cX0_meanOf : ByteArray := prog_2_method_4_code
def yX0_meanOf : MethodName := ⟨RX0, "meanOf", "(I)D"⟩
abbrev cX0_scoreOf : ByteArray := prog_2_method_5_code
def yX0_scoreOf : MethodName := ⟨RX0, "scoreOf", "(I)D"⟩
abbrev cX0_bestFold : ByteArray := prog_2_method_6_code
def yX0_bestFold : MethodName := ⟨RX0, "bestFold", "()I"⟩
def RX1 : String := "Transitry$Nights"
def TX1 : u_T := fun k => match k with
  | 0 => ("Transitry$Nights", "light", "[D", true)
  | _ => ("Transitry$Nights", "keptCount", "I", false)
def tyX1 : Nat → FieldType := fun k => match k with
  | 0 => .array .double
  | _ => .int
theorem nmX1 : ∀ a, a < 2 → ∀ b, b < 2 → a ≠ b → (TX1 a).2.1 ≠ (TX1 b).2.1 := by decide +kernel
theorem tyX1_ok : ∀ k, k < 2 → parseFieldDescriptor (TX1 k).2.2.1 = some (tyX1 k) := by decide +kernel
abbrev cX1_init : ByteArray := prog_3_method_1_code
def yX1_init : MethodName := ⟨RX1, "<init>", "()V"⟩
abbrev cX1_init_ : ByteArray := prog_3_method_2_code
def yX1_init_ : MethodName := ⟨RX1, "<init>", "(LTransitry$Nights;)V"⟩
abbrev cX1_hasLight : ByteArray := prog_3_method_3_code
def yX1_hasLight : MethodName := ⟨RX1, "hasLight", "(I)Z"⟩
abbrev cX1_lightOf : ByteArray := prog_3_method_4_code
def yX1_lightOf : MethodName := ⟨RX1, "lightOf", "(I)D"⟩
abbrev cX1_keep : ByteArray := prog_3_method_5_code
def yX1_keep : MethodName := ⟨RX1, "keep", "(ID)V"⟩
def RX2 : String := "Transitry$Paper"
def TX2 : u_T := fun k => match k with
  | 0 => ("Transitry$Paper", "subject", "LTransitry$World;", true)
  | 1 => ("Transitry$Paper", "cited", "LTransitry$Paper;", true)
  | _ => ("Transitry$Paper", "isFallen", "Z", false)
def tyX2 : Nat → FieldType := fun k => match k with
  | 0 => .object "Transitry$World"
  | 1 => .object "Transitry$Paper"
  | _ => .boolean
theorem nmX2 : ∀ a, a < 3 → ∀ b, b < 3 → a ≠ b → (TX2 a).2.1 ≠ (TX2 b).2.1 := by decide +kernel
theorem tyX2_ok : ∀ k, k < 3 → parseFieldDescriptor (TX2 k).2.2.1 = some (tyX2 k) := by decide +kernel
abbrev cX2_init : ByteArray := prog_4_method_1_code
def yX2_init : MethodName := ⟨RX2, "<init>", "(LTransitry$World;LTransitry$Paper;)V"⟩
abbrev cX2_mustFall : ByteArray := prog_4_method_2_code
def yX2_mustFall : MethodName := ⟨RX2, "mustFall", "()Z"⟩
def RX3 : String := "Transitry$Planet"
def TX3 : u_T := fun k => match k with
  | 0 => ("Transitry$Planet", "period", "I", true)
  | 1 => ("Transitry$Planet", "phase", "I", true)
  | 2 => ("Transitry$Planet", "length", "I", true)
  | _ => ("Transitry$Planet", "quotient", "D", true)
def tyX3 : Nat → FieldType := fun k => match k with
  | 0 => .int
  | 1 => .int
  | 2 => .int
  | _ => .double
theorem nmX3 : ∀ a, a < 4 → ∀ b, b < 4 → a ≠ b → (TX3 a).2.1 ≠ (TX3 b).2.1 := by decide +kernel
theorem tyX3_ok : ∀ k, k < 4 → parseFieldDescriptor (TX3 k).2.2.1 = some (tyX3 k) := by decide +kernel
abbrev cX3_init : ByteArray := prog_5_method_1_code
def yX3_init : MethodName := ⟨RX3, "<init>", "(IIII)V"⟩
abbrev cX3_dipsIn : ByteArray := prog_5_method_2_code
def yX3_dipsIn : MethodName := ⟨RX3, "dipsIn", "(I)Z"⟩
def RX4 : String := "Transitry$Star"
def TX4 : u_T := fun k => match k with
  | 0 => ("Transitry$Star", "ownLight", "I", true)
  | 1 => ("Transitry$Star", "planets", "Ljava/util/ArrayList;", true)
  | 2 => ("Transitry$Star", "spin", "I", false)
  | 3 => ("Transitry$Star", "spotDepth", "I", false)
  | 4 => ("Transitry$Star", "blend", "I", false)
  | _ => ("Transitry$Star", "nights", "LTransitry$Nights;", true)
def tyX4 : Nat → FieldType := fun k => match k with
  | 0 => .int
  | 1 => .object "java/util/ArrayList"
  | 2 => .int
  | 3 => .int
  | 4 => .int
  | _ => .object "Transitry$Nights"
theorem nmX4 : ∀ a, a < 6 → ∀ b, b < 6 → a ≠ b → (TX4 a).2.1 ≠ (TX4 b).2.1 := by decide +kernel
theorem tyX4_ok : ∀ k, k < 6 → parseFieldDescriptor (TX4 k).2.2.1 = some (tyX4 k) := by decide +kernel
abbrev cX4_init : ByteArray := prog_6_method_1_code
def yX4_init : MethodName := ⟨RX4, "<init>", "(I)V"⟩
abbrev cX4_lightIn : ByteArray := prog_6_method_2_code
def yX4_lightIn : MethodName := ⟨RX4, "lightIn", "(I)D"⟩
abbrev cX4_showsSpots : ByteArray := prog_6_method_3_code
def yX4_showsSpots : MethodName := ⟨RX4, "showsSpots", "(I)Z"⟩
def RX5 : String := "Transitry$World"
def TX5 : u_T := fun k => match k with
  | 0 => ("Transitry$World", "star", "I", true)
  | 1 => ("Transitry$World", "threshold", "I", true)
  | 2 => ("Transitry$World", "period", "I", true)
  | 3 => ("Transitry$World", "phase", "I", true)
  | 4 => ("Transitry$World", "nights", "LTransitry$Nights;", true)
  | _ => ("Transitry$World", "isWithdrawn", "Z", false)
def tyX5 : Nat → FieldType := fun k => match k with
  | 0 => .int
  | 1 => .int
  | 2 => .int
  | 3 => .int
  | 4 => .object "Transitry$Nights"
  | _ => .boolean
theorem nmX5 : ∀ a, a < 6 → ∀ b, b < 6 → a ≠ b → (TX5 a).2.1 ≠ (TX5 b).2.1 := by decide +kernel
theorem tyX5_ok : ∀ k, k < 6 → parseFieldDescriptor (TX5 k).2.2.1 = some (tyX5 k) := by decide +kernel
abbrev cX5_init : ByteArray := prog_7_method_1_code
def yX5_init : MethodName := ⟨RX5, "<init>", "(IIIILTransitry$Nights;)V"⟩
def RX6 : String := "Transitry"
def TX6 : u_T := fun k => match k with
  | 0 => ("Transitry", "stars", "Ljava/util/ArrayList;", true)
  | 1 => ("Transitry", "worlds", "Ljava/util/ArrayList;", true)
  | 2 => ("Transitry", "papers", "Ljava/util/ArrayList;", true)
  | 3 => ("Transitry", "hidden", "[Z", true)
  | 4 => ("Transitry", "hiddenCount", "I", false)
  | _ => ("Transitry", "folding", "LTransitry$Folding;", true)
def tyX6 : Nat → FieldType := fun k => match k with
  | 0 => .object "java/util/ArrayList"
  | 1 => .object "java/util/ArrayList"
  | 2 => .object "java/util/ArrayList"
  | 3 => .array .boolean
  | 4 => .int
  | _ => .object "Transitry$Folding"
theorem nmX6 : ∀ a, a < 6 → ∀ b, b < 6 → a ≠ b → (TX6 a).2.1 ≠ (TX6 b).2.1 := by decide +kernel
theorem tyX6_ok : ∀ k, k < 6 → parseFieldDescriptor (TX6 k).2.2.1 = some (tyX6 k) := by decide +kernel
abbrev cX6_init : ByteArray := prog_1_method_1_code
def yX6_init : MethodName := ⟨RX6, "<init>", "()V"⟩
abbrev cX6_star : ByteArray := prog_1_method_2_code
def yX6_star : MethodName := ⟨RX6, "star", "(I)I"⟩
abbrev cX6_planet : ByteArray := prog_1_method_3_code
def yX6_planet : MethodName := ⟨RX6, "planet", "(IIIII)I"⟩
abbrev cX6_spots : ByteArray := prog_1_method_4_code
def yX6_spots : MethodName := ⟨RX6, "spots", "(III)I"⟩
abbrev cX6_blend : ByteArray := prog_1_method_5_code
def yX6_blend : MethodName := ⟨RX6, "blend", "(II)I"⟩
abbrev cX6_light : ByteArray := prog_1_method_6_code
def yX6_light : MethodName := ⟨RX6, "light", "(II)J"⟩
abbrev cX6_cloud : ByteArray := prog_1_method_7_code
def yX6_cloud : MethodName := ⟨RX6, "cloud", "(II)I"⟩
abbrev cX6_observe : ByteArray := prog_1_method_8_code
def yX6_observe : MethodName := ⟨RX6, "observe", "(III)I"⟩
abbrev cX6_kept : ByteArray := prog_1_method_9_code
def yX6_kept : MethodName := ⟨RX6, "kept", "(II)J"⟩
abbrev cX6_score : ByteArray := prog_1_method_10_code
def yX6_score : MethodName := ⟨RX6, "score", "(II)J"⟩
abbrev cX6_phase : ByteArray := prog_1_method_11_code
def yX6_phase : MethodName := ⟨RX6, "phase", "(II)I"⟩
abbrev cX6_period : ByteArray := prog_1_method_12_code
def yX6_period : MethodName := ⟨RX6, "period", "(II)I"⟩
abbrev cX6_whyNot : ByteArray := prog_1_method_13_code
def yX6_whyNot : MethodName := ⟨RX6, "whyNot", "(II)I"⟩
abbrev cX6_oddEven : ByteArray := prog_1_method_14_code
def yX6_oddEven : MethodName := ⟨RX6, "oddEven", "(II)J"⟩
abbrev cX6_world : ByteArray := prog_1_method_15_code
def yX6_world : MethodName := ⟨RX6, "world", "(II)I"⟩
abbrev cX6_about : ByteArray := prog_1_method_16_code
def yX6_about : MethodName := ⟨RX6, "about", "(II)I"⟩
abbrev cX6_periodAnew : ByteArray := prog_1_method_17_code
def yX6_periodAnew : MethodName := ⟨RX6, "periodAnew", "(I)I"⟩
abbrev cX6_paper : ByteArray := prog_1_method_18_code
def yX6_paper : MethodName := ⟨RX6, "paper", "(II)I"⟩
abbrev cX6_withdraw : ByteArray := prog_1_method_19_code
def yX6_withdraw : MethodName := ⟨RX6, "withdraw", "(I)I"⟩
abbrev cX6_hasFallen : ByteArray := prog_1_method_20_code
def yX6_hasFallen : MethodName := ⟨RX6, "hasFallen", "(I)Z"⟩
abbrev cX6_starAt : ByteArray := prog_1_method_21_code
def yX6_starAt : MethodName := ⟨RX6, "starAt", "(I)LTransitry$Star;"⟩
abbrev cX6_worldAt : ByteArray := prog_1_method_22_code
def yX6_worldAt : MethodName := ⟨RX6, "worldAt", "(I)LTransitry$World;"⟩
abbrev cX6_paperAt : ByteArray := prog_1_method_23_code
def yX6_paperAt : MethodName := ⟨RX6, "paperAt", "(I)LTransitry$Paper;"⟩
abbrev cX6_requireHour : ByteArray := prog_1_method_24_code
def yX6_requireHour : MethodName := ⟨RX6, "requireHour", "(I)V"⟩
abbrev cX6_requireHours : ByteArray := prog_1_method_25_code
def yX6_requireHours : MethodName := ⟨RX6, "requireHours", "(II)V"⟩
abbrev cX6_requireRange : ByteArray := prog_1_method_26_code
def yX6_requireRange : MethodName := ⟨RX6, "requireRange", "(III)V"⟩
abbrev cX6_nightsToFold : ByteArray := prog_1_method_27_code
def yX6_nightsToFold : MethodName := ⟨RX6, "nightsToFold", "(II)LTransitry$Nights;"⟩
abbrev cX6_nightsToSearch : ByteArray := prog_1_method_28_code
def yX6_nightsToSearch : MethodName := ⟨RX6, "nightsToSearch", "(II)LTransitry$Nights;"⟩
abbrev cX6_isHidden : ByteArray := prog_1_method_29_code
def yX6_isHidden : MethodName := ⟨RX6, "isHidden", "(I)Z"⟩
abbrev cX6_hide : ByteArray := prog_1_method_30_code
def yX6_hide : MethodName := ⟨RX6, "hide", "(I)V"⟩
abbrev cX6_periodToTell : ByteArray := prog_1_method_31_code
def yX6_periodToTell : MethodName := ⟨RX6, "periodToTell", "(LTransitry$Nights;I)I"⟩
abbrev cX6_bestPeriod : ByteArray := prog_1_method_32_code
def yX6_bestPeriod : MethodName := ⟨RX6, "bestPeriod", "(LTransitry$Nights;I)I"⟩
abbrev cX6_letPapersFall : ByteArray := prog_1_method_33_code
def yX6_letPapersFall : MethodName := ⟨RX6, "letPapersFall", "()I"⟩
abbrev cX6_bitsOf : ByteArray := prog_1_method_34_code
def yX6_bitsOf : MethodName := ⟨RX6, "bitsOf", "(D)J"⟩
def RX7 : String := "TransitryModel"
def TX7 : u_T := fun k => match k with
  | 0 => ("TransitryModel", "thrown", "I", false)
  | 1 => ("TransitryModel", "stars", "I", false)
  | 2 => ("TransitryModel", "lights", "[I", true)
  | 3 => ("TransitryModel", "planets", "[I", true)
  | 4 => ("TransitryModel", "periods", "[I", true)
  | 5 => ("TransitryModel", "phases", "[I", true)
  | 6 => ("TransitryModel", "lengths", "[I", true)
  | 7 => ("TransitryModel", "depths", "[I", true)
  | 8 => ("TransitryModel", "spins", "[I", true)
  | 9 => ("TransitryModel", "spotDepths", "[I", true)
  | 10 => ("TransitryModel", "blends", "[I", true)
  | 11 => ("TransitryModel", "areHidden", "[Z", true)
  | 12 => ("TransitryModel", "areKept", "[Z", true)
  | 13 => ("TransitryModel", "kept", "[D", true)
  | 14 => ("TransitryModel", "keptMany", "[I", true)
  | 15 => ("TransitryModel", "sums", "[D", true)
  | 16 => ("TransitryModel", "many", "[I", true)
  | 17 => ("TransitryModel", "best", "D", false)
  | 18 => ("TransitryModel", "bestFold", "I", false)
  | 19 => ("TransitryModel", "worlds", "I", false)
  | 20 => ("TransitryModel", "worldStar", "[I", true)
  | 21 => ("TransitryModel", "worldPeriod", "[I", true)
  | 22 => ("TransitryModel", "worldPhase", "[I", true)
  | 23 => ("TransitryModel", "areWithdrawn", "[Z", true)
  | 24 => ("TransitryModel", "papers", "I", false)
  | 25 => ("TransitryModel", "ofWorld", "[I", true)
  | _ => ("TransitryModel", "ofPaper", "[I", true)
def tyX7 : Nat → FieldType := fun k => match k with
  | 0 => .int
  | 1 => .int
  | 2 => .array .int
  | 3 => .array .int
  | 4 => .array .int
  | 5 => .array .int
  | 6 => .array .int
  | 7 => .array .int
  | 8 => .array .int
  | 9 => .array .int
  | 10 => .array .int
  | 11 => .array .boolean
  | 12 => .array .boolean
  | 13 => .array .double
  | 14 => .array .int
  | 15 => .array .double
  | 16 => .array .int
  | 17 => .double
  | 18 => .int
  | 19 => .int
  | 20 => .array .int
  | 21 => .array .int
  | 22 => .array .int
  | 23 => .array .boolean
  | 24 => .int
  | 25 => .array .int
  | _ => .array .int
theorem nmX7 : ∀ a, a < 27 → ∀ b, b < 27 → a ≠ b → (TX7 a).2.1 ≠ (TX7 b).2.1 := by decide +kernel
theorem tyX7_ok : ∀ k, k < 27 → parseFieldDescriptor (TX7 k).2.2.1 = some (tyX7 k) := by decide +kernel
abbrev cX7_init : ByteArray := prog_9_method_1_code
def yX7_init : MethodName := ⟨RX7, "<init>", "()V"⟩
abbrev cX7_thrown : ByteArray := prog_9_method_2_code
def yX7_thrown : MethodName := ⟨RX7, "thrown", "()I"⟩
abbrev cX7_isIn : ByteArray := prog_9_method_3_code
def yX7_isIn : MethodName := ⟨RX7, "isIn", "(III)Z"⟩
abbrev cX7_isStar : ByteArray := prog_9_method_4_code
def yX7_isStar : MethodName := ⟨RX7, "isStar", "(I)Z"⟩
abbrev cX7_isHour : ByteArray := prog_9_method_5_code
def yX7_isHour : MethodName := ⟨RX7, "isHour", "(I)Z"⟩
abbrev cX7_star : ByteArray := prog_9_method_6_code
def yX7_star : MethodName := ⟨RX7, "star", "(I)I"⟩
abbrev cX7_planet : ByteArray := prog_9_method_7_code
def yX7_planet : MethodName := ⟨RX7, "planet", "(IIIII)I"⟩
abbrev cX7_spots : ByteArray := prog_9_method_8_code
def yX7_spots : MethodName := ⟨RX7, "spots", "(III)I"⟩
abbrev cX7_blend : ByteArray := prog_9_method_9_code
def yX7_blend : MethodName := ⟨RX7, "blend", "(II)I"⟩
abbrev cX7_remainder : ByteArray := prog_9_method_10_code
def yX7_remainder : MethodName := ⟨RX7, "remainder", "(II)I"⟩
abbrev cX7_lightOf : ByteArray := prog_9_method_11_code
def yX7_lightOf : MethodName := ⟨RX7, "lightOf", "(II)D"⟩
abbrev cX7_light : ByteArray := prog_9_method_12_code
def yX7_light : MethodName := ⟨RX7, "light", "(II)J"⟩
abbrev cX7_cloud : ByteArray := prog_9_method_13_code
def yX7_cloud : MethodName := ⟨RX7, "cloud", "(II)I"⟩
abbrev cX7_observe : ByteArray := prog_9_method_14_code
def yX7_observe : MethodName := ⟨RX7, "observe", "(III)I"⟩
abbrev cX7_kept : ByteArray := prog_9_method_15_code
def yX7_kept : MethodName := ⟨RX7, "kept", "(II)J"⟩
abbrev cX7_meanOf : ByteArray := prog_9_method_16_code
def yX7_meanOf : MethodName := ⟨RX7, "meanOf", "(I)D"⟩
abbrev cX7_folds : ByteArray := prog_9_method_17_code
def yX7_folds : MethodName := ⟨RX7, "folds", "(II)V"⟩
abbrev cX7_scores : ByteArray := prog_9_method_18_code
def yX7_scores : MethodName := ⟨RX7, "scores", "(II)V"⟩
abbrev cX7_hasFew : ByteArray := prog_9_method_19_code
def yX7_hasFew : MethodName := ⟨RX7, "hasFew", "(I)Z"⟩
abbrev cX7_thrownFor : ByteArray := prog_9_method_20_code
def yX7_thrownFor : MethodName := ⟨RX7, "thrownFor", "(II)I"⟩
abbrev cX7_score : ByteArray := prog_9_method_21_code
def yX7_score : MethodName := ⟨RX7, "score", "(II)J"⟩
abbrev cX7_phase : ByteArray := prog_9_method_22_code
def yX7_phase : MethodName := ⟨RX7, "phase", "(II)I"⟩
abbrev cX7_periodOf : ByteArray := prog_9_method_23_code
def yX7_periodOf : MethodName := ⟨RX7, "periodOf", "(II)I"⟩
abbrev cX7_isThreshold : ByteArray := prog_9_method_24_code
def yX7_isThreshold : MethodName := ⟨RX7, "isThreshold", "(I)Z"⟩
abbrev cX7_period : ByteArray := prog_9_method_25_code
def yX7_period : MethodName := ⟨RX7, "period", "(II)I"⟩
abbrev cX7_whyNot : ByteArray := prog_9_method_26_code
def yX7_whyNot : MethodName := ⟨RX7, "whyNot", "(II)I"⟩
abbrev cX7_oddEven : ByteArray := prog_9_method_27_code
def yX7_oddEven : MethodName := ⟨RX7, "oddEven", "(II)J"⟩
abbrev cX7_isWorld : ByteArray := prog_9_method_28_code
def yX7_isWorld : MethodName := ⟨RX7, "isWorld", "(I)Z"⟩
abbrev cX7_world : ByteArray := prog_9_method_29_code
def yX7_world : MethodName := ⟨RX7, "world", "(II)I"⟩
abbrev cX7_about : ByteArray := prog_9_method_30_code
def yX7_about : MethodName := ⟨RX7, "about", "(II)I"⟩
abbrev cX7_periodAnew : ByteArray := prog_9_method_31_code
def yX7_periodAnew : MethodName := ⟨RX7, "periodAnew", "(I)I"⟩
abbrev cX7_fell : ByteArray := prog_9_method_32_code
def yX7_fell : MethodName := ⟨RX7, "fell", "(I)Z"⟩
abbrev cX7_fallen : ByteArray := prog_9_method_33_code
def yX7_fallen : MethodName := ⟨RX7, "fallen", "()I"⟩
abbrev cX7_isPaper : ByteArray := prog_9_method_34_code
def yX7_isPaper : MethodName := ⟨RX7, "isPaper", "(I)Z"⟩
abbrev cX7_paper : ByteArray := prog_9_method_35_code
def yX7_paper : MethodName := ⟨RX7, "paper", "(II)I"⟩
abbrev cX7_withdraw : ByteArray := prog_9_method_36_code
def yX7_withdraw : MethodName := ⟨RX7, "withdraw", "(I)I"⟩
abbrev cX7_hasFallen : ByteArray := prog_9_method_37_code
def yX7_hasFallen : MethodName := ⟨RX7, "hasFallen", "(I)Z"⟩
def RJx145de : String := "java/io/Serializable"
def TJx145de : u_T := fun k => match k with
  | _ => ("", "", "", false)
def tyJx145de : Nat → FieldType := fun k => match k with
  | _ => .int
theorem nmJx145de : ∀ a, a < 0 → ∀ b, b < 0 → a ≠ b → (TJx145de a).2.1 ≠ (TJx145de b).2.1 := by decide +kernel
theorem tyJx145de_ok : ∀ k, k < 0 → parseFieldDescriptor (TJx145de k).2.2.1 = some (tyJx145de k) := by decide +kernel
def RJx8e188 : String := "java/lang/Cloneable"
def TJx8e188 : u_T := fun k => match k with
  | _ => ("", "", "", false)
def tyJx8e188 : Nat → FieldType := fun k => match k with
  | _ => .int
theorem nmJx8e188 : ∀ a, a < 0 → ∀ b, b < 0 → a ≠ b → (TJx8e188 a).2.1 ≠ (TJx8e188 b).2.1 := by decide +kernel
theorem tyJx8e188_ok : ∀ k, k < 0 → parseFieldDescriptor (TJx8e188 k).2.2.1 = some (tyJx8e188 k) := by decide +kernel
def RJxb160c : String := "java/lang/Comparable"
def TJxb160c : u_T := fun k => match k with
  | _ => ("", "", "", false)
def tyJxb160c : Nat → FieldType := fun k => match k with
  | _ => .int
theorem nmJxb160c : ∀ a, a < 0 → ∀ b, b < 0 → a ≠ b → (TJxb160c a).2.1 ≠ (TJxb160c b).2.1 := by decide +kernel
theorem tyJxb160c_ok : ∀ k, k < 0 → parseFieldDescriptor (TJxb160c k).2.2.1 = some (tyJxb160c k) := by decide +kernel
def RJxe99ae : String := "java/lang/Double"
def TJxe99ae : u_T := fun k => match k with
  | _ => ("", "", "", false)
def tyJxe99ae : Nat → FieldType := fun k => match k with
  | _ => .int
theorem nmJxe99ae : ∀ a, a < 0 → ∀ b, b < 0 → a ≠ b → (TJxe99ae a).2.1 ≠ (TJxe99ae b).2.1 := by decide +kernel
theorem tyJxe99ae_ok : ∀ k, k < 0 → parseFieldDescriptor (TJxe99ae k).2.2.1 = some (tyJxe99ae k) := by decide +kernel
abbrev cJxe99ae_isNaN_b9ae7 : ByteArray := prog_13_method_6_code
def yJxe99ae_isNaN_b9ae7 : MethodName := ⟨RJxe99ae, "isNaN", "(D)Z"⟩
abbrev cJxe99ae_doubleToLongBits_ccdee : ByteArray := prog_13_method_23_code
def yJxe99ae_doubleToLongBits_ccdee : MethodName := ⟨RJxe99ae, "doubleToLongBits", "(D)J"⟩
def RJxab1ab : String := "java/lang/Iterable"
def TJxab1ab : u_T := fun k => match k with
  | _ => ("", "", "", false)
def tyJxab1ab : Nat → FieldType := fun k => match k with
  | _ => .int
theorem nmJxab1ab : ∀ a, a < 0 → ∀ b, b < 0 → a ≠ b → (TJxab1ab a).2.1 ≠ (TJxab1ab b).2.1 := by decide +kernel
theorem tyJxab1ab_ok : ∀ k, k < 0 → parseFieldDescriptor (TJxab1ab k).2.2.1 = some (tyJxab1ab k) := by decide +kernel
def RJ9 : String := "java/lang/Math"
def TJ9 : u_T := fun k => match k with
  | _ => ("", "", "", false)
def tyJ9 : Nat → FieldType := fun k => match k with
  | _ => .int
theorem nmJ9 : ∀ a, a < 0 → ∀ b, b < 0 → a ≠ b → (TJ9 a).2.1 ≠ (TJ9 b).2.1 := by decide +kernel
theorem tyJ9_ok : ∀ k, k < 0 → parseFieldDescriptor (TJ9 k).2.2.1 = some (tyJ9 k) := by decide +kernel
abbrev cJ9_floorMod_7cf53 : ByteArray := prog_19_method_50_code
def yJ9_floorMod_7cf53 : MethodName := ⟨RJ9, "floorMod", "(II)I"⟩
abbrev cJ9_max_7cf53 : ByteArray := prog_19_method_65_code
def yJ9_max_7cf53 : MethodName := ⟨RJ9, "max", "(II)I"⟩
abbrev cJ9_min_7cf53 : ByteArray := prog_19_method_69_code
def yJ9_min_7cf53 : MethodName := ⟨RJ9, "min", "(II)I"⟩
def RJxd2413 : String := "java/lang/Number"
def TJxd2413 : u_T := fun k => match k with
  | _ => ("", "", "", false)
def tyJxd2413 : Nat → FieldType := fun k => match k with
  | _ => .int
theorem nmJxd2413 : ∀ a, a < 0 → ∀ b, b < 0 → a ≠ b → (TJxd2413 a).2.1 ≠ (TJxd2413 b).2.1 := by decide +kernel
theorem tyJxd2413_ok : ∀ k, k < 0 → parseFieldDescriptor (TJxd2413 k).2.2.1 = some (tyJxd2413 k) := by decide +kernel
def RJ0 : String := "java/lang/String"
def TJ0 : u_T := fun k => match k with
  | _ => ("", "", "", false)
def tyJ0 : Nat → FieldType := fun k => match k with
  | _ => .int
theorem nmJ0 : ∀ a, a < 0 → ∀ b, b < 0 → a ≠ b → (TJ0 a).2.1 ≠ (TJ0 b).2.1 := by decide +kernel
theorem tyJ0_ok : ∀ k, k < 0 → parseFieldDescriptor (TJ0 k).2.2.1 = some (tyJ0 k) := by decide +kernel
def RJ10 : String := "java/lang/System"
def TJ10 : u_T := fun k => match k with
  | _ => ("", "", "", false)
def tyJ10 : Nat → FieldType := fun k => match k with
  | _ => .int
theorem nmJ10 : ∀ a, a < 0 → ∀ b, b < 0 → a ≠ b → (TJ10 a).2.1 ≠ (TJ10 b).2.1 := by decide +kernel
theorem tyJ10_ok : ∀ k, k < 0 → parseFieldDescriptor (TJ10 k).2.2.1 = some (tyJ10 k) := by decide +kernel
def RJxfd54e : String := "java/lang/constant/Constable"
def TJxfd54e : u_T := fun k => match k with
  | _ => ("", "", "", false)
def tyJxfd54e : Nat → FieldType := fun k => match k with
  | _ => .int
theorem nmJxfd54e : ∀ a, a < 0 → ∀ b, b < 0 → a ≠ b → (TJxfd54e a).2.1 ≠ (TJxfd54e b).2.1 := by decide +kernel
theorem tyJxfd54e_ok : ∀ k, k < 0 → parseFieldDescriptor (TJxfd54e k).2.2.1 = some (tyJxfd54e k) := by decide +kernel
def RJx3cf43 : String := "java/lang/constant/ConstantDesc"
def TJx3cf43 : u_T := fun k => match k with
  | _ => ("", "", "", false)
def tyJx3cf43 : Nat → FieldType := fun k => match k with
  | _ => .int
theorem nmJx3cf43 : ∀ a, a < 0 → ∀ b, b < 0 → a ≠ b → (TJx3cf43 a).2.1 ≠ (TJx3cf43 b).2.1 := by decide +kernel
theorem tyJx3cf43_ok : ∀ k, k < 0 → parseFieldDescriptor (TJx3cf43 k).2.2.1 = some (tyJx3cf43 k) := by decide +kernel
def RJxa1e45 : String := "java/util/AbstractCollection"
def TJxa1e45 : u_T := fun k => match k with
  | _ => ("", "", "", false)
def tyJxa1e45 : Nat → FieldType := fun k => match k with
  | _ => .int
theorem nmJxa1e45 : ∀ a, a < 0 → ∀ b, b < 0 → a ≠ b → (TJxa1e45 a).2.1 ≠ (TJxa1e45 b).2.1 := by decide +kernel
theorem tyJxa1e45_ok : ∀ k, k < 0 → parseFieldDescriptor (TJxa1e45 k).2.2.1 = some (tyJxa1e45 k) := by decide +kernel
abbrev cJxa1e45_init_da8c8 : ByteArray := prog_27_method_1_code
def yJxa1e45_init_da8c8 : MethodName := ⟨RJxa1e45, "<init>", "()V"⟩
def RJxc12de : String := "java/util/AbstractList"
def TJxc12de : u_T := fun k => match k with
  | _ => ("", "", "", false)
def tyJxc12de : Nat → FieldType := fun k => match k with
  | _ => .int
theorem nmJxc12de : ∀ a, a < 0 → ∀ b, b < 0 → a ≠ b → (TJxc12de a).2.1 ≠ (TJxc12de b).2.1 := by decide +kernel
theorem tyJxc12de_ok : ∀ k, k < 0 → parseFieldDescriptor (TJxc12de k).2.2.1 = some (tyJxc12de k) := by decide +kernel
abbrev cJxc12de_init_da8c8 : ByteArray := prog_28_method_1_code
def yJxc12de_init_da8c8 : MethodName := ⟨RJxc12de, "<init>", "()V"⟩
def RJx4a65c : String := "java/util/ArrayList"
def TJx4a65c : u_T := fun k => match k with
  | 0 => ("java/util/AbstractList", "modCount", "I", false)
  | 1 => ("java/util/ArrayList", "elementData", "[Ljava/lang/Object;", false)
  | _ => ("java/util/ArrayList", "size", "I", false)
def tyJx4a65c : Nat → FieldType := fun k => match k with
  | 0 => .int
  | 1 => .array (.object "java/lang/Object")
  | _ => .int
theorem nmJx4a65c : ∀ a, a < 3 → ∀ b, b < 3 → a ≠ b → (TJx4a65c a).2.1 ≠ (TJx4a65c b).2.1 := by decide +kernel
theorem tyJx4a65c_ok : ∀ k, k < 3 → parseFieldDescriptor (TJx4a65c k).2.2.1 = some (tyJx4a65c k) := by decide +kernel
abbrev cJx4a65c_init_da8c8 : ByteArray := prog_29_method_2_code
def yJx4a65c_init_da8c8 : MethodName := ⟨RJx4a65c, "<init>", "()V"⟩
abbrev cJx4a65c_grow_92f84 : ByteArray := prog_29_method_6_code
def yJx4a65c_grow_92f84 : MethodName := ⟨RJx4a65c, "grow", "(I)[Ljava/lang/Object;"⟩
abbrev cJx4a65c_grow_d5877 : ByteArray := prog_29_method_7_code
def yJx4a65c_grow_d5877 : MethodName := ⟨RJx4a65c, "grow", "()[Ljava/lang/Object;"⟩
abbrev cJx4a65c_size_8abf5 : ByteArray := prog_29_method_8_code
def yJx4a65c_size_8abf5 : MethodName := ⟨RJx4a65c, "size", "()I"⟩
abbrev cJx4a65c_elementData_915e3 : ByteArray := prog_29_method_18_code
def yJx4a65c_elementData_915e3 : MethodName := ⟨RJx4a65c, "elementData", "(I)Ljava/lang/Object;"⟩
abbrev cJx4a65c_get_915e3 : ByteArray := prog_29_method_20_code
def yJx4a65c_get_915e3 : MethodName := ⟨RJx4a65c, "get", "(I)Ljava/lang/Object;"⟩
abbrev cJx4a65c_add_72be8 : ByteArray := prog_29_method_24_code
def yJx4a65c_add_72be8 : MethodName := ⟨RJx4a65c, "add", "(Ljava/lang/Object;[Ljava/lang/Object;I)V"⟩
abbrev cJx4a65c_add_9ea2d : ByteArray := prog_29_method_25_code
def yJx4a65c_add_9ea2d : MethodName := ⟨RJx4a65c, "add", "(Ljava/lang/Object;)Z"⟩
def RJ7 : String := "java/util/Arrays"
def TJ7 : u_T := fun k => match k with
  | _ => ("", "", "", false)
def tyJ7 : Nat → FieldType := fun k => match k with
  | _ => .int
theorem nmJ7 : ∀ a, a < 0 → ∀ b, b < 0 → a ≠ b → (TJ7 a).2.1 ≠ (TJ7 b).2.1 := by decide +kernel
theorem tyJ7_ok : ∀ k, k < 0 → parseFieldDescriptor (TJ7 k).2.2.1 = some (tyJ7 k) := by decide +kernel
abbrev cJ7_fill_53178 : ByteArray := prog_30_method_103_code
def yJ7_fill_53178 : MethodName := ⟨RJ7, "fill", "([II)V"⟩
abbrev cJ7_fill_7f8df : ByteArray := prog_30_method_113_code
def yJ7_fill_7f8df : MethodName := ⟨RJ7, "fill", "([DD)V"⟩
abbrev cJ7_copyOf_1904c : ByteArray := prog_30_method_119_code
def yJ7_copyOf_1904c : MethodName := ⟨RJ7, "copyOf", "([Ljava/lang/Object;I)[Ljava/lang/Object;"⟩
abbrev cJ7_copyOf_6403c : ByteArray := prog_30_method_120_code
def yJ7_copyOf_6403c : MethodName := ⟨RJ7, "copyOf", "([Ljava/lang/Object;ILjava/lang/Class;)[Ljava/lang/Object;"⟩
def RJx5ef63 : String := "java/util/Collection"
def TJx5ef63 : u_T := fun k => match k with
  | _ => ("", "", "", false)
def tyJx5ef63 : Nat → FieldType := fun k => match k with
  | _ => .int
theorem nmJx5ef63 : ∀ a, a < 0 → ∀ b, b < 0 → a ≠ b → (TJx5ef63 a).2.1 ≠ (TJx5ef63 b).2.1 := by decide +kernel
theorem tyJx5ef63_ok : ∀ k, k < 0 → parseFieldDescriptor (TJx5ef63 k).2.2.1 = some (tyJx5ef63 k) := by decide +kernel
def RJxbd725 : String := "java/util/List"
def TJxbd725 : u_T := fun k => match k with
  | _ => ("", "", "", false)
def tyJxbd725 : Nat → FieldType := fun k => match k with
  | _ => .int
theorem nmJxbd725 : ∀ a, a < 0 → ∀ b, b < 0 → a ≠ b → (TJxbd725 a).2.1 ≠ (TJxbd725 b).2.1 := by decide +kernel
theorem tyJxbd725_ok : ∀ k, k < 0 → parseFieldDescriptor (TJxbd725 k).2.2.1 = some (tyJxbd725 k) := by decide +kernel
def RJ15 : String := "java/util/Objects"
def TJ15 : u_T := fun k => match k with
  | _ => ("", "", "", false)
def tyJ15 : Nat → FieldType := fun k => match k with
  | _ => .int
theorem nmJ15 : ∀ a, a < 0 → ∀ b, b < 0 → a ≠ b → (TJ15 a).2.1 ≠ (TJ15 b).2.1 := by decide +kernel
theorem tyJ15_ok : ∀ k, k < 0 → parseFieldDescriptor (TJ15 k).2.2.1 = some (tyJ15 k) := by decide +kernel
abbrev cJ15_checkIndex_7cf53 : ByteArray := prog_33_method_17_code
def yJ15_checkIndex_7cf53 : MethodName := ⟨RJ15, "checkIndex", "(II)I"⟩
def RJxf0a74 : String := "java/util/RandomAccess"
def TJxf0a74 : u_T := fun k => match k with
  | _ => ("", "", "", false)
def tyJxf0a74 : Nat → FieldType := fun k => match k with
  | _ => .int
theorem nmJxf0a74 : ∀ a, a < 0 → ∀ b, b < 0 → a ≠ b → (TJxf0a74 a).2.1 ≠ (TJxf0a74 b).2.1 := by decide +kernel
theorem tyJxf0a74_ok : ∀ k, k < 0 → parseFieldDescriptor (TJxf0a74 k).2.2.1 = some (tyJxf0a74 k) := by decide +kernel
def RJxa66e6 : String := "java/util/SequencedCollection"
def TJxa66e6 : u_T := fun k => match k with
  | _ => ("", "", "", false)
def tyJxa66e6 : Nat → FieldType := fun k => match k with
  | _ => .int
theorem nmJxa66e6 : ∀ a, a < 0 → ∀ b, b < 0 → a ≠ b → (TJxa66e6 a).2.1 ≠ (TJxa66e6 b).2.1 := by decide +kernel
theorem tyJxa66e6_ok : ∀ k, k < 0 → parseFieldDescriptor (TJxa66e6 k).2.2.1 = some (tyJxa66e6 k) := by decide +kernel
def RJ8 : String := "jdk/internal/util/ArraysSupport"
def TJ8 : u_T := fun k => match k with
  | _ => ("", "", "", false)
def tyJ8 : Nat → FieldType := fun k => match k with
  | _ => .int
theorem nmJ8 : ∀ a, a < 0 → ∀ b, b < 0 → a ≠ b → (TJ8 a).2.1 ≠ (TJ8 b).2.1 := by decide +kernel
theorem tyJ8_ok : ∀ k, k < 0 → parseFieldDescriptor (TJ8 k).2.2.1 = some (tyJ8 k) := by decide +kernel
abbrev cJ8_newLength_cabcc : ByteArray := prog_36_method_27_code
def yJ8_newLength_cabcc : MethodName := ⟨RJ8, "newLength", "(III)I"⟩
abbrev cJ8_hugeLength_7cf53 : ByteArray := prog_36_method_28_code
def yJ8_hugeLength_7cf53 : MethodName := ⟨RJ8, "hugeLength", "(II)I"⟩
def RJ3 : String := "jdk/internal/util/Preconditions"
def TJ3 : u_T := fun k => match k with
  | _ => ("", "", "", false)
def tyJ3 : Nat → FieldType := fun k => match k with
  | _ => .int
theorem nmJ3 : ∀ a, a < 0 → ∀ b, b < 0 → a ≠ b → (TJ3 a).2.1 ≠ (TJ3 b).2.1 := by decide +kernel
theorem tyJ3_ok : ∀ k, k < 0 → parseFieldDescriptor (TJ3 k).2.2.1 = some (tyJ3 k) := by decide +kernel
abbrev cJ3_checkIndex_8e157 : ByteArray := prog_37_method_11_code
def yJ3_checkIndex_8e157 : MethodName := ⟨RJ3, "checkIndex", "(IILjava/util/function/BiFunction;)I"⟩
def RL : String := "TransitryLaw"
abbrev cL_star : ByteArray := method_3_code
def yL_star : MethodName := ⟨RL, "star", "(LTransitry;I[J)I"⟩
abbrev cL_planet : ByteArray := method_4_code
def yL_planet : MethodName := ⟨RL, "planet", "(LTransitry;IIIII[J)I"⟩
abbrev cL_spots : ByteArray := method_5_code
def yL_spots : MethodName := ⟨RL, "spots", "(LTransitry;III[J)I"⟩
abbrev cL_blend : ByteArray := method_6_code
def yL_blend : MethodName := ⟨RL, "blend", "(LTransitry;II[J)I"⟩
abbrev cL_light : ByteArray := method_7_code
def yL_light : MethodName := ⟨RL, "light", "(LTransitry;II[J)I"⟩
abbrev cL_cloud : ByteArray := method_8_code
def yL_cloud : MethodName := ⟨RL, "cloud", "(LTransitry;II[J)I"⟩
abbrev cL_observe : ByteArray := method_9_code
def yL_observe : MethodName := ⟨RL, "observe", "(LTransitry;III[J)I"⟩
abbrev cL_kept : ByteArray := method_10_code
def yL_kept : MethodName := ⟨RL, "kept", "(LTransitry;II[J)I"⟩
abbrev cL_score : ByteArray := method_11_code
def yL_score : MethodName := ⟨RL, "score", "(LTransitry;II[J)I"⟩
abbrev cL_phase : ByteArray := method_12_code
def yL_phase : MethodName := ⟨RL, "phase", "(LTransitry;II[J)I"⟩
abbrev cL_period : ByteArray := method_13_code
def yL_period : MethodName := ⟨RL, "period", "(LTransitry;II[J)I"⟩
abbrev cL_whyNot : ByteArray := method_14_code
def yL_whyNot : MethodName := ⟨RL, "whyNot", "(LTransitry;II[J)I"⟩
abbrev cL_oddEven : ByteArray := method_15_code
def yL_oddEven : MethodName := ⟨RL, "oddEven", "(LTransitry;II[J)I"⟩
abbrev cL_world : ByteArray := method_16_code
def yL_world : MethodName := ⟨RL, "world", "(LTransitry;II[J)I"⟩
abbrev cL_about : ByteArray := method_17_code
def yL_about : MethodName := ⟨RL, "about", "(LTransitry;II[J)I"⟩
abbrev cL_periodAnew : ByteArray := method_18_code
def yL_periodAnew : MethodName := ⟨RL, "periodAnew", "(LTransitry;I[J)I"⟩
abbrev cL_paper : ByteArray := method_19_code
def yL_paper : MethodName := ⟨RL, "paper", "(LTransitry;II[J)I"⟩
abbrev cL_withdraw : ByteArray := method_20_code
def yL_withdraw : MethodName := ⟨RL, "withdraw", "(LTransitry;I[J)I"⟩
abbrev cL_hasFallen : ByteArray := method_21_code
def yL_hasFallen : MethodName := ⟨RL, "hasFallen", "(LTransitry;I[J)I"⟩
abbrev cL_law : ByteArray := code
def yL_law : MethodName := ⟨RL, "law", "([I)Z"⟩
abbrev vwCl : List vw_C := [(RJx4a65c, TJx4a65c, 3), (RX0, TX0, 4), (RX1, TX1, 2), (RX2, TX2, 3), (RX3, TX3, 4), (RX4, TX4, 6), (RX5, TX5, 6), (RX6, TX6, 6), (RX7, TX7, 27)]
end
section
theorem dX0_init_0 : decode cX0_init 0 = .ok (.aload_n 0, 1) := by decide +kernel
theorem dX0_init_1 : decode cX0_init 1 = .ok (.invokespecial 3, 3) := by decide +kernel
theorem dX0_init_4 : decode cX0_init 4 = .ok (.aload_n 0, 1) := by decide +kernel
theorem dX0_init_5 : decode cX0_init 5 = .ok (.bipush 120, 2) := by decide +kernel
theorem dX0_init_7 : decode cX0_init 7 = .ok (.newarray .double, 2) := by decide +kernel
theorem dX0_init_9 : decode cX0_init 9 = .ok (.putfield 9, 3) := by decide +kernel
theorem dX0_init_12 : decode cX0_init 12 = .ok (.aload_n 0, 1) := by decide +kernel
theorem dX0_init_13 : decode cX0_init 13 = .ok (.bipush 120, 2) := by decide +kernel
theorem dX0_init_15 : decode cX0_init 15 = .ok (.newarray .int, 2) := by decide +kernel
theorem dX0_init_17 : decode cX0_init 17 = .ok (.putfield 15, 3) := by decide +kernel
theorem dX0_init_20 : decode cX0_init 20 = .ok (.aload_n 0, 1) := by decide +kernel
theorem dX0_init_21 : decode cX0_init 21 = .ok (.iconst 0, 1) := by decide +kernel
theorem dX0_init_22 : decode cX0_init 22 = .ok (.putfield 19, 3) := by decide +kernel
theorem dX0_init_25 : decode cX0_init 25 = .ok (.aload_n 0, 1) := by decide +kernel
theorem dX0_init_26 : decode cX0_init 26 = .ok (.dconst 0, 1) := by decide +kernel
theorem dX0_init_27 : decode cX0_init 27 = .ok (.putfield 23, 3) := by decide +kernel
theorem dX0_init_30 : decode cX0_init 30 = .ok (.return_, 1) := by decide +kernel
theorem dX0_foldBy_0 : decode cX0_foldBy 0 = .ok (.aload_n 0, 1) := by decide +kernel
theorem dX0_foldBy_1 : decode cX0_foldBy 1 = .ok (.getfield 9, 3) := by decide +kernel
theorem dX0_foldBy_4 : decode cX0_foldBy 4 = .ok (.dconst 0, 1) := by decide +kernel
theorem dX0_foldBy_5 : decode cX0_foldBy 5 = .ok (.invokestatic 27, 3) := by decide +kernel
theorem dX0_foldBy_8 : decode cX0_foldBy 8 = .ok (.aload_n 0, 1) := by decide +kernel
theorem dX0_foldBy_9 : decode cX0_foldBy 9 = .ok (.getfield 15, 3) := by decide +kernel
theorem dX0_foldBy_12 : decode cX0_foldBy 12 = .ok (.iconst 0, 1) := by decide +kernel
theorem dX0_foldBy_13 : decode cX0_foldBy 13 = .ok (.invokestatic 33, 3) := by decide +kernel
theorem dX0_foldBy_16 : decode cX0_foldBy 16 = .ok (.aload_n 0, 1) := by decide +kernel
theorem dX0_foldBy_17 : decode cX0_foldBy 17 = .ok (.iconst 0, 1) := by decide +kernel
theorem dX0_foldBy_18 : decode cX0_foldBy 18 = .ok (.putfield 19, 3) := by decide +kernel
theorem dX0_foldBy_21 : decode cX0_foldBy 21 = .ok (.aload_n 0, 1) := by decide +kernel
theorem dX0_foldBy_22 : decode cX0_foldBy 22 = .ok (.dconst 0, 1) := by decide +kernel
theorem dX0_foldBy_23 : decode cX0_foldBy 23 = .ok (.putfield 23, 3) := by decide +kernel
theorem dX0_foldBy_26 : decode cX0_foldBy 26 = .ok (.iload_n 1, 1) := by decide +kernel
theorem dX0_foldBy_27 : decode cX0_foldBy 27 = .ok (.iconst 1, 1) := by decide +kernel
theorem dX0_foldBy_28 : decode cX0_foldBy 28 = .ok (.if_icmp .lt 21, 3) := by decide +kernel
theorem dX0_foldBy_31 : decode cX0_foldBy 31 = .ok (.iload_n 1, 1) := by decide +kernel
theorem dX0_foldBy_32 : decode cX0_foldBy 32 = .ok (.aload_n 0, 1) := by decide +kernel
theorem dX0_foldBy_33 : decode cX0_foldBy 33 = .ok (.getfield 9, 3) := by decide +kernel
theorem dX0_foldBy_36 : decode cX0_foldBy 36 = .ok (.arraylength, 1) := by decide +kernel
theorem dX0_foldBy_37 : decode cX0_foldBy 37 = .ok (.if_icmp .gt 12, 3) := by decide +kernel
theorem dX0_foldBy_40 : decode cX0_foldBy 40 = .ok (.iload_n 1, 1) := by decide +kernel
theorem dX0_foldBy_41 : decode cX0_foldBy 41 = .ok (.aload_n 0, 1) := by decide +kernel
theorem dX0_foldBy_42 : decode cX0_foldBy 42 = .ok (.getfield 15, 3) := by decide +kernel
theorem dX0_foldBy_45 : decode cX0_foldBy 45 = .ok (.arraylength, 1) := by decide +kernel
theorem dX0_foldBy_46 : decode cX0_foldBy 46 = .ok (.if_icmp .le 4, 3) := by decide +kernel
theorem dX0_foldBy_49 : decode cX0_foldBy 49 = .ok (.return_, 1) := by decide +kernel
theorem dX0_foldBy_50 : decode cX0_foldBy 50 = .ok (.aload_n 0, 1) := by decide +kernel
theorem dX0_foldBy_51 : decode cX0_foldBy 51 = .ok (.iload_n 1, 1) := by decide +kernel
theorem dX0_foldBy_52 : decode cX0_foldBy 52 = .ok (.putfield 19, 3) := by decide +kernel
theorem dX0_foldBy_55 : decode cX0_foldBy 55 = .ok (.aload_n 2, 1) := by decide +kernel
theorem dX0_foldBy_56 : decode cX0_foldBy 56 = .ok (.getfield 36, 3) := by decide +kernel
theorem dX0_foldBy_59 : decode cX0_foldBy 59 = .ok (.astore_n 3, 1) := by decide +kernel
theorem dX0_foldBy_60 : decode cX0_foldBy 60 = .ok (.dconst 0, 1) := by decide +kernel
theorem dX0_foldBy_61 : decode cX0_foldBy 61 = .ok (.dstore 4, 2) := by decide +kernel
theorem dX0_foldBy_63 : decode cX0_foldBy 63 = .ok (.iconst 0, 1) := by decide +kernel
theorem dX0_foldBy_64 : decode cX0_foldBy 64 = .ok (.istore 6, 2) := by decide +kernel
theorem dX0_foldBy_66 : decode cX0_foldBy 66 = .ok (.iload 6, 2) := by decide +kernel
theorem dX0_foldBy_68 : decode cX0_foldBy 68 = .ok (.aload_n 3, 1) := by decide +kernel
theorem dX0_foldBy_69 : decode cX0_foldBy 69 = .ok (.arraylength, 1) := by decide +kernel
theorem dX0_foldBy_70 : decode cX0_foldBy 70 = .ok (.if_icmp .ge 63, 3) := by decide +kernel
theorem dX0_foldBy_73 : decode cX0_foldBy 73 = .ok (.aload_n 3, 1) := by decide +kernel
theorem dX0_foldBy_74 : decode cX0_foldBy 74 = .ok (.iload 6, 2) := by decide +kernel
theorem dX0_foldBy_76 : decode cX0_foldBy 76 = .ok (.daload, 1) := by decide +kernel
theorem dX0_foldBy_77 : decode cX0_foldBy 77 = .ok (.dconst 0, 1) := by decide +kernel
theorem dX0_foldBy_78 : decode cX0_foldBy 78 = .ok (.dcmp .l, 1) := by decide +kernel
theorem dX0_foldBy_79 : decode cX0_foldBy 79 = .ok (.ifCond .le 48, 3) := by decide +kernel
theorem dX0_foldBy_82 : decode cX0_foldBy 82 = .ok (.iload 6, 2) := by decide +kernel
theorem dX0_foldBy_84 : decode cX0_foldBy 84 = .ok (.iload_n 1, 1) := by decide +kernel
theorem dX0_foldBy_85 : decode cX0_foldBy 85 = .ok (.irem, 1) := by decide +kernel
theorem dX0_foldBy_86 : decode cX0_foldBy 86 = .ok (.istore 7, 2) := by decide +kernel
theorem dX0_foldBy_88 : decode cX0_foldBy 88 = .ok (.aload_n 0, 1) := by decide +kernel
theorem dX0_foldBy_89 : decode cX0_foldBy 89 = .ok (.getfield 9, 3) := by decide +kernel
theorem dX0_foldBy_92 : decode cX0_foldBy 92 = .ok (.iload 7, 2) := by decide +kernel
theorem dX0_foldBy_94 : decode cX0_foldBy 94 = .ok (.aload_n 0, 1) := by decide +kernel
theorem dX0_foldBy_95 : decode cX0_foldBy 95 = .ok (.getfield 9, 3) := by decide +kernel
theorem dX0_foldBy_98 : decode cX0_foldBy 98 = .ok (.iload 7, 2) := by decide +kernel
theorem dX0_foldBy_100 : decode cX0_foldBy 100 = .ok (.daload, 1) := by decide +kernel
theorem dX0_foldBy_101 : decode cX0_foldBy 101 = .ok (.aload_n 3, 1) := by decide +kernel
theorem dX0_foldBy_102 : decode cX0_foldBy 102 = .ok (.iload 6, 2) := by decide +kernel
theorem dX0_foldBy_104 : decode cX0_foldBy 104 = .ok (.daload, 1) := by decide +kernel
theorem dX0_foldBy_105 : decode cX0_foldBy 105 = .ok (.dadd, 1) := by decide +kernel
theorem dX0_foldBy_106 : decode cX0_foldBy 106 = .ok (.dastore, 1) := by decide +kernel
theorem dX0_foldBy_107 : decode cX0_foldBy 107 = .ok (.aload_n 0, 1) := by decide +kernel
theorem dX0_foldBy_108 : decode cX0_foldBy 108 = .ok (.getfield 15, 3) := by decide +kernel
theorem dX0_foldBy_111 : decode cX0_foldBy 111 = .ok (.iload 7, 2) := by decide +kernel
theorem dX0_foldBy_113 : decode cX0_foldBy 113 = .ok (.dup2, 1) := by decide +kernel
theorem dX0_foldBy_114 : decode cX0_foldBy 114 = .ok (.iaload, 1) := by decide +kernel
theorem dX0_foldBy_115 : decode cX0_foldBy 115 = .ok (.iconst 1, 1) := by decide +kernel
theorem dX0_foldBy_116 : decode cX0_foldBy 116 = .ok (.iadd, 1) := by decide +kernel
theorem dX0_foldBy_117 : decode cX0_foldBy 117 = .ok (.iastore, 1) := by decide +kernel
theorem dX0_foldBy_118 : decode cX0_foldBy 118 = .ok (.dload 4, 2) := by decide +kernel
theorem dX0_foldBy_120 : decode cX0_foldBy 120 = .ok (.aload_n 3, 1) := by decide +kernel
theorem dX0_foldBy_121 : decode cX0_foldBy 121 = .ok (.iload 6, 2) := by decide +kernel
theorem dX0_foldBy_123 : decode cX0_foldBy 123 = .ok (.daload, 1) := by decide +kernel
theorem dX0_foldBy_124 : decode cX0_foldBy 124 = .ok (.dadd, 1) := by decide +kernel
theorem dX0_foldBy_125 : decode cX0_foldBy 125 = .ok (.dstore 4, 2) := by decide +kernel
theorem dX0_foldBy_127 : decode cX0_foldBy 127 = .ok (.iinc 6 1, 3) := by decide +kernel
theorem dX0_foldBy_130 : decode cX0_foldBy 130 = .ok (.goto (-64), 3) := by decide +kernel
theorem dX0_foldBy_133 : decode cX0_foldBy 133 = .ok (.aload_n 2, 1) := by decide +kernel
theorem dX0_foldBy_134 : decode cX0_foldBy 134 = .ok (.getfield 41, 3) := by decide +kernel
theorem dX0_foldBy_137 : decode cX0_foldBy 137 = .ok (.ifCond .le 15, 3) := by decide +kernel
theorem dX0_foldBy_140 : decode cX0_foldBy 140 = .ok (.aload_n 0, 1) := by decide +kernel
theorem dX0_foldBy_141 : decode cX0_foldBy 141 = .ok (.dload 4, 2) := by decide +kernel
theorem dX0_foldBy_143 : decode cX0_foldBy 143 = .ok (.aload_n 2, 1) := by decide +kernel
theorem dX0_foldBy_144 : decode cX0_foldBy 144 = .ok (.getfield 41, 3) := by decide +kernel
theorem dX0_foldBy_147 : decode cX0_foldBy 147 = .ok (.i2d, 1) := by decide +kernel
theorem dX0_foldBy_148 : decode cX0_foldBy 148 = .ok (.ddiv, 1) := by decide +kernel
theorem dX0_foldBy_149 : decode cX0_foldBy 149 = .ok (.putfield 23, 3) := by decide +kernel
theorem dX0_foldBy_152 : decode cX0_foldBy 152 = .ok (.return_, 1) := by decide +kernel
theorem dX0_hasHours_0 : decode cX0_hasHours 0 = .ok (.iload_n 1, 1) := by decide +kernel
theorem dX0_hasHours_1 : decode cX0_hasHours 1 = .ok (.ifCond .lt 25, 3) := by decide +kernel
theorem dX0_hasHours_4 : decode cX0_hasHours 4 = .ok (.iload_n 1, 1) := by decide +kernel
theorem dX0_hasHours_5 : decode cX0_hasHours 5 = .ok (.aload_n 0, 1) := by decide +kernel
theorem dX0_hasHours_6 : decode cX0_hasHours 6 = .ok (.getfield 15, 3) := by decide +kernel
theorem dX0_hasHours_9 : decode cX0_hasHours 9 = .ok (.arraylength, 1) := by decide +kernel
theorem dX0_hasHours_10 : decode cX0_hasHours 10 = .ok (.if_icmp .ge 16, 3) := by decide +kernel
theorem dX0_hasHours_13 : decode cX0_hasHours 13 = .ok (.aload_n 0, 1) := by decide +kernel
theorem dX0_hasHours_14 : decode cX0_hasHours 14 = .ok (.getfield 15, 3) := by decide +kernel
theorem dX0_hasHours_17 : decode cX0_hasHours 17 = .ok (.iload_n 1, 1) := by decide +kernel
theorem dX0_hasHours_18 : decode cX0_hasHours 18 = .ok (.iaload, 1) := by decide +kernel
theorem dX0_hasHours_19 : decode cX0_hasHours 19 = .ok (.ifCond .le 7, 3) := by decide +kernel
theorem dX0_hasHours_22 : decode cX0_hasHours 22 = .ok (.iconst 1, 1) := by decide +kernel
theorem dX0_hasHours_23 : decode cX0_hasHours 23 = .ok (.goto 4, 3) := by decide +kernel
theorem dX0_hasHours_26 : decode cX0_hasHours 26 = .ok (.iconst 0, 1) := by decide +kernel
theorem dX0_hasHours_27 : decode cX0_hasHours 27 = .ok (.ireturn, 1) := by decide +kernel
theorem dX0_meanOf_0 : decode cX0_meanOf 0 = .ok (.aload_n 0, 1) := by decide +kernel
theorem dX0_meanOf_1 : decode cX0_meanOf 1 = .ok (.iload_n 1, 1) := by decide +kernel
theorem dX0_meanOf_2 : decode cX0_meanOf 2 = .ok (.invokevirtual 44, 3) := by decide +kernel
theorem dX0_meanOf_5 : decode cX0_meanOf 5 = .ok (.ifCond .eq 29, 3) := by decide +kernel
theorem dX0_meanOf_8 : decode cX0_meanOf 8 = .ok (.iload_n 1, 1) := by decide +kernel
theorem dX0_meanOf_9 : decode cX0_meanOf 9 = .ok (.aload_n 0, 1) := by decide +kernel
theorem dX0_meanOf_10 : decode cX0_meanOf 10 = .ok (.getfield 9, 3) := by decide +kernel
theorem dX0_meanOf_13 : decode cX0_meanOf 13 = .ok (.arraylength, 1) := by decide +kernel
theorem dX0_meanOf_14 : decode cX0_meanOf 14 = .ok (.if_icmp .ge 20, 3) := by decide +kernel
theorem dX0_meanOf_17 : decode cX0_meanOf 17 = .ok (.aload_n 0, 1) := by decide +kernel
theorem dX0_meanOf_18 : decode cX0_meanOf 18 = .ok (.getfield 9, 3) := by decide +kernel
theorem dX0_meanOf_21 : decode cX0_meanOf 21 = .ok (.iload_n 1, 1) := by decide +kernel
theorem dX0_meanOf_22 : decode cX0_meanOf 22 = .ok (.daload, 1) := by decide +kernel
theorem dX0_meanOf_23 : decode cX0_meanOf 23 = .ok (.aload_n 0, 1) := by decide +kernel
theorem dX0_meanOf_24 : decode cX0_meanOf 24 = .ok (.getfield 15, 3) := by decide +kernel
theorem dX0_meanOf_27 : decode cX0_meanOf 27 = .ok (.iload_n 1, 1) := by decide +kernel
theorem dX0_meanOf_28 : decode cX0_meanOf 28 = .ok (.iaload, 1) := by decide +kernel
theorem dX0_meanOf_29 : decode cX0_meanOf 29 = .ok (.i2d, 1) := by decide +kernel
theorem dX0_meanOf_30 : decode cX0_meanOf 30 = .ok (.ddiv, 1) := by decide +kernel
theorem dX0_meanOf_31 : decode cX0_meanOf 31 = .ok (.goto 4, 3) := by decide +kernel
theorem dX0_meanOf_34 : decode cX0_meanOf 34 = .ok (.dconst 0, 1) := by decide +kernel
theorem dX0_meanOf_35 : decode cX0_meanOf 35 = .ok (.dreturn, 1) := by decide +kernel
theorem dX0_scoreOf_0 : decode cX0_scoreOf 0 = .ok (.aload_n 0, 1) := by decide +kernel
theorem dX0_scoreOf_1 : decode cX0_scoreOf 1 = .ok (.iload_n 1, 1) := by decide +kernel
theorem dX0_scoreOf_2 : decode cX0_scoreOf 2 = .ok (.invokevirtual 44, 3) := by decide +kernel
theorem dX0_scoreOf_5 : decode cX0_scoreOf 5 = .ok (.ifCond .eq 24, 3) := by decide +kernel
theorem dX0_scoreOf_8 : decode cX0_scoreOf 8 = .ok (.aload_n 0, 1) := by decide +kernel
theorem dX0_scoreOf_9 : decode cX0_scoreOf 9 = .ok (.getfield 23, 3) := by decide +kernel
theorem dX0_scoreOf_12 : decode cX0_scoreOf 12 = .ok (.aload_n 0, 1) := by decide +kernel
theorem dX0_scoreOf_13 : decode cX0_scoreOf 13 = .ok (.iload_n 1, 1) := by decide +kernel
theorem dX0_scoreOf_14 : decode cX0_scoreOf 14 = .ok (.invokevirtual 48, 3) := by decide +kernel
theorem dX0_scoreOf_17 : decode cX0_scoreOf 17 = .ok (.dsub, 1) := by decide +kernel
theorem dX0_scoreOf_18 : decode cX0_scoreOf 18 = .ok (.aload_n 0, 1) := by decide +kernel
theorem dX0_scoreOf_19 : decode cX0_scoreOf 19 = .ok (.getfield 15, 3) := by decide +kernel
theorem dX0_scoreOf_22 : decode cX0_scoreOf 22 = .ok (.iload_n 1, 1) := by decide +kernel
theorem dX0_scoreOf_23 : decode cX0_scoreOf 23 = .ok (.iaload, 1) := by decide +kernel
theorem dX0_scoreOf_24 : decode cX0_scoreOf 24 = .ok (.i2d, 1) := by decide +kernel
theorem dX0_scoreOf_25 : decode cX0_scoreOf 25 = .ok (.dmul, 1) := by decide +kernel
theorem dX0_scoreOf_26 : decode cX0_scoreOf 26 = .ok (.goto 4, 3) := by decide +kernel
theorem dX0_scoreOf_29 : decode cX0_scoreOf 29 = .ok (.dconst 0, 1) := by decide +kernel
theorem dX0_scoreOf_30 : decode cX0_scoreOf 30 = .ok (.dreturn, 1) := by decide +kernel
theorem dX0_bestFold_0 : decode cX0_bestFold 0 = .ok (.iconst (-1), 1) := by decide +kernel
theorem dX0_bestFold_1 : decode cX0_bestFold 1 = .ok (.istore_n 1, 1) := by decide +kernel
theorem dX0_bestFold_2 : decode cX0_bestFold 2 = .ok (.dconst 0, 1) := by decide +kernel
theorem dX0_bestFold_3 : decode cX0_bestFold 3 = .ok (.dstore_n 2, 1) := by decide +kernel
theorem dX0_bestFold_4 : decode cX0_bestFold 4 = .ok (.iconst 0, 1) := by decide +kernel
theorem dX0_bestFold_5 : decode cX0_bestFold 5 = .ok (.istore 4, 2) := by decide +kernel
theorem dX0_bestFold_7 : decode cX0_bestFold 7 = .ok (.iload 4, 2) := by decide +kernel
theorem dX0_bestFold_9 : decode cX0_bestFold 9 = .ok (.aload_n 0, 1) := by decide +kernel
theorem dX0_bestFold_10 : decode cX0_bestFold 10 = .ok (.getfield 19, 3) := by decide +kernel
theorem dX0_bestFold_13 : decode cX0_bestFold 13 = .ok (.if_icmp .ge 44, 3) := by decide +kernel
theorem dX0_bestFold_16 : decode cX0_bestFold 16 = .ok (.aload_n 0, 1) := by decide +kernel
theorem dX0_bestFold_17 : decode cX0_bestFold 17 = .ok (.iload 4, 2) := by decide +kernel
theorem dX0_bestFold_19 : decode cX0_bestFold 19 = .ok (.invokevirtual 44, 3) := by decide +kernel
theorem dX0_bestFold_22 : decode cX0_bestFold 22 = .ok (.ifCond .eq 29, 3) := by decide +kernel
theorem dX0_bestFold_25 : decode cX0_bestFold 25 = .ok (.aload_n 0, 1) := by decide +kernel
theorem dX0_bestFold_26 : decode cX0_bestFold 26 = .ok (.iload 4, 2) := by decide +kernel
theorem dX0_bestFold_28 : decode cX0_bestFold 28 = .ok (.invokevirtual 52, 3) := by decide +kernel
theorem dX0_bestFold_31 : decode cX0_bestFold 31 = .ok (.dstore 5, 2) := by decide +kernel
theorem dX0_bestFold_33 : decode cX0_bestFold 33 = .ok (.iload_n 1, 1) := by decide +kernel
theorem dX0_bestFold_34 : decode cX0_bestFold 34 = .ok (.iconst (-1), 1) := by decide +kernel
theorem dX0_bestFold_35 : decode cX0_bestFold 35 = .ok (.if_icmp .eq 10, 3) := by decide +kernel
theorem dX0_bestFold_38 : decode cX0_bestFold 38 = .ok (.dload 5, 2) := by decide +kernel
theorem dX0_bestFold_40 : decode cX0_bestFold 40 = .ok (.dload_n 2, 1) := by decide +kernel
theorem dX0_bestFold_41 : decode cX0_bestFold 41 = .ok (.dcmp .l, 1) := by decide +kernel
theorem dX0_bestFold_42 : decode cX0_bestFold 42 = .ok (.ifCond .le 9, 3) := by decide +kernel
theorem dX0_bestFold_45 : decode cX0_bestFold 45 = .ok (.dload 5, 2) := by decide +kernel
theorem dX0_bestFold_47 : decode cX0_bestFold 47 = .ok (.dstore_n 2, 1) := by decide +kernel
theorem dX0_bestFold_48 : decode cX0_bestFold 48 = .ok (.iload 4, 2) := by decide +kernel
theorem dX0_bestFold_50 : decode cX0_bestFold 50 = .ok (.istore_n 1, 1) := by decide +kernel
theorem dX0_bestFold_51 : decode cX0_bestFold 51 = .ok (.iinc 4 1, 3) := by decide +kernel
theorem dX0_bestFold_54 : decode cX0_bestFold 54 = .ok (.goto (-47), 3) := by decide +kernel
theorem dX0_bestFold_57 : decode cX0_bestFold 57 = .ok (.iload_n 1, 1) := by decide +kernel
theorem dX0_bestFold_58 : decode cX0_bestFold 58 = .ok (.ireturn, 1) := by decide +kernel
theorem dX1_init_0 : decode cX1_init 0 = .ok (.aload_n 0, 1) := by decide +kernel
theorem dX1_init_1 : decode cX1_init 1 = .ok (.invokespecial 3, 3) := by decide +kernel
theorem dX1_init_4 : decode cX1_init 4 = .ok (.aload_n 0, 1) := by decide +kernel
theorem dX1_init_5 : decode cX1_init 5 = .ok (.sipush 1000, 3) := by decide +kernel
theorem dX1_init_8 : decode cX1_init 8 = .ok (.newarray .double, 2) := by decide +kernel
theorem dX1_init_10 : decode cX1_init 10 = .ok (.putfield 9, 3) := by decide +kernel
theorem dX1_init_13 : decode cX1_init 13 = .ok (.aload_n 0, 1) := by decide +kernel
theorem dX1_init_14 : decode cX1_init 14 = .ok (.iconst 0, 1) := by decide +kernel
theorem dX1_init_15 : decode cX1_init 15 = .ok (.putfield 15, 3) := by decide +kernel
theorem dX1_init_18 : decode cX1_init 18 = .ok (.return_, 1) := by decide +kernel
theorem dX1_init__0 : decode cX1_init_ 0 = .ok (.aload_n 0, 1) := by decide +kernel
theorem dX1_init__1 : decode cX1_init_ 1 = .ok (.invokespecial 3, 3) := by decide +kernel
theorem dX1_init__4 : decode cX1_init_ 4 = .ok (.aload_n 0, 1) := by decide +kernel
theorem dX1_init__5 : decode cX1_init_ 5 = .ok (.aload_n 1, 1) := by decide +kernel
theorem dX1_init__6 : decode cX1_init_ 6 = .ok (.getfield 9, 3) := by decide +kernel
theorem dX1_init__9 : decode cX1_init_ 9 = .ok (.invokevirtual 19, 3) := by decide +kernel
theorem dX1_init__12 : decode cX1_init_ 12 = .ok (.checkcast 20, 3) := by decide +kernel
theorem dX1_init__15 : decode cX1_init_ 15 = .ok (.putfield 9, 3) := by decide +kernel
theorem dX1_init__18 : decode cX1_init_ 18 = .ok (.aload_n 0, 1) := by decide +kernel
theorem dX1_init__19 : decode cX1_init_ 19 = .ok (.aload_n 1, 1) := by decide +kernel
theorem dX1_init__20 : decode cX1_init_ 20 = .ok (.getfield 15, 3) := by decide +kernel
theorem dX1_init__23 : decode cX1_init_ 23 = .ok (.putfield 15, 3) := by decide +kernel
theorem dX1_init__26 : decode cX1_init_ 26 = .ok (.return_, 1) := by decide +kernel
theorem dX1_hasLight_0 : decode cX1_hasLight 0 = .ok (.aload_n 0, 1) := by decide +kernel
theorem dX1_hasLight_1 : decode cX1_hasLight 1 = .ok (.iload_n 1, 1) := by decide +kernel
theorem dX1_hasLight_2 : decode cX1_hasLight 2 = .ok (.invokevirtual 24, 3) := by decide +kernel
theorem dX1_hasLight_5 : decode cX1_hasLight 5 = .ok (.dconst 0, 1) := by decide +kernel
theorem dX1_hasLight_6 : decode cX1_hasLight 6 = .ok (.dcmp .l, 1) := by decide +kernel
theorem dX1_hasLight_7 : decode cX1_hasLight 7 = .ok (.ifCond .le 7, 3) := by decide +kernel
theorem dX1_hasLight_10 : decode cX1_hasLight 10 = .ok (.iconst 1, 1) := by decide +kernel
theorem dX1_hasLight_11 : decode cX1_hasLight 11 = .ok (.goto 4, 3) := by decide +kernel
theorem dX1_hasLight_14 : decode cX1_hasLight 14 = .ok (.iconst 0, 1) := by decide +kernel
theorem dX1_hasLight_15 : decode cX1_hasLight 15 = .ok (.ireturn, 1) := by decide +kernel
theorem dX1_lightOf_0 : decode cX1_lightOf 0 = .ok (.iload_n 1, 1) := by decide +kernel
theorem dX1_lightOf_1 : decode cX1_lightOf 1 = .ok (.ifCond .lt 21, 3) := by decide +kernel
theorem dX1_lightOf_4 : decode cX1_lightOf 4 = .ok (.iload_n 1, 1) := by decide +kernel
theorem dX1_lightOf_5 : decode cX1_lightOf 5 = .ok (.aload_n 0, 1) := by decide +kernel
theorem dX1_lightOf_6 : decode cX1_lightOf 6 = .ok (.getfield 9, 3) := by decide +kernel
theorem dX1_lightOf_9 : decode cX1_lightOf 9 = .ok (.arraylength, 1) := by decide +kernel
theorem dX1_lightOf_10 : decode cX1_lightOf 10 = .ok (.if_icmp .ge 12, 3) := by decide +kernel
theorem dX1_lightOf_13 : decode cX1_lightOf 13 = .ok (.aload_n 0, 1) := by decide +kernel
theorem dX1_lightOf_14 : decode cX1_lightOf 14 = .ok (.getfield 9, 3) := by decide +kernel
theorem dX1_lightOf_17 : decode cX1_lightOf 17 = .ok (.iload_n 1, 1) := by decide +kernel
theorem dX1_lightOf_18 : decode cX1_lightOf 18 = .ok (.daload, 1) := by decide +kernel
theorem dX1_lightOf_19 : decode cX1_lightOf 19 = .ok (.goto 4, 3) := by decide +kernel
theorem dX1_lightOf_22 : decode cX1_lightOf 22 = .ok (.dconst 0, 1) := by decide +kernel
theorem dX1_lightOf_23 : decode cX1_lightOf 23 = .ok (.dreturn, 1) := by decide +kernel
theorem dX1_keep_0 : decode cX1_keep 0 = .ok (.iload_n 1, 1) := by decide +kernel
theorem dX1_keep_1 : decode cX1_keep 1 = .ok (.ifCond .lt 29, 3) := by decide +kernel
theorem dX1_keep_4 : decode cX1_keep 4 = .ok (.iload_n 1, 1) := by decide +kernel
theorem dX1_keep_5 : decode cX1_keep 5 = .ok (.aload_n 0, 1) := by decide +kernel
theorem dX1_keep_6 : decode cX1_keep 6 = .ok (.getfield 9, 3) := by decide +kernel
theorem dX1_keep_9 : decode cX1_keep 9 = .ok (.arraylength, 1) := by decide +kernel
theorem dX1_keep_10 : decode cX1_keep 10 = .ok (.if_icmp .ge 20, 3) := by decide +kernel
theorem dX1_keep_13 : decode cX1_keep 13 = .ok (.aload_n 0, 1) := by decide +kernel
theorem dX1_keep_14 : decode cX1_keep 14 = .ok (.getfield 9, 3) := by decide +kernel
theorem dX1_keep_17 : decode cX1_keep 17 = .ok (.iload_n 1, 1) := by decide +kernel
theorem dX1_keep_18 : decode cX1_keep 18 = .ok (.dload_n 2, 1) := by decide +kernel
theorem dX1_keep_19 : decode cX1_keep 19 = .ok (.dastore, 1) := by decide +kernel
theorem dX1_keep_20 : decode cX1_keep 20 = .ok (.aload_n 0, 1) := by decide +kernel
theorem dX1_keep_21 : decode cX1_keep 21 = .ok (.dup, 1) := by decide +kernel
theorem dX1_keep_22 : decode cX1_keep 22 = .ok (.getfield 15, 3) := by decide +kernel
theorem dX1_keep_25 : decode cX1_keep 25 = .ok (.iconst 1, 1) := by decide +kernel
theorem dX1_keep_26 : decode cX1_keep 26 = .ok (.iadd, 1) := by decide +kernel
theorem dX1_keep_27 : decode cX1_keep 27 = .ok (.putfield 15, 3) := by decide +kernel
theorem dX1_keep_30 : decode cX1_keep 30 = .ok (.return_, 1) := by decide +kernel
theorem dX2_init_0 : decode cX2_init 0 = .ok (.aload_n 0, 1) := by decide +kernel
theorem dX2_init_1 : decode cX2_init 1 = .ok (.invokespecial 1, 3) := by decide +kernel
theorem dX2_init_4 : decode cX2_init 4 = .ok (.aload_n 0, 1) := by decide +kernel
theorem dX2_init_5 : decode cX2_init 5 = .ok (.iconst 0, 1) := by decide +kernel
theorem dX2_init_6 : decode cX2_init 6 = .ok (.putfield 7, 3) := by decide +kernel
theorem dX2_init_9 : decode cX2_init 9 = .ok (.aload_n 0, 1) := by decide +kernel
theorem dX2_init_10 : decode cX2_init 10 = .ok (.aload_n 1, 1) := by decide +kernel
theorem dX2_init_11 : decode cX2_init 11 = .ok (.putfield 13, 3) := by decide +kernel
theorem dX2_init_14 : decode cX2_init 14 = .ok (.aload_n 0, 1) := by decide +kernel
theorem dX2_init_15 : decode cX2_init 15 = .ok (.aload_n 2, 1) := by decide +kernel
theorem dX2_init_16 : decode cX2_init 16 = .ok (.putfield 17, 3) := by decide +kernel
theorem dX2_init_19 : decode cX2_init 19 = .ok (.return_, 1) := by decide +kernel
theorem dX2_mustFall_0 : decode cX2_mustFall 0 = .ok (.aload_n 0, 1) := by decide +kernel
theorem dX2_mustFall_1 : decode cX2_mustFall 1 = .ok (.getfield 13, 3) := by decide +kernel
theorem dX2_mustFall_4 : decode cX2_mustFall 4 = .ok (.getfield 21, 3) := by decide +kernel
theorem dX2_mustFall_7 : decode cX2_mustFall 7 = .ok (.ifCond .ne 20, 3) := by decide +kernel
theorem dX2_mustFall_10 : decode cX2_mustFall 10 = .ok (.aload_n 0, 1) := by decide +kernel
theorem dX2_mustFall_11 : decode cX2_mustFall 11 = .ok (.getfield 17, 3) := by decide +kernel
theorem dX2_mustFall_14 : decode cX2_mustFall 14 = .ok (.ifnull 17, 3) := by decide +kernel
theorem dX2_mustFall_17 : decode cX2_mustFall 17 = .ok (.aload_n 0, 1) := by decide +kernel
theorem dX2_mustFall_18 : decode cX2_mustFall 18 = .ok (.getfield 17, 3) := by decide +kernel
theorem dX2_mustFall_21 : decode cX2_mustFall 21 = .ok (.getfield 7, 3) := by decide +kernel
theorem dX2_mustFall_24 : decode cX2_mustFall 24 = .ok (.ifCond .eq 7, 3) := by decide +kernel
theorem dX2_mustFall_27 : decode cX2_mustFall 27 = .ok (.iconst 1, 1) := by decide +kernel
theorem dX2_mustFall_28 : decode cX2_mustFall 28 = .ok (.goto 4, 3) := by decide +kernel
theorem dX2_mustFall_31 : decode cX2_mustFall 31 = .ok (.iconst 0, 1) := by decide +kernel
theorem dX2_mustFall_32 : decode cX2_mustFall 32 = .ok (.ireturn, 1) := by decide +kernel
theorem dX3_init_0 : decode cX3_init 0 = .ok (.aload_n 0, 1) := by decide +kernel
theorem dX3_init_1 : decode cX3_init 1 = .ok (.invokespecial 1, 3) := by decide +kernel
theorem dX3_init_4 : decode cX3_init 4 = .ok (.aload_n 0, 1) := by decide +kernel
theorem dX3_init_5 : decode cX3_init 5 = .ok (.iload_n 1, 1) := by decide +kernel
theorem dX3_init_6 : decode cX3_init 6 = .ok (.putfield 7, 3) := by decide +kernel
theorem dX3_init_9 : decode cX3_init 9 = .ok (.aload_n 0, 1) := by decide +kernel
theorem dX3_init_10 : decode cX3_init 10 = .ok (.iload_n 2, 1) := by decide +kernel
theorem dX3_init_11 : decode cX3_init 11 = .ok (.putfield 13, 3) := by decide +kernel
theorem dX3_init_14 : decode cX3_init 14 = .ok (.aload_n 0, 1) := by decide +kernel
theorem dX3_init_15 : decode cX3_init 15 = .ok (.iload_n 3, 1) := by decide +kernel
theorem dX3_init_16 : decode cX3_init 16 = .ok (.putfield 16, 3) := by decide +kernel
theorem dX3_init_19 : decode cX3_init 19 = .ok (.aload_n 0, 1) := by decide +kernel
theorem dX3_init_20 : decode cX3_init 20 = .ok (.sipush 1000, 3) := by decide +kernel
theorem dX3_init_23 : decode cX3_init 23 = .ok (.iload 4, 2) := by decide +kernel
theorem dX3_init_25 : decode cX3_init 25 = .ok (.isub, 1) := by decide +kernel
theorem dX3_init_26 : decode cX3_init 26 = .ok (.i2d, 1) := by decide +kernel
theorem dX3_init_27 : decode cX3_init 27 = .ok (.ldc2_w 19, 3) := by decide +kernel
theorem dX3_init_30 : decode cX3_init 30 = .ok (.ddiv, 1) := by decide +kernel
theorem dX3_init_31 : decode cX3_init 31 = .ok (.putfield 21, 3) := by decide +kernel
theorem dX3_init_34 : decode cX3_init 34 = .ok (.return_, 1) := by decide +kernel
theorem dX3_dipsIn_0 : decode cX3_dipsIn 0 = .ok (.aload_n 0, 1) := by decide +kernel
theorem dX3_dipsIn_1 : decode cX3_dipsIn 1 = .ok (.getfield 7, 3) := by decide +kernel
theorem dX3_dipsIn_4 : decode cX3_dipsIn 4 = .ok (.ifCond .le 27, 3) := by decide +kernel
theorem dX3_dipsIn_7 : decode cX3_dipsIn 7 = .ok (.iload_n 1, 1) := by decide +kernel
theorem dX3_dipsIn_8 : decode cX3_dipsIn 8 = .ok (.aload_n 0, 1) := by decide +kernel
theorem dX3_dipsIn_9 : decode cX3_dipsIn 9 = .ok (.getfield 13, 3) := by decide +kernel
theorem dX3_dipsIn_12 : decode cX3_dipsIn 12 = .ok (.isub, 1) := by decide +kernel
theorem dX3_dipsIn_13 : decode cX3_dipsIn 13 = .ok (.aload_n 0, 1) := by decide +kernel
theorem dX3_dipsIn_14 : decode cX3_dipsIn 14 = .ok (.getfield 7, 3) := by decide +kernel
theorem dX3_dipsIn_17 : decode cX3_dipsIn 17 = .ok (.invokestatic 25, 3) := by decide +kernel
theorem dX3_dipsIn_20 : decode cX3_dipsIn 20 = .ok (.aload_n 0, 1) := by decide +kernel
theorem dX3_dipsIn_21 : decode cX3_dipsIn 21 = .ok (.getfield 16, 3) := by decide +kernel
theorem dX3_dipsIn_24 : decode cX3_dipsIn 24 = .ok (.if_icmp .ge 7, 3) := by decide +kernel
theorem dX3_dipsIn_27 : decode cX3_dipsIn 27 = .ok (.iconst 1, 1) := by decide +kernel
theorem dX3_dipsIn_28 : decode cX3_dipsIn 28 = .ok (.goto 4, 3) := by decide +kernel
theorem dX3_dipsIn_31 : decode cX3_dipsIn 31 = .ok (.iconst 0, 1) := by decide +kernel
theorem dX3_dipsIn_32 : decode cX3_dipsIn 32 = .ok (.ireturn, 1) := by decide +kernel
theorem dX4_init_0 : decode cX4_init 0 = .ok (.aload_n 0, 1) := by decide +kernel
theorem dX4_init_1 : decode cX4_init 1 = .ok (.invokespecial 1, 3) := by decide +kernel
theorem dX4_init_4 : decode cX4_init 4 = .ok (.aload_n 0, 1) := by decide +kernel
theorem dX4_init_5 : decode cX4_init 5 = .ok (.new 7, 3) := by decide +kernel
theorem dX4_init_8 : decode cX4_init 8 = .ok (.dup, 1) := by decide +kernel
theorem dX4_init_9 : decode cX4_init 9 = .ok (.invokespecial 9, 3) := by decide +kernel
theorem dX4_init_12 : decode cX4_init 12 = .ok (.putfield 10, 3) := by decide +kernel
theorem dX4_init_15 : decode cX4_init 15 = .ok (.aload_n 0, 1) := by decide +kernel
theorem dX4_init_16 : decode cX4_init 16 = .ok (.iconst 0, 1) := by decide +kernel
theorem dX4_init_17 : decode cX4_init 17 = .ok (.putfield 16, 3) := by decide +kernel
theorem dX4_init_20 : decode cX4_init 20 = .ok (.aload_n 0, 1) := by decide +kernel
theorem dX4_init_21 : decode cX4_init 21 = .ok (.iconst 0, 1) := by decide +kernel
theorem dX4_init_22 : decode cX4_init 22 = .ok (.putfield 20, 3) := by decide +kernel
theorem dX4_init_25 : decode cX4_init 25 = .ok (.aload_n 0, 1) := by decide +kernel
theorem dX4_init_26 : decode cX4_init 26 = .ok (.iconst 0, 1) := by decide +kernel
theorem dX4_init_27 : decode cX4_init 27 = .ok (.putfield 23, 3) := by decide +kernel
theorem dX4_init_30 : decode cX4_init 30 = .ok (.aload_n 0, 1) := by decide +kernel
theorem dX4_init_31 : decode cX4_init 31 = .ok (.new 26, 3) := by decide +kernel
theorem dX4_init_34 : decode cX4_init 34 = .ok (.dup, 1) := by decide +kernel
theorem dX4_init_35 : decode cX4_init 35 = .ok (.invokespecial 28, 3) := by decide +kernel
theorem dX4_init_38 : decode cX4_init 38 = .ok (.putfield 29, 3) := by decide +kernel
theorem dX4_init_41 : decode cX4_init 41 = .ok (.aload_n 0, 1) := by decide +kernel
theorem dX4_init_42 : decode cX4_init 42 = .ok (.iload_n 1, 1) := by decide +kernel
theorem dX4_init_43 : decode cX4_init 43 = .ok (.putfield 33, 3) := by decide +kernel
theorem dX4_init_46 : decode cX4_init 46 = .ok (.return_, 1) := by decide +kernel
theorem dX4_lightIn_0 : decode cX4_lightIn 0 = .ok (.aload_n 0, 1) := by decide +kernel
theorem dX4_lightIn_1 : decode cX4_lightIn 1 = .ok (.getfield 33, 3) := by decide +kernel
theorem dX4_lightIn_4 : decode cX4_lightIn 4 = .ok (.i2d, 1) := by decide +kernel
theorem dX4_lightIn_5 : decode cX4_lightIn 5 = .ok (.dstore_n 2, 1) := by decide +kernel
theorem dX4_lightIn_6 : decode cX4_lightIn 6 = .ok (.iconst 0, 1) := by decide +kernel
theorem dX4_lightIn_7 : decode cX4_lightIn 7 = .ok (.istore 4, 2) := by decide +kernel
theorem dX4_lightIn_9 : decode cX4_lightIn 9 = .ok (.iload 4, 2) := by decide +kernel
theorem dX4_lightIn_11 : decode cX4_lightIn 11 = .ok (.aload_n 0, 1) := by decide +kernel
theorem dX4_lightIn_12 : decode cX4_lightIn 12 = .ok (.getfield 10, 3) := by decide +kernel
theorem dX4_lightIn_15 : decode cX4_lightIn 15 = .ok (.invokevirtual 36, 3) := by decide +kernel
theorem dX4_lightIn_18 : decode cX4_lightIn 18 = .ok (.if_icmp .ge 40, 3) := by decide +kernel
theorem dX4_lightIn_21 : decode cX4_lightIn 21 = .ok (.aload_n 0, 1) := by decide +kernel
theorem dX4_lightIn_22 : decode cX4_lightIn 22 = .ok (.getfield 10, 3) := by decide +kernel
theorem dX4_lightIn_25 : decode cX4_lightIn 25 = .ok (.iload 4, 2) := by decide +kernel
theorem dX4_lightIn_27 : decode cX4_lightIn 27 = .ok (.invokevirtual 40, 3) := by decide +kernel
theorem dX4_lightIn_30 : decode cX4_lightIn 30 = .ok (.checkcast 44, 3) := by decide +kernel
theorem dX4_lightIn_33 : decode cX4_lightIn 33 = .ok (.astore 5, 2) := by decide +kernel
theorem dX4_lightIn_35 : decode cX4_lightIn 35 = .ok (.aload 5, 2) := by decide +kernel
theorem dX4_lightIn_37 : decode cX4_lightIn 37 = .ok (.iload_n 1, 1) := by decide +kernel
theorem dX4_lightIn_38 : decode cX4_lightIn 38 = .ok (.invokevirtual 46, 3) := by decide +kernel
theorem dX4_lightIn_41 : decode cX4_lightIn 41 = .ok (.ifCond .eq 11, 3) := by decide +kernel
theorem dX4_lightIn_44 : decode cX4_lightIn 44 = .ok (.dload_n 2, 1) := by decide +kernel
theorem dX4_lightIn_45 : decode cX4_lightIn 45 = .ok (.aload 5, 2) := by decide +kernel
theorem dX4_lightIn_47 : decode cX4_lightIn 47 = .ok (.getfield 50, 3) := by decide +kernel
theorem dX4_lightIn_50 : decode cX4_lightIn 50 = .ok (.dmul, 1) := by decide +kernel
theorem dX4_lightIn_51 : decode cX4_lightIn 51 = .ok (.dstore_n 2, 1) := by decide +kernel
theorem dX4_lightIn_52 : decode cX4_lightIn 52 = .ok (.iinc 4 1, 3) := by decide +kernel
theorem dX4_lightIn_55 : decode cX4_lightIn 55 = .ok (.goto (-46), 3) := by decide +kernel
theorem dX4_lightIn_58 : decode cX4_lightIn 58 = .ok (.aload_n 0, 1) := by decide +kernel
theorem dX4_lightIn_59 : decode cX4_lightIn 59 = .ok (.iload_n 1, 1) := by decide +kernel
theorem dX4_lightIn_60 : decode cX4_lightIn 60 = .ok (.invokevirtual 54, 3) := by decide +kernel
theorem dX4_lightIn_63 : decode cX4_lightIn 63 = .ok (.ifCond .eq 19, 3) := by decide +kernel
theorem dX4_lightIn_66 : decode cX4_lightIn 66 = .ok (.dload_n 2, 1) := by decide +kernel
theorem dX4_lightIn_67 : decode cX4_lightIn 67 = .ok (.sipush 1000, 3) := by decide +kernel
theorem dX4_lightIn_70 : decode cX4_lightIn 70 = .ok (.aload_n 0, 1) := by decide +kernel
theorem dX4_lightIn_71 : decode cX4_lightIn 71 = .ok (.getfield 20, 3) := by decide +kernel
theorem dX4_lightIn_74 : decode cX4_lightIn 74 = .ok (.isub, 1) := by decide +kernel
theorem dX4_lightIn_75 : decode cX4_lightIn 75 = .ok (.i2d, 1) := by decide +kernel
theorem dX4_lightIn_76 : decode cX4_lightIn 76 = .ok (.ldc2_w 57, 3) := by decide +kernel
theorem dX4_lightIn_79 : decode cX4_lightIn 79 = .ok (.ddiv, 1) := by decide +kernel
theorem dX4_lightIn_80 : decode cX4_lightIn 80 = .ok (.dmul, 1) := by decide +kernel
theorem dX4_lightIn_81 : decode cX4_lightIn 81 = .ok (.dstore_n 2, 1) := by decide +kernel
theorem dX4_lightIn_82 : decode cX4_lightIn 82 = .ok (.dload_n 2, 1) := by decide +kernel
theorem dX4_lightIn_83 : decode cX4_lightIn 83 = .ok (.aload_n 0, 1) := by decide +kernel
theorem dX4_lightIn_84 : decode cX4_lightIn 84 = .ok (.getfield 23, 3) := by decide +kernel
theorem dX4_lightIn_87 : decode cX4_lightIn 87 = .ok (.i2d, 1) := by decide +kernel
theorem dX4_lightIn_88 : decode cX4_lightIn 88 = .ok (.dadd, 1) := by decide +kernel
theorem dX4_lightIn_89 : decode cX4_lightIn 89 = .ok (.dreturn, 1) := by decide +kernel
theorem dX4_showsSpots_0 : decode cX4_showsSpots 0 = .ok (.aload_n 0, 1) := by decide +kernel
theorem dX4_showsSpots_1 : decode cX4_showsSpots 1 = .ok (.getfield 16, 3) := by decide +kernel
theorem dX4_showsSpots_4 : decode cX4_showsSpots 4 = .ok (.ifCond .le 22, 3) := by decide +kernel
theorem dX4_showsSpots_7 : decode cX4_showsSpots 7 = .ok (.iload_n 1, 1) := by decide +kernel
theorem dX4_showsSpots_8 : decode cX4_showsSpots 8 = .ok (.aload_n 0, 1) := by decide +kernel
theorem dX4_showsSpots_9 : decode cX4_showsSpots 9 = .ok (.getfield 16, 3) := by decide +kernel
theorem dX4_showsSpots_12 : decode cX4_showsSpots 12 = .ok (.irem, 1) := by decide +kernel
theorem dX4_showsSpots_13 : decode cX4_showsSpots 13 = .ok (.aload_n 0, 1) := by decide +kernel
theorem dX4_showsSpots_14 : decode cX4_showsSpots 14 = .ok (.getfield 16, 3) := by decide +kernel
theorem dX4_showsSpots_17 : decode cX4_showsSpots 17 = .ok (.iconst 4, 1) := by decide +kernel
theorem dX4_showsSpots_18 : decode cX4_showsSpots 18 = .ok (.idiv, 1) := by decide +kernel
theorem dX4_showsSpots_19 : decode cX4_showsSpots 19 = .ok (.if_icmp .ge 7, 3) := by decide +kernel
theorem dX4_showsSpots_22 : decode cX4_showsSpots 22 = .ok (.iconst 1, 1) := by decide +kernel
theorem dX4_showsSpots_23 : decode cX4_showsSpots 23 = .ok (.goto 4, 3) := by decide +kernel
theorem dX4_showsSpots_26 : decode cX4_showsSpots 26 = .ok (.iconst 0, 1) := by decide +kernel
theorem dX4_showsSpots_27 : decode cX4_showsSpots 27 = .ok (.ireturn, 1) := by decide +kernel
theorem dX5_init_0 : decode cX5_init 0 = .ok (.aload_n 0, 1) := by decide +kernel
theorem dX5_init_1 : decode cX5_init 1 = .ok (.invokespecial 1, 3) := by decide +kernel
theorem dX5_init_4 : decode cX5_init 4 = .ok (.aload_n 0, 1) := by decide +kernel
theorem dX5_init_5 : decode cX5_init 5 = .ok (.iconst 0, 1) := by decide +kernel
theorem dX5_init_6 : decode cX5_init 6 = .ok (.putfield 7, 3) := by decide +kernel
theorem dX5_init_9 : decode cX5_init 9 = .ok (.aload_n 0, 1) := by decide +kernel
theorem dX5_init_10 : decode cX5_init 10 = .ok (.iload_n 1, 1) := by decide +kernel
theorem dX5_init_11 : decode cX5_init 11 = .ok (.putfield 13, 3) := by decide +kernel
theorem dX5_init_14 : decode cX5_init 14 = .ok (.aload_n 0, 1) := by decide +kernel
theorem dX5_init_15 : decode cX5_init 15 = .ok (.iload_n 2, 1) := by decide +kernel
theorem dX5_init_16 : decode cX5_init 16 = .ok (.putfield 17, 3) := by decide +kernel
theorem dX5_init_19 : decode cX5_init 19 = .ok (.aload_n 0, 1) := by decide +kernel
theorem dX5_init_20 : decode cX5_init 20 = .ok (.iload_n 3, 1) := by decide +kernel
theorem dX5_init_21 : decode cX5_init 21 = .ok (.putfield 20, 3) := by decide +kernel
theorem dX5_init_24 : decode cX5_init 24 = .ok (.aload_n 0, 1) := by decide +kernel
theorem dX5_init_25 : decode cX5_init 25 = .ok (.iload 4, 2) := by decide +kernel
theorem dX5_init_27 : decode cX5_init 27 = .ok (.putfield 23, 3) := by decide +kernel
theorem dX5_init_30 : decode cX5_init 30 = .ok (.aload_n 0, 1) := by decide +kernel
theorem dX5_init_31 : decode cX5_init 31 = .ok (.aload 5, 2) := by decide +kernel
theorem dX5_init_33 : decode cX5_init 33 = .ok (.putfield 26, 3) := by decide +kernel
theorem dX5_init_36 : decode cX5_init 36 = .ok (.return_, 1) := by decide +kernel
theorem dX6_init_0 : decode cX6_init 0 = .ok (.aload_n 0, 1) := by decide +kernel
theorem dX6_init_1 : decode cX6_init 1 = .ok (.invokespecial 1, 3) := by decide +kernel
theorem dX6_init_4 : decode cX6_init 4 = .ok (.aload_n 0, 1) := by decide +kernel
theorem dX6_init_5 : decode cX6_init 5 = .ok (.new 7, 3) := by decide +kernel
theorem dX6_init_8 : decode cX6_init 8 = .ok (.dup, 1) := by decide +kernel
theorem dX6_init_9 : decode cX6_init 9 = .ok (.invokespecial 9, 3) := by decide +kernel
theorem dX6_init_12 : decode cX6_init 12 = .ok (.putfield 10, 3) := by decide +kernel
theorem dX6_init_15 : decode cX6_init 15 = .ok (.aload_n 0, 1) := by decide +kernel
theorem dX6_init_16 : decode cX6_init 16 = .ok (.new 7, 3) := by decide +kernel
theorem dX6_init_19 : decode cX6_init 19 = .ok (.dup, 1) := by decide +kernel
theorem dX6_init_20 : decode cX6_init 20 = .ok (.invokespecial 9, 3) := by decide +kernel
theorem dX6_init_23 : decode cX6_init 23 = .ok (.putfield 16, 3) := by decide +kernel
theorem dX6_init_26 : decode cX6_init 26 = .ok (.aload_n 0, 1) := by decide +kernel
theorem dX6_init_27 : decode cX6_init 27 = .ok (.new 7, 3) := by decide +kernel
theorem dX6_init_30 : decode cX6_init 30 = .ok (.dup, 1) := by decide +kernel
theorem dX6_init_31 : decode cX6_init 31 = .ok (.invokespecial 9, 3) := by decide +kernel
theorem dX6_init_34 : decode cX6_init 34 = .ok (.putfield 19, 3) := by decide +kernel
theorem dX6_init_37 : decode cX6_init 37 = .ok (.aload_n 0, 1) := by decide +kernel
theorem dX6_init_38 : decode cX6_init 38 = .ok (.sipush 1000, 3) := by decide +kernel
theorem dX6_init_41 : decode cX6_init 41 = .ok (.newarray .boolean, 2) := by decide +kernel
theorem dX6_init_43 : decode cX6_init 43 = .ok (.putfield 22, 3) := by decide +kernel
theorem dX6_init_46 : decode cX6_init 46 = .ok (.aload_n 0, 1) := by decide +kernel
theorem dX6_init_47 : decode cX6_init 47 = .ok (.iconst 0, 1) := by decide +kernel
theorem dX6_init_48 : decode cX6_init 48 = .ok (.putfield 26, 3) := by decide +kernel
theorem dX6_init_51 : decode cX6_init 51 = .ok (.aload_n 0, 1) := by decide +kernel
theorem dX6_init_52 : decode cX6_init 52 = .ok (.new 30, 3) := by decide +kernel
theorem dX6_init_55 : decode cX6_init 55 = .ok (.dup, 1) := by decide +kernel
theorem dX6_init_56 : decode cX6_init 56 = .ok (.invokespecial 32, 3) := by decide +kernel
theorem dX6_init_59 : decode cX6_init 59 = .ok (.putfield 33, 3) := by decide +kernel
theorem dX6_init_62 : decode cX6_init 62 = .ok (.return_, 1) := by decide +kernel
theorem dX6_star_0 : decode cX6_star 0 = .ok (.iload_n 1, 1) := by decide +kernel
theorem dX6_star_1 : decode cX6_star 1 = .ok (.sipush 1000, 3) := by decide +kernel
theorem dX6_star_4 : decode cX6_star 4 = .ok (.ldc 37, 2) := by decide +kernel
theorem dX6_star_6 : decode cX6_star 6 = .ok (.invokestatic 38, 3) := by decide +kernel
theorem dX6_star_9 : decode cX6_star 9 = .ok (.aload_n 0, 1) := by decide +kernel
theorem dX6_star_10 : decode cX6_star 10 = .ok (.getfield 10, 3) := by decide +kernel
theorem dX6_star_13 : decode cX6_star 13 = .ok (.invokevirtual 42, 3) := by decide +kernel
theorem dX6_star_16 : decode cX6_star 16 = .ok (.bipush 6, 2) := by decide +kernel
theorem dX6_star_18 : decode cX6_star 18 = .ok (.if_icmp .lt 13, 3) := by decide +kernel
theorem dX6_star_21 : decode cX6_star 21 = .ok (.new 46, 3) := by decide +kernel
theorem dX6_star_24 : decode cX6_star 24 = .ok (.dup, 1) := by decide +kernel
theorem dX6_star_25 : decode cX6_star 25 = .ok (.ldc 48, 2) := by decide +kernel
theorem dX6_star_27 : decode cX6_star 27 = .ok (.invokespecial 50, 3) := by decide +kernel
theorem dX6_star_30 : decode cX6_star 30 = .ok (.athrow, 1) := by decide +kernel
theorem dX6_star_31 : decode cX6_star 31 = .ok (.aload_n 0, 1) := by decide +kernel
theorem dX6_star_32 : decode cX6_star 32 = .ok (.getfield 10, 3) := by decide +kernel
theorem dX6_star_35 : decode cX6_star 35 = .ok (.new 53, 3) := by decide +kernel
theorem dX6_star_38 : decode cX6_star 38 = .ok (.dup, 1) := by decide +kernel
theorem dX6_star_39 : decode cX6_star 39 = .ok (.iload_n 1, 1) := by decide +kernel
theorem dX6_star_40 : decode cX6_star 40 = .ok (.invokespecial 55, 3) := by decide +kernel
theorem dX6_star_43 : decode cX6_star 43 = .ok (.invokevirtual 58, 3) := by decide +kernel
theorem dX6_star_46 : decode cX6_star 46 = .ok (.pop, 1) := by decide +kernel
theorem dX6_star_47 : decode cX6_star 47 = .ok (.aload_n 0, 1) := by decide +kernel
theorem dX6_star_48 : decode cX6_star 48 = .ok (.getfield 10, 3) := by decide +kernel
theorem dX6_star_51 : decode cX6_star 51 = .ok (.invokevirtual 42, 3) := by decide +kernel
theorem dX6_star_54 : decode cX6_star 54 = .ok (.iconst 1, 1) := by decide +kernel
theorem dX6_star_55 : decode cX6_star 55 = .ok (.isub, 1) := by decide +kernel
theorem dX6_star_56 : decode cX6_star 56 = .ok (.ireturn, 1) := by decide +kernel
theorem dX6_planet_0 : decode cX6_planet 0 = .ok (.aload_n 0, 1) := by decide +kernel
theorem dX6_planet_1 : decode cX6_planet 1 = .ok (.iload_n 1, 1) := by decide +kernel
theorem dX6_planet_2 : decode cX6_planet 2 = .ok (.invokevirtual 62, 3) := by decide +kernel
theorem dX6_planet_5 : decode cX6_planet 5 = .ok (.astore 6, 2) := by decide +kernel
theorem dX6_planet_7 : decode cX6_planet 7 = .ok (.iload_n 2, 1) := by decide +kernel
theorem dX6_planet_8 : decode cX6_planet 8 = .ok (.iconst 2, 1) := by decide +kernel
theorem dX6_planet_9 : decode cX6_planet 9 = .ok (.bipush 60, 2) := by decide +kernel
theorem dX6_planet_11 : decode cX6_planet 11 = .ok (.invokestatic 38, 3) := by decide +kernel
theorem dX6_planet_14 : decode cX6_planet 14 = .ok (.iload_n 3, 1) := by decide +kernel
theorem dX6_planet_15 : decode cX6_planet 15 = .ok (.iconst 0, 1) := by decide +kernel
theorem dX6_planet_16 : decode cX6_planet 16 = .ok (.iload_n 2, 1) := by decide +kernel
theorem dX6_planet_17 : decode cX6_planet 17 = .ok (.iconst 1, 1) := by decide +kernel
theorem dX6_planet_18 : decode cX6_planet 18 = .ok (.isub, 1) := by decide +kernel
theorem dX6_planet_19 : decode cX6_planet 19 = .ok (.invokestatic 38, 3) := by decide +kernel
theorem dX6_planet_22 : decode cX6_planet 22 = .ok (.iload 4, 2) := by decide +kernel
theorem dX6_planet_24 : decode cX6_planet 24 = .ok (.iconst 1, 1) := by decide +kernel
theorem dX6_planet_25 : decode cX6_planet 25 = .ok (.iconst 4, 1) := by decide +kernel
theorem dX6_planet_26 : decode cX6_planet 26 = .ok (.iload_n 2, 1) := by decide +kernel
theorem dX6_planet_27 : decode cX6_planet 27 = .ok (.iconst 1, 1) := by decide +kernel
theorem dX6_planet_28 : decode cX6_planet 28 = .ok (.isub, 1) := by decide +kernel
theorem dX6_planet_29 : decode cX6_planet 29 = .ok (.invokestatic 66, 3) := by decide +kernel
theorem dX6_planet_32 : decode cX6_planet 32 = .ok (.invokestatic 38, 3) := by decide +kernel
theorem dX6_planet_35 : decode cX6_planet 35 = .ok (.iload 5, 2) := by decide +kernel
theorem dX6_planet_37 : decode cX6_planet 37 = .ok (.iconst 1, 1) := by decide +kernel
theorem dX6_planet_38 : decode cX6_planet 38 = .ok (.sipush 200, 3) := by decide +kernel
theorem dX6_planet_41 : decode cX6_planet 41 = .ok (.invokestatic 38, 3) := by decide +kernel
theorem dX6_planet_44 : decode cX6_planet 44 = .ok (.aload 6, 2) := by decide +kernel
theorem dX6_planet_46 : decode cX6_planet 46 = .ok (.getfield 72, 3) := by decide +kernel
theorem dX6_planet_49 : decode cX6_planet 49 = .ok (.invokevirtual 42, 3) := by decide +kernel
theorem dX6_planet_52 : decode cX6_planet 52 = .ok (.iconst 4, 1) := by decide +kernel
theorem dX6_planet_53 : decode cX6_planet 53 = .ok (.if_icmp .lt 13, 3) := by decide +kernel
theorem dX6_planet_56 : decode cX6_planet 56 = .ok (.new 46, 3) := by decide +kernel
theorem dX6_planet_59 : decode cX6_planet 59 = .ok (.dup, 1) := by decide +kernel
theorem dX6_planet_60 : decode cX6_planet 60 = .ok (.ldc 75, 2) := by decide +kernel
theorem dX6_planet_62 : decode cX6_planet 62 = .ok (.invokespecial 50, 3) := by decide +kernel
theorem dX6_planet_65 : decode cX6_planet 65 = .ok (.athrow, 1) := by decide +kernel
theorem dX6_planet_66 : decode cX6_planet 66 = .ok (.aload 6, 2) := by decide +kernel
theorem dX6_planet_68 : decode cX6_planet 68 = .ok (.getfield 72, 3) := by decide +kernel
theorem dX6_planet_71 : decode cX6_planet 71 = .ok (.new 77, 3) := by decide +kernel
theorem dX6_planet_74 : decode cX6_planet 74 = .ok (.dup, 1) := by decide +kernel
theorem dX6_planet_75 : decode cX6_planet 75 = .ok (.iload_n 2, 1) := by decide +kernel
theorem dX6_planet_76 : decode cX6_planet 76 = .ok (.iload_n 3, 1) := by decide +kernel
theorem dX6_planet_77 : decode cX6_planet 77 = .ok (.iload 4, 2) := by decide +kernel
theorem dX6_planet_79 : decode cX6_planet 79 = .ok (.iload 5, 2) := by decide +kernel
theorem dX6_planet_81 : decode cX6_planet 81 = .ok (.invokespecial 79, 3) := by decide +kernel
theorem dX6_planet_84 : decode cX6_planet 84 = .ok (.invokevirtual 58, 3) := by decide +kernel
theorem dX6_planet_87 : decode cX6_planet 87 = .ok (.pop, 1) := by decide +kernel
theorem dX6_planet_88 : decode cX6_planet 88 = .ok (.aload 6, 2) := by decide +kernel
theorem dX6_planet_90 : decode cX6_planet 90 = .ok (.getfield 72, 3) := by decide +kernel
theorem dX6_planet_93 : decode cX6_planet 93 = .ok (.invokevirtual 42, 3) := by decide +kernel
theorem dX6_planet_96 : decode cX6_planet 96 = .ok (.ireturn, 1) := by decide +kernel
theorem dX6_spots_0 : decode cX6_spots 0 = .ok (.aload_n 0, 1) := by decide +kernel
theorem dX6_spots_1 : decode cX6_spots 1 = .ok (.iload_n 1, 1) := by decide +kernel
theorem dX6_spots_2 : decode cX6_spots 2 = .ok (.invokevirtual 62, 3) := by decide +kernel
theorem dX6_spots_5 : decode cX6_spots 5 = .ok (.astore 4, 2) := by decide +kernel
theorem dX6_spots_7 : decode cX6_spots 7 = .ok (.iload_n 2, 1) := by decide +kernel
theorem dX6_spots_8 : decode cX6_spots 8 = .ok (.iconst 4, 1) := by decide +kernel
theorem dX6_spots_9 : decode cX6_spots 9 = .ok (.bipush 60, 2) := by decide +kernel
theorem dX6_spots_11 : decode cX6_spots 11 = .ok (.invokestatic 38, 3) := by decide +kernel
theorem dX6_spots_14 : decode cX6_spots 14 = .ok (.iload_n 3, 1) := by decide +kernel
theorem dX6_spots_15 : decode cX6_spots 15 = .ok (.iconst 0, 1) := by decide +kernel
theorem dX6_spots_16 : decode cX6_spots 16 = .ok (.bipush 100, 2) := by decide +kernel
theorem dX6_spots_18 : decode cX6_spots 18 = .ok (.invokestatic 38, 3) := by decide +kernel
theorem dX6_spots_21 : decode cX6_spots 21 = .ok (.aload 4, 2) := by decide +kernel
theorem dX6_spots_23 : decode cX6_spots 23 = .ok (.getfield 82, 3) := by decide +kernel
theorem dX6_spots_26 : decode cX6_spots 26 = .ok (.istore 5, 2) := by decide +kernel
theorem dX6_spots_28 : decode cX6_spots 28 = .ok (.aload 4, 2) := by decide +kernel
theorem dX6_spots_30 : decode cX6_spots 30 = .ok (.iload_n 2, 1) := by decide +kernel
theorem dX6_spots_31 : decode cX6_spots 31 = .ok (.putfield 85, 3) := by decide +kernel
theorem dX6_spots_34 : decode cX6_spots 34 = .ok (.aload 4, 2) := by decide +kernel
theorem dX6_spots_36 : decode cX6_spots 36 = .ok (.iload_n 3, 1) := by decide +kernel
theorem dX6_spots_37 : decode cX6_spots 37 = .ok (.putfield 82, 3) := by decide +kernel
theorem dX6_spots_40 : decode cX6_spots 40 = .ok (.iload 5, 2) := by decide +kernel
theorem dX6_spots_42 : decode cX6_spots 42 = .ok (.ireturn, 1) := by decide +kernel
theorem dX6_blend_0 : decode cX6_blend 0 = .ok (.aload_n 0, 1) := by decide +kernel
theorem dX6_blend_1 : decode cX6_blend 1 = .ok (.iload_n 1, 1) := by decide +kernel
theorem dX6_blend_2 : decode cX6_blend 2 = .ok (.invokevirtual 62, 3) := by decide +kernel
theorem dX6_blend_5 : decode cX6_blend 5 = .ok (.astore_n 3, 1) := by decide +kernel
theorem dX6_blend_6 : decode cX6_blend 6 = .ok (.iload_n 2, 1) := by decide +kernel
theorem dX6_blend_7 : decode cX6_blend 7 = .ok (.iconst 0, 1) := by decide +kernel
theorem dX6_blend_8 : decode cX6_blend 8 = .ok (.ldc 37, 2) := by decide +kernel
theorem dX6_blend_10 : decode cX6_blend 10 = .ok (.invokestatic 38, 3) := by decide +kernel
theorem dX6_blend_13 : decode cX6_blend 13 = .ok (.aload_n 3, 1) := by decide +kernel
theorem dX6_blend_14 : decode cX6_blend 14 = .ok (.getfield 88, 3) := by decide +kernel
theorem dX6_blend_17 : decode cX6_blend 17 = .ok (.istore 4, 2) := by decide +kernel
theorem dX6_blend_19 : decode cX6_blend 19 = .ok (.aload_n 3, 1) := by decide +kernel
theorem dX6_blend_20 : decode cX6_blend 20 = .ok (.iload_n 2, 1) := by decide +kernel
theorem dX6_blend_21 : decode cX6_blend 21 = .ok (.putfield 88, 3) := by decide +kernel
theorem dX6_blend_24 : decode cX6_blend 24 = .ok (.iload 4, 2) := by decide +kernel
theorem dX6_blend_26 : decode cX6_blend 26 = .ok (.ireturn, 1) := by decide +kernel
theorem dX6_light_0 : decode cX6_light 0 = .ok (.aload_n 0, 1) := by decide +kernel
theorem dX6_light_1 : decode cX6_light 1 = .ok (.iload_n 1, 1) := by decide +kernel
theorem dX6_light_2 : decode cX6_light 2 = .ok (.invokevirtual 62, 3) := by decide +kernel
theorem dX6_light_5 : decode cX6_light 5 = .ok (.astore_n 3, 1) := by decide +kernel
theorem dX6_light_6 : decode cX6_light 6 = .ok (.iload_n 2, 1) := by decide +kernel
theorem dX6_light_7 : decode cX6_light 7 = .ok (.invokestatic 91, 3) := by decide +kernel
theorem dX6_light_10 : decode cX6_light 10 = .ok (.aload_n 3, 1) := by decide +kernel
theorem dX6_light_11 : decode cX6_light 11 = .ok (.iload_n 2, 1) := by decide +kernel
theorem dX6_light_12 : decode cX6_light 12 = .ok (.invokevirtual 94, 3) := by decide +kernel
theorem dX6_light_15 : decode cX6_light 15 = .ok (.invokestatic 98, 3) := by decide +kernel
theorem dX6_light_18 : decode cX6_light 18 = .ok (.lreturn, 1) := by decide +kernel
theorem dX6_cloud_0 : decode cX6_cloud 0 = .ok (.iload_n 1, 1) := by decide +kernel
theorem dX6_cloud_1 : decode cX6_cloud 1 = .ok (.iload_n 2, 1) := by decide +kernel
theorem dX6_cloud_2 : decode cX6_cloud 2 = .ok (.invokestatic 102, 3) := by decide +kernel
theorem dX6_cloud_5 : decode cX6_cloud 5 = .ok (.iload_n 1, 1) := by decide +kernel
theorem dX6_cloud_6 : decode cX6_cloud 6 = .ok (.istore_n 3, 1) := by decide +kernel
theorem dX6_cloud_7 : decode cX6_cloud 7 = .ok (.iload_n 3, 1) := by decide +kernel
theorem dX6_cloud_8 : decode cX6_cloud 8 = .ok (.iload_n 2, 1) := by decide +kernel
theorem dX6_cloud_9 : decode cX6_cloud 9 = .ok (.if_icmp .gt 22, 3) := by decide +kernel
theorem dX6_cloud_12 : decode cX6_cloud 12 = .ok (.aload_n 0, 1) := by decide +kernel
theorem dX6_cloud_13 : decode cX6_cloud 13 = .ok (.iload_n 3, 1) := by decide +kernel
theorem dX6_cloud_14 : decode cX6_cloud 14 = .ok (.invokevirtual 106, 3) := by decide +kernel
theorem dX6_cloud_17 : decode cX6_cloud 17 = .ok (.ifCond .ne 8, 3) := by decide +kernel
theorem dX6_cloud_20 : decode cX6_cloud 20 = .ok (.aload_n 0, 1) := by decide +kernel
theorem dX6_cloud_21 : decode cX6_cloud 21 = .ok (.iload_n 3, 1) := by decide +kernel
theorem dX6_cloud_22 : decode cX6_cloud 22 = .ok (.invokevirtual 110, 3) := by decide +kernel
theorem dX6_cloud_25 : decode cX6_cloud 25 = .ok (.iinc 3 1, 3) := by decide +kernel
theorem dX6_cloud_28 : decode cX6_cloud 28 = .ok (.goto (-21), 3) := by decide +kernel
theorem dX6_cloud_31 : decode cX6_cloud 31 = .ok (.aload_n 0, 1) := by decide +kernel
theorem dX6_cloud_32 : decode cX6_cloud 32 = .ok (.getfield 26, 3) := by decide +kernel
theorem dX6_cloud_35 : decode cX6_cloud 35 = .ok (.ireturn, 1) := by decide +kernel
theorem dX6_observe_0 : decode cX6_observe 0 = .ok (.aload_n 0, 1) := by decide +kernel
theorem dX6_observe_1 : decode cX6_observe 1 = .ok (.iload_n 1, 1) := by decide +kernel
theorem dX6_observe_2 : decode cX6_observe 2 = .ok (.invokevirtual 62, 3) := by decide +kernel
theorem dX6_observe_5 : decode cX6_observe 5 = .ok (.astore 4, 2) := by decide +kernel
theorem dX6_observe_7 : decode cX6_observe 7 = .ok (.iload_n 2, 1) := by decide +kernel
theorem dX6_observe_8 : decode cX6_observe 8 = .ok (.iload_n 3, 1) := by decide +kernel
theorem dX6_observe_9 : decode cX6_observe 9 = .ok (.invokestatic 102, 3) := by decide +kernel
theorem dX6_observe_12 : decode cX6_observe 12 = .ok (.aload 4, 2) := by decide +kernel
theorem dX6_observe_14 : decode cX6_observe 14 = .ok (.getfield 113, 3) := by decide +kernel
theorem dX6_observe_17 : decode cX6_observe 17 = .ok (.getfield 117, 3) := by decide +kernel
theorem dX6_observe_20 : decode cX6_observe 20 = .ok (.istore 5, 2) := by decide +kernel
theorem dX6_observe_22 : decode cX6_observe 22 = .ok (.iload_n 2, 1) := by decide +kernel
theorem dX6_observe_23 : decode cX6_observe 23 = .ok (.istore 6, 2) := by decide +kernel
theorem dX6_observe_25 : decode cX6_observe 25 = .ok (.iload 6, 2) := by decide +kernel
theorem dX6_observe_27 : decode cX6_observe 27 = .ok (.iload_n 3, 1) := by decide +kernel
theorem dX6_observe_28 : decode cX6_observe 28 = .ok (.if_icmp .gt 48, 3) := by decide +kernel
theorem dX6_observe_31 : decode cX6_observe 31 = .ok (.aload_n 0, 1) := by decide +kernel
theorem dX6_observe_32 : decode cX6_observe 32 = .ok (.iload 6, 2) := by decide +kernel
theorem dX6_observe_34 : decode cX6_observe 34 = .ok (.invokevirtual 106, 3) := by decide +kernel
theorem dX6_observe_37 : decode cX6_observe 37 = .ok (.ifCond .ne 33, 3) := by decide +kernel
theorem dX6_observe_40 : decode cX6_observe 40 = .ok (.aload 4, 2) := by decide +kernel
theorem dX6_observe_42 : decode cX6_observe 42 = .ok (.getfield 113, 3) := by decide +kernel
theorem dX6_observe_45 : decode cX6_observe 45 = .ok (.iload 6, 2) := by decide +kernel
theorem dX6_observe_47 : decode cX6_observe 47 = .ok (.invokevirtual 122, 3) := by decide +kernel
theorem dX6_observe_50 : decode cX6_observe 50 = .ok (.ifCond .ne 20, 3) := by decide +kernel
theorem dX6_observe_53 : decode cX6_observe 53 = .ok (.aload 4, 2) := by decide +kernel
theorem dX6_observe_55 : decode cX6_observe 55 = .ok (.getfield 113, 3) := by decide +kernel
theorem dX6_observe_58 : decode cX6_observe 58 = .ok (.iload 6, 2) := by decide +kernel
theorem dX6_observe_60 : decode cX6_observe 60 = .ok (.aload 4, 2) := by decide +kernel
theorem dX6_observe_62 : decode cX6_observe 62 = .ok (.iload 6, 2) := by decide +kernel
theorem dX6_observe_64 : decode cX6_observe 64 = .ok (.invokevirtual 94, 3) := by decide +kernel
theorem dX6_observe_67 : decode cX6_observe 67 = .ok (.invokevirtual 125, 3) := by decide +kernel
theorem dX6_observe_70 : decode cX6_observe 70 = .ok (.iinc 6 1, 3) := by decide +kernel
theorem dX6_observe_73 : decode cX6_observe 73 = .ok (.goto (-48), 3) := by decide +kernel
theorem dX6_observe_76 : decode cX6_observe 76 = .ok (.aload 4, 2) := by decide +kernel
theorem dX6_observe_78 : decode cX6_observe 78 = .ok (.getfield 113, 3) := by decide +kernel
theorem dX6_observe_81 : decode cX6_observe 81 = .ok (.getfield 117, 3) := by decide +kernel
theorem dX6_observe_84 : decode cX6_observe 84 = .ok (.iload 5, 2) := by decide +kernel
theorem dX6_observe_86 : decode cX6_observe 86 = .ok (.isub, 1) := by decide +kernel
theorem dX6_observe_87 : decode cX6_observe 87 = .ok (.ireturn, 1) := by decide +kernel
theorem dX6_kept_0 : decode cX6_kept 0 = .ok (.aload_n 0, 1) := by decide +kernel
theorem dX6_kept_1 : decode cX6_kept 1 = .ok (.iload_n 1, 1) := by decide +kernel
theorem dX6_kept_2 : decode cX6_kept 2 = .ok (.invokevirtual 62, 3) := by decide +kernel
theorem dX6_kept_5 : decode cX6_kept 5 = .ok (.astore_n 3, 1) := by decide +kernel
theorem dX6_kept_6 : decode cX6_kept 6 = .ok (.iload_n 2, 1) := by decide +kernel
theorem dX6_kept_7 : decode cX6_kept 7 = .ok (.invokestatic 91, 3) := by decide +kernel
theorem dX6_kept_10 : decode cX6_kept 10 = .ok (.aload_n 3, 1) := by decide +kernel
theorem dX6_kept_11 : decode cX6_kept 11 = .ok (.getfield 113, 3) := by decide +kernel
theorem dX6_kept_14 : decode cX6_kept 14 = .ok (.iload_n 2, 1) := by decide +kernel
theorem dX6_kept_15 : decode cX6_kept 15 = .ok (.invokevirtual 122, 3) := by decide +kernel
theorem dX6_kept_18 : decode cX6_kept 18 = .ok (.ifCond .eq 17, 3) := by decide +kernel
theorem dX6_kept_21 : decode cX6_kept 21 = .ok (.aload_n 3, 1) := by decide +kernel
theorem dX6_kept_22 : decode cX6_kept 22 = .ok (.getfield 113, 3) := by decide +kernel
theorem dX6_kept_25 : decode cX6_kept 25 = .ok (.iload_n 2, 1) := by decide +kernel
theorem dX6_kept_26 : decode cX6_kept 26 = .ok (.invokevirtual 129, 3) := by decide +kernel
theorem dX6_kept_29 : decode cX6_kept 29 = .ok (.invokestatic 98, 3) := by decide +kernel
theorem dX6_kept_32 : decode cX6_kept 32 = .ok (.goto 6, 3) := by decide +kernel
theorem dX6_kept_35 : decode cX6_kept 35 = .ok (.ldc2_w 132, 3) := by decide +kernel
theorem dX6_kept_38 : decode cX6_kept 38 = .ok (.lreturn, 1) := by decide +kernel
theorem dX6_score_0 : decode cX6_score 0 = .ok (.aload_n 0, 1) := by decide +kernel
theorem dX6_score_1 : decode cX6_score 1 = .ok (.getfield 33, 3) := by decide +kernel
theorem dX6_score_4 : decode cX6_score 4 = .ok (.iload_n 2, 1) := by decide +kernel
theorem dX6_score_5 : decode cX6_score 5 = .ok (.aload_n 0, 1) := by decide +kernel
theorem dX6_score_6 : decode cX6_score 6 = .ok (.iload_n 1, 1) := by decide +kernel
theorem dX6_score_7 : decode cX6_score 7 = .ok (.iload_n 2, 1) := by decide +kernel
theorem dX6_score_8 : decode cX6_score 8 = .ok (.invokevirtual 134, 3) := by decide +kernel
theorem dX6_score_11 : decode cX6_score 11 = .ok (.invokevirtual 138, 3) := by decide +kernel
theorem dX6_score_14 : decode cX6_score 14 = .ok (.aload_n 0, 1) := by decide +kernel
theorem dX6_score_15 : decode cX6_score 15 = .ok (.getfield 33, 3) := by decide +kernel
theorem dX6_score_18 : decode cX6_score 18 = .ok (.aload_n 0, 1) := by decide +kernel
theorem dX6_score_19 : decode cX6_score 19 = .ok (.getfield 33, 3) := by decide +kernel
theorem dX6_score_22 : decode cX6_score 22 = .ok (.invokevirtual 142, 3) := by decide +kernel
theorem dX6_score_25 : decode cX6_score 25 = .ok (.invokevirtual 145, 3) := by decide +kernel
theorem dX6_score_28 : decode cX6_score 28 = .ok (.invokestatic 98, 3) := by decide +kernel
theorem dX6_score_31 : decode cX6_score 31 = .ok (.lreturn, 1) := by decide +kernel
theorem dX6_phase_0 : decode cX6_phase 0 = .ok (.aload_n 0, 1) := by decide +kernel
theorem dX6_phase_1 : decode cX6_phase 1 = .ok (.getfield 33, 3) := by decide +kernel
theorem dX6_phase_4 : decode cX6_phase 4 = .ok (.iload_n 2, 1) := by decide +kernel
theorem dX6_phase_5 : decode cX6_phase 5 = .ok (.aload_n 0, 1) := by decide +kernel
theorem dX6_phase_6 : decode cX6_phase 6 = .ok (.iload_n 1, 1) := by decide +kernel
theorem dX6_phase_7 : decode cX6_phase 7 = .ok (.iload_n 2, 1) := by decide +kernel
theorem dX6_phase_8 : decode cX6_phase 8 = .ok (.invokevirtual 134, 3) := by decide +kernel
theorem dX6_phase_11 : decode cX6_phase 11 = .ok (.invokevirtual 138, 3) := by decide +kernel
theorem dX6_phase_14 : decode cX6_phase 14 = .ok (.aload_n 0, 1) := by decide +kernel
theorem dX6_phase_15 : decode cX6_phase 15 = .ok (.getfield 33, 3) := by decide +kernel
theorem dX6_phase_18 : decode cX6_phase 18 = .ok (.invokevirtual 142, 3) := by decide +kernel
theorem dX6_phase_21 : decode cX6_phase 21 = .ok (.ireturn, 1) := by decide +kernel
theorem dX6_period_0 : decode cX6_period 0 = .ok (.aload_n 0, 1) := by decide +kernel
theorem dX6_period_1 : decode cX6_period 1 = .ok (.aload_n 0, 1) := by decide +kernel
theorem dX6_period_2 : decode cX6_period 2 = .ok (.iload_n 1, 1) := by decide +kernel
theorem dX6_period_3 : decode cX6_period 3 = .ok (.iload_n 2, 1) := by decide +kernel
theorem dX6_period_4 : decode cX6_period 4 = .ok (.invokevirtual 148, 3) := by decide +kernel
theorem dX6_period_7 : decode cX6_period 7 = .ok (.iload_n 2, 1) := by decide +kernel
theorem dX6_period_8 : decode cX6_period 8 = .ok (.invokevirtual 151, 3) := by decide +kernel
theorem dX6_period_11 : decode cX6_period 11 = .ok (.ireturn, 1) := by decide +kernel
theorem dX6_whyNot_0 : decode cX6_whyNot 0 = .ok (.aload_n 0, 1) := by decide +kernel
theorem dX6_whyNot_1 : decode cX6_whyNot 1 = .ok (.iload_n 1, 1) := by decide +kernel
theorem dX6_whyNot_2 : decode cX6_whyNot 2 = .ok (.iload_n 2, 1) := by decide +kernel
theorem dX6_whyNot_3 : decode cX6_whyNot 3 = .ok (.invokevirtual 148, 3) := by decide +kernel
theorem dX6_whyNot_6 : decode cX6_whyNot 6 = .ok (.astore_n 3, 1) := by decide +kernel
theorem dX6_whyNot_7 : decode cX6_whyNot 7 = .ok (.aload_n 3, 1) := by decide +kernel
theorem dX6_whyNot_8 : decode cX6_whyNot 8 = .ok (.getfield 117, 3) := by decide +kernel
theorem dX6_whyNot_11 : decode cX6_whyNot 11 = .ok (.bipush 20, 2) := by decide +kernel
theorem dX6_whyNot_13 : decode cX6_whyNot 13 = .ok (.if_icmp .ge 5, 3) := by decide +kernel
theorem dX6_whyNot_16 : decode cX6_whyNot 16 = .ok (.iconst 1, 1) := by decide +kernel
theorem dX6_whyNot_17 : decode cX6_whyNot 17 = .ok (.ireturn, 1) := by decide +kernel
theorem dX6_whyNot_18 : decode cX6_whyNot 18 = .ok (.aload_n 0, 1) := by decide +kernel
theorem dX6_whyNot_19 : decode cX6_whyNot 19 = .ok (.aload_n 3, 1) := by decide +kernel
theorem dX6_whyNot_20 : decode cX6_whyNot 20 = .ok (.iload_n 2, 1) := by decide +kernel
theorem dX6_whyNot_21 : decode cX6_whyNot 21 = .ok (.invokevirtual 155, 3) := by decide +kernel
theorem dX6_whyNot_24 : decode cX6_whyNot 24 = .ok (.iconst (-1), 1) := by decide +kernel
theorem dX6_whyNot_25 : decode cX6_whyNot 25 = .ok (.if_icmp .ne 7, 3) := by decide +kernel
theorem dX6_whyNot_28 : decode cX6_whyNot 28 = .ok (.iconst 2, 1) := by decide +kernel
theorem dX6_whyNot_29 : decode cX6_whyNot 29 = .ok (.goto 4, 3) := by decide +kernel
theorem dX6_whyNot_32 : decode cX6_whyNot 32 = .ok (.iconst 0, 1) := by decide +kernel
theorem dX6_whyNot_33 : decode cX6_whyNot 33 = .ok (.ireturn, 1) := by decide +kernel
theorem dX6_oddEven_0 : decode cX6_oddEven 0 = .ok (.aload_n 0, 1) := by decide +kernel
theorem dX6_oddEven_1 : decode cX6_oddEven 1 = .ok (.iload_n 1, 1) := by decide +kernel
theorem dX6_oddEven_2 : decode cX6_oddEven 2 = .ok (.iload_n 2, 1) := by decide +kernel
theorem dX6_oddEven_3 : decode cX6_oddEven 3 = .ok (.invokevirtual 134, 3) := by decide +kernel
theorem dX6_oddEven_6 : decode cX6_oddEven 6 = .ok (.astore_n 3, 1) := by decide +kernel
theorem dX6_oddEven_7 : decode cX6_oddEven 7 = .ok (.aload_n 0, 1) := by decide +kernel
theorem dX6_oddEven_8 : decode cX6_oddEven 8 = .ok (.getfield 33, 3) := by decide +kernel
theorem dX6_oddEven_11 : decode cX6_oddEven 11 = .ok (.iload_n 2, 1) := by decide +kernel
theorem dX6_oddEven_12 : decode cX6_oddEven 12 = .ok (.aload_n 3, 1) := by decide +kernel
theorem dX6_oddEven_13 : decode cX6_oddEven 13 = .ok (.invokevirtual 138, 3) := by decide +kernel
theorem dX6_oddEven_16 : decode cX6_oddEven 16 = .ok (.aload_n 0, 1) := by decide +kernel
theorem dX6_oddEven_17 : decode cX6_oddEven 17 = .ok (.getfield 33, 3) := by decide +kernel
theorem dX6_oddEven_20 : decode cX6_oddEven 20 = .ok (.invokevirtual 142, 3) := by decide +kernel
theorem dX6_oddEven_23 : decode cX6_oddEven 23 = .ok (.istore 4, 2) := by decide +kernel
theorem dX6_oddEven_25 : decode cX6_oddEven 25 = .ok (.iload 4, 2) := by decide +kernel
theorem dX6_oddEven_27 : decode cX6_oddEven 27 = .ok (.iload_n 2, 1) := by decide +kernel
theorem dX6_oddEven_28 : decode cX6_oddEven 28 = .ok (.iadd, 1) := by decide +kernel
theorem dX6_oddEven_29 : decode cX6_oddEven 29 = .ok (.istore 5, 2) := by decide +kernel
theorem dX6_oddEven_31 : decode cX6_oddEven 31 = .ok (.aload_n 0, 1) := by decide +kernel
theorem dX6_oddEven_32 : decode cX6_oddEven 32 = .ok (.getfield 33, 3) := by decide +kernel
theorem dX6_oddEven_35 : decode cX6_oddEven 35 = .ok (.iconst 2, 1) := by decide +kernel
theorem dX6_oddEven_36 : decode cX6_oddEven 36 = .ok (.iload_n 2, 1) := by decide +kernel
theorem dX6_oddEven_37 : decode cX6_oddEven 37 = .ok (.imul, 1) := by decide +kernel
theorem dX6_oddEven_38 : decode cX6_oddEven 38 = .ok (.aload_n 3, 1) := by decide +kernel
theorem dX6_oddEven_39 : decode cX6_oddEven 39 = .ok (.invokevirtual 138, 3) := by decide +kernel
theorem dX6_oddEven_42 : decode cX6_oddEven 42 = .ok (.aload_n 0, 1) := by decide +kernel
theorem dX6_oddEven_43 : decode cX6_oddEven 43 = .ok (.getfield 33, 3) := by decide +kernel
theorem dX6_oddEven_46 : decode cX6_oddEven 46 = .ok (.iload 4, 2) := by decide +kernel
theorem dX6_oddEven_48 : decode cX6_oddEven 48 = .ok (.invokevirtual 158, 3) := by decide +kernel
theorem dX6_oddEven_51 : decode cX6_oddEven 51 = .ok (.ifCond .eq 15, 3) := by decide +kernel
theorem dX6_oddEven_54 : decode cX6_oddEven 54 = .ok (.aload_n 0, 1) := by decide +kernel
theorem dX6_oddEven_55 : decode cX6_oddEven 55 = .ok (.getfield 33, 3) := by decide +kernel
theorem dX6_oddEven_58 : decode cX6_oddEven 58 = .ok (.iload 5, 2) := by decide +kernel
theorem dX6_oddEven_60 : decode cX6_oddEven 60 = .ok (.invokevirtual 158, 3) := by decide +kernel
theorem dX6_oddEven_63 : decode cX6_oddEven 63 = .ok (.ifCond .ne 8, 3) := by decide +kernel
theorem dX6_oddEven_66 : decode cX6_oddEven 66 = .ok (.dconst 0, 1) := by decide +kernel
theorem dX6_oddEven_67 : decode cX6_oddEven 67 = .ok (.invokestatic 98, 3) := by decide +kernel
theorem dX6_oddEven_70 : decode cX6_oddEven 70 = .ok (.lreturn, 1) := by decide +kernel
theorem dX6_oddEven_71 : decode cX6_oddEven 71 = .ok (.aload_n 0, 1) := by decide +kernel
theorem dX6_oddEven_72 : decode cX6_oddEven 72 = .ok (.getfield 33, 3) := by decide +kernel
theorem dX6_oddEven_75 : decode cX6_oddEven 75 = .ok (.iload 4, 2) := by decide +kernel
theorem dX6_oddEven_77 : decode cX6_oddEven 77 = .ok (.invokevirtual 161, 3) := by decide +kernel
theorem dX6_oddEven_80 : decode cX6_oddEven 80 = .ok (.aload_n 0, 1) := by decide +kernel
theorem dX6_oddEven_81 : decode cX6_oddEven 81 = .ok (.getfield 33, 3) := by decide +kernel
theorem dX6_oddEven_84 : decode cX6_oddEven 84 = .ok (.iload 5, 2) := by decide +kernel
theorem dX6_oddEven_86 : decode cX6_oddEven 86 = .ok (.invokevirtual 161, 3) := by decide +kernel
theorem dX6_oddEven_89 : decode cX6_oddEven 89 = .ok (.dsub, 1) := by decide +kernel
theorem dX6_oddEven_90 : decode cX6_oddEven 90 = .ok (.invokestatic 98, 3) := by decide +kernel
theorem dX6_oddEven_93 : decode cX6_oddEven 93 = .ok (.lreturn, 1) := by decide +kernel
theorem dX6_world_0 : decode cX6_world 0 = .ok (.aload_n 0, 1) := by decide +kernel
theorem dX6_world_1 : decode cX6_world 1 = .ok (.iload_n 1, 1) := by decide +kernel
theorem dX6_world_2 : decode cX6_world 2 = .ok (.iload_n 2, 1) := by decide +kernel
theorem dX6_world_3 : decode cX6_world 3 = .ok (.invokevirtual 148, 3) := by decide +kernel
theorem dX6_world_6 : decode cX6_world 6 = .ok (.astore_n 3, 1) := by decide +kernel
theorem dX6_world_7 : decode cX6_world 7 = .ok (.aload_n 0, 1) := by decide +kernel
theorem dX6_world_8 : decode cX6_world 8 = .ok (.aload_n 3, 1) := by decide +kernel
theorem dX6_world_9 : decode cX6_world 9 = .ok (.iload_n 2, 1) := by decide +kernel
theorem dX6_world_10 : decode cX6_world 10 = .ok (.invokevirtual 151, 3) := by decide +kernel
theorem dX6_world_13 : decode cX6_world 13 = .ok (.istore 4, 2) := by decide +kernel
theorem dX6_world_15 : decode cX6_world 15 = .ok (.aload_n 0, 1) := by decide +kernel
theorem dX6_world_16 : decode cX6_world 16 = .ok (.getfield 16, 3) := by decide +kernel
theorem dX6_world_19 : decode cX6_world 19 = .ok (.invokevirtual 42, 3) := by decide +kernel
theorem dX6_world_22 : decode cX6_world 22 = .ok (.bipush 12, 2) := by decide +kernel
theorem dX6_world_24 : decode cX6_world 24 = .ok (.if_icmp .lt 13, 3) := by decide +kernel
theorem dX6_world_27 : decode cX6_world 27 = .ok (.new 46, 3) := by decide +kernel
theorem dX6_world_30 : decode cX6_world 30 = .ok (.dup, 1) := by decide +kernel
theorem dX6_world_31 : decode cX6_world 31 = .ok (.ldc 164, 2) := by decide +kernel
theorem dX6_world_33 : decode cX6_world 33 = .ok (.invokespecial 50, 3) := by decide +kernel
theorem dX6_world_36 : decode cX6_world 36 = .ok (.athrow, 1) := by decide +kernel
theorem dX6_world_37 : decode cX6_world 37 = .ok (.aload_n 0, 1) := by decide +kernel
theorem dX6_world_38 : decode cX6_world 38 = .ok (.getfield 33, 3) := by decide +kernel
theorem dX6_world_41 : decode cX6_world 41 = .ok (.iload 4, 2) := by decide +kernel
theorem dX6_world_43 : decode cX6_world 43 = .ok (.aload_n 3, 1) := by decide +kernel
theorem dX6_world_44 : decode cX6_world 44 = .ok (.invokevirtual 138, 3) := by decide +kernel
theorem dX6_world_47 : decode cX6_world 47 = .ok (.aload_n 0, 1) := by decide +kernel
theorem dX6_world_48 : decode cX6_world 48 = .ok (.getfield 16, 3) := by decide +kernel
theorem dX6_world_51 : decode cX6_world 51 = .ok (.new 166, 3) := by decide +kernel
theorem dX6_world_54 : decode cX6_world 54 = .ok (.dup, 1) := by decide +kernel
theorem dX6_world_55 : decode cX6_world 55 = .ok (.iload_n 1, 1) := by decide +kernel
theorem dX6_world_56 : decode cX6_world 56 = .ok (.iload_n 2, 1) := by decide +kernel
theorem dX6_world_57 : decode cX6_world 57 = .ok (.iload 4, 2) := by decide +kernel
theorem dX6_world_59 : decode cX6_world 59 = .ok (.aload_n 0, 1) := by decide +kernel
theorem dX6_world_60 : decode cX6_world 60 = .ok (.getfield 33, 3) := by decide +kernel
theorem dX6_world_63 : decode cX6_world 63 = .ok (.invokevirtual 142, 3) := by decide +kernel
end
section
theorem dX6_world_66 : decode cX6_world 66 = .ok (.new 118, 3) := by decide +kernel
theorem dX6_world_69 : decode cX6_world 69 = .ok (.dup, 1) := by decide +kernel
theorem dX6_world_70 : decode cX6_world 70 = .ok (.aload_n 3, 1) := by decide +kernel
theorem dX6_world_71 : decode cX6_world 71 = .ok (.invokespecial 168, 3) := by decide +kernel
theorem dX6_world_74 : decode cX6_world 74 = .ok (.invokespecial 171, 3) := by decide +kernel
theorem dX6_world_77 : decode cX6_world 77 = .ok (.invokevirtual 58, 3) := by decide +kernel
theorem dX6_world_80 : decode cX6_world 80 = .ok (.pop, 1) := by decide +kernel
theorem dX6_world_81 : decode cX6_world 81 = .ok (.aload_n 0, 1) := by decide +kernel
theorem dX6_world_82 : decode cX6_world 82 = .ok (.getfield 16, 3) := by decide +kernel
theorem dX6_world_85 : decode cX6_world 85 = .ok (.invokevirtual 42, 3) := by decide +kernel
theorem dX6_world_88 : decode cX6_world 88 = .ok (.iconst 1, 1) := by decide +kernel
theorem dX6_world_89 : decode cX6_world 89 = .ok (.isub, 1) := by decide +kernel
theorem dX6_world_90 : decode cX6_world 90 = .ok (.ireturn, 1) := by decide +kernel
theorem dX6_about_0 : decode cX6_about 0 = .ok (.aload_n 0, 1) := by decide +kernel
theorem dX6_about_1 : decode cX6_about 1 = .ok (.iload_n 1, 1) := by decide +kernel
theorem dX6_about_2 : decode cX6_about 2 = .ok (.invokevirtual 174, 3) := by decide +kernel
theorem dX6_about_5 : decode cX6_about 5 = .ok (.astore_n 3, 1) := by decide +kernel
theorem dX6_about_6 : decode cX6_about 6 = .ok (.iload_n 2, 1) := by decide +kernel
theorem dX6_about_7 : decode cX6_about 7 = .ok (.iconst 0, 1) := by decide +kernel
theorem dX6_about_8 : decode cX6_about 8 = .ok (.iconst 3, 1) := by decide +kernel
theorem dX6_about_9 : decode cX6_about 9 = .ok (.invokestatic 38, 3) := by decide +kernel
theorem dX6_about_12 : decode cX6_about 12 = .ok (.iload_n 2, 1) := by decide +kernel
theorem dX6_about_13 : decode cX6_about 13 = .ok (.tableswitch 42 0 2 #[27, 32, 37], 27) := by decide +kernel
theorem dX6_about_40 : decode cX6_about 40 = .ok (.aload_n 3, 1) := by decide +kernel
theorem dX6_about_41 : decode cX6_about 41 = .ok (.getfield 178, 3) := by decide +kernel
theorem dX6_about_44 : decode cX6_about 44 = .ok (.ireturn, 1) := by decide +kernel
theorem dX6_about_45 : decode cX6_about 45 = .ok (.aload_n 3, 1) := by decide +kernel
theorem dX6_about_46 : decode cX6_about 46 = .ok (.getfield 181, 3) := by decide +kernel
theorem dX6_about_49 : decode cX6_about 49 = .ok (.ireturn, 1) := by decide +kernel
theorem dX6_about_50 : decode cX6_about 50 = .ok (.aload_n 3, 1) := by decide +kernel
theorem dX6_about_51 : decode cX6_about 51 = .ok (.getfield 184, 3) := by decide +kernel
theorem dX6_about_54 : decode cX6_about 54 = .ok (.ireturn, 1) := by decide +kernel
theorem dX6_about_55 : decode cX6_about 55 = .ok (.aload_n 3, 1) := by decide +kernel
theorem dX6_about_56 : decode cX6_about 56 = .ok (.getfield 187, 3) := by decide +kernel
theorem dX6_about_59 : decode cX6_about 59 = .ok (.ifCond .eq 7, 3) := by decide +kernel
theorem dX6_about_62 : decode cX6_about 62 = .ok (.iconst 1, 1) := by decide +kernel
theorem dX6_about_63 : decode cX6_about 63 = .ok (.goto 4, 3) := by decide +kernel
theorem dX6_about_66 : decode cX6_about 66 = .ok (.iconst 0, 1) := by decide +kernel
theorem dX6_about_67 : decode cX6_about 67 = .ok (.ireturn, 1) := by decide +kernel
theorem dX6_periodAnew_0 : decode cX6_periodAnew 0 = .ok (.aload_n 0, 1) := by decide +kernel
theorem dX6_periodAnew_1 : decode cX6_periodAnew 1 = .ok (.iload_n 1, 1) := by decide +kernel
theorem dX6_periodAnew_2 : decode cX6_periodAnew 2 = .ok (.invokevirtual 174, 3) := by decide +kernel
theorem dX6_periodAnew_5 : decode cX6_periodAnew 5 = .ok (.astore_n 2, 1) := by decide +kernel
theorem dX6_periodAnew_6 : decode cX6_periodAnew 6 = .ok (.aload_n 0, 1) := by decide +kernel
theorem dX6_periodAnew_7 : decode cX6_periodAnew 7 = .ok (.aload_n 2, 1) := by decide +kernel
theorem dX6_periodAnew_8 : decode cX6_periodAnew 8 = .ok (.getfield 191, 3) := by decide +kernel
theorem dX6_periodAnew_11 : decode cX6_periodAnew 11 = .ok (.aload_n 2, 1) := by decide +kernel
theorem dX6_periodAnew_12 : decode cX6_periodAnew 12 = .ok (.getfield 192, 3) := by decide +kernel
theorem dX6_periodAnew_15 : decode cX6_periodAnew 15 = .ok (.invokevirtual 155, 3) := by decide +kernel
theorem dX6_periodAnew_18 : decode cX6_periodAnew 18 = .ok (.ireturn, 1) := by decide +kernel
theorem dX6_paper_0 : decode cX6_paper 0 = .ok (.aload_n 0, 1) := by decide +kernel
theorem dX6_paper_1 : decode cX6_paper 1 = .ok (.iload_n 1, 1) := by decide +kernel
theorem dX6_paper_2 : decode cX6_paper 2 = .ok (.invokevirtual 174, 3) := by decide +kernel
theorem dX6_paper_5 : decode cX6_paper 5 = .ok (.astore_n 3, 1) := by decide +kernel
theorem dX6_paper_6 : decode cX6_paper 6 = .ok (.iload_n 2, 1) := by decide +kernel
theorem dX6_paper_7 : decode cX6_paper 7 = .ok (.iconst (-1), 1) := by decide +kernel
theorem dX6_paper_8 : decode cX6_paper 8 = .ok (.if_icmp .ne 7, 3) := by decide +kernel
theorem dX6_paper_11 : decode cX6_paper 11 = .ok (.aconst_null, 1) := by decide +kernel
theorem dX6_paper_12 : decode cX6_paper 12 = .ok (.goto 8, 3) := by decide +kernel
theorem dX6_paper_15 : decode cX6_paper 15 = .ok (.aload_n 0, 1) := by decide +kernel
theorem dX6_paper_16 : decode cX6_paper 16 = .ok (.iload_n 2, 1) := by decide +kernel
theorem dX6_paper_17 : decode cX6_paper 17 = .ok (.invokevirtual 195, 3) := by decide +kernel
theorem dX6_paper_20 : decode cX6_paper 20 = .ok (.astore 4, 2) := by decide +kernel
theorem dX6_paper_22 : decode cX6_paper 22 = .ok (.new 199, 3) := by decide +kernel
theorem dX6_paper_25 : decode cX6_paper 25 = .ok (.dup, 1) := by decide +kernel
theorem dX6_paper_26 : decode cX6_paper 26 = .ok (.aload_n 3, 1) := by decide +kernel
theorem dX6_paper_27 : decode cX6_paper 27 = .ok (.aload 4, 2) := by decide +kernel
theorem dX6_paper_29 : decode cX6_paper 29 = .ok (.invokespecial 201, 3) := by decide +kernel
theorem dX6_paper_32 : decode cX6_paper 32 = .ok (.astore 5, 2) := by decide +kernel
theorem dX6_paper_34 : decode cX6_paper 34 = .ok (.aload 5, 2) := by decide +kernel
theorem dX6_paper_36 : decode cX6_paper 36 = .ok (.invokevirtual 204, 3) := by decide +kernel
theorem dX6_paper_39 : decode cX6_paper 39 = .ok (.ifCond .eq 13, 3) := by decide +kernel
theorem dX6_paper_42 : decode cX6_paper 42 = .ok (.new 46, 3) := by decide +kernel
theorem dX6_paper_45 : decode cX6_paper 45 = .ok (.dup, 1) := by decide +kernel
theorem dX6_paper_46 : decode cX6_paper 46 = .ok (.ldc 208, 2) := by decide +kernel
theorem dX6_paper_48 : decode cX6_paper 48 = .ok (.invokespecial 50, 3) := by decide +kernel
theorem dX6_paper_51 : decode cX6_paper 51 = .ok (.athrow, 1) := by decide +kernel
theorem dX6_paper_52 : decode cX6_paper 52 = .ok (.aload_n 0, 1) := by decide +kernel
theorem dX6_paper_53 : decode cX6_paper 53 = .ok (.getfield 19, 3) := by decide +kernel
theorem dX6_paper_56 : decode cX6_paper 56 = .ok (.invokevirtual 42, 3) := by decide +kernel
theorem dX6_paper_59 : decode cX6_paper 59 = .ok (.bipush 30, 2) := by decide +kernel
theorem dX6_paper_61 : decode cX6_paper 61 = .ok (.if_icmp .lt 13, 3) := by decide +kernel
theorem dX6_paper_64 : decode cX6_paper 64 = .ok (.new 46, 3) := by decide +kernel
theorem dX6_paper_67 : decode cX6_paper 67 = .ok (.dup, 1) := by decide +kernel
theorem dX6_paper_68 : decode cX6_paper 68 = .ok (.ldc 210, 2) := by decide +kernel
theorem dX6_paper_70 : decode cX6_paper 70 = .ok (.invokespecial 50, 3) := by decide +kernel
theorem dX6_paper_73 : decode cX6_paper 73 = .ok (.athrow, 1) := by decide +kernel
theorem dX6_paper_74 : decode cX6_paper 74 = .ok (.aload_n 0, 1) := by decide +kernel
theorem dX6_paper_75 : decode cX6_paper 75 = .ok (.getfield 19, 3) := by decide +kernel
theorem dX6_paper_78 : decode cX6_paper 78 = .ok (.aload 5, 2) := by decide +kernel
theorem dX6_paper_80 : decode cX6_paper 80 = .ok (.invokevirtual 58, 3) := by decide +kernel
theorem dX6_paper_83 : decode cX6_paper 83 = .ok (.pop, 1) := by decide +kernel
theorem dX6_paper_84 : decode cX6_paper 84 = .ok (.aload_n 0, 1) := by decide +kernel
theorem dX6_paper_85 : decode cX6_paper 85 = .ok (.getfield 19, 3) := by decide +kernel
theorem dX6_paper_88 : decode cX6_paper 88 = .ok (.invokevirtual 42, 3) := by decide +kernel
theorem dX6_paper_91 : decode cX6_paper 91 = .ok (.iconst 1, 1) := by decide +kernel
theorem dX6_paper_92 : decode cX6_paper 92 = .ok (.isub, 1) := by decide +kernel
theorem dX6_paper_93 : decode cX6_paper 93 = .ok (.ireturn, 1) := by decide +kernel
theorem dX6_withdraw_0 : decode cX6_withdraw 0 = .ok (.aload_n 0, 1) := by decide +kernel
theorem dX6_withdraw_1 : decode cX6_withdraw 1 = .ok (.iload_n 1, 1) := by decide +kernel
theorem dX6_withdraw_2 : decode cX6_withdraw 2 = .ok (.invokevirtual 174, 3) := by decide +kernel
theorem dX6_withdraw_5 : decode cX6_withdraw 5 = .ok (.astore_n 2, 1) := by decide +kernel
theorem dX6_withdraw_6 : decode cX6_withdraw 6 = .ok (.aload_n 2, 1) := by decide +kernel
theorem dX6_withdraw_7 : decode cX6_withdraw 7 = .ok (.getfield 187, 3) := by decide +kernel
theorem dX6_withdraw_10 : decode cX6_withdraw 10 = .ok (.ifCond .eq 13, 3) := by decide +kernel
theorem dX6_withdraw_13 : decode cX6_withdraw 13 = .ok (.new 46, 3) := by decide +kernel
theorem dX6_withdraw_16 : decode cX6_withdraw 16 = .ok (.dup, 1) := by decide +kernel
theorem dX6_withdraw_17 : decode cX6_withdraw 17 = .ok (.ldc 212, 2) := by decide +kernel
theorem dX6_withdraw_19 : decode cX6_withdraw 19 = .ok (.invokespecial 50, 3) := by decide +kernel
theorem dX6_withdraw_22 : decode cX6_withdraw 22 = .ok (.athrow, 1) := by decide +kernel
theorem dX6_withdraw_23 : decode cX6_withdraw 23 = .ok (.aload_n 2, 1) := by decide +kernel
theorem dX6_withdraw_24 : decode cX6_withdraw 24 = .ok (.iconst 1, 1) := by decide +kernel
theorem dX6_withdraw_25 : decode cX6_withdraw 25 = .ok (.putfield 187, 3) := by decide +kernel
theorem dX6_withdraw_28 : decode cX6_withdraw 28 = .ok (.aload_n 0, 1) := by decide +kernel
theorem dX6_withdraw_29 : decode cX6_withdraw 29 = .ok (.invokevirtual 214, 3) := by decide +kernel
theorem dX6_withdraw_32 : decode cX6_withdraw 32 = .ok (.ireturn, 1) := by decide +kernel
theorem dX6_hasFallen_0 : decode cX6_hasFallen 0 = .ok (.aload_n 0, 1) := by decide +kernel
theorem dX6_hasFallen_1 : decode cX6_hasFallen 1 = .ok (.iload_n 1, 1) := by decide +kernel
theorem dX6_hasFallen_2 : decode cX6_hasFallen 2 = .ok (.invokevirtual 195, 3) := by decide +kernel
theorem dX6_hasFallen_5 : decode cX6_hasFallen 5 = .ok (.getfield 217, 3) := by decide +kernel
theorem dX6_hasFallen_8 : decode cX6_hasFallen 8 = .ok (.ireturn, 1) := by decide +kernel
theorem dX6_starAt_0 : decode cX6_starAt 0 = .ok (.iload_n 1, 1) := by decide +kernel
theorem dX6_starAt_1 : decode cX6_starAt 1 = .ok (.ifCond .lt 14, 3) := by decide +kernel
theorem dX6_starAt_4 : decode cX6_starAt 4 = .ok (.iload_n 1, 1) := by decide +kernel
theorem dX6_starAt_5 : decode cX6_starAt 5 = .ok (.aload_n 0, 1) := by decide +kernel
theorem dX6_starAt_6 : decode cX6_starAt 6 = .ok (.getfield 10, 3) := by decide +kernel
theorem dX6_starAt_9 : decode cX6_starAt 9 = .ok (.invokevirtual 42, 3) := by decide +kernel
theorem dX6_starAt_12 : decode cX6_starAt 12 = .ok (.if_icmp .lt 13, 3) := by decide +kernel
theorem dX6_starAt_15 : decode cX6_starAt 15 = .ok (.new 220, 3) := by decide +kernel
theorem dX6_starAt_18 : decode cX6_starAt 18 = .ok (.dup, 1) := by decide +kernel
theorem dX6_starAt_19 : decode cX6_starAt 19 = .ok (.ldc 222, 2) := by decide +kernel
theorem dX6_starAt_21 : decode cX6_starAt 21 = .ok (.invokespecial 224, 3) := by decide +kernel
theorem dX6_starAt_24 : decode cX6_starAt 24 = .ok (.athrow, 1) := by decide +kernel
theorem dX6_starAt_25 : decode cX6_starAt 25 = .ok (.aload_n 0, 1) := by decide +kernel
theorem dX6_starAt_26 : decode cX6_starAt 26 = .ok (.getfield 10, 3) := by decide +kernel
theorem dX6_starAt_29 : decode cX6_starAt 29 = .ok (.iload_n 1, 1) := by decide +kernel
theorem dX6_starAt_30 : decode cX6_starAt 30 = .ok (.invokevirtual 225, 3) := by decide +kernel
theorem dX6_starAt_33 : decode cX6_starAt 33 = .ok (.checkcast 53, 3) := by decide +kernel
theorem dX6_starAt_36 : decode cX6_starAt 36 = .ok (.areturn, 1) := by decide +kernel
theorem dX6_worldAt_0 : decode cX6_worldAt 0 = .ok (.iload_n 1, 1) := by decide +kernel
theorem dX6_worldAt_1 : decode cX6_worldAt 1 = .ok (.ifCond .lt 14, 3) := by decide +kernel
theorem dX6_worldAt_4 : decode cX6_worldAt 4 = .ok (.iload_n 1, 1) := by decide +kernel
theorem dX6_worldAt_5 : decode cX6_worldAt 5 = .ok (.aload_n 0, 1) := by decide +kernel
theorem dX6_worldAt_6 : decode cX6_worldAt 6 = .ok (.getfield 16, 3) := by decide +kernel
theorem dX6_worldAt_9 : decode cX6_worldAt 9 = .ok (.invokevirtual 42, 3) := by decide +kernel
theorem dX6_worldAt_12 : decode cX6_worldAt 12 = .ok (.if_icmp .lt 13, 3) := by decide +kernel
theorem dX6_worldAt_15 : decode cX6_worldAt 15 = .ok (.new 220, 3) := by decide +kernel
theorem dX6_worldAt_18 : decode cX6_worldAt 18 = .ok (.dup, 1) := by decide +kernel
theorem dX6_worldAt_19 : decode cX6_worldAt 19 = .ok (.ldc 229, 2) := by decide +kernel
theorem dX6_worldAt_21 : decode cX6_worldAt 21 = .ok (.invokespecial 224, 3) := by decide +kernel
theorem dX6_worldAt_24 : decode cX6_worldAt 24 = .ok (.athrow, 1) := by decide +kernel
theorem dX6_worldAt_25 : decode cX6_worldAt 25 = .ok (.aload_n 0, 1) := by decide +kernel
theorem dX6_worldAt_26 : decode cX6_worldAt 26 = .ok (.getfield 16, 3) := by decide +kernel
theorem dX6_worldAt_29 : decode cX6_worldAt 29 = .ok (.iload_n 1, 1) := by decide +kernel
theorem dX6_worldAt_30 : decode cX6_worldAt 30 = .ok (.invokevirtual 225, 3) := by decide +kernel
theorem dX6_worldAt_33 : decode cX6_worldAt 33 = .ok (.checkcast 166, 3) := by decide +kernel
theorem dX6_worldAt_36 : decode cX6_worldAt 36 = .ok (.areturn, 1) := by decide +kernel
theorem dX6_paperAt_0 : decode cX6_paperAt 0 = .ok (.iload_n 1, 1) := by decide +kernel
theorem dX6_paperAt_1 : decode cX6_paperAt 1 = .ok (.ifCond .lt 14, 3) := by decide +kernel
theorem dX6_paperAt_4 : decode cX6_paperAt 4 = .ok (.iload_n 1, 1) := by decide +kernel
theorem dX6_paperAt_5 : decode cX6_paperAt 5 = .ok (.aload_n 0, 1) := by decide +kernel
theorem dX6_paperAt_6 : decode cX6_paperAt 6 = .ok (.getfield 19, 3) := by decide +kernel
theorem dX6_paperAt_9 : decode cX6_paperAt 9 = .ok (.invokevirtual 42, 3) := by decide +kernel
theorem dX6_paperAt_12 : decode cX6_paperAt 12 = .ok (.if_icmp .lt 13, 3) := by decide +kernel
theorem dX6_paperAt_15 : decode cX6_paperAt 15 = .ok (.new 220, 3) := by decide +kernel
theorem dX6_paperAt_18 : decode cX6_paperAt 18 = .ok (.dup, 1) := by decide +kernel
theorem dX6_paperAt_19 : decode cX6_paperAt 19 = .ok (.ldc 231, 2) := by decide +kernel
theorem dX6_paperAt_21 : decode cX6_paperAt 21 = .ok (.invokespecial 224, 3) := by decide +kernel
theorem dX6_paperAt_24 : decode cX6_paperAt 24 = .ok (.athrow, 1) := by decide +kernel
theorem dX6_paperAt_25 : decode cX6_paperAt 25 = .ok (.aload_n 0, 1) := by decide +kernel
theorem dX6_paperAt_26 : decode cX6_paperAt 26 = .ok (.getfield 19, 3) := by decide +kernel
theorem dX6_paperAt_29 : decode cX6_paperAt 29 = .ok (.iload_n 1, 1) := by decide +kernel
theorem dX6_paperAt_30 : decode cX6_paperAt 30 = .ok (.invokevirtual 225, 3) := by decide +kernel
theorem dX6_paperAt_33 : decode cX6_paperAt 33 = .ok (.checkcast 199, 3) := by decide +kernel
theorem dX6_paperAt_36 : decode cX6_paperAt 36 = .ok (.areturn, 1) := by decide +kernel
theorem dX6_requireHour_0 : decode cX6_requireHour 0 = .ok (.iload_n 0, 1) := by decide +kernel
theorem dX6_requireHour_1 : decode cX6_requireHour 1 = .ok (.ifCond .lt 10, 3) := by decide +kernel
theorem dX6_requireHour_4 : decode cX6_requireHour 4 = .ok (.iload_n 0, 1) := by decide +kernel
theorem dX6_requireHour_5 : decode cX6_requireHour 5 = .ok (.sipush 1000, 3) := by decide +kernel
theorem dX6_requireHour_8 : decode cX6_requireHour 8 = .ok (.if_icmp .lt 13, 3) := by decide +kernel
theorem dX6_requireHour_11 : decode cX6_requireHour 11 = .ok (.new 220, 3) := by decide +kernel
theorem dX6_requireHour_14 : decode cX6_requireHour 14 = .ok (.dup, 1) := by decide +kernel
theorem dX6_requireHour_15 : decode cX6_requireHour 15 = .ok (.ldc 233, 2) := by decide +kernel
theorem dX6_requireHour_17 : decode cX6_requireHour 17 = .ok (.invokespecial 224, 3) := by decide +kernel
theorem dX6_requireHour_20 : decode cX6_requireHour 20 = .ok (.athrow, 1) := by decide +kernel
theorem dX6_requireHour_21 : decode cX6_requireHour 21 = .ok (.return_, 1) := by decide +kernel
theorem dX6_requireHours_0 : decode cX6_requireHours 0 = .ok (.iload_n 0, 1) := by decide +kernel
theorem dX6_requireHours_1 : decode cX6_requireHours 1 = .ok (.invokestatic 91, 3) := by decide +kernel
theorem dX6_requireHours_4 : decode cX6_requireHours 4 = .ok (.iload_n 1, 1) := by decide +kernel
theorem dX6_requireHours_5 : decode cX6_requireHours 5 = .ok (.invokestatic 91, 3) := by decide +kernel
theorem dX6_requireHours_8 : decode cX6_requireHours 8 = .ok (.iload_n 1, 1) := by decide +kernel
theorem dX6_requireHours_9 : decode cX6_requireHours 9 = .ok (.iload_n 0, 1) := by decide +kernel
theorem dX6_requireHours_10 : decode cX6_requireHours 10 = .ok (.if_icmp .ge 13, 3) := by decide +kernel
theorem dX6_requireHours_13 : decode cX6_requireHours 13 = .ok (.new 235, 3) := by decide +kernel
theorem dX6_requireHours_16 : decode cX6_requireHours 16 = .ok (.dup, 1) := by decide +kernel
theorem dX6_requireHours_17 : decode cX6_requireHours 17 = .ok (.ldc 237, 2) := by decide +kernel
theorem dX6_requireHours_19 : decode cX6_requireHours 19 = .ok (.invokespecial 239, 3) := by decide +kernel
theorem dX6_requireHours_22 : decode cX6_requireHours 22 = .ok (.athrow, 1) := by decide +kernel
theorem dX6_requireHours_23 : decode cX6_requireHours 23 = .ok (.return_, 1) := by decide +kernel
theorem dX6_requireRange_0 : decode cX6_requireRange 0 = .ok (.iload_n 0, 1) := by decide +kernel
theorem dX6_requireRange_1 : decode cX6_requireRange 1 = .ok (.iload_n 1, 1) := by decide +kernel
theorem dX6_requireRange_2 : decode cX6_requireRange 2 = .ok (.if_icmp .lt 8, 3) := by decide +kernel
theorem dX6_requireRange_5 : decode cX6_requireRange 5 = .ok (.iload_n 0, 1) := by decide +kernel
theorem dX6_requireRange_6 : decode cX6_requireRange 6 = .ok (.iload_n 2, 1) := by decide +kernel
theorem dX6_requireRange_7 : decode cX6_requireRange 7 = .ok (.if_icmp .le 13, 3) := by decide +kernel
theorem dX6_requireRange_10 : decode cX6_requireRange 10 = .ok (.new 235, 3) := by decide +kernel
theorem dX6_requireRange_13 : decode cX6_requireRange 13 = .ok (.dup, 1) := by decide +kernel
theorem dX6_requireRange_14 : decode cX6_requireRange 14 = .ok (.ldc 240, 2) := by decide +kernel
theorem dX6_requireRange_16 : decode cX6_requireRange 16 = .ok (.invokespecial 239, 3) := by decide +kernel
theorem dX6_requireRange_19 : decode cX6_requireRange 19 = .ok (.athrow, 1) := by decide +kernel
theorem dX6_requireRange_20 : decode cX6_requireRange 20 = .ok (.return_, 1) := by decide +kernel
theorem dX6_nightsToFold_0 : decode cX6_nightsToFold 0 = .ok (.aload_n 0, 1) := by decide +kernel
theorem dX6_nightsToFold_1 : decode cX6_nightsToFold 1 = .ok (.iload_n 1, 1) := by decide +kernel
theorem dX6_nightsToFold_2 : decode cX6_nightsToFold 2 = .ok (.invokevirtual 62, 3) := by decide +kernel
theorem dX6_nightsToFold_5 : decode cX6_nightsToFold 5 = .ok (.getfield 113, 3) := by decide +kernel
theorem dX6_nightsToFold_8 : decode cX6_nightsToFold 8 = .ok (.astore_n 3, 1) := by decide +kernel
theorem dX6_nightsToFold_9 : decode cX6_nightsToFold 9 = .ok (.iload_n 2, 1) := by decide +kernel
theorem dX6_nightsToFold_10 : decode cX6_nightsToFold 10 = .ok (.iconst 2, 1) := by decide +kernel
theorem dX6_nightsToFold_11 : decode cX6_nightsToFold 11 = .ok (.bipush 60, 2) := by decide +kernel
theorem dX6_nightsToFold_13 : decode cX6_nightsToFold 13 = .ok (.invokestatic 38, 3) := by decide +kernel
theorem dX6_nightsToFold_16 : decode cX6_nightsToFold 16 = .ok (.aload_n 3, 1) := by decide +kernel
theorem dX6_nightsToFold_17 : decode cX6_nightsToFold 17 = .ok (.getfield 117, 3) := by decide +kernel
theorem dX6_nightsToFold_20 : decode cX6_nightsToFold 20 = .ok (.bipush 20, 2) := by decide +kernel
theorem dX6_nightsToFold_22 : decode cX6_nightsToFold 22 = .ok (.if_icmp .ge 13, 3) := by decide +kernel
theorem dX6_nightsToFold_25 : decode cX6_nightsToFold 25 = .ok (.new 46, 3) := by decide +kernel
theorem dX6_nightsToFold_28 : decode cX6_nightsToFold 28 = .ok (.dup, 1) := by decide +kernel
theorem dX6_nightsToFold_29 : decode cX6_nightsToFold 29 = .ok (.ldc 242, 2) := by decide +kernel
theorem dX6_nightsToFold_31 : decode cX6_nightsToFold 31 = .ok (.invokespecial 50, 3) := by decide +kernel
theorem dX6_nightsToFold_34 : decode cX6_nightsToFold 34 = .ok (.athrow, 1) := by decide +kernel
theorem dX6_nightsToFold_35 : decode cX6_nightsToFold 35 = .ok (.aload_n 3, 1) := by decide +kernel
theorem dX6_nightsToFold_36 : decode cX6_nightsToFold 36 = .ok (.areturn, 1) := by decide +kernel
theorem dX6_nightsToSearch_0 : decode cX6_nightsToSearch 0 = .ok (.aload_n 0, 1) := by decide +kernel
theorem dX6_nightsToSearch_1 : decode cX6_nightsToSearch 1 = .ok (.iload_n 1, 1) := by decide +kernel
theorem dX6_nightsToSearch_2 : decode cX6_nightsToSearch 2 = .ok (.invokevirtual 62, 3) := by decide +kernel
theorem dX6_nightsToSearch_5 : decode cX6_nightsToSearch 5 = .ok (.getfield 113, 3) := by decide +kernel
theorem dX6_nightsToSearch_8 : decode cX6_nightsToSearch 8 = .ok (.astore_n 3, 1) := by decide +kernel
theorem dX6_nightsToSearch_9 : decode cX6_nightsToSearch 9 = .ok (.iload_n 2, 1) := by decide +kernel
theorem dX6_nightsToSearch_10 : decode cX6_nightsToSearch 10 = .ok (.iconst 0, 1) := by decide +kernel
theorem dX6_nightsToSearch_11 : decode cX6_nightsToSearch 11 = .ok (.ldc 37, 2) := by decide +kernel
theorem dX6_nightsToSearch_13 : decode cX6_nightsToSearch 13 = .ok (.invokestatic 38, 3) := by decide +kernel
theorem dX6_nightsToSearch_16 : decode cX6_nightsToSearch 16 = .ok (.aload_n 3, 1) := by decide +kernel
theorem dX6_nightsToSearch_17 : decode cX6_nightsToSearch 17 = .ok (.areturn, 1) := by decide +kernel
theorem dX6_isHidden_0 : decode cX6_isHidden 0 = .ok (.iload_n 1, 1) := by decide +kernel
theorem dX6_isHidden_1 : decode cX6_isHidden 1 = .ok (.ifCond .lt 25, 3) := by decide +kernel
theorem dX6_isHidden_4 : decode cX6_isHidden 4 = .ok (.iload_n 1, 1) := by decide +kernel
theorem dX6_isHidden_5 : decode cX6_isHidden 5 = .ok (.aload_n 0, 1) := by decide +kernel
theorem dX6_isHidden_6 : decode cX6_isHidden 6 = .ok (.getfield 22, 3) := by decide +kernel
theorem dX6_isHidden_9 : decode cX6_isHidden 9 = .ok (.arraylength, 1) := by decide +kernel
theorem dX6_isHidden_10 : decode cX6_isHidden 10 = .ok (.if_icmp .ge 16, 3) := by decide +kernel
theorem dX6_isHidden_13 : decode cX6_isHidden 13 = .ok (.aload_n 0, 1) := by decide +kernel
theorem dX6_isHidden_14 : decode cX6_isHidden 14 = .ok (.getfield 22, 3) := by decide +kernel
theorem dX6_isHidden_17 : decode cX6_isHidden 17 = .ok (.iload_n 1, 1) := by decide +kernel
theorem dX6_isHidden_18 : decode cX6_isHidden 18 = .ok (.baload, 1) := by decide +kernel
theorem dX6_isHidden_19 : decode cX6_isHidden 19 = .ok (.ifCond .eq 7, 3) := by decide +kernel
theorem dX6_isHidden_22 : decode cX6_isHidden 22 = .ok (.iconst 1, 1) := by decide +kernel
theorem dX6_isHidden_23 : decode cX6_isHidden 23 = .ok (.goto 4, 3) := by decide +kernel
theorem dX6_isHidden_26 : decode cX6_isHidden 26 = .ok (.iconst 0, 1) := by decide +kernel
theorem dX6_isHidden_27 : decode cX6_isHidden 27 = .ok (.ireturn, 1) := by decide +kernel
theorem dX6_hide_0 : decode cX6_hide 0 = .ok (.iload_n 1, 1) := by decide +kernel
theorem dX6_hide_1 : decode cX6_hide 1 = .ok (.ifCond .lt 29, 3) := by decide +kernel
theorem dX6_hide_4 : decode cX6_hide 4 = .ok (.iload_n 1, 1) := by decide +kernel
theorem dX6_hide_5 : decode cX6_hide 5 = .ok (.aload_n 0, 1) := by decide +kernel
theorem dX6_hide_6 : decode cX6_hide 6 = .ok (.getfield 22, 3) := by decide +kernel
theorem dX6_hide_9 : decode cX6_hide 9 = .ok (.arraylength, 1) := by decide +kernel
theorem dX6_hide_10 : decode cX6_hide 10 = .ok (.if_icmp .ge 20, 3) := by decide +kernel
theorem dX6_hide_13 : decode cX6_hide 13 = .ok (.aload_n 0, 1) := by decide +kernel
theorem dX6_hide_14 : decode cX6_hide 14 = .ok (.getfield 22, 3) := by decide +kernel
theorem dX6_hide_17 : decode cX6_hide 17 = .ok (.iload_n 1, 1) := by decide +kernel
theorem dX6_hide_18 : decode cX6_hide 18 = .ok (.iconst 1, 1) := by decide +kernel
theorem dX6_hide_19 : decode cX6_hide 19 = .ok (.bastore, 1) := by decide +kernel
theorem dX6_hide_20 : decode cX6_hide 20 = .ok (.aload_n 0, 1) := by decide +kernel
theorem dX6_hide_21 : decode cX6_hide 21 = .ok (.dup, 1) := by decide +kernel
theorem dX6_hide_22 : decode cX6_hide 22 = .ok (.getfield 26, 3) := by decide +kernel
theorem dX6_hide_25 : decode cX6_hide 25 = .ok (.iconst 1, 1) := by decide +kernel
theorem dX6_hide_26 : decode cX6_hide 26 = .ok (.iadd, 1) := by decide +kernel
theorem dX6_hide_27 : decode cX6_hide 27 = .ok (.putfield 26, 3) := by decide +kernel
theorem dX6_hide_30 : decode cX6_hide 30 = .ok (.return_, 1) := by decide +kernel
theorem dX6_periodToTell_0 : decode cX6_periodToTell 0 = .ok (.aload_n 0, 1) := by decide +kernel
theorem dX6_periodToTell_1 : decode cX6_periodToTell 1 = .ok (.aload_n 1, 1) := by decide +kernel
theorem dX6_periodToTell_2 : decode cX6_periodToTell 2 = .ok (.iload_n 2, 1) := by decide +kernel
theorem dX6_periodToTell_3 : decode cX6_periodToTell 3 = .ok (.invokevirtual 155, 3) := by decide +kernel
theorem dX6_periodToTell_6 : decode cX6_periodToTell 6 = .ok (.istore_n 3, 1) := by decide +kernel
theorem dX6_periodToTell_7 : decode cX6_periodToTell 7 = .ok (.iload_n 3, 1) := by decide +kernel
theorem dX6_periodToTell_8 : decode cX6_periodToTell 8 = .ok (.iconst (-1), 1) := by decide +kernel
theorem dX6_periodToTell_9 : decode cX6_periodToTell 9 = .ok (.if_icmp .ne 13, 3) := by decide +kernel
theorem dX6_periodToTell_12 : decode cX6_periodToTell 12 = .ok (.new 46, 3) := by decide +kernel
theorem dX6_periodToTell_15 : decode cX6_periodToTell 15 = .ok (.dup, 1) := by decide +kernel
theorem dX6_periodToTell_16 : decode cX6_periodToTell 16 = .ok (.ldc 244, 2) := by decide +kernel
theorem dX6_periodToTell_18 : decode cX6_periodToTell 18 = .ok (.invokespecial 50, 3) := by decide +kernel
theorem dX6_periodToTell_21 : decode cX6_periodToTell 21 = .ok (.athrow, 1) := by decide +kernel
theorem dX6_periodToTell_22 : decode cX6_periodToTell 22 = .ok (.iload_n 3, 1) := by decide +kernel
theorem dX6_periodToTell_23 : decode cX6_periodToTell 23 = .ok (.ireturn, 1) := by decide +kernel
theorem dX6_bestPeriod_0 : decode cX6_bestPeriod 0 = .ok (.iconst (-1), 1) := by decide +kernel
theorem dX6_bestPeriod_1 : decode cX6_bestPeriod 1 = .ok (.istore_n 3, 1) := by decide +kernel
theorem dX6_bestPeriod_2 : decode cX6_bestPeriod 2 = .ok (.aload_n 1, 1) := by decide +kernel
theorem dX6_bestPeriod_3 : decode cX6_bestPeriod 3 = .ok (.getfield 117, 3) := by decide +kernel
theorem dX6_bestPeriod_6 : decode cX6_bestPeriod 6 = .ok (.bipush 20, 2) := by decide +kernel
theorem dX6_bestPeriod_8 : decode cX6_bestPeriod 8 = .ok (.if_icmp .ge 5, 3) := by decide +kernel
theorem dX6_bestPeriod_11 : decode cX6_bestPeriod 11 = .ok (.iload_n 3, 1) := by decide +kernel
theorem dX6_bestPeriod_12 : decode cX6_bestPeriod 12 = .ok (.ireturn, 1) := by decide +kernel
theorem dX6_bestPeriod_13 : decode cX6_bestPeriod 13 = .ok (.iload_n 2, 1) := by decide +kernel
theorem dX6_bestPeriod_14 : decode cX6_bestPeriod 14 = .ok (.i2d, 1) := by decide +kernel
theorem dX6_bestPeriod_15 : decode cX6_bestPeriod 15 = .ok (.dstore 4, 2) := by decide +kernel
theorem dX6_bestPeriod_17 : decode cX6_bestPeriod 17 = .ok (.iconst 2, 1) := by decide +kernel
theorem dX6_bestPeriod_18 : decode cX6_bestPeriod 18 = .ok (.istore 6, 2) := by decide +kernel
theorem dX6_bestPeriod_20 : decode cX6_bestPeriod 20 = .ok (.iload 6, 2) := by decide +kernel
theorem dX6_bestPeriod_22 : decode cX6_bestPeriod 22 = .ok (.bipush 60, 2) := by decide +kernel
theorem dX6_bestPeriod_24 : decode cX6_bestPeriod 24 = .ok (.if_icmp .gt 50, 3) := by decide +kernel
theorem dX6_bestPeriod_27 : decode cX6_bestPeriod 27 = .ok (.aload_n 0, 1) := by decide +kernel
theorem dX6_bestPeriod_28 : decode cX6_bestPeriod 28 = .ok (.getfield 33, 3) := by decide +kernel
theorem dX6_bestPeriod_31 : decode cX6_bestPeriod 31 = .ok (.iload 6, 2) := by decide +kernel
theorem dX6_bestPeriod_33 : decode cX6_bestPeriod 33 = .ok (.aload_n 1, 1) := by decide +kernel
theorem dX6_bestPeriod_34 : decode cX6_bestPeriod 34 = .ok (.invokevirtual 138, 3) := by decide +kernel
theorem dX6_bestPeriod_37 : decode cX6_bestPeriod 37 = .ok (.aload_n 0, 1) := by decide +kernel
theorem dX6_bestPeriod_38 : decode cX6_bestPeriod 38 = .ok (.getfield 33, 3) := by decide +kernel
theorem dX6_bestPeriod_41 : decode cX6_bestPeriod 41 = .ok (.aload_n 0, 1) := by decide +kernel
theorem dX6_bestPeriod_42 : decode cX6_bestPeriod 42 = .ok (.getfield 33, 3) := by decide +kernel
theorem dX6_bestPeriod_45 : decode cX6_bestPeriod 45 = .ok (.invokevirtual 142, 3) := by decide +kernel
theorem dX6_bestPeriod_48 : decode cX6_bestPeriod 48 = .ok (.invokevirtual 145, 3) := by decide +kernel
theorem dX6_bestPeriod_51 : decode cX6_bestPeriod 51 = .ok (.dstore 7, 2) := by decide +kernel
theorem dX6_bestPeriod_53 : decode cX6_bestPeriod 53 = .ok (.dload 7, 2) := by decide +kernel
theorem dX6_bestPeriod_55 : decode cX6_bestPeriod 55 = .ok (.dload 4, 2) := by decide +kernel
theorem dX6_bestPeriod_57 : decode cX6_bestPeriod 57 = .ok (.dcmp .l, 1) := by decide +kernel
theorem dX6_bestPeriod_58 : decode cX6_bestPeriod 58 = .ok (.ifCond .le 10, 3) := by decide +kernel
theorem dX6_bestPeriod_61 : decode cX6_bestPeriod 61 = .ok (.dload 7, 2) := by decide +kernel
theorem dX6_bestPeriod_63 : decode cX6_bestPeriod 63 = .ok (.dstore 4, 2) := by decide +kernel
theorem dX6_bestPeriod_65 : decode cX6_bestPeriod 65 = .ok (.iload 6, 2) := by decide +kernel
theorem dX6_bestPeriod_67 : decode cX6_bestPeriod 67 = .ok (.istore_n 3, 1) := by decide +kernel
theorem dX6_bestPeriod_68 : decode cX6_bestPeriod 68 = .ok (.iinc 6 1, 3) := by decide +kernel
theorem dX6_bestPeriod_71 : decode cX6_bestPeriod 71 = .ok (.goto (-51), 3) := by decide +kernel
theorem dX6_bestPeriod_74 : decode cX6_bestPeriod 74 = .ok (.iload_n 3, 1) := by decide +kernel
theorem dX6_bestPeriod_75 : decode cX6_bestPeriod 75 = .ok (.ireturn, 1) := by decide +kernel
theorem dX6_letPapersFall_0 : decode cX6_letPapersFall 0 = .ok (.iconst 0, 1) := by decide +kernel
theorem dX6_letPapersFall_1 : decode cX6_letPapersFall 1 = .ok (.istore_n 1, 1) := by decide +kernel
theorem dX6_letPapersFall_2 : decode cX6_letPapersFall 2 = .ok (.iconst 0, 1) := by decide +kernel
theorem dX6_letPapersFall_3 : decode cX6_letPapersFall 3 = .ok (.istore_n 2, 1) := by decide +kernel
theorem dX6_letPapersFall_4 : decode cX6_letPapersFall 4 = .ok (.iload_n 2, 1) := by decide +kernel
theorem dX6_letPapersFall_5 : decode cX6_letPapersFall 5 = .ok (.aload_n 0, 1) := by decide +kernel
theorem dX6_letPapersFall_6 : decode cX6_letPapersFall 6 = .ok (.getfield 19, 3) := by decide +kernel
theorem dX6_letPapersFall_9 : decode cX6_letPapersFall 9 = .ok (.invokevirtual 42, 3) := by decide +kernel
theorem dX6_letPapersFall_12 : decode cX6_letPapersFall 12 = .ok (.if_icmp .ge 43, 3) := by decide +kernel
theorem dX6_letPapersFall_15 : decode cX6_letPapersFall 15 = .ok (.aload_n 0, 1) := by decide +kernel
theorem dX6_letPapersFall_16 : decode cX6_letPapersFall 16 = .ok (.getfield 19, 3) := by decide +kernel
theorem dX6_letPapersFall_19 : decode cX6_letPapersFall 19 = .ok (.iload_n 2, 1) := by decide +kernel
theorem dX6_letPapersFall_20 : decode cX6_letPapersFall 20 = .ok (.invokevirtual 225, 3) := by decide +kernel
theorem dX6_letPapersFall_23 : decode cX6_letPapersFall 23 = .ok (.checkcast 199, 3) := by decide +kernel
theorem dX6_letPapersFall_26 : decode cX6_letPapersFall 26 = .ok (.astore_n 3, 1) := by decide +kernel
theorem dX6_letPapersFall_27 : decode cX6_letPapersFall 27 = .ok (.aload_n 3, 1) := by decide +kernel
theorem dX6_letPapersFall_28 : decode cX6_letPapersFall 28 = .ok (.getfield 217, 3) := by decide +kernel
theorem dX6_letPapersFall_31 : decode cX6_letPapersFall 31 = .ok (.ifCond .ne 18, 3) := by decide +kernel
theorem dX6_letPapersFall_34 : decode cX6_letPapersFall 34 = .ok (.aload_n 3, 1) := by decide +kernel
theorem dX6_letPapersFall_35 : decode cX6_letPapersFall 35 = .ok (.invokevirtual 204, 3) := by decide +kernel
theorem dX6_letPapersFall_38 : decode cX6_letPapersFall 38 = .ok (.ifCond .eq 11, 3) := by decide +kernel
theorem dX6_letPapersFall_41 : decode cX6_letPapersFall 41 = .ok (.aload_n 3, 1) := by decide +kernel
theorem dX6_letPapersFall_42 : decode cX6_letPapersFall 42 = .ok (.iconst 1, 1) := by decide +kernel
theorem dX6_letPapersFall_43 : decode cX6_letPapersFall 43 = .ok (.putfield 217, 3) := by decide +kernel
theorem dX6_letPapersFall_46 : decode cX6_letPapersFall 46 = .ok (.iinc 1 1, 3) := by decide +kernel
theorem dX6_letPapersFall_49 : decode cX6_letPapersFall 49 = .ok (.iinc 2 1, 3) := by decide +kernel
theorem dX6_letPapersFall_52 : decode cX6_letPapersFall 52 = .ok (.goto (-48), 3) := by decide +kernel
theorem dX6_letPapersFall_55 : decode cX6_letPapersFall 55 = .ok (.iload_n 1, 1) := by decide +kernel
theorem dX6_letPapersFall_56 : decode cX6_letPapersFall 56 = .ok (.ireturn, 1) := by decide +kernel
theorem dX6_bitsOf_0 : decode cX6_bitsOf 0 = .ok (.dload_n 0, 1) := by decide +kernel
theorem dX6_bitsOf_1 : decode cX6_bitsOf 1 = .ok (.dconst 0, 1) := by decide +kernel
theorem dX6_bitsOf_2 : decode cX6_bitsOf 2 = .ok (.dcmp .l, 1) := by decide +kernel
theorem dX6_bitsOf_3 : decode cX6_bitsOf 3 = .ok (.ifCond .ne 5, 3) := by decide +kernel
theorem dX6_bitsOf_6 : decode cX6_bitsOf 6 = .ok (.lconst 0, 1) := by decide +kernel
theorem dX6_bitsOf_7 : decode cX6_bitsOf 7 = .ok (.lreturn, 1) := by decide +kernel
theorem dX6_bitsOf_8 : decode cX6_bitsOf 8 = .ok (.dload_n 0, 1) := by decide +kernel
theorem dX6_bitsOf_9 : decode cX6_bitsOf 9 = .ok (.dconst 0, 1) := by decide +kernel
theorem dX6_bitsOf_10 : decode cX6_bitsOf 10 = .ok (.dcmp .g, 1) := by decide +kernel
theorem dX6_bitsOf_11 : decode cX6_bitsOf 11 = .ok (.ifCond .ge 9, 3) := by decide +kernel
theorem dX6_bitsOf_14 : decode cX6_bitsOf 14 = .ok (.ldc2_w 248, 3) := by decide +kernel
theorem dX6_bitsOf_17 : decode cX6_bitsOf 17 = .ok (.goto 4, 3) := by decide +kernel
theorem dX6_bitsOf_20 : decode cX6_bitsOf 20 = .ok (.lconst 0, 1) := by decide +kernel
theorem dX6_bitsOf_21 : decode cX6_bitsOf 21 = .ok (.lstore_n 2, 1) := by decide +kernel
theorem dX6_bitsOf_22 : decode cX6_bitsOf 22 = .ok (.dload_n 0, 1) := by decide +kernel
theorem dX6_bitsOf_23 : decode cX6_bitsOf 23 = .ok (.dconst 0, 1) := by decide +kernel
theorem dX6_bitsOf_24 : decode cX6_bitsOf 24 = .ok (.dcmp .g, 1) := by decide +kernel
theorem dX6_bitsOf_25 : decode cX6_bitsOf 25 = .ok (.ifCond .ge 8, 3) := by decide +kernel
theorem dX6_bitsOf_28 : decode cX6_bitsOf 28 = .ok (.dload_n 0, 1) := by decide +kernel
theorem dX6_bitsOf_29 : decode cX6_bitsOf 29 = .ok (.dneg, 1) := by decide +kernel
theorem dX6_bitsOf_30 : decode cX6_bitsOf 30 = .ok (.goto 4, 3) := by decide +kernel
theorem dX6_bitsOf_33 : decode cX6_bitsOf 33 = .ok (.dload_n 0, 1) := by decide +kernel
theorem dX6_bitsOf_34 : decode cX6_bitsOf 34 = .ok (.dstore 4, 2) := by decide +kernel
theorem dX6_bitsOf_36 : decode cX6_bitsOf 36 = .ok (.ldc2_w 250, 3) := by decide +kernel
theorem dX6_bitsOf_39 : decode cX6_bitsOf 39 = .ok (.lstore 6, 2) := by decide +kernel
theorem dX6_bitsOf_41 : decode cX6_bitsOf 41 = .ok (.iconst 0, 1) := by decide +kernel
theorem dX6_bitsOf_42 : decode cX6_bitsOf 42 = .ok (.istore 8, 2) := by decide +kernel
theorem dX6_bitsOf_44 : decode cX6_bitsOf 44 = .ok (.iload 8, 2) := by decide +kernel
theorem dX6_bitsOf_46 : decode cX6_bitsOf 46 = .ok (.sipush 1023, 3) := by decide +kernel
theorem dX6_bitsOf_49 : decode cX6_bitsOf 49 = .ok (.if_icmp .ge 32, 3) := by decide +kernel
theorem dX6_bitsOf_52 : decode cX6_bitsOf 52 = .ok (.dload 4, 2) := by decide +kernel
theorem dX6_bitsOf_54 : decode cX6_bitsOf 54 = .ok (.ldc2_w 252, 3) := by decide +kernel
theorem dX6_bitsOf_57 : decode cX6_bitsOf 57 = .ok (.dcmp .l, 1) := by decide +kernel
theorem dX6_bitsOf_58 : decode cX6_bitsOf 58 = .ok (.ifCond .lt 23, 3) := by decide +kernel
theorem dX6_bitsOf_61 : decode cX6_bitsOf 61 = .ok (.dload 4, 2) := by decide +kernel
theorem dX6_bitsOf_63 : decode cX6_bitsOf 63 = .ok (.ldc2_w 252, 3) := by decide +kernel
theorem dX6_bitsOf_66 : decode cX6_bitsOf 66 = .ok (.ddiv, 1) := by decide +kernel
theorem dX6_bitsOf_67 : decode cX6_bitsOf 67 = .ok (.dstore 4, 2) := by decide +kernel
theorem dX6_bitsOf_69 : decode cX6_bitsOf 69 = .ok (.lload 6, 2) := by decide +kernel
theorem dX6_bitsOf_71 : decode cX6_bitsOf 71 = .ok (.lconst 1, 1) := by decide +kernel
theorem dX6_bitsOf_72 : decode cX6_bitsOf 72 = .ok (.ladd, 1) := by decide +kernel
theorem dX6_bitsOf_73 : decode cX6_bitsOf 73 = .ok (.lstore 6, 2) := by decide +kernel
theorem dX6_bitsOf_75 : decode cX6_bitsOf 75 = .ok (.iinc 8 1, 3) := by decide +kernel
theorem dX6_bitsOf_78 : decode cX6_bitsOf 78 = .ok (.goto (-34), 3) := by decide +kernel
theorem dX6_bitsOf_81 : decode cX6_bitsOf 81 = .ok (.iconst 0, 1) := by decide +kernel
theorem dX6_bitsOf_82 : decode cX6_bitsOf 82 = .ok (.istore 8, 2) := by decide +kernel
theorem dX6_bitsOf_84 : decode cX6_bitsOf 84 = .ok (.iload 8, 2) := by decide +kernel
theorem dX6_bitsOf_86 : decode cX6_bitsOf 86 = .ok (.sipush 1022, 3) := by decide +kernel
theorem dX6_bitsOf_89 : decode cX6_bitsOf 89 = .ok (.if_icmp .ge 30, 3) := by decide +kernel
theorem dX6_bitsOf_92 : decode cX6_bitsOf 92 = .ok (.dload 4, 2) := by decide +kernel
theorem dX6_bitsOf_94 : decode cX6_bitsOf 94 = .ok (.dconst 1, 1) := by decide +kernel
theorem dX6_bitsOf_95 : decode cX6_bitsOf 95 = .ok (.dcmp .g, 1) := by decide +kernel
theorem dX6_bitsOf_96 : decode cX6_bitsOf 96 = .ok (.ifCond .ge 23, 3) := by decide +kernel
theorem dX6_bitsOf_99 : decode cX6_bitsOf 99 = .ok (.dload 4, 2) := by decide +kernel
theorem dX6_bitsOf_101 : decode cX6_bitsOf 101 = .ok (.ldc2_w 252, 3) := by decide +kernel
theorem dX6_bitsOf_104 : decode cX6_bitsOf 104 = .ok (.dmul, 1) := by decide +kernel
theorem dX6_bitsOf_105 : decode cX6_bitsOf 105 = .ok (.dstore 4, 2) := by decide +kernel
theorem dX6_bitsOf_107 : decode cX6_bitsOf 107 = .ok (.lload 6, 2) := by decide +kernel
theorem dX6_bitsOf_109 : decode cX6_bitsOf 109 = .ok (.lconst 1, 1) := by decide +kernel
theorem dX6_bitsOf_110 : decode cX6_bitsOf 110 = .ok (.lsub, 1) := by decide +kernel
theorem dX6_bitsOf_111 : decode cX6_bitsOf 111 = .ok (.lstore 6, 2) := by decide +kernel
theorem dX6_bitsOf_113 : decode cX6_bitsOf 113 = .ok (.iinc 8 1, 3) := by decide +kernel
theorem dX6_bitsOf_116 : decode cX6_bitsOf 116 = .ok (.goto (-32), 3) := by decide +kernel
theorem dX6_bitsOf_119 : decode cX6_bitsOf 119 = .ok (.dload 4, 2) := by decide +kernel
theorem dX6_bitsOf_121 : decode cX6_bitsOf 121 = .ok (.dconst 1, 1) := by decide +kernel
theorem dX6_bitsOf_122 : decode cX6_bitsOf 122 = .ok (.dsub, 1) := by decide +kernel
theorem dX6_bitsOf_123 : decode cX6_bitsOf 123 = .ok (.ldc2_w 254, 3) := by decide +kernel
theorem dX6_bitsOf_126 : decode cX6_bitsOf 126 = .ok (.dmul, 1) := by decide +kernel
theorem dX6_bitsOf_127 : decode cX6_bitsOf 127 = .ok (.d2l, 1) := by decide +kernel
theorem dX6_bitsOf_128 : decode cX6_bitsOf 128 = .ok (.lstore 8, 2) := by decide +kernel
theorem dX6_bitsOf_130 : decode cX6_bitsOf 130 = .ok (.lload_n 2, 1) := by decide +kernel
theorem dX6_bitsOf_131 : decode cX6_bitsOf 131 = .ok (.lload 6, 2) := by decide +kernel
theorem dX6_bitsOf_133 : decode cX6_bitsOf 133 = .ok (.bipush 52, 2) := by decide +kernel
theorem dX6_bitsOf_135 : decode cX6_bitsOf 135 = .ok (.lshl, 1) := by decide +kernel
theorem dX6_bitsOf_136 : decode cX6_bitsOf 136 = .ok (.lor, 1) := by decide +kernel
theorem dX6_bitsOf_137 : decode cX6_bitsOf 137 = .ok (.lload 8, 2) := by decide +kernel
theorem dX6_bitsOf_139 : decode cX6_bitsOf 139 = .ok (.lor, 1) := by decide +kernel
theorem dX6_bitsOf_140 : decode cX6_bitsOf 140 = .ok (.lreturn, 1) := by decide +kernel
theorem dX7_init_0 : decode cX7_init 0 = .ok (.aload_n 0, 1) := by decide +kernel
theorem dX7_init_1 : decode cX7_init 1 = .ok (.invokespecial 1, 3) := by decide +kernel
theorem dX7_init_4 : decode cX7_init 4 = .ok (.aload_n 0, 1) := by decide +kernel
theorem dX7_init_5 : decode cX7_init 5 = .ok (.bipush 6, 2) := by decide +kernel
theorem dX7_init_7 : decode cX7_init 7 = .ok (.newarray .int, 2) := by decide +kernel
theorem dX7_init_9 : decode cX7_init 9 = .ok (.putfield 7, 3) := by decide +kernel
theorem dX7_init_12 : decode cX7_init 12 = .ok (.aload_n 0, 1) := by decide +kernel
theorem dX7_init_13 : decode cX7_init 13 = .ok (.bipush 6, 2) := by decide +kernel
theorem dX7_init_15 : decode cX7_init 15 = .ok (.newarray .int, 2) := by decide +kernel
theorem dX7_init_17 : decode cX7_init 17 = .ok (.putfield 13, 3) := by decide +kernel
theorem dX7_init_20 : decode cX7_init 20 = .ok (.aload_n 0, 1) := by decide +kernel
theorem dX7_init_21 : decode cX7_init 21 = .ok (.bipush 24, 2) := by decide +kernel
theorem dX7_init_23 : decode cX7_init 23 = .ok (.newarray .int, 2) := by decide +kernel
theorem dX7_init_25 : decode cX7_init 25 = .ok (.putfield 16, 3) := by decide +kernel
theorem dX7_init_28 : decode cX7_init 28 = .ok (.aload_n 0, 1) := by decide +kernel
theorem dX7_init_29 : decode cX7_init 29 = .ok (.bipush 24, 2) := by decide +kernel
theorem dX7_init_31 : decode cX7_init 31 = .ok (.newarray .int, 2) := by decide +kernel
theorem dX7_init_33 : decode cX7_init 33 = .ok (.putfield 19, 3) := by decide +kernel
theorem dX7_init_36 : decode cX7_init 36 = .ok (.aload_n 0, 1) := by decide +kernel
theorem dX7_init_37 : decode cX7_init 37 = .ok (.bipush 24, 2) := by decide +kernel
theorem dX7_init_39 : decode cX7_init 39 = .ok (.newarray .int, 2) := by decide +kernel
theorem dX7_init_41 : decode cX7_init 41 = .ok (.putfield 22, 3) := by decide +kernel
theorem dX7_init_44 : decode cX7_init 44 = .ok (.aload_n 0, 1) := by decide +kernel
theorem dX7_init_45 : decode cX7_init 45 = .ok (.bipush 24, 2) := by decide +kernel
theorem dX7_init_47 : decode cX7_init 47 = .ok (.newarray .int, 2) := by decide +kernel
theorem dX7_init_49 : decode cX7_init 49 = .ok (.putfield 25, 3) := by decide +kernel
theorem dX7_init_52 : decode cX7_init 52 = .ok (.aload_n 0, 1) := by decide +kernel
theorem dX7_init_53 : decode cX7_init 53 = .ok (.bipush 6, 2) := by decide +kernel
theorem dX7_init_55 : decode cX7_init 55 = .ok (.newarray .int, 2) := by decide +kernel
theorem dX7_init_57 : decode cX7_init 57 = .ok (.putfield 28, 3) := by decide +kernel
theorem dX7_init_60 : decode cX7_init 60 = .ok (.aload_n 0, 1) := by decide +kernel
theorem dX7_init_61 : decode cX7_init 61 = .ok (.bipush 6, 2) := by decide +kernel
theorem dX7_init_63 : decode cX7_init 63 = .ok (.newarray .int, 2) := by decide +kernel
theorem dX7_init_65 : decode cX7_init 65 = .ok (.putfield 31, 3) := by decide +kernel
theorem dX7_init_68 : decode cX7_init 68 = .ok (.aload_n 0, 1) := by decide +kernel
theorem dX7_init_69 : decode cX7_init 69 = .ok (.bipush 6, 2) := by decide +kernel
theorem dX7_init_71 : decode cX7_init 71 = .ok (.newarray .int, 2) := by decide +kernel
theorem dX7_init_73 : decode cX7_init 73 = .ok (.putfield 34, 3) := by decide +kernel
theorem dX7_init_76 : decode cX7_init 76 = .ok (.aload_n 0, 1) := by decide +kernel
theorem dX7_init_77 : decode cX7_init 77 = .ok (.sipush 1000, 3) := by decide +kernel
theorem dX7_init_80 : decode cX7_init 80 = .ok (.newarray .boolean, 2) := by decide +kernel
theorem dX7_init_82 : decode cX7_init 82 = .ok (.putfield 37, 3) := by decide +kernel
theorem dX7_init_85 : decode cX7_init 85 = .ok (.aload_n 0, 1) := by decide +kernel
theorem dX7_init_86 : decode cX7_init 86 = .ok (.sipush 6000, 3) := by decide +kernel
theorem dX7_init_89 : decode cX7_init 89 = .ok (.newarray .boolean, 2) := by decide +kernel
theorem dX7_init_91 : decode cX7_init 91 = .ok (.putfield 41, 3) := by decide +kernel
theorem dX7_init_94 : decode cX7_init 94 = .ok (.aload_n 0, 1) := by decide +kernel
theorem dX7_init_95 : decode cX7_init 95 = .ok (.sipush 6000, 3) := by decide +kernel
theorem dX7_init_98 : decode cX7_init 98 = .ok (.newarray .double, 2) := by decide +kernel
theorem dX7_init_100 : decode cX7_init 100 = .ok (.putfield 44, 3) := by decide +kernel
theorem dX7_init_103 : decode cX7_init 103 = .ok (.aload_n 0, 1) := by decide +kernel
theorem dX7_init_104 : decode cX7_init 104 = .ok (.bipush 6, 2) := by decide +kernel
theorem dX7_init_106 : decode cX7_init 106 = .ok (.newarray .int, 2) := by decide +kernel
theorem dX7_init_108 : decode cX7_init 108 = .ok (.putfield 48, 3) := by decide +kernel
theorem dX7_init_111 : decode cX7_init 111 = .ok (.aload_n 0, 1) := by decide +kernel
theorem dX7_init_112 : decode cX7_init 112 = .ok (.bipush 120, 2) := by decide +kernel
theorem dX7_init_114 : decode cX7_init 114 = .ok (.newarray .double, 2) := by decide +kernel
theorem dX7_init_116 : decode cX7_init 116 = .ok (.putfield 51, 3) := by decide +kernel
theorem dX7_init_119 : decode cX7_init 119 = .ok (.aload_n 0, 1) := by decide +kernel
theorem dX7_init_120 : decode cX7_init 120 = .ok (.bipush 120, 2) := by decide +kernel
theorem dX7_init_122 : decode cX7_init 122 = .ok (.newarray .int, 2) := by decide +kernel
theorem dX7_init_124 : decode cX7_init 124 = .ok (.putfield 54, 3) := by decide +kernel
theorem dX7_init_127 : decode cX7_init 127 = .ok (.aload_n 0, 1) := by decide +kernel
theorem dX7_init_128 : decode cX7_init 128 = .ok (.bipush 12, 2) := by decide +kernel
theorem dX7_init_130 : decode cX7_init 130 = .ok (.newarray .int, 2) := by decide +kernel
theorem dX7_init_132 : decode cX7_init 132 = .ok (.putfield 57, 3) := by decide +kernel
theorem dX7_init_135 : decode cX7_init 135 = .ok (.aload_n 0, 1) := by decide +kernel
theorem dX7_init_136 : decode cX7_init 136 = .ok (.bipush 12, 2) := by decide +kernel
theorem dX7_init_138 : decode cX7_init 138 = .ok (.newarray .int, 2) := by decide +kernel
theorem dX7_init_140 : decode cX7_init 140 = .ok (.putfield 60, 3) := by decide +kernel
theorem dX7_init_143 : decode cX7_init 143 = .ok (.aload_n 0, 1) := by decide +kernel
theorem dX7_init_144 : decode cX7_init 144 = .ok (.bipush 12, 2) := by decide +kernel
theorem dX7_init_146 : decode cX7_init 146 = .ok (.newarray .int, 2) := by decide +kernel
theorem dX7_init_148 : decode cX7_init 148 = .ok (.putfield 63, 3) := by decide +kernel
theorem dX7_init_151 : decode cX7_init 151 = .ok (.aload_n 0, 1) := by decide +kernel
theorem dX7_init_152 : decode cX7_init 152 = .ok (.bipush 12, 2) := by decide +kernel
theorem dX7_init_154 : decode cX7_init 154 = .ok (.newarray .boolean, 2) := by decide +kernel
theorem dX7_init_156 : decode cX7_init 156 = .ok (.putfield 66, 3) := by decide +kernel
theorem dX7_init_159 : decode cX7_init 159 = .ok (.aload_n 0, 1) := by decide +kernel
theorem dX7_init_160 : decode cX7_init 160 = .ok (.bipush 30, 2) := by decide +kernel
theorem dX7_init_162 : decode cX7_init 162 = .ok (.newarray .int, 2) := by decide +kernel
theorem dX7_init_164 : decode cX7_init 164 = .ok (.putfield 69, 3) := by decide +kernel
theorem dX7_init_167 : decode cX7_init 167 = .ok (.aload_n 0, 1) := by decide +kernel
theorem dX7_init_168 : decode cX7_init 168 = .ok (.bipush 30, 2) := by decide +kernel
theorem dX7_init_170 : decode cX7_init 170 = .ok (.newarray .int, 2) := by decide +kernel
theorem dX7_init_172 : decode cX7_init 172 = .ok (.putfield 72, 3) := by decide +kernel
theorem dX7_init_175 : decode cX7_init 175 = .ok (.return_, 1) := by decide +kernel
theorem dX7_thrown_0 : decode cX7_thrown 0 = .ok (.aload_n 0, 1) := by decide +kernel
theorem dX7_thrown_1 : decode cX7_thrown 1 = .ok (.getfield 75, 3) := by decide +kernel
theorem dX7_thrown_4 : decode cX7_thrown 4 = .ok (.ireturn, 1) := by decide +kernel
theorem dX7_isIn_0 : decode cX7_isIn 0 = .ok (.iload_n 0, 1) := by decide +kernel
theorem dX7_isIn_1 : decode cX7_isIn 1 = .ok (.iload_n 1, 1) := by decide +kernel
theorem dX7_isIn_2 : decode cX7_isIn 2 = .ok (.if_icmp .lt 12, 3) := by decide +kernel
theorem dX7_isIn_5 : decode cX7_isIn 5 = .ok (.iload_n 0, 1) := by decide +kernel
theorem dX7_isIn_6 : decode cX7_isIn 6 = .ok (.iload_n 2, 1) := by decide +kernel
theorem dX7_isIn_7 : decode cX7_isIn 7 = .ok (.if_icmp .gt 7, 3) := by decide +kernel
theorem dX7_isIn_10 : decode cX7_isIn 10 = .ok (.iconst 1, 1) := by decide +kernel
theorem dX7_isIn_11 : decode cX7_isIn 11 = .ok (.goto 4, 3) := by decide +kernel
theorem dX7_isIn_14 : decode cX7_isIn 14 = .ok (.iconst 0, 1) := by decide +kernel
theorem dX7_isIn_15 : decode cX7_isIn 15 = .ok (.ireturn, 1) := by decide +kernel
theorem dX7_isStar_0 : decode cX7_isStar 0 = .ok (.iload_n 1, 1) := by decide +kernel
theorem dX7_isStar_1 : decode cX7_isStar 1 = .ok (.iconst 0, 1) := by decide +kernel
theorem dX7_isStar_2 : decode cX7_isStar 2 = .ok (.aload_n 0, 1) := by decide +kernel
theorem dX7_isStar_3 : decode cX7_isStar 3 = .ok (.getfield 79, 3) := by decide +kernel
theorem dX7_isStar_6 : decode cX7_isStar 6 = .ok (.iconst 1, 1) := by decide +kernel
theorem dX7_isStar_7 : decode cX7_isStar 7 = .ok (.isub, 1) := by decide +kernel
theorem dX7_isStar_8 : decode cX7_isStar 8 = .ok (.invokestatic 82, 3) := by decide +kernel
theorem dX7_isStar_11 : decode cX7_isStar 11 = .ok (.ireturn, 1) := by decide +kernel
theorem dX7_isHour_0 : decode cX7_isHour 0 = .ok (.iload_n 0, 1) := by decide +kernel
theorem dX7_isHour_1 : decode cX7_isHour 1 = .ok (.iconst 0, 1) := by decide +kernel
theorem dX7_isHour_2 : decode cX7_isHour 2 = .ok (.sipush 999, 3) := by decide +kernel
theorem dX7_isHour_5 : decode cX7_isHour 5 = .ok (.invokestatic 82, 3) := by decide +kernel
theorem dX7_isHour_8 : decode cX7_isHour 8 = .ok (.ireturn, 1) := by decide +kernel
theorem dX7_star_0 : decode cX7_star 0 = .ok (.aload_n 0, 1) := by decide +kernel
theorem dX7_star_1 : decode cX7_star 1 = .ok (.iload_n 1, 1) := by decide +kernel
theorem dX7_star_2 : decode cX7_star 2 = .ok (.sipush 1000, 3) := by decide +kernel
theorem dX7_star_5 : decode cX7_star 5 = .ok (.ldc 86, 2) := by decide +kernel
theorem dX7_star_7 : decode cX7_star 7 = .ok (.invokestatic 82, 3) := by decide +kernel
theorem dX7_star_10 : decode cX7_star 10 = .ok (.ifCond .ne 7, 3) := by decide +kernel
theorem dX7_star_13 : decode cX7_star 13 = .ok (.iconst 1, 1) := by decide +kernel
theorem dX7_star_14 : decode cX7_star 14 = .ok (.goto 17, 3) := by decide +kernel
theorem dX7_star_17 : decode cX7_star 17 = .ok (.aload_n 0, 1) := by decide +kernel
theorem dX7_star_18 : decode cX7_star 18 = .ok (.getfield 79, 3) := by decide +kernel
theorem dX7_star_21 : decode cX7_star 21 = .ok (.bipush 6, 2) := by decide +kernel
theorem dX7_star_23 : decode cX7_star 23 = .ok (.if_icmp .ne 7, 3) := by decide +kernel
theorem dX7_star_26 : decode cX7_star 26 = .ok (.iconst 2, 1) := by decide +kernel
theorem dX7_star_27 : decode cX7_star 27 = .ok (.goto 4, 3) := by decide +kernel
theorem dX7_star_30 : decode cX7_star 30 = .ok (.iconst 0, 1) := by decide +kernel
theorem dX7_star_31 : decode cX7_star 31 = .ok (.putfield 75, 3) := by decide +kernel
theorem dX7_star_34 : decode cX7_star 34 = .ok (.aload_n 0, 1) := by decide +kernel
theorem dX7_star_35 : decode cX7_star 35 = .ok (.getfield 75, 3) := by decide +kernel
theorem dX7_star_38 : decode cX7_star 38 = .ok (.ifCond .le 5, 3) := by decide +kernel
theorem dX7_star_41 : decode cX7_star 41 = .ok (.iconst 0, 1) := by decide +kernel
theorem dX7_star_42 : decode cX7_star 42 = .ok (.ireturn, 1) := by decide +kernel
theorem dX7_star_43 : decode cX7_star 43 = .ok (.aload_n 0, 1) := by decide +kernel
theorem dX7_star_44 : decode cX7_star 44 = .ok (.getfield 7, 3) := by decide +kernel
theorem dX7_star_47 : decode cX7_star 47 = .ok (.aload_n 0, 1) := by decide +kernel
theorem dX7_star_48 : decode cX7_star 48 = .ok (.getfield 79, 3) := by decide +kernel
theorem dX7_star_51 : decode cX7_star 51 = .ok (.iload_n 1, 1) := by decide +kernel
theorem dX7_star_52 : decode cX7_star 52 = .ok (.iastore, 1) := by decide +kernel
theorem dX7_star_53 : decode cX7_star 53 = .ok (.aload_n 0, 1) := by decide +kernel
theorem dX7_star_54 : decode cX7_star 54 = .ok (.dup, 1) := by decide +kernel
theorem dX7_star_55 : decode cX7_star 55 = .ok (.getfield 79, 3) := by decide +kernel
theorem dX7_star_58 : decode cX7_star 58 = .ok (.iconst 1, 1) := by decide +kernel
theorem dX7_star_59 : decode cX7_star 59 = .ok (.iadd, 1) := by decide +kernel
theorem dX7_star_60 : decode cX7_star 60 = .ok (.putfield 79, 3) := by decide +kernel
theorem dX7_star_63 : decode cX7_star 63 = .ok (.aload_n 0, 1) := by decide +kernel
theorem dX7_star_64 : decode cX7_star 64 = .ok (.getfield 79, 3) := by decide +kernel
theorem dX7_star_67 : decode cX7_star 67 = .ok (.iconst 1, 1) := by decide +kernel
theorem dX7_star_68 : decode cX7_star 68 = .ok (.isub, 1) := by decide +kernel
theorem dX7_star_69 : decode cX7_star 69 = .ok (.ireturn, 1) := by decide +kernel
theorem dX7_planet_0 : decode cX7_planet 0 = .ok (.iload_n 2, 1) := by decide +kernel
theorem dX7_planet_1 : decode cX7_planet 1 = .ok (.iconst 2, 1) := by decide +kernel
theorem dX7_planet_2 : decode cX7_planet 2 = .ok (.bipush 60, 2) := by decide +kernel
theorem dX7_planet_4 : decode cX7_planet 4 = .ok (.invokestatic 82, 3) := by decide +kernel
theorem dX7_planet_7 : decode cX7_planet 7 = .ok (.ifCond .eq 46, 3) := by decide +kernel
theorem dX7_planet_10 : decode cX7_planet 10 = .ok (.iload_n 3, 1) := by decide +kernel
theorem dX7_planet_11 : decode cX7_planet 11 = .ok (.iconst 0, 1) := by decide +kernel
theorem dX7_planet_12 : decode cX7_planet 12 = .ok (.iload_n 2, 1) := by decide +kernel
theorem dX7_planet_13 : decode cX7_planet 13 = .ok (.iconst 1, 1) := by decide +kernel
theorem dX7_planet_14 : decode cX7_planet 14 = .ok (.isub, 1) := by decide +kernel
theorem dX7_planet_15 : decode cX7_planet 15 = .ok (.invokestatic 82, 3) := by decide +kernel
theorem dX7_planet_18 : decode cX7_planet 18 = .ok (.ifCond .eq 35, 3) := by decide +kernel
theorem dX7_planet_21 : decode cX7_planet 21 = .ok (.iload 4, 2) := by decide +kernel
theorem dX7_planet_23 : decode cX7_planet 23 = .ok (.iconst 1, 1) := by decide +kernel
theorem dX7_planet_24 : decode cX7_planet 24 = .ok (.iconst 4, 1) := by decide +kernel
theorem dX7_planet_25 : decode cX7_planet 25 = .ok (.invokestatic 82, 3) := by decide +kernel
theorem dX7_planet_28 : decode cX7_planet 28 = .ok (.ifCond .eq 25, 3) := by decide +kernel
theorem dX7_planet_31 : decode cX7_planet 31 = .ok (.iload 4, 2) := by decide +kernel
theorem dX7_planet_33 : decode cX7_planet 33 = .ok (.iload_n 2, 1) := by decide +kernel
theorem dX7_planet_34 : decode cX7_planet 34 = .ok (.if_icmp .ge 19, 3) := by decide +kernel
theorem dX7_planet_37 : decode cX7_planet 37 = .ok (.iload 5, 2) := by decide +kernel
theorem dX7_planet_39 : decode cX7_planet 39 = .ok (.iconst 1, 1) := by decide +kernel
theorem dX7_planet_40 : decode cX7_planet 40 = .ok (.sipush 200, 3) := by decide +kernel
theorem dX7_planet_43 : decode cX7_planet 43 = .ok (.invokestatic 82, 3) := by decide +kernel
theorem dX7_planet_46 : decode cX7_planet 46 = .ok (.ifCond .eq 7, 3) := by decide +kernel
theorem dX7_planet_49 : decode cX7_planet 49 = .ok (.iconst 1, 1) := by decide +kernel
theorem dX7_planet_50 : decode cX7_planet 50 = .ok (.goto 4, 3) := by decide +kernel
theorem dX7_planet_53 : decode cX7_planet 53 = .ok (.iconst 0, 1) := by decide +kernel
theorem dX7_planet_54 : decode cX7_planet 54 = .ok (.istore 6, 2) := by decide +kernel
theorem dX7_planet_56 : decode cX7_planet 56 = .ok (.aload_n 0, 1) := by decide +kernel
theorem dX7_planet_57 : decode cX7_planet 57 = .ok (.aload_n 0, 1) := by decide +kernel
theorem dX7_planet_58 : decode cX7_planet 58 = .ok (.iload_n 1, 1) := by decide +kernel
theorem dX7_planet_59 : decode cX7_planet 59 = .ok (.invokevirtual 87, 3) := by decide +kernel
theorem dX7_planet_62 : decode cX7_planet 62 = .ok (.ifCond .ne 7, 3) := by decide +kernel
theorem dX7_planet_65 : decode cX7_planet 65 = .ok (.iconst 1, 1) := by decide +kernel
theorem dX7_planet_66 : decode cX7_planet 66 = .ok (.goto 27, 3) := by decide +kernel
theorem dX7_planet_69 : decode cX7_planet 69 = .ok (.iload 6, 2) := by decide +kernel
theorem dX7_planet_71 : decode cX7_planet 71 = .ok (.ifCond .ne 7, 3) := by decide +kernel
theorem dX7_planet_74 : decode cX7_planet 74 = .ok (.iconst 2, 1) := by decide +kernel
theorem dX7_planet_75 : decode cX7_planet 75 = .ok (.goto 18, 3) := by decide +kernel
theorem dX7_planet_78 : decode cX7_planet 78 = .ok (.aload_n 0, 1) := by decide +kernel
theorem dX7_planet_79 : decode cX7_planet 79 = .ok (.getfield 13, 3) := by decide +kernel
theorem dX7_planet_82 : decode cX7_planet 82 = .ok (.iload_n 1, 1) := by decide +kernel
theorem dX7_planet_83 : decode cX7_planet 83 = .ok (.iaload, 1) := by decide +kernel
theorem dX7_planet_84 : decode cX7_planet 84 = .ok (.iconst 4, 1) := by decide +kernel
theorem dX7_planet_85 : decode cX7_planet 85 = .ok (.if_icmp .ne 7, 3) := by decide +kernel
theorem dX7_planet_88 : decode cX7_planet 88 = .ok (.iconst 3, 1) := by decide +kernel
theorem dX7_planet_89 : decode cX7_planet 89 = .ok (.goto 4, 3) := by decide +kernel
theorem dX7_planet_92 : decode cX7_planet 92 = .ok (.iconst 0, 1) := by decide +kernel
theorem dX7_planet_93 : decode cX7_planet 93 = .ok (.putfield 75, 3) := by decide +kernel
theorem dX7_planet_96 : decode cX7_planet 96 = .ok (.aload_n 0, 1) := by decide +kernel
theorem dX7_planet_97 : decode cX7_planet 97 = .ok (.getfield 75, 3) := by decide +kernel
theorem dX7_planet_100 : decode cX7_planet 100 = .ok (.ifCond .le 5, 3) := by decide +kernel
theorem dX7_planet_103 : decode cX7_planet 103 = .ok (.iconst 0, 1) := by decide +kernel
theorem dX7_planet_104 : decode cX7_planet 104 = .ok (.ireturn, 1) := by decide +kernel
theorem dX7_planet_105 : decode cX7_planet 105 = .ok (.iconst 4, 1) := by decide +kernel
theorem dX7_planet_106 : decode cX7_planet 106 = .ok (.iload_n 1, 1) := by decide +kernel
theorem dX7_planet_107 : decode cX7_planet 107 = .ok (.imul, 1) := by decide +kernel
theorem dX7_planet_108 : decode cX7_planet 108 = .ok (.aload_n 0, 1) := by decide +kernel
theorem dX7_planet_109 : decode cX7_planet 109 = .ok (.getfield 13, 3) := by decide +kernel
theorem dX7_planet_112 : decode cX7_planet 112 = .ok (.iload_n 1, 1) := by decide +kernel
theorem dX7_planet_113 : decode cX7_planet 113 = .ok (.iaload, 1) := by decide +kernel
theorem dX7_planet_114 : decode cX7_planet 114 = .ok (.iadd, 1) := by decide +kernel
theorem dX7_planet_115 : decode cX7_planet 115 = .ok (.istore 7, 2) := by decide +kernel
theorem dX7_planet_117 : decode cX7_planet 117 = .ok (.aload_n 0, 1) := by decide +kernel
theorem dX7_planet_118 : decode cX7_planet 118 = .ok (.getfield 16, 3) := by decide +kernel
theorem dX7_planet_121 : decode cX7_planet 121 = .ok (.iload 7, 2) := by decide +kernel
theorem dX7_planet_123 : decode cX7_planet 123 = .ok (.iload_n 2, 1) := by decide +kernel
theorem dX7_planet_124 : decode cX7_planet 124 = .ok (.iastore, 1) := by decide +kernel
theorem dX7_planet_125 : decode cX7_planet 125 = .ok (.aload_n 0, 1) := by decide +kernel
theorem dX7_planet_126 : decode cX7_planet 126 = .ok (.getfield 19, 3) := by decide +kernel
theorem dX7_planet_129 : decode cX7_planet 129 = .ok (.iload 7, 2) := by decide +kernel
theorem dX7_planet_131 : decode cX7_planet 131 = .ok (.iload_n 3, 1) := by decide +kernel
theorem dX7_planet_132 : decode cX7_planet 132 = .ok (.iastore, 1) := by decide +kernel
theorem dX7_planet_133 : decode cX7_planet 133 = .ok (.aload_n 0, 1) := by decide +kernel
theorem dX7_planet_134 : decode cX7_planet 134 = .ok (.getfield 22, 3) := by decide +kernel
theorem dX7_planet_137 : decode cX7_planet 137 = .ok (.iload 7, 2) := by decide +kernel
theorem dX7_planet_139 : decode cX7_planet 139 = .ok (.iload 4, 2) := by decide +kernel
theorem dX7_planet_141 : decode cX7_planet 141 = .ok (.iastore, 1) := by decide +kernel
theorem dX7_planet_142 : decode cX7_planet 142 = .ok (.aload_n 0, 1) := by decide +kernel
theorem dX7_planet_143 : decode cX7_planet 143 = .ok (.getfield 25, 3) := by decide +kernel
theorem dX7_planet_146 : decode cX7_planet 146 = .ok (.iload 7, 2) := by decide +kernel
theorem dX7_planet_148 : decode cX7_planet 148 = .ok (.iload 5, 2) := by decide +kernel
theorem dX7_planet_150 : decode cX7_planet 150 = .ok (.iastore, 1) := by decide +kernel
theorem dX7_planet_151 : decode cX7_planet 151 = .ok (.aload_n 0, 1) := by decide +kernel
theorem dX7_planet_152 : decode cX7_planet 152 = .ok (.getfield 13, 3) := by decide +kernel
theorem dX7_planet_155 : decode cX7_planet 155 = .ok (.iload_n 1, 1) := by decide +kernel
theorem dX7_planet_156 : decode cX7_planet 156 = .ok (.dup2, 1) := by decide +kernel
theorem dX7_planet_157 : decode cX7_planet 157 = .ok (.iaload, 1) := by decide +kernel
theorem dX7_planet_158 : decode cX7_planet 158 = .ok (.iconst 1, 1) := by decide +kernel
theorem dX7_planet_159 : decode cX7_planet 159 = .ok (.iadd, 1) := by decide +kernel
theorem dX7_planet_160 : decode cX7_planet 160 = .ok (.iastore, 1) := by decide +kernel
theorem dX7_planet_161 : decode cX7_planet 161 = .ok (.aload_n 0, 1) := by decide +kernel
theorem dX7_planet_162 : decode cX7_planet 162 = .ok (.getfield 13, 3) := by decide +kernel
theorem dX7_planet_165 : decode cX7_planet 165 = .ok (.iload_n 1, 1) := by decide +kernel
theorem dX7_planet_166 : decode cX7_planet 166 = .ok (.iaload, 1) := by decide +kernel
theorem dX7_planet_167 : decode cX7_planet 167 = .ok (.ireturn, 1) := by decide +kernel
theorem dX7_spots_0 : decode cX7_spots 0 = .ok (.aload_n 0, 1) := by decide +kernel
theorem dX7_spots_1 : decode cX7_spots 1 = .ok (.aload_n 0, 1) := by decide +kernel
theorem dX7_spots_2 : decode cX7_spots 2 = .ok (.iload_n 1, 1) := by decide +kernel
theorem dX7_spots_3 : decode cX7_spots 3 = .ok (.invokevirtual 87, 3) := by decide +kernel
theorem dX7_spots_6 : decode cX7_spots 6 = .ok (.ifCond .ne 7, 3) := by decide +kernel
theorem dX7_spots_9 : decode cX7_spots 9 = .ok (.iconst 1, 1) := by decide +kernel
theorem dX7_spots_10 : decode cX7_spots 10 = .ok (.goto 28, 3) := by decide +kernel
theorem dX7_spots_13 : decode cX7_spots 13 = .ok (.iload_n 2, 1) := by decide +kernel
theorem dX7_spots_14 : decode cX7_spots 14 = .ok (.iconst 4, 1) := by decide +kernel
theorem dX7_spots_15 : decode cX7_spots 15 = .ok (.bipush 60, 2) := by decide +kernel
theorem dX7_spots_17 : decode cX7_spots 17 = .ok (.invokestatic 82, 3) := by decide +kernel
theorem dX7_spots_20 : decode cX7_spots 20 = .ok (.ifCond .eq 13, 3) := by decide +kernel
theorem dX7_spots_23 : decode cX7_spots 23 = .ok (.iload_n 3, 1) := by decide +kernel
theorem dX7_spots_24 : decode cX7_spots 24 = .ok (.iconst 0, 1) := by decide +kernel
theorem dX7_spots_25 : decode cX7_spots 25 = .ok (.bipush 100, 2) := by decide +kernel
theorem dX7_spots_27 : decode cX7_spots 27 = .ok (.invokestatic 82, 3) := by decide +kernel
theorem dX7_spots_30 : decode cX7_spots 30 = .ok (.ifCond .ne 7, 3) := by decide +kernel
theorem dX7_spots_33 : decode cX7_spots 33 = .ok (.iconst 2, 1) := by decide +kernel
theorem dX7_spots_34 : decode cX7_spots 34 = .ok (.goto 4, 3) := by decide +kernel
theorem dX7_spots_37 : decode cX7_spots 37 = .ok (.iconst 0, 1) := by decide +kernel
theorem dX7_spots_38 : decode cX7_spots 38 = .ok (.putfield 75, 3) := by decide +kernel
theorem dX7_spots_41 : decode cX7_spots 41 = .ok (.aload_n 0, 1) := by decide +kernel
theorem dX7_spots_42 : decode cX7_spots 42 = .ok (.getfield 75, 3) := by decide +kernel
theorem dX7_spots_45 : decode cX7_spots 45 = .ok (.ifCond .le 5, 3) := by decide +kernel
theorem dX7_spots_48 : decode cX7_spots 48 = .ok (.iconst 0, 1) := by decide +kernel
theorem dX7_spots_49 : decode cX7_spots 49 = .ok (.ireturn, 1) := by decide +kernel
theorem dX7_spots_50 : decode cX7_spots 50 = .ok (.aload_n 0, 1) := by decide +kernel
theorem dX7_spots_51 : decode cX7_spots 51 = .ok (.getfield 31, 3) := by decide +kernel
theorem dX7_spots_54 : decode cX7_spots 54 = .ok (.iload_n 1, 1) := by decide +kernel
theorem dX7_spots_55 : decode cX7_spots 55 = .ok (.iaload, 1) := by decide +kernel
theorem dX7_spots_56 : decode cX7_spots 56 = .ok (.istore 4, 2) := by decide +kernel
theorem dX7_spots_58 : decode cX7_spots 58 = .ok (.aload_n 0, 1) := by decide +kernel
theorem dX7_spots_59 : decode cX7_spots 59 = .ok (.getfield 28, 3) := by decide +kernel
theorem dX7_spots_62 : decode cX7_spots 62 = .ok (.iload_n 1, 1) := by decide +kernel
theorem dX7_spots_63 : decode cX7_spots 63 = .ok (.iload_n 2, 1) := by decide +kernel
theorem dX7_spots_64 : decode cX7_spots 64 = .ok (.iastore, 1) := by decide +kernel
theorem dX7_spots_65 : decode cX7_spots 65 = .ok (.aload_n 0, 1) := by decide +kernel
theorem dX7_spots_66 : decode cX7_spots 66 = .ok (.getfield 31, 3) := by decide +kernel
theorem dX7_spots_69 : decode cX7_spots 69 = .ok (.iload_n 1, 1) := by decide +kernel
theorem dX7_spots_70 : decode cX7_spots 70 = .ok (.iload_n 3, 1) := by decide +kernel
theorem dX7_spots_71 : decode cX7_spots 71 = .ok (.iastore, 1) := by decide +kernel
theorem dX7_spots_72 : decode cX7_spots 72 = .ok (.iload 4, 2) := by decide +kernel
theorem dX7_spots_74 : decode cX7_spots 74 = .ok (.ireturn, 1) := by decide +kernel
theorem dX7_blend_0 : decode cX7_blend 0 = .ok (.aload_n 0, 1) := by decide +kernel
theorem dX7_blend_1 : decode cX7_blend 1 = .ok (.aload_n 0, 1) := by decide +kernel
theorem dX7_blend_2 : decode cX7_blend 2 = .ok (.iload_n 1, 1) := by decide +kernel
theorem dX7_blend_3 : decode cX7_blend 3 = .ok (.invokevirtual 87, 3) := by decide +kernel
theorem dX7_blend_6 : decode cX7_blend 6 = .ok (.ifCond .ne 7, 3) := by decide +kernel
theorem dX7_blend_9 : decode cX7_blend 9 = .ok (.iconst 1, 1) := by decide +kernel
theorem dX7_blend_10 : decode cX7_blend 10 = .ok (.goto 18, 3) := by decide +kernel
theorem dX7_blend_13 : decode cX7_blend 13 = .ok (.iload_n 2, 1) := by decide +kernel
theorem dX7_blend_14 : decode cX7_blend 14 = .ok (.iconst 0, 1) := by decide +kernel
theorem dX7_blend_15 : decode cX7_blend 15 = .ok (.ldc 86, 2) := by decide +kernel
theorem dX7_blend_17 : decode cX7_blend 17 = .ok (.invokestatic 82, 3) := by decide +kernel
theorem dX7_blend_20 : decode cX7_blend 20 = .ok (.ifCond .ne 7, 3) := by decide +kernel
theorem dX7_blend_23 : decode cX7_blend 23 = .ok (.iconst 2, 1) := by decide +kernel
theorem dX7_blend_24 : decode cX7_blend 24 = .ok (.goto 4, 3) := by decide +kernel
theorem dX7_blend_27 : decode cX7_blend 27 = .ok (.iconst 0, 1) := by decide +kernel
theorem dX7_blend_28 : decode cX7_blend 28 = .ok (.putfield 75, 3) := by decide +kernel
theorem dX7_blend_31 : decode cX7_blend 31 = .ok (.aload_n 0, 1) := by decide +kernel
theorem dX7_blend_32 : decode cX7_blend 32 = .ok (.getfield 75, 3) := by decide +kernel
theorem dX7_blend_35 : decode cX7_blend 35 = .ok (.ifCond .le 5, 3) := by decide +kernel
theorem dX7_blend_38 : decode cX7_blend 38 = .ok (.iconst 0, 1) := by decide +kernel
theorem dX7_blend_39 : decode cX7_blend 39 = .ok (.ireturn, 1) := by decide +kernel
theorem dX7_blend_40 : decode cX7_blend 40 = .ok (.aload_n 0, 1) := by decide +kernel
theorem dX7_blend_41 : decode cX7_blend 41 = .ok (.getfield 34, 3) := by decide +kernel
theorem dX7_blend_44 : decode cX7_blend 44 = .ok (.iload_n 1, 1) := by decide +kernel
theorem dX7_blend_45 : decode cX7_blend 45 = .ok (.iaload, 1) := by decide +kernel
theorem dX7_blend_46 : decode cX7_blend 46 = .ok (.istore_n 3, 1) := by decide +kernel
theorem dX7_blend_47 : decode cX7_blend 47 = .ok (.aload_n 0, 1) := by decide +kernel
theorem dX7_blend_48 : decode cX7_blend 48 = .ok (.getfield 34, 3) := by decide +kernel
theorem dX7_blend_51 : decode cX7_blend 51 = .ok (.iload_n 1, 1) := by decide +kernel
theorem dX7_blend_52 : decode cX7_blend 52 = .ok (.iload_n 2, 1) := by decide +kernel
theorem dX7_blend_53 : decode cX7_blend 53 = .ok (.iastore, 1) := by decide +kernel
theorem dX7_blend_54 : decode cX7_blend 54 = .ok (.iload_n 3, 1) := by decide +kernel
theorem dX7_blend_55 : decode cX7_blend 55 = .ok (.ireturn, 1) := by decide +kernel
theorem dX7_remainder_0 : decode cX7_remainder 0 = .ok (.iload_n 0, 1) := by decide +kernel
theorem dX7_remainder_1 : decode cX7_remainder 1 = .ok (.iload_n 1, 1) := by decide +kernel
theorem dX7_remainder_2 : decode cX7_remainder 2 = .ok (.irem, 1) := by decide +kernel
theorem dX7_remainder_3 : decode cX7_remainder 3 = .ok (.istore_n 2, 1) := by decide +kernel
theorem dX7_remainder_4 : decode cX7_remainder 4 = .ok (.iload_n 2, 1) := by decide +kernel
theorem dX7_remainder_5 : decode cX7_remainder 5 = .ok (.ifCond .ge 9, 3) := by decide +kernel
theorem dX7_remainder_8 : decode cX7_remainder 8 = .ok (.iload_n 2, 1) := by decide +kernel
theorem dX7_remainder_9 : decode cX7_remainder 9 = .ok (.iload_n 1, 1) := by decide +kernel
theorem dX7_remainder_10 : decode cX7_remainder 10 = .ok (.iadd, 1) := by decide +kernel
theorem dX7_remainder_11 : decode cX7_remainder 11 = .ok (.goto 4, 3) := by decide +kernel
theorem dX7_remainder_14 : decode cX7_remainder 14 = .ok (.iload_n 2, 1) := by decide +kernel
theorem dX7_remainder_15 : decode cX7_remainder 15 = .ok (.ireturn, 1) := by decide +kernel
theorem dX7_lightOf_0 : decode cX7_lightOf 0 = .ok (.aload_n 0, 1) := by decide +kernel
theorem dX7_lightOf_1 : decode cX7_lightOf 1 = .ok (.getfield 7, 3) := by decide +kernel
theorem dX7_lightOf_4 : decode cX7_lightOf 4 = .ok (.iload_n 1, 1) := by decide +kernel
theorem dX7_lightOf_5 : decode cX7_lightOf 5 = .ok (.iaload, 1) := by decide +kernel
theorem dX7_lightOf_6 : decode cX7_lightOf 6 = .ok (.i2d, 1) := by decide +kernel
theorem dX7_lightOf_7 : decode cX7_lightOf 7 = .ok (.dstore_n 3, 1) := by decide +kernel
theorem dX7_lightOf_8 : decode cX7_lightOf 8 = .ok (.iconst 4, 1) := by decide +kernel
theorem dX7_lightOf_9 : decode cX7_lightOf 9 = .ok (.iload_n 1, 1) := by decide +kernel
theorem dX7_lightOf_10 : decode cX7_lightOf 10 = .ok (.imul, 1) := by decide +kernel
theorem dX7_lightOf_11 : decode cX7_lightOf 11 = .ok (.istore 5, 2) := by decide +kernel
theorem dX7_lightOf_13 : decode cX7_lightOf 13 = .ok (.iload 5, 2) := by decide +kernel
theorem dX7_lightOf_15 : decode cX7_lightOf 15 = .ok (.iconst 4, 1) := by decide +kernel
theorem dX7_lightOf_16 : decode cX7_lightOf 16 = .ok (.iload_n 1, 1) := by decide +kernel
theorem dX7_lightOf_17 : decode cX7_lightOf 17 = .ok (.imul, 1) := by decide +kernel
theorem dX7_lightOf_18 : decode cX7_lightOf 18 = .ok (.aload_n 0, 1) := by decide +kernel
theorem dX7_lightOf_19 : decode cX7_lightOf 19 = .ok (.getfield 13, 3) := by decide +kernel
theorem dX7_lightOf_22 : decode cX7_lightOf 22 = .ok (.iload_n 1, 1) := by decide +kernel
theorem dX7_lightOf_23 : decode cX7_lightOf 23 = .ok (.iaload, 1) := by decide +kernel
theorem dX7_lightOf_24 : decode cX7_lightOf 24 = .ok (.iadd, 1) := by decide +kernel
theorem dX7_lightOf_25 : decode cX7_lightOf 25 = .ok (.if_icmp .ge 57, 3) := by decide +kernel
theorem dX7_lightOf_28 : decode cX7_lightOf 28 = .ok (.iload_n 2, 1) := by decide +kernel
theorem dX7_lightOf_29 : decode cX7_lightOf 29 = .ok (.aload_n 0, 1) := by decide +kernel
theorem dX7_lightOf_30 : decode cX7_lightOf 30 = .ok (.getfield 19, 3) := by decide +kernel
theorem dX7_lightOf_33 : decode cX7_lightOf 33 = .ok (.iload 5, 2) := by decide +kernel
theorem dX7_lightOf_35 : decode cX7_lightOf 35 = .ok (.iaload, 1) := by decide +kernel
theorem dX7_lightOf_36 : decode cX7_lightOf 36 = .ok (.isub, 1) := by decide +kernel
theorem dX7_lightOf_37 : decode cX7_lightOf 37 = .ok (.aload_n 0, 1) := by decide +kernel
theorem dX7_lightOf_38 : decode cX7_lightOf 38 = .ok (.getfield 16, 3) := by decide +kernel
theorem dX7_lightOf_41 : decode cX7_lightOf 41 = .ok (.iload 5, 2) := by decide +kernel
theorem dX7_lightOf_43 : decode cX7_lightOf 43 = .ok (.iaload, 1) := by decide +kernel
theorem dX7_lightOf_44 : decode cX7_lightOf 44 = .ok (.invokestatic 91, 3) := by decide +kernel
theorem dX7_lightOf_47 : decode cX7_lightOf 47 = .ok (.aload_n 0, 1) := by decide +kernel
theorem dX7_lightOf_48 : decode cX7_lightOf 48 = .ok (.getfield 22, 3) := by decide +kernel
theorem dX7_lightOf_51 : decode cX7_lightOf 51 = .ok (.iload 5, 2) := by decide +kernel
theorem dX7_lightOf_53 : decode cX7_lightOf 53 = .ok (.iaload, 1) := by decide +kernel
theorem dX7_lightOf_54 : decode cX7_lightOf 54 = .ok (.if_icmp .ge 22, 3) := by decide +kernel
theorem dX7_lightOf_57 : decode cX7_lightOf 57 = .ok (.dload_n 3, 1) := by decide +kernel
theorem dX7_lightOf_58 : decode cX7_lightOf 58 = .ok (.sipush 1000, 3) := by decide +kernel
theorem dX7_lightOf_61 : decode cX7_lightOf 61 = .ok (.aload_n 0, 1) := by decide +kernel
theorem dX7_lightOf_62 : decode cX7_lightOf 62 = .ok (.getfield 25, 3) := by decide +kernel
theorem dX7_lightOf_65 : decode cX7_lightOf 65 = .ok (.iload 5, 2) := by decide +kernel
theorem dX7_lightOf_67 : decode cX7_lightOf 67 = .ok (.iaload, 1) := by decide +kernel
end
section
theorem dX7_lightOf_68 : decode cX7_lightOf 68 = .ok (.isub, 1) := by decide +kernel
theorem dX7_lightOf_69 : decode cX7_lightOf 69 = .ok (.i2d, 1) := by decide +kernel
theorem dX7_lightOf_70 : decode cX7_lightOf 70 = .ok (.ldc2_w 95, 3) := by decide +kernel
theorem dX7_lightOf_73 : decode cX7_lightOf 73 = .ok (.ddiv, 1) := by decide +kernel
theorem dX7_lightOf_74 : decode cX7_lightOf 74 = .ok (.dmul, 1) := by decide +kernel
theorem dX7_lightOf_75 : decode cX7_lightOf 75 = .ok (.dstore_n 3, 1) := by decide +kernel
theorem dX7_lightOf_76 : decode cX7_lightOf 76 = .ok (.iinc 5 1, 3) := by decide +kernel
theorem dX7_lightOf_79 : decode cX7_lightOf 79 = .ok (.goto (-66), 3) := by decide +kernel
theorem dX7_lightOf_82 : decode cX7_lightOf 82 = .ok (.aload_n 0, 1) := by decide +kernel
theorem dX7_lightOf_83 : decode cX7_lightOf 83 = .ok (.getfield 28, 3) := by decide +kernel
theorem dX7_lightOf_86 : decode cX7_lightOf 86 = .ok (.iload_n 1, 1) := by decide +kernel
theorem dX7_lightOf_87 : decode cX7_lightOf 87 = .ok (.iaload, 1) := by decide +kernel
theorem dX7_lightOf_88 : decode cX7_lightOf 88 = .ok (.ifCond .le 40, 3) := by decide +kernel
theorem dX7_lightOf_91 : decode cX7_lightOf 91 = .ok (.iload_n 2, 1) := by decide +kernel
theorem dX7_lightOf_92 : decode cX7_lightOf 92 = .ok (.aload_n 0, 1) := by decide +kernel
theorem dX7_lightOf_93 : decode cX7_lightOf 93 = .ok (.getfield 28, 3) := by decide +kernel
theorem dX7_lightOf_96 : decode cX7_lightOf 96 = .ok (.iload_n 1, 1) := by decide +kernel
theorem dX7_lightOf_97 : decode cX7_lightOf 97 = .ok (.iaload, 1) := by decide +kernel
theorem dX7_lightOf_98 : decode cX7_lightOf 98 = .ok (.irem, 1) := by decide +kernel
theorem dX7_lightOf_99 : decode cX7_lightOf 99 = .ok (.aload_n 0, 1) := by decide +kernel
theorem dX7_lightOf_100 : decode cX7_lightOf 100 = .ok (.getfield 28, 3) := by decide +kernel
theorem dX7_lightOf_103 : decode cX7_lightOf 103 = .ok (.iload_n 1, 1) := by decide +kernel
theorem dX7_lightOf_104 : decode cX7_lightOf 104 = .ok (.iaload, 1) := by decide +kernel
theorem dX7_lightOf_105 : decode cX7_lightOf 105 = .ok (.iconst 4, 1) := by decide +kernel
theorem dX7_lightOf_106 : decode cX7_lightOf 106 = .ok (.idiv, 1) := by decide +kernel
theorem dX7_lightOf_107 : decode cX7_lightOf 107 = .ok (.if_icmp .ge 21, 3) := by decide +kernel
theorem dX7_lightOf_110 : decode cX7_lightOf 110 = .ok (.dload_n 3, 1) := by decide +kernel
theorem dX7_lightOf_111 : decode cX7_lightOf 111 = .ok (.sipush 1000, 3) := by decide +kernel
theorem dX7_lightOf_114 : decode cX7_lightOf 114 = .ok (.aload_n 0, 1) := by decide +kernel
theorem dX7_lightOf_115 : decode cX7_lightOf 115 = .ok (.getfield 31, 3) := by decide +kernel
theorem dX7_lightOf_118 : decode cX7_lightOf 118 = .ok (.iload_n 1, 1) := by decide +kernel
theorem dX7_lightOf_119 : decode cX7_lightOf 119 = .ok (.iaload, 1) := by decide +kernel
theorem dX7_lightOf_120 : decode cX7_lightOf 120 = .ok (.isub, 1) := by decide +kernel
theorem dX7_lightOf_121 : decode cX7_lightOf 121 = .ok (.i2d, 1) := by decide +kernel
theorem dX7_lightOf_122 : decode cX7_lightOf 122 = .ok (.ldc2_w 95, 3) := by decide +kernel
theorem dX7_lightOf_125 : decode cX7_lightOf 125 = .ok (.ddiv, 1) := by decide +kernel
theorem dX7_lightOf_126 : decode cX7_lightOf 126 = .ok (.dmul, 1) := by decide +kernel
theorem dX7_lightOf_127 : decode cX7_lightOf 127 = .ok (.dstore_n 3, 1) := by decide +kernel
theorem dX7_lightOf_128 : decode cX7_lightOf 128 = .ok (.dload_n 3, 1) := by decide +kernel
theorem dX7_lightOf_129 : decode cX7_lightOf 129 = .ok (.aload_n 0, 1) := by decide +kernel
theorem dX7_lightOf_130 : decode cX7_lightOf 130 = .ok (.getfield 34, 3) := by decide +kernel
theorem dX7_lightOf_133 : decode cX7_lightOf 133 = .ok (.iload_n 1, 1) := by decide +kernel
theorem dX7_lightOf_134 : decode cX7_lightOf 134 = .ok (.iaload, 1) := by decide +kernel
theorem dX7_lightOf_135 : decode cX7_lightOf 135 = .ok (.i2d, 1) := by decide +kernel
theorem dX7_lightOf_136 : decode cX7_lightOf 136 = .ok (.dadd, 1) := by decide +kernel
theorem dX7_lightOf_137 : decode cX7_lightOf 137 = .ok (.dreturn, 1) := by decide +kernel
theorem dX7_light_0 : decode cX7_light 0 = .ok (.aload_n 0, 1) := by decide +kernel
theorem dX7_light_1 : decode cX7_light 1 = .ok (.aload_n 0, 1) := by decide +kernel
theorem dX7_light_2 : decode cX7_light 2 = .ok (.iload_n 1, 1) := by decide +kernel
theorem dX7_light_3 : decode cX7_light 3 = .ok (.invokevirtual 87, 3) := by decide +kernel
theorem dX7_light_6 : decode cX7_light 6 = .ok (.ifCond .eq 14, 3) := by decide +kernel
theorem dX7_light_9 : decode cX7_light 9 = .ok (.iload_n 2, 1) := by decide +kernel
theorem dX7_light_10 : decode cX7_light 10 = .ok (.invokestatic 97, 3) := by decide +kernel
theorem dX7_light_13 : decode cX7_light 13 = .ok (.ifCond .eq 7, 3) := by decide +kernel
theorem dX7_light_16 : decode cX7_light 16 = .ok (.iconst 0, 1) := by decide +kernel
theorem dX7_light_17 : decode cX7_light 17 = .ok (.goto 4, 3) := by decide +kernel
theorem dX7_light_20 : decode cX7_light 20 = .ok (.iconst 1, 1) := by decide +kernel
theorem dX7_light_21 : decode cX7_light 21 = .ok (.putfield 75, 3) := by decide +kernel
theorem dX7_light_24 : decode cX7_light 24 = .ok (.aload_n 0, 1) := by decide +kernel
theorem dX7_light_25 : decode cX7_light 25 = .ok (.getfield 75, 3) := by decide +kernel
theorem dX7_light_28 : decode cX7_light 28 = .ok (.ifCond .le 7, 3) := by decide +kernel
theorem dX7_light_31 : decode cX7_light 31 = .ok (.lconst 0, 1) := by decide +kernel
theorem dX7_light_32 : decode cX7_light 32 = .ok (.goto 12, 3) := by decide +kernel
theorem dX7_light_35 : decode cX7_light 35 = .ok (.aload_n 0, 1) := by decide +kernel
theorem dX7_light_36 : decode cX7_light 36 = .ok (.iload_n 1, 1) := by decide +kernel
theorem dX7_light_37 : decode cX7_light 37 = .ok (.iload_n 2, 1) := by decide +kernel
theorem dX7_light_38 : decode cX7_light 38 = .ok (.invokevirtual 100, 3) := by decide +kernel
theorem dX7_light_41 : decode cX7_light 41 = .ok (.invokestatic 104, 3) := by decide +kernel
theorem dX7_light_44 : decode cX7_light 44 = .ok (.lreturn, 1) := by decide +kernel
theorem dX7_cloud_0 : decode cX7_cloud 0 = .ok (.aload_n 0, 1) := by decide +kernel
theorem dX7_cloud_1 : decode cX7_cloud 1 = .ok (.iload_n 1, 1) := by decide +kernel
theorem dX7_cloud_2 : decode cX7_cloud 2 = .ok (.invokestatic 97, 3) := by decide +kernel
theorem dX7_cloud_5 : decode cX7_cloud 5 = .ok (.ifCond .eq 10, 3) := by decide +kernel
theorem dX7_cloud_8 : decode cX7_cloud 8 = .ok (.iload_n 2, 1) := by decide +kernel
theorem dX7_cloud_9 : decode cX7_cloud 9 = .ok (.invokestatic 97, 3) := by decide +kernel
theorem dX7_cloud_12 : decode cX7_cloud 12 = .ok (.ifCond .ne 7, 3) := by decide +kernel
theorem dX7_cloud_15 : decode cX7_cloud 15 = .ok (.iconst 1, 1) := by decide +kernel
theorem dX7_cloud_16 : decode cX7_cloud 16 = .ok (.goto 13, 3) := by decide +kernel
theorem dX7_cloud_19 : decode cX7_cloud 19 = .ok (.iload_n 2, 1) := by decide +kernel
theorem dX7_cloud_20 : decode cX7_cloud 20 = .ok (.iload_n 1, 1) := by decide +kernel
theorem dX7_cloud_21 : decode cX7_cloud 21 = .ok (.if_icmp .ge 7, 3) := by decide +kernel
theorem dX7_cloud_24 : decode cX7_cloud 24 = .ok (.iconst 2, 1) := by decide +kernel
theorem dX7_cloud_25 : decode cX7_cloud 25 = .ok (.goto 4, 3) := by decide +kernel
theorem dX7_cloud_28 : decode cX7_cloud 28 = .ok (.iconst 0, 1) := by decide +kernel
theorem dX7_cloud_29 : decode cX7_cloud 29 = .ok (.putfield 75, 3) := by decide +kernel
theorem dX7_cloud_32 : decode cX7_cloud 32 = .ok (.aload_n 0, 1) := by decide +kernel
theorem dX7_cloud_33 : decode cX7_cloud 33 = .ok (.getfield 75, 3) := by decide +kernel
theorem dX7_cloud_36 : decode cX7_cloud 36 = .ok (.ifCond .le 5, 3) := by decide +kernel
theorem dX7_cloud_39 : decode cX7_cloud 39 = .ok (.iconst 0, 1) := by decide +kernel
theorem dX7_cloud_40 : decode cX7_cloud 40 = .ok (.ireturn, 1) := by decide +kernel
theorem dX7_cloud_41 : decode cX7_cloud 41 = .ok (.iconst 0, 1) := by decide +kernel
theorem dX7_cloud_42 : decode cX7_cloud 42 = .ok (.istore_n 3, 1) := by decide +kernel
theorem dX7_cloud_43 : decode cX7_cloud 43 = .ok (.iconst 0, 1) := by decide +kernel
theorem dX7_cloud_44 : decode cX7_cloud 44 = .ok (.istore 4, 2) := by decide +kernel
theorem dX7_cloud_46 : decode cX7_cloud 46 = .ok (.iload 4, 2) := by decide +kernel
theorem dX7_cloud_48 : decode cX7_cloud 48 = .ok (.sipush 1000, 3) := by decide +kernel
theorem dX7_cloud_51 : decode cX7_cloud 51 = .ok (.if_icmp .ge 59, 3) := by decide +kernel
theorem dX7_cloud_54 : decode cX7_cloud 54 = .ok (.aload_n 0, 1) := by decide +kernel
theorem dX7_cloud_55 : decode cX7_cloud 55 = .ok (.getfield 37, 3) := by decide +kernel
theorem dX7_cloud_58 : decode cX7_cloud 58 = .ok (.iload 4, 2) := by decide +kernel
theorem dX7_cloud_60 : decode cX7_cloud 60 = .ok (.aload_n 0, 1) := by decide +kernel
theorem dX7_cloud_61 : decode cX7_cloud 61 = .ok (.getfield 37, 3) := by decide +kernel
theorem dX7_cloud_64 : decode cX7_cloud 64 = .ok (.iload 4, 2) := by decide +kernel
theorem dX7_cloud_66 : decode cX7_cloud 66 = .ok (.baload, 1) := by decide +kernel
theorem dX7_cloud_67 : decode cX7_cloud 67 = .ok (.ifCond .ne 13, 3) := by decide +kernel
theorem dX7_cloud_70 : decode cX7_cloud 70 = .ok (.iload 4, 2) := by decide +kernel
theorem dX7_cloud_72 : decode cX7_cloud 72 = .ok (.iload_n 1, 1) := by decide +kernel
theorem dX7_cloud_73 : decode cX7_cloud 73 = .ok (.iload_n 2, 1) := by decide +kernel
theorem dX7_cloud_74 : decode cX7_cloud 74 = .ok (.invokestatic 82, 3) := by decide +kernel
theorem dX7_cloud_77 : decode cX7_cloud 77 = .ok (.ifCond .eq 7, 3) := by decide +kernel
theorem dX7_cloud_80 : decode cX7_cloud 80 = .ok (.iconst 1, 1) := by decide +kernel
theorem dX7_cloud_81 : decode cX7_cloud 81 = .ok (.goto 4, 3) := by decide +kernel
theorem dX7_cloud_84 : decode cX7_cloud 84 = .ok (.iconst 0, 1) := by decide +kernel
theorem dX7_cloud_85 : decode cX7_cloud 85 = .ok (.bastore, 1) := by decide +kernel
theorem dX7_cloud_86 : decode cX7_cloud 86 = .ok (.iload_n 3, 1) := by decide +kernel
theorem dX7_cloud_87 : decode cX7_cloud 87 = .ok (.aload_n 0, 1) := by decide +kernel
theorem dX7_cloud_88 : decode cX7_cloud 88 = .ok (.getfield 37, 3) := by decide +kernel
theorem dX7_cloud_91 : decode cX7_cloud 91 = .ok (.iload 4, 2) := by decide +kernel
theorem dX7_cloud_93 : decode cX7_cloud 93 = .ok (.baload, 1) := by decide +kernel
theorem dX7_cloud_94 : decode cX7_cloud 94 = .ok (.ifCond .eq 7, 3) := by decide +kernel
theorem dX7_cloud_97 : decode cX7_cloud 97 = .ok (.iconst 1, 1) := by decide +kernel
theorem dX7_cloud_98 : decode cX7_cloud 98 = .ok (.goto 4, 3) := by decide +kernel
theorem dX7_cloud_101 : decode cX7_cloud 101 = .ok (.iconst 0, 1) := by decide +kernel
theorem dX7_cloud_102 : decode cX7_cloud 102 = .ok (.iadd, 1) := by decide +kernel
theorem dX7_cloud_103 : decode cX7_cloud 103 = .ok (.istore_n 3, 1) := by decide +kernel
theorem dX7_cloud_104 : decode cX7_cloud 104 = .ok (.iinc 4 1, 3) := by decide +kernel
theorem dX7_cloud_107 : decode cX7_cloud 107 = .ok (.goto (-61), 3) := by decide +kernel
theorem dX7_cloud_110 : decode cX7_cloud 110 = .ok (.iload_n 3, 1) := by decide +kernel
theorem dX7_cloud_111 : decode cX7_cloud 111 = .ok (.ireturn, 1) := by decide +kernel
theorem dX7_observe_0 : decode cX7_observe 0 = .ok (.aload_n 0, 1) := by decide +kernel
theorem dX7_observe_1 : decode cX7_observe 1 = .ok (.iload_n 1, 1) := by decide +kernel
theorem dX7_observe_2 : decode cX7_observe 2 = .ok (.invokevirtual 87, 3) := by decide +kernel
theorem dX7_observe_5 : decode cX7_observe 5 = .ok (.ifCond .eq 21, 3) := by decide +kernel
theorem dX7_observe_8 : decode cX7_observe 8 = .ok (.iload_n 2, 1) := by decide +kernel
theorem dX7_observe_9 : decode cX7_observe 9 = .ok (.invokestatic 97, 3) := by decide +kernel
theorem dX7_observe_12 : decode cX7_observe 12 = .ok (.ifCond .eq 14, 3) := by decide +kernel
theorem dX7_observe_15 : decode cX7_observe 15 = .ok (.iload_n 3, 1) := by decide +kernel
theorem dX7_observe_16 : decode cX7_observe 16 = .ok (.invokestatic 97, 3) := by decide +kernel
theorem dX7_observe_19 : decode cX7_observe 19 = .ok (.ifCond .eq 7, 3) := by decide +kernel
theorem dX7_observe_22 : decode cX7_observe 22 = .ok (.iconst 1, 1) := by decide +kernel
theorem dX7_observe_23 : decode cX7_observe 23 = .ok (.goto 4, 3) := by decide +kernel
theorem dX7_observe_26 : decode cX7_observe 26 = .ok (.iconst 0, 1) := by decide +kernel
theorem dX7_observe_27 : decode cX7_observe 27 = .ok (.istore 4, 2) := by decide +kernel
theorem dX7_observe_29 : decode cX7_observe 29 = .ok (.aload_n 0, 1) := by decide +kernel
theorem dX7_observe_30 : decode cX7_observe 30 = .ok (.iload 4, 2) := by decide +kernel
theorem dX7_observe_32 : decode cX7_observe 32 = .ok (.ifCond .ne 7, 3) := by decide +kernel
theorem dX7_observe_35 : decode cX7_observe 35 = .ok (.iconst 1, 1) := by decide +kernel
theorem dX7_observe_36 : decode cX7_observe 36 = .ok (.goto 13, 3) := by decide +kernel
theorem dX7_observe_39 : decode cX7_observe 39 = .ok (.iload_n 3, 1) := by decide +kernel
theorem dX7_observe_40 : decode cX7_observe 40 = .ok (.iload_n 2, 1) := by decide +kernel
theorem dX7_observe_41 : decode cX7_observe 41 = .ok (.if_icmp .ge 7, 3) := by decide +kernel
theorem dX7_observe_44 : decode cX7_observe 44 = .ok (.iconst 2, 1) := by decide +kernel
theorem dX7_observe_45 : decode cX7_observe 45 = .ok (.goto 4, 3) := by decide +kernel
theorem dX7_observe_48 : decode cX7_observe 48 = .ok (.iconst 0, 1) := by decide +kernel
theorem dX7_observe_49 : decode cX7_observe 49 = .ok (.putfield 75, 3) := by decide +kernel
theorem dX7_observe_52 : decode cX7_observe 52 = .ok (.iconst 0, 1) := by decide +kernel
theorem dX7_observe_53 : decode cX7_observe 53 = .ok (.istore 5, 2) := by decide +kernel
theorem dX7_observe_55 : decode cX7_observe 55 = .ok (.iload_n 2, 1) := by decide +kernel
theorem dX7_observe_56 : decode cX7_observe 56 = .ok (.istore 6, 2) := by decide +kernel
theorem dX7_observe_58 : decode cX7_observe 58 = .ok (.iload 6, 2) := by decide +kernel
theorem dX7_observe_60 : decode cX7_observe 60 = .ok (.iload_n 3, 1) := by decide +kernel
theorem dX7_observe_61 : decode cX7_observe 61 = .ok (.if_icmp .gt 89, 3) := by decide +kernel
theorem dX7_observe_64 : decode cX7_observe 64 = .ok (.aload_n 0, 1) := by decide +kernel
theorem dX7_observe_65 : decode cX7_observe 65 = .ok (.getfield 75, 3) := by decide +kernel
theorem dX7_observe_68 : decode cX7_observe 68 = .ok (.ifCond .ne 82, 3) := by decide +kernel
theorem dX7_observe_71 : decode cX7_observe 71 = .ok (.aload_n 0, 1) := by decide +kernel
theorem dX7_observe_72 : decode cX7_observe 72 = .ok (.getfield 37, 3) := by decide +kernel
theorem dX7_observe_75 : decode cX7_observe 75 = .ok (.iload 6, 2) := by decide +kernel
theorem dX7_observe_77 : decode cX7_observe 77 = .ok (.baload, 1) := by decide +kernel
theorem dX7_observe_78 : decode cX7_observe 78 = .ok (.ifCond .ne 66, 3) := by decide +kernel
theorem dX7_observe_81 : decode cX7_observe 81 = .ok (.aload_n 0, 1) := by decide +kernel
theorem dX7_observe_82 : decode cX7_observe 82 = .ok (.getfield 41, 3) := by decide +kernel
theorem dX7_observe_85 : decode cX7_observe 85 = .ok (.sipush 1000, 3) := by decide +kernel
theorem dX7_observe_88 : decode cX7_observe 88 = .ok (.iload_n 1, 1) := by decide +kernel
theorem dX7_observe_89 : decode cX7_observe 89 = .ok (.imul, 1) := by decide +kernel
theorem dX7_observe_90 : decode cX7_observe 90 = .ok (.iload 6, 2) := by decide +kernel
theorem dX7_observe_92 : decode cX7_observe 92 = .ok (.iadd, 1) := by decide +kernel
theorem dX7_observe_93 : decode cX7_observe 93 = .ok (.baload, 1) := by decide +kernel
theorem dX7_observe_94 : decode cX7_observe 94 = .ok (.ifCond .ne 50, 3) := by decide +kernel
theorem dX7_observe_97 : decode cX7_observe 97 = .ok (.aload_n 0, 1) := by decide +kernel
theorem dX7_observe_98 : decode cX7_observe 98 = .ok (.getfield 41, 3) := by decide +kernel
theorem dX7_observe_101 : decode cX7_observe 101 = .ok (.sipush 1000, 3) := by decide +kernel
theorem dX7_observe_104 : decode cX7_observe 104 = .ok (.iload_n 1, 1) := by decide +kernel
theorem dX7_observe_105 : decode cX7_observe 105 = .ok (.imul, 1) := by decide +kernel
theorem dX7_observe_106 : decode cX7_observe 106 = .ok (.iload 6, 2) := by decide +kernel
theorem dX7_observe_108 : decode cX7_observe 108 = .ok (.iadd, 1) := by decide +kernel
theorem dX7_observe_109 : decode cX7_observe 109 = .ok (.iconst 1, 1) := by decide +kernel
theorem dX7_observe_110 : decode cX7_observe 110 = .ok (.bastore, 1) := by decide +kernel
theorem dX7_observe_111 : decode cX7_observe 111 = .ok (.aload_n 0, 1) := by decide +kernel
theorem dX7_observe_112 : decode cX7_observe 112 = .ok (.getfield 44, 3) := by decide +kernel
theorem dX7_observe_115 : decode cX7_observe 115 = .ok (.sipush 1000, 3) := by decide +kernel
theorem dX7_observe_118 : decode cX7_observe 118 = .ok (.iload_n 1, 1) := by decide +kernel
theorem dX7_observe_119 : decode cX7_observe 119 = .ok (.imul, 1) := by decide +kernel
theorem dX7_observe_120 : decode cX7_observe 120 = .ok (.iload 6, 2) := by decide +kernel
theorem dX7_observe_122 : decode cX7_observe 122 = .ok (.iadd, 1) := by decide +kernel
theorem dX7_observe_123 : decode cX7_observe 123 = .ok (.aload_n 0, 1) := by decide +kernel
theorem dX7_observe_124 : decode cX7_observe 124 = .ok (.iload_n 1, 1) := by decide +kernel
theorem dX7_observe_125 : decode cX7_observe 125 = .ok (.iload 6, 2) := by decide +kernel
theorem dX7_observe_127 : decode cX7_observe 127 = .ok (.invokevirtual 100, 3) := by decide +kernel
theorem dX7_observe_130 : decode cX7_observe 130 = .ok (.dastore, 1) := by decide +kernel
theorem dX7_observe_131 : decode cX7_observe 131 = .ok (.aload_n 0, 1) := by decide +kernel
theorem dX7_observe_132 : decode cX7_observe 132 = .ok (.getfield 48, 3) := by decide +kernel
theorem dX7_observe_135 : decode cX7_observe 135 = .ok (.iload_n 1, 1) := by decide +kernel
theorem dX7_observe_136 : decode cX7_observe 136 = .ok (.dup2, 1) := by decide +kernel
theorem dX7_observe_137 : decode cX7_observe 137 = .ok (.iaload, 1) := by decide +kernel
theorem dX7_observe_138 : decode cX7_observe 138 = .ok (.iconst 1, 1) := by decide +kernel
theorem dX7_observe_139 : decode cX7_observe 139 = .ok (.iadd, 1) := by decide +kernel
theorem dX7_observe_140 : decode cX7_observe 140 = .ok (.iastore, 1) := by decide +kernel
theorem dX7_observe_141 : decode cX7_observe 141 = .ok (.iinc 5 1, 3) := by decide +kernel
theorem dX7_observe_144 : decode cX7_observe 144 = .ok (.iinc 6 1, 3) := by decide +kernel
theorem dX7_observe_147 : decode cX7_observe 147 = .ok (.goto (-89), 3) := by decide +kernel
theorem dX7_observe_150 : decode cX7_observe 150 = .ok (.iload 5, 2) := by decide +kernel
theorem dX7_observe_152 : decode cX7_observe 152 = .ok (.ireturn, 1) := by decide +kernel
theorem dX7_kept_0 : decode cX7_kept 0 = .ok (.aload_n 0, 1) := by decide +kernel
theorem dX7_kept_1 : decode cX7_kept 1 = .ok (.aload_n 0, 1) := by decide +kernel
theorem dX7_kept_2 : decode cX7_kept 2 = .ok (.iload_n 1, 1) := by decide +kernel
theorem dX7_kept_3 : decode cX7_kept 3 = .ok (.invokevirtual 87, 3) := by decide +kernel
theorem dX7_kept_6 : decode cX7_kept 6 = .ok (.ifCond .eq 14, 3) := by decide +kernel
theorem dX7_kept_9 : decode cX7_kept 9 = .ok (.iload_n 2, 1) := by decide +kernel
theorem dX7_kept_10 : decode cX7_kept 10 = .ok (.invokestatic 97, 3) := by decide +kernel
theorem dX7_kept_13 : decode cX7_kept 13 = .ok (.ifCond .eq 7, 3) := by decide +kernel
theorem dX7_kept_16 : decode cX7_kept 16 = .ok (.iconst 0, 1) := by decide +kernel
theorem dX7_kept_17 : decode cX7_kept 17 = .ok (.goto 4, 3) := by decide +kernel
theorem dX7_kept_20 : decode cX7_kept 20 = .ok (.iconst 1, 1) := by decide +kernel
theorem dX7_kept_21 : decode cX7_kept 21 = .ok (.putfield 75, 3) := by decide +kernel
theorem dX7_kept_24 : decode cX7_kept 24 = .ok (.aload_n 0, 1) := by decide +kernel
theorem dX7_kept_25 : decode cX7_kept 25 = .ok (.getfield 75, 3) := by decide +kernel
theorem dX7_kept_28 : decode cX7_kept 28 = .ok (.ifCond .le 5, 3) := by decide +kernel
theorem dX7_kept_31 : decode cX7_kept 31 = .ok (.lconst 0, 1) := by decide +kernel
theorem dX7_kept_32 : decode cX7_kept 32 = .ok (.lreturn, 1) := by decide +kernel
theorem dX7_kept_33 : decode cX7_kept 33 = .ok (.aload_n 0, 1) := by decide +kernel
theorem dX7_kept_34 : decode cX7_kept 34 = .ok (.getfield 41, 3) := by decide +kernel
theorem dX7_kept_37 : decode cX7_kept 37 = .ok (.sipush 1000, 3) := by decide +kernel
theorem dX7_kept_40 : decode cX7_kept 40 = .ok (.iload_n 1, 1) := by decide +kernel
theorem dX7_kept_41 : decode cX7_kept 41 = .ok (.imul, 1) := by decide +kernel
theorem dX7_kept_42 : decode cX7_kept 42 = .ok (.iload_n 2, 1) := by decide +kernel
theorem dX7_kept_43 : decode cX7_kept 43 = .ok (.iadd, 1) := by decide +kernel
theorem dX7_kept_44 : decode cX7_kept 44 = .ok (.baload, 1) := by decide +kernel
theorem dX7_kept_45 : decode cX7_kept 45 = .ok (.ifCond .eq 21, 3) := by decide +kernel
theorem dX7_kept_48 : decode cX7_kept 48 = .ok (.aload_n 0, 1) := by decide +kernel
theorem dX7_kept_49 : decode cX7_kept 49 = .ok (.getfield 44, 3) := by decide +kernel
theorem dX7_kept_52 : decode cX7_kept 52 = .ok (.sipush 1000, 3) := by decide +kernel
theorem dX7_kept_55 : decode cX7_kept 55 = .ok (.iload_n 1, 1) := by decide +kernel
theorem dX7_kept_56 : decode cX7_kept 56 = .ok (.imul, 1) := by decide +kernel
theorem dX7_kept_57 : decode cX7_kept 57 = .ok (.iload_n 2, 1) := by decide +kernel
theorem dX7_kept_58 : decode cX7_kept 58 = .ok (.iadd, 1) := by decide +kernel
theorem dX7_kept_59 : decode cX7_kept 59 = .ok (.daload, 1) := by decide +kernel
theorem dX7_kept_60 : decode cX7_kept 60 = .ok (.invokestatic 104, 3) := by decide +kernel
theorem dX7_kept_63 : decode cX7_kept 63 = .ok (.goto 6, 3) := by decide +kernel
theorem dX7_kept_66 : decode cX7_kept 66 = .ok (.ldc2_w 110, 3) := by decide +kernel
theorem dX7_kept_69 : decode cX7_kept 69 = .ok (.lreturn, 1) := by decide +kernel
theorem dX7_meanOf_0 : decode cX7_meanOf 0 = .ok (.dconst 0, 1) := by decide +kernel
theorem dX7_meanOf_1 : decode cX7_meanOf 1 = .ok (.dstore_n 2, 1) := by decide +kernel
theorem dX7_meanOf_2 : decode cX7_meanOf 2 = .ok (.iconst 0, 1) := by decide +kernel
theorem dX7_meanOf_3 : decode cX7_meanOf 3 = .ok (.istore 4, 2) := by decide +kernel
theorem dX7_meanOf_5 : decode cX7_meanOf 5 = .ok (.iload 4, 2) := by decide +kernel
theorem dX7_meanOf_7 : decode cX7_meanOf 7 = .ok (.sipush 1000, 3) := by decide +kernel
theorem dX7_meanOf_10 : decode cX7_meanOf 10 = .ok (.if_icmp .ge 45, 3) := by decide +kernel
theorem dX7_meanOf_13 : decode cX7_meanOf 13 = .ok (.dload_n 2, 1) := by decide +kernel
theorem dX7_meanOf_14 : decode cX7_meanOf 14 = .ok (.aload_n 0, 1) := by decide +kernel
theorem dX7_meanOf_15 : decode cX7_meanOf 15 = .ok (.getfield 41, 3) := by decide +kernel
theorem dX7_meanOf_18 : decode cX7_meanOf 18 = .ok (.sipush 1000, 3) := by decide +kernel
theorem dX7_meanOf_21 : decode cX7_meanOf 21 = .ok (.iload_n 1, 1) := by decide +kernel
theorem dX7_meanOf_22 : decode cX7_meanOf 22 = .ok (.imul, 1) := by decide +kernel
theorem dX7_meanOf_23 : decode cX7_meanOf 23 = .ok (.iload 4, 2) := by decide +kernel
theorem dX7_meanOf_25 : decode cX7_meanOf 25 = .ok (.iadd, 1) := by decide +kernel
theorem dX7_meanOf_26 : decode cX7_meanOf 26 = .ok (.baload, 1) := by decide +kernel
theorem dX7_meanOf_27 : decode cX7_meanOf 27 = .ok (.ifCond .eq 19, 3) := by decide +kernel
theorem dX7_meanOf_30 : decode cX7_meanOf 30 = .ok (.aload_n 0, 1) := by decide +kernel
theorem dX7_meanOf_31 : decode cX7_meanOf 31 = .ok (.getfield 44, 3) := by decide +kernel
theorem dX7_meanOf_34 : decode cX7_meanOf 34 = .ok (.sipush 1000, 3) := by decide +kernel
theorem dX7_meanOf_37 : decode cX7_meanOf 37 = .ok (.iload_n 1, 1) := by decide +kernel
theorem dX7_meanOf_38 : decode cX7_meanOf 38 = .ok (.imul, 1) := by decide +kernel
theorem dX7_meanOf_39 : decode cX7_meanOf 39 = .ok (.iload 4, 2) := by decide +kernel
theorem dX7_meanOf_41 : decode cX7_meanOf 41 = .ok (.iadd, 1) := by decide +kernel
theorem dX7_meanOf_42 : decode cX7_meanOf 42 = .ok (.daload, 1) := by decide +kernel
theorem dX7_meanOf_43 : decode cX7_meanOf 43 = .ok (.goto 4, 3) := by decide +kernel
theorem dX7_meanOf_46 : decode cX7_meanOf 46 = .ok (.dconst 0, 1) := by decide +kernel
theorem dX7_meanOf_47 : decode cX7_meanOf 47 = .ok (.dadd, 1) := by decide +kernel
theorem dX7_meanOf_48 : decode cX7_meanOf 48 = .ok (.dstore_n 2, 1) := by decide +kernel
theorem dX7_meanOf_49 : decode cX7_meanOf 49 = .ok (.iinc 4 1, 3) := by decide +kernel
theorem dX7_meanOf_52 : decode cX7_meanOf 52 = .ok (.goto (-47), 3) := by decide +kernel
theorem dX7_meanOf_55 : decode cX7_meanOf 55 = .ok (.dload_n 2, 1) := by decide +kernel
theorem dX7_meanOf_56 : decode cX7_meanOf 56 = .ok (.aload_n 0, 1) := by decide +kernel
theorem dX7_meanOf_57 : decode cX7_meanOf 57 = .ok (.getfield 48, 3) := by decide +kernel
theorem dX7_meanOf_60 : decode cX7_meanOf 60 = .ok (.iload_n 1, 1) := by decide +kernel
theorem dX7_meanOf_61 : decode cX7_meanOf 61 = .ok (.iaload, 1) := by decide +kernel
theorem dX7_meanOf_62 : decode cX7_meanOf 62 = .ok (.i2d, 1) := by decide +kernel
theorem dX7_meanOf_63 : decode cX7_meanOf 63 = .ok (.ddiv, 1) := by decide +kernel
theorem dX7_meanOf_64 : decode cX7_meanOf 64 = .ok (.dreturn, 1) := by decide +kernel
theorem dX7_folds_0 : decode cX7_folds 0 = .ok (.iconst 0, 1) := by decide +kernel
theorem dX7_folds_1 : decode cX7_folds 1 = .ok (.istore_n 3, 1) := by decide +kernel
theorem dX7_folds_2 : decode cX7_folds 2 = .ok (.iload_n 3, 1) := by decide +kernel
theorem dX7_folds_3 : decode cX7_folds 3 = .ok (.iload_n 2, 1) := by decide +kernel
theorem dX7_folds_4 : decode cX7_folds 4 = .ok (.if_icmp .ge 23, 3) := by decide +kernel
theorem dX7_folds_7 : decode cX7_folds 7 = .ok (.aload_n 0, 1) := by decide +kernel
theorem dX7_folds_8 : decode cX7_folds 8 = .ok (.getfield 51, 3) := by decide +kernel
theorem dX7_folds_11 : decode cX7_folds 11 = .ok (.iload_n 3, 1) := by decide +kernel
theorem dX7_folds_12 : decode cX7_folds 12 = .ok (.dconst 0, 1) := by decide +kernel
theorem dX7_folds_13 : decode cX7_folds 13 = .ok (.dastore, 1) := by decide +kernel
theorem dX7_folds_14 : decode cX7_folds 14 = .ok (.aload_n 0, 1) := by decide +kernel
theorem dX7_folds_15 : decode cX7_folds 15 = .ok (.getfield 54, 3) := by decide +kernel
theorem dX7_folds_18 : decode cX7_folds 18 = .ok (.iload_n 3, 1) := by decide +kernel
theorem dX7_folds_19 : decode cX7_folds 19 = .ok (.iconst 0, 1) := by decide +kernel
theorem dX7_folds_20 : decode cX7_folds 20 = .ok (.iastore, 1) := by decide +kernel
theorem dX7_folds_21 : decode cX7_folds 21 = .ok (.iinc 3 1, 3) := by decide +kernel
theorem dX7_folds_24 : decode cX7_folds 24 = .ok (.goto (-22), 3) := by decide +kernel
theorem dX7_folds_27 : decode cX7_folds 27 = .ok (.iconst 0, 1) := by decide +kernel
theorem dX7_folds_28 : decode cX7_folds 28 = .ok (.istore_n 3, 1) := by decide +kernel
theorem dX7_folds_29 : decode cX7_folds 29 = .ok (.iload_n 3, 1) := by decide +kernel
theorem dX7_folds_30 : decode cX7_folds 30 = .ok (.sipush 1000, 3) := by decide +kernel
theorem dX7_folds_33 : decode cX7_folds 33 = .ok (.if_icmp .ge 59, 3) := by decide +kernel
theorem dX7_folds_36 : decode cX7_folds 36 = .ok (.aload_n 0, 1) := by decide +kernel
theorem dX7_folds_37 : decode cX7_folds 37 = .ok (.getfield 41, 3) := by decide +kernel
theorem dX7_folds_40 : decode cX7_folds 40 = .ok (.sipush 1000, 3) := by decide +kernel
theorem dX7_folds_43 : decode cX7_folds 43 = .ok (.iload_n 1, 1) := by decide +kernel
theorem dX7_folds_44 : decode cX7_folds 44 = .ok (.imul, 1) := by decide +kernel
theorem dX7_folds_45 : decode cX7_folds 45 = .ok (.iload_n 3, 1) := by decide +kernel
theorem dX7_folds_46 : decode cX7_folds 46 = .ok (.iadd, 1) := by decide +kernel
theorem dX7_folds_47 : decode cX7_folds 47 = .ok (.baload, 1) := by decide +kernel
theorem dX7_folds_48 : decode cX7_folds 48 = .ok (.ifCond .eq 38, 3) := by decide +kernel
theorem dX7_folds_51 : decode cX7_folds 51 = .ok (.aload_n 0, 1) := by decide +kernel
theorem dX7_folds_52 : decode cX7_folds 52 = .ok (.getfield 51, 3) := by decide +kernel
theorem dX7_folds_55 : decode cX7_folds 55 = .ok (.iload_n 3, 1) := by decide +kernel
theorem dX7_folds_56 : decode cX7_folds 56 = .ok (.iload_n 2, 1) := by decide +kernel
theorem dX7_folds_57 : decode cX7_folds 57 = .ok (.irem, 1) := by decide +kernel
theorem dX7_folds_58 : decode cX7_folds 58 = .ok (.dup2, 1) := by decide +kernel
theorem dX7_folds_59 : decode cX7_folds 59 = .ok (.daload, 1) := by decide +kernel
theorem dX7_folds_60 : decode cX7_folds 60 = .ok (.aload_n 0, 1) := by decide +kernel
theorem dX7_folds_61 : decode cX7_folds 61 = .ok (.getfield 44, 3) := by decide +kernel
theorem dX7_folds_64 : decode cX7_folds 64 = .ok (.sipush 1000, 3) := by decide +kernel
theorem dX7_folds_67 : decode cX7_folds 67 = .ok (.iload_n 1, 1) := by decide +kernel
theorem dX7_folds_68 : decode cX7_folds 68 = .ok (.imul, 1) := by decide +kernel
theorem dX7_folds_69 : decode cX7_folds 69 = .ok (.iload_n 3, 1) := by decide +kernel
theorem dX7_folds_70 : decode cX7_folds 70 = .ok (.iadd, 1) := by decide +kernel
theorem dX7_folds_71 : decode cX7_folds 71 = .ok (.daload, 1) := by decide +kernel
theorem dX7_folds_72 : decode cX7_folds 72 = .ok (.dadd, 1) := by decide +kernel
theorem dX7_folds_73 : decode cX7_folds 73 = .ok (.dastore, 1) := by decide +kernel
theorem dX7_folds_74 : decode cX7_folds 74 = .ok (.aload_n 0, 1) := by decide +kernel
theorem dX7_folds_75 : decode cX7_folds 75 = .ok (.getfield 54, 3) := by decide +kernel
theorem dX7_folds_78 : decode cX7_folds 78 = .ok (.iload_n 3, 1) := by decide +kernel
theorem dX7_folds_79 : decode cX7_folds 79 = .ok (.iload_n 2, 1) := by decide +kernel
theorem dX7_folds_80 : decode cX7_folds 80 = .ok (.irem, 1) := by decide +kernel
theorem dX7_folds_81 : decode cX7_folds 81 = .ok (.dup2, 1) := by decide +kernel
theorem dX7_folds_82 : decode cX7_folds 82 = .ok (.iaload, 1) := by decide +kernel
theorem dX7_folds_83 : decode cX7_folds 83 = .ok (.iconst 1, 1) := by decide +kernel
theorem dX7_folds_84 : decode cX7_folds 84 = .ok (.iadd, 1) := by decide +kernel
theorem dX7_folds_85 : decode cX7_folds 85 = .ok (.iastore, 1) := by decide +kernel
theorem dX7_folds_86 : decode cX7_folds 86 = .ok (.iinc 3 1, 3) := by decide +kernel
theorem dX7_folds_89 : decode cX7_folds 89 = .ok (.goto (-60), 3) := by decide +kernel
theorem dX7_folds_92 : decode cX7_folds 92 = .ok (.return_, 1) := by decide +kernel
theorem dX7_scores_0 : decode cX7_scores 0 = .ok (.aload_n 0, 1) := by decide +kernel
theorem dX7_scores_1 : decode cX7_scores 1 = .ok (.iload_n 1, 1) := by decide +kernel
theorem dX7_scores_2 : decode cX7_scores 2 = .ok (.invokevirtual 112, 3) := by decide +kernel
theorem dX7_scores_5 : decode cX7_scores 5 = .ok (.dstore_n 3, 1) := by decide +kernel
theorem dX7_scores_6 : decode cX7_scores 6 = .ok (.aload_n 0, 1) := by decide +kernel
theorem dX7_scores_7 : decode cX7_scores 7 = .ok (.iload_n 1, 1) := by decide +kernel
theorem dX7_scores_8 : decode cX7_scores 8 = .ok (.iload_n 2, 1) := by decide +kernel
theorem dX7_scores_9 : decode cX7_scores 9 = .ok (.invokevirtual 116, 3) := by decide +kernel
theorem dX7_scores_12 : decode cX7_scores 12 = .ok (.aload_n 0, 1) := by decide +kernel
theorem dX7_scores_13 : decode cX7_scores 13 = .ok (.iconst (-1), 1) := by decide +kernel
theorem dX7_scores_14 : decode cX7_scores 14 = .ok (.putfield 120, 3) := by decide +kernel
theorem dX7_scores_17 : decode cX7_scores 17 = .ok (.iconst 0, 1) := by decide +kernel
theorem dX7_scores_18 : decode cX7_scores 18 = .ok (.istore 5, 2) := by decide +kernel
theorem dX7_scores_20 : decode cX7_scores 20 = .ok (.iload 5, 2) := by decide +kernel
theorem dX7_scores_22 : decode cX7_scores 22 = .ok (.iload_n 2, 1) := by decide +kernel
theorem dX7_scores_23 : decode cX7_scores 23 = .ok (.if_icmp .ge 109, 3) := by decide +kernel
theorem dX7_scores_26 : decode cX7_scores 26 = .ok (.aload_n 0, 1) := by decide +kernel
theorem dX7_scores_27 : decode cX7_scores 27 = .ok (.getfield 54, 3) := by decide +kernel
theorem dX7_scores_30 : decode cX7_scores 30 = .ok (.iload 5, 2) := by decide +kernel
theorem dX7_scores_32 : decode cX7_scores 32 = .ok (.iaload, 1) := by decide +kernel
theorem dX7_scores_33 : decode cX7_scores 33 = .ok (.ifCond .le 93, 3) := by decide +kernel
theorem dX7_scores_36 : decode cX7_scores 36 = .ok (.dload_n 3, 1) := by decide +kernel
theorem dX7_scores_37 : decode cX7_scores 37 = .ok (.aload_n 0, 1) := by decide +kernel
theorem dX7_scores_38 : decode cX7_scores 38 = .ok (.getfield 51, 3) := by decide +kernel
theorem dX7_scores_41 : decode cX7_scores 41 = .ok (.iload 5, 2) := by decide +kernel
theorem dX7_scores_43 : decode cX7_scores 43 = .ok (.daload, 1) := by decide +kernel
theorem dX7_scores_44 : decode cX7_scores 44 = .ok (.aload_n 0, 1) := by decide +kernel
theorem dX7_scores_45 : decode cX7_scores 45 = .ok (.getfield 54, 3) := by decide +kernel
theorem dX7_scores_48 : decode cX7_scores 48 = .ok (.iload 5, 2) := by decide +kernel
theorem dX7_scores_50 : decode cX7_scores 50 = .ok (.iaload, 1) := by decide +kernel
theorem dX7_scores_51 : decode cX7_scores 51 = .ok (.i2d, 1) := by decide +kernel
theorem dX7_scores_52 : decode cX7_scores 52 = .ok (.ddiv, 1) := by decide +kernel
theorem dX7_scores_53 : decode cX7_scores 53 = .ok (.dsub, 1) := by decide +kernel
theorem dX7_scores_54 : decode cX7_scores 54 = .ok (.aload_n 0, 1) := by decide +kernel
theorem dX7_scores_55 : decode cX7_scores 55 = .ok (.getfield 54, 3) := by decide +kernel
theorem dX7_scores_58 : decode cX7_scores 58 = .ok (.iload 5, 2) := by decide +kernel
theorem dX7_scores_60 : decode cX7_scores 60 = .ok (.iaload, 1) := by decide +kernel
theorem dX7_scores_61 : decode cX7_scores 61 = .ok (.i2d, 1) := by decide +kernel
theorem dX7_scores_62 : decode cX7_scores 62 = .ok (.dmul, 1) := by decide +kernel
theorem dX7_scores_63 : decode cX7_scores 63 = .ok (.dstore 6, 2) := by decide +kernel
theorem dX7_scores_65 : decode cX7_scores 65 = .ok (.aload_n 0, 1) := by decide +kernel
theorem dX7_scores_66 : decode cX7_scores 66 = .ok (.getfield 120, 3) := by decide +kernel
theorem dX7_scores_69 : decode cX7_scores 69 = .ok (.iconst (-1), 1) := by decide +kernel
theorem dX7_scores_70 : decode cX7_scores 70 = .ok (.if_icmp .eq 13, 3) := by decide +kernel
theorem dX7_scores_73 : decode cX7_scores 73 = .ok (.dload 6, 2) := by decide +kernel
theorem dX7_scores_75 : decode cX7_scores 75 = .ok (.aload_n 0, 1) := by decide +kernel
theorem dX7_scores_76 : decode cX7_scores 76 = .ok (.getfield 123, 3) := by decide +kernel
theorem dX7_scores_79 : decode cX7_scores 79 = .ok (.dcmp .l, 1) := by decide +kernel
theorem dX7_scores_80 : decode cX7_scores 80 = .ok (.ifCond .le 7, 3) := by decide +kernel
theorem dX7_scores_83 : decode cX7_scores 83 = .ok (.iconst 1, 1) := by decide +kernel
theorem dX7_scores_84 : decode cX7_scores 84 = .ok (.goto 4, 3) := by decide +kernel
theorem dX7_scores_87 : decode cX7_scores 87 = .ok (.iconst 0, 1) := by decide +kernel
theorem dX7_scores_88 : decode cX7_scores 88 = .ok (.istore 8, 2) := by decide +kernel
theorem dX7_scores_90 : decode cX7_scores 90 = .ok (.aload_n 0, 1) := by decide +kernel
theorem dX7_scores_91 : decode cX7_scores 91 = .ok (.iload 8, 2) := by decide +kernel
theorem dX7_scores_93 : decode cX7_scores 93 = .ok (.ifCond .eq 8, 3) := by decide +kernel
theorem dX7_scores_96 : decode cX7_scores 96 = .ok (.dload 6, 2) := by decide +kernel
theorem dX7_scores_98 : decode cX7_scores 98 = .ok (.goto 7, 3) := by decide +kernel
theorem dX7_scores_101 : decode cX7_scores 101 = .ok (.aload_n 0, 1) := by decide +kernel
theorem dX7_scores_102 : decode cX7_scores 102 = .ok (.getfield 123, 3) := by decide +kernel
theorem dX7_scores_105 : decode cX7_scores 105 = .ok (.putfield 123, 3) := by decide +kernel
theorem dX7_scores_108 : decode cX7_scores 108 = .ok (.aload_n 0, 1) := by decide +kernel
theorem dX7_scores_109 : decode cX7_scores 109 = .ok (.iload 8, 2) := by decide +kernel
theorem dX7_scores_111 : decode cX7_scores 111 = .ok (.ifCond .eq 8, 3) := by decide +kernel
theorem dX7_scores_114 : decode cX7_scores 114 = .ok (.iload 5, 2) := by decide +kernel
theorem dX7_scores_116 : decode cX7_scores 116 = .ok (.goto 7, 3) := by decide +kernel
theorem dX7_scores_119 : decode cX7_scores 119 = .ok (.aload_n 0, 1) := by decide +kernel
theorem dX7_scores_120 : decode cX7_scores 120 = .ok (.getfield 120, 3) := by decide +kernel
theorem dX7_scores_123 : decode cX7_scores 123 = .ok (.putfield 120, 3) := by decide +kernel
theorem dX7_scores_126 : decode cX7_scores 126 = .ok (.iinc 5 1, 3) := by decide +kernel
theorem dX7_scores_129 : decode cX7_scores 129 = .ok (.goto (-109), 3) := by decide +kernel
theorem dX7_scores_132 : decode cX7_scores 132 = .ok (.return_, 1) := by decide +kernel
theorem dX7_hasFew_0 : decode cX7_hasFew 0 = .ok (.aload_n 0, 1) := by decide +kernel
theorem dX7_hasFew_1 : decode cX7_hasFew 1 = .ok (.getfield 48, 3) := by decide +kernel
theorem dX7_hasFew_4 : decode cX7_hasFew 4 = .ok (.iload_n 1, 1) := by decide +kernel
theorem dX7_hasFew_5 : decode cX7_hasFew 5 = .ok (.iaload, 1) := by decide +kernel
theorem dX7_hasFew_6 : decode cX7_hasFew 6 = .ok (.bipush 20, 2) := by decide +kernel
theorem dX7_hasFew_8 : decode cX7_hasFew 8 = .ok (.if_icmp .ge 7, 3) := by decide +kernel
theorem dX7_hasFew_11 : decode cX7_hasFew 11 = .ok (.iconst 1, 1) := by decide +kernel
theorem dX7_hasFew_12 : decode cX7_hasFew 12 = .ok (.goto 4, 3) := by decide +kernel
theorem dX7_hasFew_15 : decode cX7_hasFew 15 = .ok (.iconst 0, 1) := by decide +kernel
theorem dX7_hasFew_16 : decode cX7_hasFew 16 = .ok (.ireturn, 1) := by decide +kernel
theorem dX7_thrownFor_0 : decode cX7_thrownFor 0 = .ok (.aload_n 0, 1) := by decide +kernel
theorem dX7_thrownFor_1 : decode cX7_thrownFor 1 = .ok (.iload_n 1, 1) := by decide +kernel
theorem dX7_thrownFor_2 : decode cX7_thrownFor 2 = .ok (.invokevirtual 87, 3) := by decide +kernel
theorem dX7_thrownFor_5 : decode cX7_thrownFor 5 = .ok (.ifCond .ne 7, 3) := by decide +kernel
theorem dX7_thrownFor_8 : decode cX7_thrownFor 8 = .ok (.iconst 1, 1) := by decide +kernel
theorem dX7_thrownFor_9 : decode cX7_thrownFor 9 = .ok (.goto 30, 3) := by decide +kernel
theorem dX7_thrownFor_12 : decode cX7_thrownFor 12 = .ok (.iload_n 2, 1) := by decide +kernel
theorem dX7_thrownFor_13 : decode cX7_thrownFor 13 = .ok (.iconst 2, 1) := by decide +kernel
theorem dX7_thrownFor_14 : decode cX7_thrownFor 14 = .ok (.bipush 60, 2) := by decide +kernel
theorem dX7_thrownFor_16 : decode cX7_thrownFor 16 = .ok (.invokestatic 82, 3) := by decide +kernel
theorem dX7_thrownFor_19 : decode cX7_thrownFor 19 = .ok (.ifCond .ne 7, 3) := by decide +kernel
theorem dX7_thrownFor_22 : decode cX7_thrownFor 22 = .ok (.iconst 2, 1) := by decide +kernel
theorem dX7_thrownFor_23 : decode cX7_thrownFor 23 = .ok (.goto 16, 3) := by decide +kernel
theorem dX7_thrownFor_26 : decode cX7_thrownFor 26 = .ok (.aload_n 0, 1) := by decide +kernel
theorem dX7_thrownFor_27 : decode cX7_thrownFor 27 = .ok (.iload_n 1, 1) := by decide +kernel
theorem dX7_thrownFor_28 : decode cX7_thrownFor 28 = .ok (.invokevirtual 127, 3) := by decide +kernel
theorem dX7_thrownFor_31 : decode cX7_thrownFor 31 = .ok (.ifCond .eq 7, 3) := by decide +kernel
theorem dX7_thrownFor_34 : decode cX7_thrownFor 34 = .ok (.iconst 3, 1) := by decide +kernel
theorem dX7_thrownFor_35 : decode cX7_thrownFor 35 = .ok (.goto 4, 3) := by decide +kernel
theorem dX7_thrownFor_38 : decode cX7_thrownFor 38 = .ok (.iconst 0, 1) := by decide +kernel
theorem dX7_thrownFor_39 : decode cX7_thrownFor 39 = .ok (.ireturn, 1) := by decide +kernel
theorem dX7_score_0 : decode cX7_score 0 = .ok (.aload_n 0, 1) := by decide +kernel
theorem dX7_score_1 : decode cX7_score 1 = .ok (.aload_n 0, 1) := by decide +kernel
theorem dX7_score_2 : decode cX7_score 2 = .ok (.iload_n 1, 1) := by decide +kernel
theorem dX7_score_3 : decode cX7_score 3 = .ok (.iload_n 2, 1) := by decide +kernel
theorem dX7_score_4 : decode cX7_score 4 = .ok (.invokevirtual 130, 3) := by decide +kernel
theorem dX7_score_7 : decode cX7_score 7 = .ok (.putfield 75, 3) := by decide +kernel
theorem dX7_score_10 : decode cX7_score 10 = .ok (.aload_n 0, 1) := by decide +kernel
theorem dX7_score_11 : decode cX7_score 11 = .ok (.getfield 75, 3) := by decide +kernel
theorem dX7_score_14 : decode cX7_score 14 = .ok (.ifCond .le 5, 3) := by decide +kernel
theorem dX7_score_17 : decode cX7_score 17 = .ok (.lconst 0, 1) := by decide +kernel
theorem dX7_score_18 : decode cX7_score 18 = .ok (.lreturn, 1) := by decide +kernel
theorem dX7_score_19 : decode cX7_score 19 = .ok (.aload_n 0, 1) := by decide +kernel
theorem dX7_score_20 : decode cX7_score 20 = .ok (.iload_n 1, 1) := by decide +kernel
theorem dX7_score_21 : decode cX7_score 21 = .ok (.iload_n 2, 1) := by decide +kernel
theorem dX7_score_22 : decode cX7_score 22 = .ok (.invokevirtual 133, 3) := by decide +kernel
theorem dX7_score_25 : decode cX7_score 25 = .ok (.aload_n 0, 1) := by decide +kernel
theorem dX7_score_26 : decode cX7_score 26 = .ok (.getfield 123, 3) := by decide +kernel
theorem dX7_score_29 : decode cX7_score 29 = .ok (.invokestatic 104, 3) := by decide +kernel
theorem dX7_score_32 : decode cX7_score 32 = .ok (.lreturn, 1) := by decide +kernel
theorem dX7_phase_0 : decode cX7_phase 0 = .ok (.aload_n 0, 1) := by decide +kernel
theorem dX7_phase_1 : decode cX7_phase 1 = .ok (.aload_n 0, 1) := by decide +kernel
theorem dX7_phase_2 : decode cX7_phase 2 = .ok (.iload_n 1, 1) := by decide +kernel
theorem dX7_phase_3 : decode cX7_phase 3 = .ok (.iload_n 2, 1) := by decide +kernel
theorem dX7_phase_4 : decode cX7_phase 4 = .ok (.invokevirtual 130, 3) := by decide +kernel
theorem dX7_phase_7 : decode cX7_phase 7 = .ok (.putfield 75, 3) := by decide +kernel
theorem dX7_phase_10 : decode cX7_phase 10 = .ok (.aload_n 0, 1) := by decide +kernel
theorem dX7_phase_11 : decode cX7_phase 11 = .ok (.getfield 75, 3) := by decide +kernel
theorem dX7_phase_14 : decode cX7_phase 14 = .ok (.ifCond .le 5, 3) := by decide +kernel
theorem dX7_phase_17 : decode cX7_phase 17 = .ok (.iconst 0, 1) := by decide +kernel
theorem dX7_phase_18 : decode cX7_phase 18 = .ok (.ireturn, 1) := by decide +kernel
theorem dX7_phase_19 : decode cX7_phase 19 = .ok (.aload_n 0, 1) := by decide +kernel
theorem dX7_phase_20 : decode cX7_phase 20 = .ok (.iload_n 1, 1) := by decide +kernel
theorem dX7_phase_21 : decode cX7_phase 21 = .ok (.iload_n 2, 1) := by decide +kernel
theorem dX7_phase_22 : decode cX7_phase 22 = .ok (.invokevirtual 133, 3) := by decide +kernel
theorem dX7_phase_25 : decode cX7_phase 25 = .ok (.aload_n 0, 1) := by decide +kernel
theorem dX7_phase_26 : decode cX7_phase 26 = .ok (.getfield 120, 3) := by decide +kernel
theorem dX7_phase_29 : decode cX7_phase 29 = .ok (.ireturn, 1) := by decide +kernel
theorem dX7_periodOf_0 : decode cX7_periodOf 0 = .ok (.aload_n 0, 1) := by decide +kernel
theorem dX7_periodOf_1 : decode cX7_periodOf 1 = .ok (.iload_n 1, 1) := by decide +kernel
theorem dX7_periodOf_2 : decode cX7_periodOf 2 = .ok (.invokevirtual 127, 3) := by decide +kernel
theorem dX7_periodOf_5 : decode cX7_periodOf 5 = .ok (.ifCond .eq 5, 3) := by decide +kernel
theorem dX7_periodOf_8 : decode cX7_periodOf 8 = .ok (.iconst 0, 1) := by decide +kernel
theorem dX7_periodOf_9 : decode cX7_periodOf 9 = .ok (.ireturn, 1) := by decide +kernel
theorem dX7_periodOf_10 : decode cX7_periodOf 10 = .ok (.iconst 2, 1) := by decide +kernel
theorem dX7_periodOf_11 : decode cX7_periodOf 11 = .ok (.istore_n 3, 1) := by decide +kernel
theorem dX7_periodOf_12 : decode cX7_periodOf 12 = .ok (.aload_n 0, 1) := by decide +kernel
theorem dX7_periodOf_13 : decode cX7_periodOf 13 = .ok (.iload_n 1, 1) := by decide +kernel
theorem dX7_periodOf_14 : decode cX7_periodOf 14 = .ok (.iconst 2, 1) := by decide +kernel
theorem dX7_periodOf_15 : decode cX7_periodOf 15 = .ok (.invokevirtual 133, 3) := by decide +kernel
theorem dX7_periodOf_18 : decode cX7_periodOf 18 = .ok (.aload_n 0, 1) := by decide +kernel
theorem dX7_periodOf_19 : decode cX7_periodOf 19 = .ok (.getfield 123, 3) := by decide +kernel
theorem dX7_periodOf_22 : decode cX7_periodOf 22 = .ok (.dstore 4, 2) := by decide +kernel
theorem dX7_periodOf_24 : decode cX7_periodOf 24 = .ok (.iconst 3, 1) := by decide +kernel
theorem dX7_periodOf_25 : decode cX7_periodOf 25 = .ok (.istore 6, 2) := by decide +kernel
theorem dX7_periodOf_27 : decode cX7_periodOf 27 = .ok (.iload 6, 2) := by decide +kernel
theorem dX7_periodOf_29 : decode cX7_periodOf 29 = .ok (.bipush 60, 2) := by decide +kernel
theorem dX7_periodOf_31 : decode cX7_periodOf 31 = .ok (.if_icmp .gt 54, 3) := by decide +kernel
theorem dX7_periodOf_34 : decode cX7_periodOf 34 = .ok (.aload_n 0, 1) := by decide +kernel
theorem dX7_periodOf_35 : decode cX7_periodOf 35 = .ok (.iload_n 1, 1) := by decide +kernel
theorem dX7_periodOf_36 : decode cX7_periodOf 36 = .ok (.iload 6, 2) := by decide +kernel
theorem dX7_periodOf_38 : decode cX7_periodOf 38 = .ok (.invokevirtual 133, 3) := by decide +kernel
theorem dX7_periodOf_41 : decode cX7_periodOf 41 = .ok (.aload_n 0, 1) := by decide +kernel
theorem dX7_periodOf_42 : decode cX7_periodOf 42 = .ok (.getfield 123, 3) := by decide +kernel
theorem dX7_periodOf_45 : decode cX7_periodOf 45 = .ok (.dload 4, 2) := by decide +kernel
theorem dX7_periodOf_47 : decode cX7_periodOf 47 = .ok (.dcmp .l, 1) := by decide +kernel
theorem dX7_periodOf_48 : decode cX7_periodOf 48 = .ok (.ifCond .le 8, 3) := by decide +kernel
theorem dX7_periodOf_51 : decode cX7_periodOf 51 = .ok (.iload 6, 2) := by decide +kernel
theorem dX7_periodOf_53 : decode cX7_periodOf 53 = .ok (.goto 4, 3) := by decide +kernel
theorem dX7_periodOf_56 : decode cX7_periodOf 56 = .ok (.iload_n 3, 1) := by decide +kernel
theorem dX7_periodOf_57 : decode cX7_periodOf 57 = .ok (.istore_n 3, 1) := by decide +kernel
theorem dX7_periodOf_58 : decode cX7_periodOf 58 = .ok (.aload_n 0, 1) := by decide +kernel
theorem dX7_periodOf_59 : decode cX7_periodOf 59 = .ok (.getfield 123, 3) := by decide +kernel
theorem dX7_periodOf_62 : decode cX7_periodOf 62 = .ok (.dload 4, 2) := by decide +kernel
theorem dX7_periodOf_64 : decode cX7_periodOf 64 = .ok (.dcmp .l, 1) := by decide +kernel
theorem dX7_periodOf_65 : decode cX7_periodOf 65 = .ok (.ifCond .le 10, 3) := by decide +kernel
theorem dX7_periodOf_68 : decode cX7_periodOf 68 = .ok (.aload_n 0, 1) := by decide +kernel
theorem dX7_periodOf_69 : decode cX7_periodOf 69 = .ok (.getfield 123, 3) := by decide +kernel
theorem dX7_periodOf_72 : decode cX7_periodOf 72 = .ok (.goto 5, 3) := by decide +kernel
theorem dX7_periodOf_75 : decode cX7_periodOf 75 = .ok (.dload 4, 2) := by decide +kernel
theorem dX7_periodOf_77 : decode cX7_periodOf 77 = .ok (.dstore 4, 2) := by decide +kernel
theorem dX7_periodOf_79 : decode cX7_periodOf 79 = .ok (.iinc 6 1, 3) := by decide +kernel
theorem dX7_periodOf_82 : decode cX7_periodOf 82 = .ok (.goto (-55), 3) := by decide +kernel
theorem dX7_periodOf_85 : decode cX7_periodOf 85 = .ok (.dload 4, 2) := by decide +kernel
theorem dX7_periodOf_87 : decode cX7_periodOf 87 = .ok (.iload_n 2, 1) := by decide +kernel
theorem dX7_periodOf_88 : decode cX7_periodOf 88 = .ok (.i2d, 1) := by decide +kernel
theorem dX7_periodOf_89 : decode cX7_periodOf 89 = .ok (.dcmp .l, 1) := by decide +kernel
theorem dX7_periodOf_90 : decode cX7_periodOf 90 = .ok (.ifCond .le 7, 3) := by decide +kernel
theorem dX7_periodOf_93 : decode cX7_periodOf 93 = .ok (.iload_n 3, 1) := by decide +kernel
theorem dX7_periodOf_94 : decode cX7_periodOf 94 = .ok (.goto 4, 3) := by decide +kernel
theorem dX7_periodOf_97 : decode cX7_periodOf 97 = .ok (.iconst 0, 1) := by decide +kernel
theorem dX7_periodOf_98 : decode cX7_periodOf 98 = .ok (.ireturn, 1) := by decide +kernel
theorem dX7_isThreshold_0 : decode cX7_isThreshold 0 = .ok (.iload_n 0, 1) := by decide +kernel
theorem dX7_isThreshold_1 : decode cX7_isThreshold 1 = .ok (.iconst 0, 1) := by decide +kernel
theorem dX7_isThreshold_2 : decode cX7_isThreshold 2 = .ok (.ldc 86, 2) := by decide +kernel
theorem dX7_isThreshold_4 : decode cX7_isThreshold 4 = .ok (.invokestatic 82, 3) := by decide +kernel
theorem dX7_isThreshold_7 : decode cX7_isThreshold 7 = .ok (.ireturn, 1) := by decide +kernel
theorem dX7_period_0 : decode cX7_period 0 = .ok (.aload_n 0, 1) := by decide +kernel
theorem dX7_period_1 : decode cX7_period 1 = .ok (.aload_n 0, 1) := by decide +kernel
theorem dX7_period_2 : decode cX7_period 2 = .ok (.iload_n 1, 1) := by decide +kernel
theorem dX7_period_3 : decode cX7_period 3 = .ok (.invokevirtual 87, 3) := by decide +kernel
theorem dX7_period_6 : decode cX7_period 6 = .ok (.ifCond .ne 7, 3) := by decide +kernel
theorem dX7_period_9 : decode cX7_period 9 = .ok (.iconst 1, 1) := by decide +kernel
theorem dX7_period_10 : decode cX7_period 10 = .ok (.goto 15, 3) := by decide +kernel
theorem dX7_period_13 : decode cX7_period 13 = .ok (.iload_n 2, 1) := by decide +kernel
theorem dX7_period_14 : decode cX7_period 14 = .ok (.invokestatic 136, 3) := by decide +kernel
theorem dX7_period_17 : decode cX7_period 17 = .ok (.ifCond .ne 7, 3) := by decide +kernel
theorem dX7_period_20 : decode cX7_period 20 = .ok (.iconst 2, 1) := by decide +kernel
theorem dX7_period_21 : decode cX7_period 21 = .ok (.goto 4, 3) := by decide +kernel
theorem dX7_period_24 : decode cX7_period 24 = .ok (.iconst 0, 1) := by decide +kernel
theorem dX7_period_25 : decode cX7_period 25 = .ok (.putfield 75, 3) := by decide +kernel
theorem dX7_period_28 : decode cX7_period 28 = .ok (.aload_n 0, 1) := by decide +kernel
theorem dX7_period_29 : decode cX7_period 29 = .ok (.getfield 75, 3) := by decide +kernel
theorem dX7_period_32 : decode cX7_period 32 = .ok (.ifCond .le 5, 3) := by decide +kernel
theorem dX7_period_35 : decode cX7_period 35 = .ok (.iconst 0, 1) := by decide +kernel
theorem dX7_period_36 : decode cX7_period 36 = .ok (.ireturn, 1) := by decide +kernel
theorem dX7_period_37 : decode cX7_period 37 = .ok (.aload_n 0, 1) := by decide +kernel
theorem dX7_period_38 : decode cX7_period 38 = .ok (.iload_n 1, 1) := by decide +kernel
theorem dX7_period_39 : decode cX7_period 39 = .ok (.iload_n 2, 1) := by decide +kernel
theorem dX7_period_40 : decode cX7_period 40 = .ok (.invokevirtual 139, 3) := by decide +kernel
theorem dX7_period_43 : decode cX7_period 43 = .ok (.istore_n 3, 1) := by decide +kernel
theorem dX7_period_44 : decode cX7_period 44 = .ok (.aload_n 0, 1) := by decide +kernel
theorem dX7_period_45 : decode cX7_period 45 = .ok (.iload_n 3, 1) := by decide +kernel
theorem dX7_period_46 : decode cX7_period 46 = .ok (.ifCond .ne 7, 3) := by decide +kernel
theorem dX7_period_49 : decode cX7_period 49 = .ok (.iconst 3, 1) := by decide +kernel
theorem dX7_period_50 : decode cX7_period 50 = .ok (.goto 4, 3) := by decide +kernel
theorem dX7_period_53 : decode cX7_period 53 = .ok (.iconst 0, 1) := by decide +kernel
theorem dX7_period_54 : decode cX7_period 54 = .ok (.putfield 75, 3) := by decide +kernel
theorem dX7_period_57 : decode cX7_period 57 = .ok (.iload_n 3, 1) := by decide +kernel
theorem dX7_period_58 : decode cX7_period 58 = .ok (.ireturn, 1) := by decide +kernel
theorem dX7_whyNot_0 : decode cX7_whyNot 0 = .ok (.aload_n 0, 1) := by decide +kernel
theorem dX7_whyNot_1 : decode cX7_whyNot 1 = .ok (.aload_n 0, 1) := by decide +kernel
theorem dX7_whyNot_2 : decode cX7_whyNot 2 = .ok (.iload_n 1, 1) := by decide +kernel
theorem dX7_whyNot_3 : decode cX7_whyNot 3 = .ok (.invokevirtual 87, 3) := by decide +kernel
theorem dX7_whyNot_6 : decode cX7_whyNot 6 = .ok (.ifCond .ne 7, 3) := by decide +kernel
theorem dX7_whyNot_9 : decode cX7_whyNot 9 = .ok (.iconst 1, 1) := by decide +kernel
theorem dX7_whyNot_10 : decode cX7_whyNot 10 = .ok (.goto 15, 3) := by decide +kernel
theorem dX7_whyNot_13 : decode cX7_whyNot 13 = .ok (.iload_n 2, 1) := by decide +kernel
theorem dX7_whyNot_14 : decode cX7_whyNot 14 = .ok (.invokestatic 136, 3) := by decide +kernel
theorem dX7_whyNot_17 : decode cX7_whyNot 17 = .ok (.ifCond .ne 7, 3) := by decide +kernel
theorem dX7_whyNot_20 : decode cX7_whyNot 20 = .ok (.iconst 2, 1) := by decide +kernel
theorem dX7_whyNot_21 : decode cX7_whyNot 21 = .ok (.goto 4, 3) := by decide +kernel
theorem dX7_whyNot_24 : decode cX7_whyNot 24 = .ok (.iconst 0, 1) := by decide +kernel
theorem dX7_whyNot_25 : decode cX7_whyNot 25 = .ok (.putfield 75, 3) := by decide +kernel
theorem dX7_whyNot_28 : decode cX7_whyNot 28 = .ok (.aload_n 0, 1) := by decide +kernel
theorem dX7_whyNot_29 : decode cX7_whyNot 29 = .ok (.getfield 75, 3) := by decide +kernel
theorem dX7_whyNot_32 : decode cX7_whyNot 32 = .ok (.ifCond .le 5, 3) := by decide +kernel
theorem dX7_whyNot_35 : decode cX7_whyNot 35 = .ok (.iconst 0, 1) := by decide +kernel
theorem dX7_whyNot_36 : decode cX7_whyNot 36 = .ok (.ireturn, 1) := by decide +kernel
theorem dX7_whyNot_37 : decode cX7_whyNot 37 = .ok (.aload_n 0, 1) := by decide +kernel
theorem dX7_whyNot_38 : decode cX7_whyNot 38 = .ok (.iload_n 1, 1) := by decide +kernel
theorem dX7_whyNot_39 : decode cX7_whyNot 39 = .ok (.invokevirtual 127, 3) := by decide +kernel
theorem dX7_whyNot_42 : decode cX7_whyNot 42 = .ok (.ifCond .eq 7, 3) := by decide +kernel
theorem dX7_whyNot_45 : decode cX7_whyNot 45 = .ok (.iconst 1, 1) := by decide +kernel
theorem dX7_whyNot_46 : decode cX7_whyNot 46 = .ok (.goto 17, 3) := by decide +kernel
theorem dX7_whyNot_49 : decode cX7_whyNot 49 = .ok (.aload_n 0, 1) := by decide +kernel
theorem dX7_whyNot_50 : decode cX7_whyNot 50 = .ok (.iload_n 1, 1) := by decide +kernel
theorem dX7_whyNot_51 : decode cX7_whyNot 51 = .ok (.iload_n 2, 1) := by decide +kernel
theorem dX7_whyNot_52 : decode cX7_whyNot 52 = .ok (.invokevirtual 139, 3) := by decide +kernel
theorem dX7_whyNot_55 : decode cX7_whyNot 55 = .ok (.ifCond .ne 7, 3) := by decide +kernel
theorem dX7_whyNot_58 : decode cX7_whyNot 58 = .ok (.iconst 2, 1) := by decide +kernel
theorem dX7_whyNot_59 : decode cX7_whyNot 59 = .ok (.goto 4, 3) := by decide +kernel
theorem dX7_whyNot_62 : decode cX7_whyNot 62 = .ok (.iconst 0, 1) := by decide +kernel
theorem dX7_whyNot_63 : decode cX7_whyNot 63 = .ok (.ireturn, 1) := by decide +kernel
theorem dX7_oddEven_0 : decode cX7_oddEven 0 = .ok (.aload_n 0, 1) := by decide +kernel
theorem dX7_oddEven_1 : decode cX7_oddEven 1 = .ok (.aload_n 0, 1) := by decide +kernel
theorem dX7_oddEven_2 : decode cX7_oddEven 2 = .ok (.iload_n 1, 1) := by decide +kernel
theorem dX7_oddEven_3 : decode cX7_oddEven 3 = .ok (.iload_n 2, 1) := by decide +kernel
theorem dX7_oddEven_4 : decode cX7_oddEven 4 = .ok (.invokevirtual 130, 3) := by decide +kernel
theorem dX7_oddEven_7 : decode cX7_oddEven 7 = .ok (.putfield 75, 3) := by decide +kernel
theorem dX7_oddEven_10 : decode cX7_oddEven 10 = .ok (.aload_n 0, 1) := by decide +kernel
theorem dX7_oddEven_11 : decode cX7_oddEven 11 = .ok (.getfield 75, 3) := by decide +kernel
theorem dX7_oddEven_14 : decode cX7_oddEven 14 = .ok (.ifCond .le 5, 3) := by decide +kernel
theorem dX7_oddEven_17 : decode cX7_oddEven 17 = .ok (.lconst 0, 1) := by decide +kernel
theorem dX7_oddEven_18 : decode cX7_oddEven 18 = .ok (.lreturn, 1) := by decide +kernel
theorem dX7_oddEven_19 : decode cX7_oddEven 19 = .ok (.aload_n 0, 1) := by decide +kernel
theorem dX7_oddEven_20 : decode cX7_oddEven 20 = .ok (.iload_n 1, 1) := by decide +kernel
theorem dX7_oddEven_21 : decode cX7_oddEven 21 = .ok (.iload_n 2, 1) := by decide +kernel
theorem dX7_oddEven_22 : decode cX7_oddEven 22 = .ok (.invokevirtual 133, 3) := by decide +kernel
theorem dX7_oddEven_25 : decode cX7_oddEven 25 = .ok (.aload_n 0, 1) := by decide +kernel
theorem dX7_oddEven_26 : decode cX7_oddEven 26 = .ok (.getfield 120, 3) := by decide +kernel
theorem dX7_oddEven_29 : decode cX7_oddEven 29 = .ok (.istore_n 3, 1) := by decide +kernel
theorem dX7_oddEven_30 : decode cX7_oddEven 30 = .ok (.iload_n 3, 1) := by decide +kernel
theorem dX7_oddEven_31 : decode cX7_oddEven 31 = .ok (.iload_n 2, 1) := by decide +kernel
theorem dX7_oddEven_32 : decode cX7_oddEven 32 = .ok (.iadd, 1) := by decide +kernel
theorem dX7_oddEven_33 : decode cX7_oddEven 33 = .ok (.istore 4, 2) := by decide +kernel
theorem dX7_oddEven_35 : decode cX7_oddEven 35 = .ok (.aload_n 0, 1) := by decide +kernel
theorem dX7_oddEven_36 : decode cX7_oddEven 36 = .ok (.iload_n 1, 1) := by decide +kernel
theorem dX7_oddEven_37 : decode cX7_oddEven 37 = .ok (.iconst 2, 1) := by decide +kernel
theorem dX7_oddEven_38 : decode cX7_oddEven 38 = .ok (.iload_n 2, 1) := by decide +kernel
theorem dX7_oddEven_39 : decode cX7_oddEven 39 = .ok (.imul, 1) := by decide +kernel
theorem dX7_oddEven_40 : decode cX7_oddEven 40 = .ok (.invokevirtual 116, 3) := by decide +kernel
theorem dX7_oddEven_43 : decode cX7_oddEven 43 = .ok (.aload_n 0, 1) := by decide +kernel
theorem dX7_oddEven_44 : decode cX7_oddEven 44 = .ok (.getfield 54, 3) := by decide +kernel
theorem dX7_oddEven_47 : decode cX7_oddEven 47 = .ok (.iload_n 3, 1) := by decide +kernel
theorem dX7_oddEven_48 : decode cX7_oddEven 48 = .ok (.iaload, 1) := by decide +kernel
theorem dX7_oddEven_49 : decode cX7_oddEven 49 = .ok (.ifCond .eq 13, 3) := by decide +kernel
theorem dX7_oddEven_52 : decode cX7_oddEven 52 = .ok (.aload_n 0, 1) := by decide +kernel
theorem dX7_oddEven_53 : decode cX7_oddEven 53 = .ok (.getfield 54, 3) := by decide +kernel
theorem dX7_oddEven_56 : decode cX7_oddEven 56 = .ok (.iload 4, 2) := by decide +kernel
theorem dX7_oddEven_58 : decode cX7_oddEven 58 = .ok (.iaload, 1) := by decide +kernel
theorem dX7_oddEven_59 : decode cX7_oddEven 59 = .ok (.ifCond .ne 7, 3) := by decide +kernel
theorem dX7_oddEven_62 : decode cX7_oddEven 62 = .ok (.dconst 0, 1) := by decide +kernel
theorem dX7_oddEven_63 : decode cX7_oddEven 63 = .ok (.goto 34, 3) := by decide +kernel
theorem dX7_oddEven_66 : decode cX7_oddEven 66 = .ok (.aload_n 0, 1) := by decide +kernel
theorem dX7_oddEven_67 : decode cX7_oddEven 67 = .ok (.getfield 51, 3) := by decide +kernel
theorem dX7_oddEven_70 : decode cX7_oddEven 70 = .ok (.iload_n 3, 1) := by decide +kernel
theorem dX7_oddEven_71 : decode cX7_oddEven 71 = .ok (.daload, 1) := by decide +kernel
theorem dX7_oddEven_72 : decode cX7_oddEven 72 = .ok (.aload_n 0, 1) := by decide +kernel
theorem dX7_oddEven_73 : decode cX7_oddEven 73 = .ok (.getfield 54, 3) := by decide +kernel
theorem dX7_oddEven_76 : decode cX7_oddEven 76 = .ok (.iload_n 3, 1) := by decide +kernel
theorem dX7_oddEven_77 : decode cX7_oddEven 77 = .ok (.iaload, 1) := by decide +kernel
theorem dX7_oddEven_78 : decode cX7_oddEven 78 = .ok (.i2d, 1) := by decide +kernel
theorem dX7_oddEven_79 : decode cX7_oddEven 79 = .ok (.ddiv, 1) := by decide +kernel
theorem dX7_oddEven_80 : decode cX7_oddEven 80 = .ok (.aload_n 0, 1) := by decide +kernel
theorem dX7_oddEven_81 : decode cX7_oddEven 81 = .ok (.getfield 51, 3) := by decide +kernel
theorem dX7_oddEven_84 : decode cX7_oddEven 84 = .ok (.iload 4, 2) := by decide +kernel
theorem dX7_oddEven_86 : decode cX7_oddEven 86 = .ok (.daload, 1) := by decide +kernel
theorem dX7_oddEven_87 : decode cX7_oddEven 87 = .ok (.aload_n 0, 1) := by decide +kernel
theorem dX7_oddEven_88 : decode cX7_oddEven 88 = .ok (.getfield 54, 3) := by decide +kernel
theorem dX7_oddEven_91 : decode cX7_oddEven 91 = .ok (.iload 4, 2) := by decide +kernel
theorem dX7_oddEven_93 : decode cX7_oddEven 93 = .ok (.iaload, 1) := by decide +kernel
theorem dX7_oddEven_94 : decode cX7_oddEven 94 = .ok (.i2d, 1) := by decide +kernel
theorem dX7_oddEven_95 : decode cX7_oddEven 95 = .ok (.ddiv, 1) := by decide +kernel
theorem dX7_oddEven_96 : decode cX7_oddEven 96 = .ok (.dsub, 1) := by decide +kernel
theorem dX7_oddEven_97 : decode cX7_oddEven 97 = .ok (.dstore 5, 2) := by decide +kernel
theorem dX7_oddEven_99 : decode cX7_oddEven 99 = .ok (.dload 5, 2) := by decide +kernel
theorem dX7_oddEven_101 : decode cX7_oddEven 101 = .ok (.invokestatic 104, 3) := by decide +kernel
theorem dX7_oddEven_104 : decode cX7_oddEven 104 = .ok (.lreturn, 1) := by decide +kernel
theorem dX7_isWorld_0 : decode cX7_isWorld 0 = .ok (.iload_n 1, 1) := by decide +kernel
theorem dX7_isWorld_1 : decode cX7_isWorld 1 = .ok (.iconst 0, 1) := by decide +kernel
theorem dX7_isWorld_2 : decode cX7_isWorld 2 = .ok (.aload_n 0, 1) := by decide +kernel
theorem dX7_isWorld_3 : decode cX7_isWorld 3 = .ok (.getfield 142, 3) := by decide +kernel
theorem dX7_isWorld_6 : decode cX7_isWorld 6 = .ok (.iconst 1, 1) := by decide +kernel
theorem dX7_isWorld_7 : decode cX7_isWorld 7 = .ok (.isub, 1) := by decide +kernel
theorem dX7_isWorld_8 : decode cX7_isWorld 8 = .ok (.invokestatic 82, 3) := by decide +kernel
theorem dX7_isWorld_11 : decode cX7_isWorld 11 = .ok (.ireturn, 1) := by decide +kernel
theorem dX7_world_0 : decode cX7_world 0 = .ok (.aload_n 0, 1) := by decide +kernel
theorem dX7_world_1 : decode cX7_world 1 = .ok (.aload_n 0, 1) := by decide +kernel
theorem dX7_world_2 : decode cX7_world 2 = .ok (.iload_n 1, 1) := by decide +kernel
theorem dX7_world_3 : decode cX7_world 3 = .ok (.invokevirtual 87, 3) := by decide +kernel
theorem dX7_world_6 : decode cX7_world 6 = .ok (.ifCond .ne 7, 3) := by decide +kernel
theorem dX7_world_9 : decode cX7_world 9 = .ok (.iconst 1, 1) := by decide +kernel
theorem dX7_world_10 : decode cX7_world 10 = .ok (.goto 28, 3) := by decide +kernel
theorem dX7_world_13 : decode cX7_world 13 = .ok (.iload_n 2, 1) := by decide +kernel
theorem dX7_world_14 : decode cX7_world 14 = .ok (.invokestatic 136, 3) := by decide +kernel
theorem dX7_world_17 : decode cX7_world 17 = .ok (.ifCond .ne 7, 3) := by decide +kernel
theorem dX7_world_20 : decode cX7_world 20 = .ok (.iconst 2, 1) := by decide +kernel
theorem dX7_world_21 : decode cX7_world 21 = .ok (.goto 17, 3) := by decide +kernel
theorem dX7_world_24 : decode cX7_world 24 = .ok (.aload_n 0, 1) := by decide +kernel
theorem dX7_world_25 : decode cX7_world 25 = .ok (.getfield 142, 3) := by decide +kernel
theorem dX7_world_28 : decode cX7_world 28 = .ok (.bipush 12, 2) := by decide +kernel
theorem dX7_world_30 : decode cX7_world 30 = .ok (.if_icmp .ne 7, 3) := by decide +kernel
theorem dX7_world_33 : decode cX7_world 33 = .ok (.iconst 3, 1) := by decide +kernel
theorem dX7_world_34 : decode cX7_world 34 = .ok (.goto 4, 3) := by decide +kernel
theorem dX7_world_37 : decode cX7_world 37 = .ok (.iconst 0, 1) := by decide +kernel
theorem dX7_world_38 : decode cX7_world 38 = .ok (.putfield 75, 3) := by decide +kernel
theorem dX7_world_41 : decode cX7_world 41 = .ok (.aload_n 0, 1) := by decide +kernel
theorem dX7_world_42 : decode cX7_world 42 = .ok (.getfield 75, 3) := by decide +kernel
theorem dX7_world_45 : decode cX7_world 45 = .ok (.ifCond .le 7, 3) := by decide +kernel
theorem dX7_world_48 : decode cX7_world 48 = .ok (.iconst 0, 1) := by decide +kernel
theorem dX7_world_49 : decode cX7_world 49 = .ok (.goto 9, 3) := by decide +kernel
theorem dX7_world_52 : decode cX7_world 52 = .ok (.aload_n 0, 1) := by decide +kernel
theorem dX7_world_53 : decode cX7_world 53 = .ok (.iload_n 1, 1) := by decide +kernel
theorem dX7_world_54 : decode cX7_world 54 = .ok (.iload_n 2, 1) := by decide +kernel
theorem dX7_world_55 : decode cX7_world 55 = .ok (.invokevirtual 139, 3) := by decide +kernel
theorem dX7_world_58 : decode cX7_world 58 = .ok (.istore_n 3, 1) := by decide +kernel
theorem dX7_world_59 : decode cX7_world 59 = .ok (.aload_n 0, 1) := by decide +kernel
theorem dX7_world_60 : decode cX7_world 60 = .ok (.aload_n 0, 1) := by decide +kernel
theorem dX7_world_61 : decode cX7_world 61 = .ok (.getfield 75, 3) := by decide +kernel
theorem dX7_world_64 : decode cX7_world 64 = .ok (.ifCond .ne 11, 3) := by decide +kernel
theorem dX7_world_67 : decode cX7_world 67 = .ok (.iload_n 3, 1) := by decide +kernel
theorem dX7_world_68 : decode cX7_world 68 = .ok (.ifCond .ne 7, 3) := by decide +kernel
theorem dX7_world_71 : decode cX7_world 71 = .ok (.iconst 3, 1) := by decide +kernel
theorem dX7_world_72 : decode cX7_world 72 = .ok (.goto 7, 3) := by decide +kernel
theorem dX7_world_75 : decode cX7_world 75 = .ok (.aload_n 0, 1) := by decide +kernel
theorem dX7_world_76 : decode cX7_world 76 = .ok (.getfield 75, 3) := by decide +kernel
theorem dX7_world_79 : decode cX7_world 79 = .ok (.putfield 75, 3) := by decide +kernel
theorem dX7_world_82 : decode cX7_world 82 = .ok (.aload_n 0, 1) := by decide +kernel
theorem dX7_world_83 : decode cX7_world 83 = .ok (.getfield 75, 3) := by decide +kernel
theorem dX7_world_86 : decode cX7_world 86 = .ok (.ifCond .le 5, 3) := by decide +kernel
theorem dX7_world_89 : decode cX7_world 89 = .ok (.iconst 0, 1) := by decide +kernel
theorem dX7_world_90 : decode cX7_world 90 = .ok (.ireturn, 1) := by decide +kernel
theorem dX7_world_91 : decode cX7_world 91 = .ok (.aload_n 0, 1) := by decide +kernel
theorem dX7_world_92 : decode cX7_world 92 = .ok (.iload_n 1, 1) := by decide +kernel
theorem dX7_world_93 : decode cX7_world 93 = .ok (.iload_n 3, 1) := by decide +kernel
theorem dX7_world_94 : decode cX7_world 94 = .ok (.invokevirtual 133, 3) := by decide +kernel
theorem dX7_world_97 : decode cX7_world 97 = .ok (.aload_n 0, 1) := by decide +kernel
theorem dX7_world_98 : decode cX7_world 98 = .ok (.getfield 57, 3) := by decide +kernel
theorem dX7_world_101 : decode cX7_world 101 = .ok (.aload_n 0, 1) := by decide +kernel
theorem dX7_world_102 : decode cX7_world 102 = .ok (.getfield 142, 3) := by decide +kernel
theorem dX7_world_105 : decode cX7_world 105 = .ok (.iload_n 1, 1) := by decide +kernel
theorem dX7_world_106 : decode cX7_world 106 = .ok (.iastore, 1) := by decide +kernel
theorem dX7_world_107 : decode cX7_world 107 = .ok (.aload_n 0, 1) := by decide +kernel
theorem dX7_world_108 : decode cX7_world 108 = .ok (.getfield 60, 3) := by decide +kernel
theorem dX7_world_111 : decode cX7_world 111 = .ok (.aload_n 0, 1) := by decide +kernel
theorem dX7_world_112 : decode cX7_world 112 = .ok (.getfield 142, 3) := by decide +kernel
theorem dX7_world_115 : decode cX7_world 115 = .ok (.iload_n 3, 1) := by decide +kernel
theorem dX7_world_116 : decode cX7_world 116 = .ok (.iastore, 1) := by decide +kernel
theorem dX7_world_117 : decode cX7_world 117 = .ok (.aload_n 0, 1) := by decide +kernel
theorem dX7_world_118 : decode cX7_world 118 = .ok (.getfield 63, 3) := by decide +kernel
theorem dX7_world_121 : decode cX7_world 121 = .ok (.aload_n 0, 1) := by decide +kernel
theorem dX7_world_122 : decode cX7_world 122 = .ok (.getfield 142, 3) := by decide +kernel
theorem dX7_world_125 : decode cX7_world 125 = .ok (.aload_n 0, 1) := by decide +kernel
theorem dX7_world_126 : decode cX7_world 126 = .ok (.getfield 120, 3) := by decide +kernel
theorem dX7_world_129 : decode cX7_world 129 = .ok (.iastore, 1) := by decide +kernel
theorem dX7_world_130 : decode cX7_world 130 = .ok (.aload_n 0, 1) := by decide +kernel
theorem dX7_world_131 : decode cX7_world 131 = .ok (.dup, 1) := by decide +kernel
theorem dX7_world_132 : decode cX7_world 132 = .ok (.getfield 142, 3) := by decide +kernel
theorem dX7_world_135 : decode cX7_world 135 = .ok (.iconst 1, 1) := by decide +kernel
theorem dX7_world_136 : decode cX7_world 136 = .ok (.iadd, 1) := by decide +kernel
theorem dX7_world_137 : decode cX7_world 137 = .ok (.putfield 142, 3) := by decide +kernel
theorem dX7_world_140 : decode cX7_world 140 = .ok (.aload_n 0, 1) := by decide +kernel
theorem dX7_world_141 : decode cX7_world 141 = .ok (.getfield 142, 3) := by decide +kernel
theorem dX7_world_144 : decode cX7_world 144 = .ok (.iconst 1, 1) := by decide +kernel
theorem dX7_world_145 : decode cX7_world 145 = .ok (.isub, 1) := by decide +kernel
theorem dX7_world_146 : decode cX7_world 146 = .ok (.ireturn, 1) := by decide +kernel
theorem dX7_about_0 : decode cX7_about 0 = .ok (.aload_n 0, 1) := by decide +kernel
theorem dX7_about_1 : decode cX7_about 1 = .ok (.aload_n 0, 1) := by decide +kernel
theorem dX7_about_2 : decode cX7_about 2 = .ok (.iload_n 1, 1) := by decide +kernel
theorem dX7_about_3 : decode cX7_about 3 = .ok (.invokevirtual 145, 3) := by decide +kernel
theorem dX7_about_6 : decode cX7_about 6 = .ok (.ifCond .ne 7, 3) := by decide +kernel
theorem dX7_about_9 : decode cX7_about 9 = .ok (.iconst 1, 1) := by decide +kernel
theorem dX7_about_10 : decode cX7_about 10 = .ok (.goto 17, 3) := by decide +kernel
theorem dX7_about_13 : decode cX7_about 13 = .ok (.iload_n 2, 1) := by decide +kernel
theorem dX7_about_14 : decode cX7_about 14 = .ok (.iconst 0, 1) := by decide +kernel
theorem dX7_about_15 : decode cX7_about 15 = .ok (.iconst 3, 1) := by decide +kernel
theorem dX7_about_16 : decode cX7_about 16 = .ok (.invokestatic 82, 3) := by decide +kernel
theorem dX7_about_19 : decode cX7_about 19 = .ok (.ifCond .ne 7, 3) := by decide +kernel
theorem dX7_about_22 : decode cX7_about 22 = .ok (.iconst 2, 1) := by decide +kernel
theorem dX7_about_23 : decode cX7_about 23 = .ok (.goto 4, 3) := by decide +kernel
theorem dX7_about_26 : decode cX7_about 26 = .ok (.iconst 0, 1) := by decide +kernel
theorem dX7_about_27 : decode cX7_about 27 = .ok (.putfield 75, 3) := by decide +kernel
theorem dX7_about_30 : decode cX7_about 30 = .ok (.aload_n 0, 1) := by decide +kernel
theorem dX7_about_31 : decode cX7_about 31 = .ok (.getfield 75, 3) := by decide +kernel
theorem dX7_about_34 : decode cX7_about 34 = .ok (.ifCond .le 5, 3) := by decide +kernel
theorem dX7_about_37 : decode cX7_about 37 = .ok (.iconst 0, 1) := by decide +kernel
theorem dX7_about_38 : decode cX7_about 38 = .ok (.ireturn, 1) := by decide +kernel
theorem dX7_about_39 : decode cX7_about 39 = .ok (.iload_n 2, 1) := by decide +kernel
theorem dX7_about_40 : decode cX7_about 40 = .ok (.ifCond .ne 12, 3) := by decide +kernel
theorem dX7_about_43 : decode cX7_about 43 = .ok (.aload_n 0, 1) := by decide +kernel
theorem dX7_about_44 : decode cX7_about 44 = .ok (.getfield 57, 3) := by decide +kernel
theorem dX7_about_47 : decode cX7_about 47 = .ok (.iload_n 1, 1) := by decide +kernel
theorem dX7_about_48 : decode cX7_about 48 = .ok (.iaload, 1) := by decide +kernel
theorem dX7_about_49 : decode cX7_about 49 = .ok (.goto 45, 3) := by decide +kernel
theorem dX7_about_52 : decode cX7_about 52 = .ok (.iload_n 2, 1) := by decide +kernel
theorem dX7_about_53 : decode cX7_about 53 = .ok (.iconst 1, 1) := by decide +kernel
theorem dX7_about_54 : decode cX7_about 54 = .ok (.if_icmp .ne 12, 3) := by decide +kernel
theorem dX7_about_57 : decode cX7_about 57 = .ok (.aload_n 0, 1) := by decide +kernel
theorem dX7_about_58 : decode cX7_about 58 = .ok (.getfield 60, 3) := by decide +kernel
theorem dX7_about_61 : decode cX7_about 61 = .ok (.iload_n 1, 1) := by decide +kernel
theorem dX7_about_62 : decode cX7_about 62 = .ok (.iaload, 1) := by decide +kernel
theorem dX7_about_63 : decode cX7_about 63 = .ok (.goto 31, 3) := by decide +kernel
theorem dX7_about_66 : decode cX7_about 66 = .ok (.iload_n 2, 1) := by decide +kernel
theorem dX7_about_67 : decode cX7_about 67 = .ok (.iconst 2, 1) := by decide +kernel
theorem dX7_about_68 : decode cX7_about 68 = .ok (.if_icmp .ne 12, 3) := by decide +kernel
theorem dX7_about_71 : decode cX7_about 71 = .ok (.aload_n 0, 1) := by decide +kernel
theorem dX7_about_72 : decode cX7_about 72 = .ok (.getfield 63, 3) := by decide +kernel
theorem dX7_about_75 : decode cX7_about 75 = .ok (.iload_n 1, 1) := by decide +kernel
theorem dX7_about_76 : decode cX7_about 76 = .ok (.iaload, 1) := by decide +kernel
theorem dX7_about_77 : decode cX7_about 77 = .ok (.goto 17, 3) := by decide +kernel
theorem dX7_about_80 : decode cX7_about 80 = .ok (.aload_n 0, 1) := by decide +kernel
theorem dX7_about_81 : decode cX7_about 81 = .ok (.getfield 66, 3) := by decide +kernel
theorem dX7_about_84 : decode cX7_about 84 = .ok (.iload_n 1, 1) := by decide +kernel
end
section
theorem dX7_about_85 : decode cX7_about 85 = .ok (.baload, 1) := by decide +kernel
theorem dX7_about_86 : decode cX7_about 86 = .ok (.ifCond .eq 7, 3) := by decide +kernel
theorem dX7_about_89 : decode cX7_about 89 = .ok (.iconst 1, 1) := by decide +kernel
theorem dX7_about_90 : decode cX7_about 90 = .ok (.goto 4, 3) := by decide +kernel
theorem dX7_about_93 : decode cX7_about 93 = .ok (.iconst 0, 1) := by decide +kernel
theorem dX7_about_94 : decode cX7_about 94 = .ok (.ireturn, 1) := by decide +kernel
theorem dX7_periodAnew_0 : decode cX7_periodAnew 0 = .ok (.aload_n 0, 1) := by decide +kernel
theorem dX7_periodAnew_1 : decode cX7_periodAnew 1 = .ok (.aload_n 0, 1) := by decide +kernel
theorem dX7_periodAnew_2 : decode cX7_periodAnew 2 = .ok (.iload_n 1, 1) := by decide +kernel
theorem dX7_periodAnew_3 : decode cX7_periodAnew 3 = .ok (.invokevirtual 145, 3) := by decide +kernel
theorem dX7_periodAnew_6 : decode cX7_periodAnew 6 = .ok (.ifCond .eq 7, 3) := by decide +kernel
theorem dX7_periodAnew_9 : decode cX7_periodAnew 9 = .ok (.iconst 0, 1) := by decide +kernel
theorem dX7_periodAnew_10 : decode cX7_periodAnew 10 = .ok (.goto 4, 3) := by decide +kernel
theorem dX7_periodAnew_13 : decode cX7_periodAnew 13 = .ok (.iconst 1, 1) := by decide +kernel
theorem dX7_periodAnew_14 : decode cX7_periodAnew 14 = .ok (.putfield 75, 3) := by decide +kernel
theorem dX7_periodAnew_17 : decode cX7_periodAnew 17 = .ok (.aload_n 0, 1) := by decide +kernel
theorem dX7_periodAnew_18 : decode cX7_periodAnew 18 = .ok (.getfield 75, 3) := by decide +kernel
theorem dX7_periodAnew_21 : decode cX7_periodAnew 21 = .ok (.ifCond .le 7, 3) := by decide +kernel
theorem dX7_periodAnew_24 : decode cX7_periodAnew 24 = .ok (.iconst 0, 1) := by decide +kernel
theorem dX7_periodAnew_25 : decode cX7_periodAnew 25 = .ok (.goto 9, 3) := by decide +kernel
theorem dX7_periodAnew_28 : decode cX7_periodAnew 28 = .ok (.aload_n 0, 1) := by decide +kernel
theorem dX7_periodAnew_29 : decode cX7_periodAnew 29 = .ok (.getfield 60, 3) := by decide +kernel
theorem dX7_periodAnew_32 : decode cX7_periodAnew 32 = .ok (.iload_n 1, 1) := by decide +kernel
theorem dX7_periodAnew_33 : decode cX7_periodAnew 33 = .ok (.iaload, 1) := by decide +kernel
theorem dX7_periodAnew_34 : decode cX7_periodAnew 34 = .ok (.ireturn, 1) := by decide +kernel
theorem dX7_fell_0 : decode cX7_fell 0 = .ok (.iload_n 1, 1) := by decide +kernel
theorem dX7_fell_1 : decode cX7_fell 1 = .ok (.istore_n 2, 1) := by decide +kernel
theorem dX7_fell_2 : decode cX7_fell 2 = .ok (.iload_n 2, 1) := by decide +kernel
theorem dX7_fell_3 : decode cX7_fell 3 = .ok (.iconst (-1), 1) := by decide +kernel
theorem dX7_fell_4 : decode cX7_fell 4 = .ok (.if_icmp .eq 27, 3) := by decide +kernel
theorem dX7_fell_7 : decode cX7_fell 7 = .ok (.aload_n 0, 1) := by decide +kernel
theorem dX7_fell_8 : decode cX7_fell 8 = .ok (.getfield 66, 3) := by decide +kernel
theorem dX7_fell_11 : decode cX7_fell 11 = .ok (.aload_n 0, 1) := by decide +kernel
theorem dX7_fell_12 : decode cX7_fell 12 = .ok (.getfield 69, 3) := by decide +kernel
theorem dX7_fell_15 : decode cX7_fell 15 = .ok (.iload_n 2, 1) := by decide +kernel
theorem dX7_fell_16 : decode cX7_fell 16 = .ok (.iaload, 1) := by decide +kernel
theorem dX7_fell_17 : decode cX7_fell 17 = .ok (.baload, 1) := by decide +kernel
theorem dX7_fell_18 : decode cX7_fell 18 = .ok (.ifCond .ne 13, 3) := by decide +kernel
theorem dX7_fell_21 : decode cX7_fell 21 = .ok (.aload_n 0, 1) := by decide +kernel
theorem dX7_fell_22 : decode cX7_fell 22 = .ok (.getfield 72, 3) := by decide +kernel
theorem dX7_fell_25 : decode cX7_fell 25 = .ok (.iload_n 2, 1) := by decide +kernel
theorem dX7_fell_26 : decode cX7_fell 26 = .ok (.iaload, 1) := by decide +kernel
theorem dX7_fell_27 : decode cX7_fell 27 = .ok (.istore_n 2, 1) := by decide +kernel
theorem dX7_fell_28 : decode cX7_fell 28 = .ok (.goto (-26), 3) := by decide +kernel
theorem dX7_fell_31 : decode cX7_fell 31 = .ok (.iload_n 2, 1) := by decide +kernel
theorem dX7_fell_32 : decode cX7_fell 32 = .ok (.iconst (-1), 1) := by decide +kernel
theorem dX7_fell_33 : decode cX7_fell 33 = .ok (.if_icmp .eq 7, 3) := by decide +kernel
theorem dX7_fell_36 : decode cX7_fell 36 = .ok (.iconst 1, 1) := by decide +kernel
theorem dX7_fell_37 : decode cX7_fell 37 = .ok (.goto 4, 3) := by decide +kernel
theorem dX7_fell_40 : decode cX7_fell 40 = .ok (.iconst 0, 1) := by decide +kernel
theorem dX7_fell_41 : decode cX7_fell 41 = .ok (.ireturn, 1) := by decide +kernel
theorem dX7_fallen_0 : decode cX7_fallen 0 = .ok (.iconst 0, 1) := by decide +kernel
theorem dX7_fallen_1 : decode cX7_fallen 1 = .ok (.istore_n 1, 1) := by decide +kernel
theorem dX7_fallen_2 : decode cX7_fallen 2 = .ok (.iconst 0, 1) := by decide +kernel
theorem dX7_fallen_3 : decode cX7_fallen 3 = .ok (.istore_n 2, 1) := by decide +kernel
theorem dX7_fallen_4 : decode cX7_fallen 4 = .ok (.iload_n 2, 1) := by decide +kernel
theorem dX7_fallen_5 : decode cX7_fallen 5 = .ok (.aload_n 0, 1) := by decide +kernel
theorem dX7_fallen_6 : decode cX7_fallen 6 = .ok (.getfield 148, 3) := by decide +kernel
theorem dX7_fallen_9 : decode cX7_fallen 9 = .ok (.if_icmp .ge 25, 3) := by decide +kernel
theorem dX7_fallen_12 : decode cX7_fallen 12 = .ok (.iload_n 1, 1) := by decide +kernel
theorem dX7_fallen_13 : decode cX7_fallen 13 = .ok (.aload_n 0, 1) := by decide +kernel
theorem dX7_fallen_14 : decode cX7_fallen 14 = .ok (.iload_n 2, 1) := by decide +kernel
theorem dX7_fallen_15 : decode cX7_fallen 15 = .ok (.invokevirtual 151, 3) := by decide +kernel
theorem dX7_fallen_18 : decode cX7_fallen 18 = .ok (.ifCond .eq 7, 3) := by decide +kernel
theorem dX7_fallen_21 : decode cX7_fallen 21 = .ok (.iconst 1, 1) := by decide +kernel
theorem dX7_fallen_22 : decode cX7_fallen 22 = .ok (.goto 4, 3) := by decide +kernel
theorem dX7_fallen_25 : decode cX7_fallen 25 = .ok (.iconst 0, 1) := by decide +kernel
theorem dX7_fallen_26 : decode cX7_fallen 26 = .ok (.iadd, 1) := by decide +kernel
theorem dX7_fallen_27 : decode cX7_fallen 27 = .ok (.istore_n 1, 1) := by decide +kernel
theorem dX7_fallen_28 : decode cX7_fallen 28 = .ok (.iinc 2 1, 3) := by decide +kernel
theorem dX7_fallen_31 : decode cX7_fallen 31 = .ok (.goto (-27), 3) := by decide +kernel
theorem dX7_fallen_34 : decode cX7_fallen 34 = .ok (.iload_n 1, 1) := by decide +kernel
theorem dX7_fallen_35 : decode cX7_fallen 35 = .ok (.ireturn, 1) := by decide +kernel
theorem dX7_isPaper_0 : decode cX7_isPaper 0 = .ok (.iload_n 1, 1) := by decide +kernel
theorem dX7_isPaper_1 : decode cX7_isPaper 1 = .ok (.iconst 0, 1) := by decide +kernel
theorem dX7_isPaper_2 : decode cX7_isPaper 2 = .ok (.aload_n 0, 1) := by decide +kernel
theorem dX7_isPaper_3 : decode cX7_isPaper 3 = .ok (.getfield 148, 3) := by decide +kernel
theorem dX7_isPaper_6 : decode cX7_isPaper 6 = .ok (.iconst 1, 1) := by decide +kernel
theorem dX7_isPaper_7 : decode cX7_isPaper 7 = .ok (.isub, 1) := by decide +kernel
theorem dX7_isPaper_8 : decode cX7_isPaper 8 = .ok (.invokestatic 82, 3) := by decide +kernel
theorem dX7_isPaper_11 : decode cX7_isPaper 11 = .ok (.ireturn, 1) := by decide +kernel
theorem dX7_paper_0 : decode cX7_paper 0 = .ok (.aload_n 0, 1) := by decide +kernel
theorem dX7_paper_1 : decode cX7_paper 1 = .ok (.iload_n 1, 1) := by decide +kernel
theorem dX7_paper_2 : decode cX7_paper 2 = .ok (.invokevirtual 145, 3) := by decide +kernel
theorem dX7_paper_5 : decode cX7_paper 5 = .ok (.ifCond .eq 20, 3) := by decide +kernel
theorem dX7_paper_8 : decode cX7_paper 8 = .ok (.iload_n 2, 1) := by decide +kernel
theorem dX7_paper_9 : decode cX7_paper 9 = .ok (.iconst (-1), 1) := by decide +kernel
theorem dX7_paper_10 : decode cX7_paper 10 = .ok (.if_icmp .eq 11, 3) := by decide +kernel
theorem dX7_paper_13 : decode cX7_paper 13 = .ok (.aload_n 0, 1) := by decide +kernel
theorem dX7_paper_14 : decode cX7_paper 14 = .ok (.iload_n 2, 1) := by decide +kernel
theorem dX7_paper_15 : decode cX7_paper 15 = .ok (.invokevirtual 154, 3) := by decide +kernel
theorem dX7_paper_18 : decode cX7_paper 18 = .ok (.ifCond .eq 7, 3) := by decide +kernel
theorem dX7_paper_21 : decode cX7_paper 21 = .ok (.iconst 1, 1) := by decide +kernel
theorem dX7_paper_22 : decode cX7_paper 22 = .ok (.goto 4, 3) := by decide +kernel
theorem dX7_paper_25 : decode cX7_paper 25 = .ok (.iconst 0, 1) := by decide +kernel
theorem dX7_paper_26 : decode cX7_paper 26 = .ok (.istore_n 3, 1) := by decide +kernel
theorem dX7_paper_27 : decode cX7_paper 27 = .ok (.iload_n 3, 1) := by decide +kernel
theorem dX7_paper_28 : decode cX7_paper 28 = .ok (.ifCond .eq 38, 3) := by decide +kernel
theorem dX7_paper_31 : decode cX7_paper 31 = .ok (.aload_n 0, 1) := by decide +kernel
theorem dX7_paper_32 : decode cX7_paper 32 = .ok (.getfield 66, 3) := by decide +kernel
theorem dX7_paper_35 : decode cX7_paper 35 = .ok (.iload_n 1, 1) := by decide +kernel
theorem dX7_paper_36 : decode cX7_paper 36 = .ok (.baload, 1) := by decide +kernel
theorem dX7_paper_37 : decode cX7_paper 37 = .ok (.ifCond .ne 25, 3) := by decide +kernel
theorem dX7_paper_40 : decode cX7_paper 40 = .ok (.iload_n 2, 1) := by decide +kernel
theorem dX7_paper_41 : decode cX7_paper 41 = .ok (.iconst (-1), 1) := by decide +kernel
theorem dX7_paper_42 : decode cX7_paper 42 = .ok (.if_icmp .eq 11, 3) := by decide +kernel
theorem dX7_paper_45 : decode cX7_paper 45 = .ok (.aload_n 0, 1) := by decide +kernel
theorem dX7_paper_46 : decode cX7_paper 46 = .ok (.iload_n 2, 1) := by decide +kernel
theorem dX7_paper_47 : decode cX7_paper 47 = .ok (.invokevirtual 151, 3) := by decide +kernel
theorem dX7_paper_50 : decode cX7_paper 50 = .ok (.ifCond .ne 12, 3) := by decide +kernel
theorem dX7_paper_53 : decode cX7_paper 53 = .ok (.aload_n 0, 1) := by decide +kernel
theorem dX7_paper_54 : decode cX7_paper 54 = .ok (.getfield 148, 3) := by decide +kernel
theorem dX7_paper_57 : decode cX7_paper 57 = .ok (.bipush 30, 2) := by decide +kernel
theorem dX7_paper_59 : decode cX7_paper 59 = .ok (.if_icmp .ne 7, 3) := by decide +kernel
theorem dX7_paper_62 : decode cX7_paper 62 = .ok (.iconst 1, 1) := by decide +kernel
theorem dX7_paper_63 : decode cX7_paper 63 = .ok (.goto 4, 3) := by decide +kernel
theorem dX7_paper_66 : decode cX7_paper 66 = .ok (.iconst 0, 1) := by decide +kernel
theorem dX7_paper_67 : decode cX7_paper 67 = .ok (.istore 4, 2) := by decide +kernel
theorem dX7_paper_69 : decode cX7_paper 69 = .ok (.aload_n 0, 1) := by decide +kernel
theorem dX7_paper_70 : decode cX7_paper 70 = .ok (.iload_n 3, 1) := by decide +kernel
theorem dX7_paper_71 : decode cX7_paper 71 = .ok (.ifCond .ne 7, 3) := by decide +kernel
theorem dX7_paper_74 : decode cX7_paper 74 = .ok (.iconst 1, 1) := by decide +kernel
theorem dX7_paper_75 : decode cX7_paper 75 = .ok (.goto 13, 3) := by decide +kernel
theorem dX7_paper_78 : decode cX7_paper 78 = .ok (.iload 4, 2) := by decide +kernel
theorem dX7_paper_80 : decode cX7_paper 80 = .ok (.ifCond .eq 7, 3) := by decide +kernel
theorem dX7_paper_83 : decode cX7_paper 83 = .ok (.iconst 2, 1) := by decide +kernel
theorem dX7_paper_84 : decode cX7_paper 84 = .ok (.goto 4, 3) := by decide +kernel
theorem dX7_paper_87 : decode cX7_paper 87 = .ok (.iconst 0, 1) := by decide +kernel
theorem dX7_paper_88 : decode cX7_paper 88 = .ok (.putfield 75, 3) := by decide +kernel
theorem dX7_paper_91 : decode cX7_paper 91 = .ok (.aload_n 0, 1) := by decide +kernel
theorem dX7_paper_92 : decode cX7_paper 92 = .ok (.getfield 75, 3) := by decide +kernel
theorem dX7_paper_95 : decode cX7_paper 95 = .ok (.ifCond .le 5, 3) := by decide +kernel
theorem dX7_paper_98 : decode cX7_paper 98 = .ok (.iconst 0, 1) := by decide +kernel
theorem dX7_paper_99 : decode cX7_paper 99 = .ok (.ireturn, 1) := by decide +kernel
theorem dX7_paper_100 : decode cX7_paper 100 = .ok (.aload_n 0, 1) := by decide +kernel
theorem dX7_paper_101 : decode cX7_paper 101 = .ok (.getfield 69, 3) := by decide +kernel
theorem dX7_paper_104 : decode cX7_paper 104 = .ok (.aload_n 0, 1) := by decide +kernel
theorem dX7_paper_105 : decode cX7_paper 105 = .ok (.getfield 148, 3) := by decide +kernel
theorem dX7_paper_108 : decode cX7_paper 108 = .ok (.iload_n 1, 1) := by decide +kernel
theorem dX7_paper_109 : decode cX7_paper 109 = .ok (.iastore, 1) := by decide +kernel
theorem dX7_paper_110 : decode cX7_paper 110 = .ok (.aload_n 0, 1) := by decide +kernel
theorem dX7_paper_111 : decode cX7_paper 111 = .ok (.getfield 72, 3) := by decide +kernel
theorem dX7_paper_114 : decode cX7_paper 114 = .ok (.aload_n 0, 1) := by decide +kernel
theorem dX7_paper_115 : decode cX7_paper 115 = .ok (.getfield 148, 3) := by decide +kernel
theorem dX7_paper_118 : decode cX7_paper 118 = .ok (.iload_n 2, 1) := by decide +kernel
theorem dX7_paper_119 : decode cX7_paper 119 = .ok (.iastore, 1) := by decide +kernel
theorem dX7_paper_120 : decode cX7_paper 120 = .ok (.aload_n 0, 1) := by decide +kernel
theorem dX7_paper_121 : decode cX7_paper 121 = .ok (.dup, 1) := by decide +kernel
theorem dX7_paper_122 : decode cX7_paper 122 = .ok (.getfield 148, 3) := by decide +kernel
theorem dX7_paper_125 : decode cX7_paper 125 = .ok (.iconst 1, 1) := by decide +kernel
theorem dX7_paper_126 : decode cX7_paper 126 = .ok (.iadd, 1) := by decide +kernel
theorem dX7_paper_127 : decode cX7_paper 127 = .ok (.putfield 148, 3) := by decide +kernel
theorem dX7_paper_130 : decode cX7_paper 130 = .ok (.aload_n 0, 1) := by decide +kernel
theorem dX7_paper_131 : decode cX7_paper 131 = .ok (.getfield 148, 3) := by decide +kernel
theorem dX7_paper_134 : decode cX7_paper 134 = .ok (.iconst 1, 1) := by decide +kernel
theorem dX7_paper_135 : decode cX7_paper 135 = .ok (.isub, 1) := by decide +kernel
theorem dX7_paper_136 : decode cX7_paper 136 = .ok (.ireturn, 1) := by decide +kernel
theorem dX7_withdraw_0 : decode cX7_withdraw 0 = .ok (.aload_n 0, 1) := by decide +kernel
theorem dX7_withdraw_1 : decode cX7_withdraw 1 = .ok (.aload_n 0, 1) := by decide +kernel
theorem dX7_withdraw_2 : decode cX7_withdraw 2 = .ok (.iload_n 1, 1) := by decide +kernel
theorem dX7_withdraw_3 : decode cX7_withdraw 3 = .ok (.invokevirtual 145, 3) := by decide +kernel
theorem dX7_withdraw_6 : decode cX7_withdraw 6 = .ok (.ifCond .ne 7, 3) := by decide +kernel
theorem dX7_withdraw_9 : decode cX7_withdraw 9 = .ok (.iconst 1, 1) := by decide +kernel
theorem dX7_withdraw_10 : decode cX7_withdraw 10 = .ok (.goto 17, 3) := by decide +kernel
theorem dX7_withdraw_13 : decode cX7_withdraw 13 = .ok (.aload_n 0, 1) := by decide +kernel
theorem dX7_withdraw_14 : decode cX7_withdraw 14 = .ok (.getfield 66, 3) := by decide +kernel
theorem dX7_withdraw_17 : decode cX7_withdraw 17 = .ok (.iload_n 1, 1) := by decide +kernel
theorem dX7_withdraw_18 : decode cX7_withdraw 18 = .ok (.baload, 1) := by decide +kernel
theorem dX7_withdraw_19 : decode cX7_withdraw 19 = .ok (.ifCond .eq 7, 3) := by decide +kernel
theorem dX7_withdraw_22 : decode cX7_withdraw 22 = .ok (.iconst 2, 1) := by decide +kernel
theorem dX7_withdraw_23 : decode cX7_withdraw 23 = .ok (.goto 4, 3) := by decide +kernel
theorem dX7_withdraw_26 : decode cX7_withdraw 26 = .ok (.iconst 0, 1) := by decide +kernel
theorem dX7_withdraw_27 : decode cX7_withdraw 27 = .ok (.putfield 75, 3) := by decide +kernel
theorem dX7_withdraw_30 : decode cX7_withdraw 30 = .ok (.aload_n 0, 1) := by decide +kernel
theorem dX7_withdraw_31 : decode cX7_withdraw 31 = .ok (.getfield 75, 3) := by decide +kernel
theorem dX7_withdraw_34 : decode cX7_withdraw 34 = .ok (.ifCond .le 5, 3) := by decide +kernel
theorem dX7_withdraw_37 : decode cX7_withdraw 37 = .ok (.iconst 0, 1) := by decide +kernel
theorem dX7_withdraw_38 : decode cX7_withdraw 38 = .ok (.ireturn, 1) := by decide +kernel
theorem dX7_withdraw_39 : decode cX7_withdraw 39 = .ok (.aload_n 0, 1) := by decide +kernel
theorem dX7_withdraw_40 : decode cX7_withdraw 40 = .ok (.invokevirtual 157, 3) := by decide +kernel
theorem dX7_withdraw_43 : decode cX7_withdraw 43 = .ok (.istore_n 2, 1) := by decide +kernel
theorem dX7_withdraw_44 : decode cX7_withdraw 44 = .ok (.aload_n 0, 1) := by decide +kernel
theorem dX7_withdraw_45 : decode cX7_withdraw 45 = .ok (.getfield 66, 3) := by decide +kernel
theorem dX7_withdraw_48 : decode cX7_withdraw 48 = .ok (.iload_n 1, 1) := by decide +kernel
theorem dX7_withdraw_49 : decode cX7_withdraw 49 = .ok (.iconst 1, 1) := by decide +kernel
theorem dX7_withdraw_50 : decode cX7_withdraw 50 = .ok (.bastore, 1) := by decide +kernel
theorem dX7_withdraw_51 : decode cX7_withdraw 51 = .ok (.aload_n 0, 1) := by decide +kernel
theorem dX7_withdraw_52 : decode cX7_withdraw 52 = .ok (.invokevirtual 157, 3) := by decide +kernel
theorem dX7_withdraw_55 : decode cX7_withdraw 55 = .ok (.iload_n 2, 1) := by decide +kernel
theorem dX7_withdraw_56 : decode cX7_withdraw 56 = .ok (.isub, 1) := by decide +kernel
theorem dX7_withdraw_57 : decode cX7_withdraw 57 = .ok (.ireturn, 1) := by decide +kernel
theorem dX7_hasFallen_0 : decode cX7_hasFallen 0 = .ok (.aload_n 0, 1) := by decide +kernel
theorem dX7_hasFallen_1 : decode cX7_hasFallen 1 = .ok (.aload_n 0, 1) := by decide +kernel
theorem dX7_hasFallen_2 : decode cX7_hasFallen 2 = .ok (.iload_n 1, 1) := by decide +kernel
theorem dX7_hasFallen_3 : decode cX7_hasFallen 3 = .ok (.invokevirtual 154, 3) := by decide +kernel
theorem dX7_hasFallen_6 : decode cX7_hasFallen 6 = .ok (.ifCond .eq 7, 3) := by decide +kernel
theorem dX7_hasFallen_9 : decode cX7_hasFallen 9 = .ok (.iconst 0, 1) := by decide +kernel
theorem dX7_hasFallen_10 : decode cX7_hasFallen 10 = .ok (.goto 4, 3) := by decide +kernel
theorem dX7_hasFallen_13 : decode cX7_hasFallen 13 = .ok (.iconst 1, 1) := by decide +kernel
theorem dX7_hasFallen_14 : decode cX7_hasFallen 14 = .ok (.putfield 75, 3) := by decide +kernel
theorem dX7_hasFallen_17 : decode cX7_hasFallen 17 = .ok (.aload_n 0, 1) := by decide +kernel
theorem dX7_hasFallen_18 : decode cX7_hasFallen 18 = .ok (.getfield 75, 3) := by decide +kernel
theorem dX7_hasFallen_21 : decode cX7_hasFallen 21 = .ok (.ifCond .ne 15, 3) := by decide +kernel
theorem dX7_hasFallen_24 : decode cX7_hasFallen 24 = .ok (.aload_n 0, 1) := by decide +kernel
theorem dX7_hasFallen_25 : decode cX7_hasFallen 25 = .ok (.iload_n 1, 1) := by decide +kernel
theorem dX7_hasFallen_26 : decode cX7_hasFallen 26 = .ok (.invokevirtual 151, 3) := by decide +kernel
theorem dX7_hasFallen_29 : decode cX7_hasFallen 29 = .ok (.ifCond .eq 7, 3) := by decide +kernel
theorem dX7_hasFallen_32 : decode cX7_hasFallen 32 = .ok (.iconst 1, 1) := by decide +kernel
theorem dX7_hasFallen_33 : decode cX7_hasFallen 33 = .ok (.goto 4, 3) := by decide +kernel
theorem dX7_hasFallen_36 : decode cX7_hasFallen 36 = .ok (.iconst 0, 1) := by decide +kernel
theorem dX7_hasFallen_37 : decode cX7_hasFallen 37 = .ok (.ireturn, 1) := by decide +kernel
theorem dJxe99ae_isNaN_b9ae7_0 : decode cJxe99ae_isNaN_b9ae7 0 = .ok (.dload_n 0, 1) := by decide +kernel
theorem dJxe99ae_isNaN_b9ae7_1 : decode cJxe99ae_isNaN_b9ae7 1 = .ok (.dload_n 0, 1) := by decide +kernel
theorem dJxe99ae_isNaN_b9ae7_2 : decode cJxe99ae_isNaN_b9ae7 2 = .ok (.dcmp .l, 1) := by decide +kernel
theorem dJxe99ae_isNaN_b9ae7_3 : decode cJxe99ae_isNaN_b9ae7 3 = .ok (.ifCond .eq 7, 3) := by decide +kernel
theorem dJxe99ae_isNaN_b9ae7_6 : decode cJxe99ae_isNaN_b9ae7 6 = .ok (.iconst 1, 1) := by decide +kernel
theorem dJxe99ae_isNaN_b9ae7_7 : decode cJxe99ae_isNaN_b9ae7 7 = .ok (.goto 4, 3) := by decide +kernel
theorem dJxe99ae_isNaN_b9ae7_10 : decode cJxe99ae_isNaN_b9ae7 10 = .ok (.iconst 0, 1) := by decide +kernel
theorem dJxe99ae_isNaN_b9ae7_11 : decode cJxe99ae_isNaN_b9ae7 11 = .ok (.ireturn, 1) := by decide +kernel
theorem dJxe99ae_doubleToLongBits_ccdee_0 : decode cJxe99ae_doubleToLongBits_ccdee 0 = .ok (.dload_n 0, 1) := by decide +kernel
theorem dJxe99ae_doubleToLongBits_ccdee_1 : decode cJxe99ae_doubleToLongBits_ccdee 1 = .ok (.invokestatic 122, 3) := by decide +kernel
theorem dJxe99ae_doubleToLongBits_ccdee_4 : decode cJxe99ae_doubleToLongBits_ccdee 4 = .ok (.ifCond .ne 8, 3) := by decide +kernel
theorem dJxe99ae_doubleToLongBits_ccdee_7 : decode cJxe99ae_doubleToLongBits_ccdee 7 = .ok (.dload_n 0, 1) := by decide +kernel
theorem dJxe99ae_doubleToLongBits_ccdee_8 : decode cJxe99ae_doubleToLongBits_ccdee 8 = .ok (.invokestatic 134, 3) := by decide +kernel
theorem dJxe99ae_doubleToLongBits_ccdee_11 : decode cJxe99ae_doubleToLongBits_ccdee 11 = .ok (.lreturn, 1) := by decide +kernel
theorem dJxe99ae_doubleToLongBits_ccdee_12 : decode cJxe99ae_doubleToLongBits_ccdee 12 = .ok (.ldc2_w 137, 3) := by decide +kernel
theorem dJxe99ae_doubleToLongBits_ccdee_15 : decode cJxe99ae_doubleToLongBits_ccdee 15 = .ok (.lreturn, 1) := by decide +kernel
theorem dJ9_floorMod_7cf53_0 : decode cJ9_floorMod_7cf53 0 = .ok (.iload_n 0, 1) := by decide +kernel
theorem dJ9_floorMod_7cf53_1 : decode cJ9_floorMod_7cf53 1 = .ok (.iload_n 1, 1) := by decide +kernel
theorem dJ9_floorMod_7cf53_2 : decode cJ9_floorMod_7cf53 2 = .ok (.irem, 1) := by decide +kernel
theorem dJ9_floorMod_7cf53_3 : decode cJ9_floorMod_7cf53 3 = .ok (.istore_n 2, 1) := by decide +kernel
theorem dJ9_floorMod_7cf53_4 : decode cJ9_floorMod_7cf53 4 = .ok (.iload_n 0, 1) := by decide +kernel
theorem dJ9_floorMod_7cf53_5 : decode cJ9_floorMod_7cf53 5 = .ok (.iload_n 1, 1) := by decide +kernel
theorem dJ9_floorMod_7cf53_6 : decode cJ9_floorMod_7cf53 6 = .ok (.ixor, 1) := by decide +kernel
theorem dJ9_floorMod_7cf53_7 : decode cJ9_floorMod_7cf53 7 = .ok (.ifCond .ge 11, 3) := by decide +kernel
theorem dJ9_floorMod_7cf53_10 : decode cJ9_floorMod_7cf53 10 = .ok (.iload_n 2, 1) := by decide +kernel
theorem dJ9_floorMod_7cf53_11 : decode cJ9_floorMod_7cf53 11 = .ok (.ifCond .eq 7, 3) := by decide +kernel
theorem dJ9_floorMod_7cf53_14 : decode cJ9_floorMod_7cf53 14 = .ok (.iload_n 2, 1) := by decide +kernel
theorem dJ9_floorMod_7cf53_15 : decode cJ9_floorMod_7cf53 15 = .ok (.iload_n 1, 1) := by decide +kernel
theorem dJ9_floorMod_7cf53_16 : decode cJ9_floorMod_7cf53 16 = .ok (.iadd, 1) := by decide +kernel
theorem dJ9_floorMod_7cf53_17 : decode cJ9_floorMod_7cf53 17 = .ok (.ireturn, 1) := by decide +kernel
theorem dJ9_floorMod_7cf53_18 : decode cJ9_floorMod_7cf53 18 = .ok (.iload_n 2, 1) := by decide +kernel
theorem dJ9_floorMod_7cf53_19 : decode cJ9_floorMod_7cf53 19 = .ok (.ireturn, 1) := by decide +kernel
theorem dJ9_max_7cf53_0 : decode cJ9_max_7cf53 0 = .ok (.iload_n 0, 1) := by decide +kernel
theorem dJ9_max_7cf53_1 : decode cJ9_max_7cf53 1 = .ok (.iload_n 1, 1) := by decide +kernel
theorem dJ9_max_7cf53_2 : decode cJ9_max_7cf53 2 = .ok (.if_icmp .lt 7, 3) := by decide +kernel
theorem dJ9_max_7cf53_5 : decode cJ9_max_7cf53 5 = .ok (.iload_n 0, 1) := by decide +kernel
theorem dJ9_max_7cf53_6 : decode cJ9_max_7cf53 6 = .ok (.goto 4, 3) := by decide +kernel
theorem dJ9_max_7cf53_9 : decode cJ9_max_7cf53 9 = .ok (.iload_n 1, 1) := by decide +kernel
theorem dJ9_max_7cf53_10 : decode cJ9_max_7cf53 10 = .ok (.ireturn, 1) := by decide +kernel
theorem dJ9_min_7cf53_0 : decode cJ9_min_7cf53 0 = .ok (.iload_n 0, 1) := by decide +kernel
theorem dJ9_min_7cf53_1 : decode cJ9_min_7cf53 1 = .ok (.iload_n 1, 1) := by decide +kernel
theorem dJ9_min_7cf53_2 : decode cJ9_min_7cf53 2 = .ok (.if_icmp .gt 7, 3) := by decide +kernel
theorem dJ9_min_7cf53_5 : decode cJ9_min_7cf53 5 = .ok (.iload_n 0, 1) := by decide +kernel
theorem dJ9_min_7cf53_6 : decode cJ9_min_7cf53 6 = .ok (.goto 4, 3) := by decide +kernel
theorem dJ9_min_7cf53_9 : decode cJ9_min_7cf53 9 = .ok (.iload_n 1, 1) := by decide +kernel
theorem dJ9_min_7cf53_10 : decode cJ9_min_7cf53 10 = .ok (.ireturn, 1) := by decide +kernel
theorem dJxa1e45_init_da8c8_0 : decode cJxa1e45_init_da8c8 0 = .ok (.aload_n 0, 1) := by decide +kernel
theorem dJxa1e45_init_da8c8_1 : decode cJxa1e45_init_da8c8 1 = .ok (.invokespecial 1, 3) := by decide +kernel
theorem dJxa1e45_init_da8c8_4 : decode cJxa1e45_init_da8c8 4 = .ok (.return_, 1) := by decide +kernel
theorem dJxc12de_init_da8c8_0 : decode cJxc12de_init_da8c8 0 = .ok (.aload_n 0, 1) := by decide +kernel
theorem dJxc12de_init_da8c8_1 : decode cJxc12de_init_da8c8 1 = .ok (.invokespecial 1, 3) := by decide +kernel
theorem dJxc12de_init_da8c8_4 : decode cJxc12de_init_da8c8 4 = .ok (.aload_n 0, 1) := by decide +kernel
theorem dJxc12de_init_da8c8_5 : decode cJxc12de_init_da8c8 5 = .ok (.iconst 0, 1) := by decide +kernel
theorem dJxc12de_init_da8c8_6 : decode cJxc12de_init_da8c8 6 = .ok (.putfield 7, 3) := by decide +kernel
theorem dJxc12de_init_da8c8_9 : decode cJxc12de_init_da8c8 9 = .ok (.return_, 1) := by decide +kernel
theorem dJx4a65c_init_da8c8_0 : decode cJx4a65c_init_da8c8 0 = .ok (.aload_n 0, 1) := by decide +kernel
theorem dJx4a65c_init_da8c8_1 : decode cJx4a65c_init_da8c8 1 = .ok (.invokespecial 1, 3) := by decide +kernel
theorem dJx4a65c_init_da8c8_4 : decode cJx4a65c_init_da8c8 4 = .ok (.aload_n 0, 1) := by decide +kernel
theorem dJx4a65c_init_da8c8_5 : decode cJx4a65c_init_da8c8 5 = .ok (.getstatic 39, 3) := by decide +kernel
theorem dJx4a65c_init_da8c8_8 : decode cJx4a65c_init_da8c8 8 = .ok (.putfield 9, 3) := by decide +kernel
theorem dJx4a65c_init_da8c8_11 : decode cJx4a65c_init_da8c8 11 = .ok (.return_, 1) := by decide +kernel
theorem dJx4a65c_grow_92f84_0 : decode cJx4a65c_grow_92f84 0 = .ok (.aload_n 0, 1) := by decide +kernel
theorem dJx4a65c_grow_92f84_1 : decode cJx4a65c_grow_92f84 1 = .ok (.getfield 9, 3) := by decide +kernel
theorem dJx4a65c_grow_92f84_4 : decode cJx4a65c_grow_92f84 4 = .ok (.arraylength, 1) := by decide +kernel
theorem dJx4a65c_grow_92f84_5 : decode cJx4a65c_grow_92f84 5 = .ok (.istore_n 2, 1) := by decide +kernel
theorem dJx4a65c_grow_92f84_6 : decode cJx4a65c_grow_92f84 6 = .ok (.iload_n 2, 1) := by decide +kernel
theorem dJx4a65c_grow_92f84_7 : decode cJx4a65c_grow_92f84 7 = .ok (.ifCond .gt 13, 3) := by decide +kernel
theorem dJx4a65c_grow_92f84_10 : decode cJx4a65c_grow_92f84 10 = .ok (.aload_n 0, 1) := by decide +kernel
theorem dJx4a65c_grow_92f84_11 : decode cJx4a65c_grow_92f84 11 = .ok (.getfield 9, 3) := by decide +kernel
theorem dJx4a65c_grow_92f84_14 : decode cJx4a65c_grow_92f84 14 = .ok (.getstatic 39, 3) := by decide +kernel
theorem dJx4a65c_grow_92f84_17 : decode cJx4a65c_grow_92f84 17 = .ok (.if_acmp .eq 28, 3) := by decide +kernel
theorem dJx4a65c_grow_92f84_20 : decode cJx4a65c_grow_92f84 20 = .ok (.iload_n 2, 1) := by decide +kernel
theorem dJx4a65c_grow_92f84_21 : decode cJx4a65c_grow_92f84 21 = .ok (.iload_n 1, 1) := by decide +kernel
theorem dJx4a65c_grow_92f84_22 : decode cJx4a65c_grow_92f84 22 = .ok (.iload_n 2, 1) := by decide +kernel
theorem dJx4a65c_grow_92f84_23 : decode cJx4a65c_grow_92f84 23 = .ok (.isub, 1) := by decide +kernel
theorem dJx4a65c_grow_92f84_24 : decode cJx4a65c_grow_92f84 24 = .ok (.iload_n 2, 1) := by decide +kernel
theorem dJx4a65c_grow_92f84_25 : decode cJx4a65c_grow_92f84 25 = .ok (.iconst 1, 1) := by decide +kernel
theorem dJx4a65c_grow_92f84_26 : decode cJx4a65c_grow_92f84 26 = .ok (.ishr, 1) := by decide +kernel
theorem dJx4a65c_grow_92f84_27 : decode cJx4a65c_grow_92f84 27 = .ok (.invokestatic 73, 3) := by decide +kernel
theorem dJx4a65c_grow_92f84_30 : decode cJx4a65c_grow_92f84 30 = .ok (.istore_n 3, 1) := by decide +kernel
theorem dJx4a65c_grow_92f84_31 : decode cJx4a65c_grow_92f84 31 = .ok (.aload_n 0, 1) := by decide +kernel
theorem dJx4a65c_grow_92f84_32 : decode cJx4a65c_grow_92f84 32 = .ok (.aload_n 0, 1) := by decide +kernel
theorem dJx4a65c_grow_92f84_33 : decode cJx4a65c_grow_92f84 33 = .ok (.getfield 9, 3) := by decide +kernel
theorem dJx4a65c_grow_92f84_36 : decode cJx4a65c_grow_92f84 36 = .ok (.iload_n 3, 1) := by decide +kernel
theorem dJx4a65c_grow_92f84_37 : decode cJx4a65c_grow_92f84 37 = .ok (.invokestatic 66, 3) := by decide +kernel
theorem dJx4a65c_grow_92f84_40 : decode cJx4a65c_grow_92f84 40 = .ok (.dup_x1, 1) := by decide +kernel
theorem dJx4a65c_grow_92f84_41 : decode cJx4a65c_grow_92f84 41 = .ok (.putfield 9, 3) := by decide +kernel
theorem dJx4a65c_grow_92f84_44 : decode cJx4a65c_grow_92f84 44 = .ok (.areturn, 1) := by decide +kernel
theorem dJx4a65c_grow_92f84_45 : decode cJx4a65c_grow_92f84 45 = .ok (.aload_n 0, 1) := by decide +kernel
theorem dJx4a65c_grow_92f84_46 : decode cJx4a65c_grow_92f84 46 = .ok (.bipush 10, 2) := by decide +kernel
theorem dJx4a65c_grow_92f84_48 : decode cJx4a65c_grow_92f84 48 = .ok (.iload_n 1, 1) := by decide +kernel
theorem dJx4a65c_grow_92f84_49 : decode cJx4a65c_grow_92f84 49 = .ok (.invokestatic 79, 3) := by decide +kernel
theorem dJx4a65c_grow_92f84_52 : decode cJx4a65c_grow_92f84 52 = .ok (.anewarray 7, 3) := by decide +kernel
theorem dJx4a65c_grow_92f84_55 : decode cJx4a65c_grow_92f84 55 = .ok (.dup_x1, 1) := by decide +kernel
theorem dJx4a65c_grow_92f84_56 : decode cJx4a65c_grow_92f84 56 = .ok (.putfield 9, 3) := by decide +kernel
theorem dJx4a65c_grow_92f84_59 : decode cJx4a65c_grow_92f84 59 = .ok (.areturn, 1) := by decide +kernel
theorem dJx4a65c_grow_d5877_0 : decode cJx4a65c_grow_d5877 0 = .ok (.aload_n 0, 1) := by decide +kernel
theorem dJx4a65c_grow_d5877_1 : decode cJx4a65c_grow_d5877 1 = .ok (.aload_n 0, 1) := by decide +kernel
theorem dJx4a65c_grow_d5877_2 : decode cJx4a65c_grow_d5877 2 = .ok (.getfield 48, 3) := by decide +kernel
theorem dJx4a65c_grow_d5877_5 : decode cJx4a65c_grow_d5877 5 = .ok (.iconst 1, 1) := by decide +kernel
theorem dJx4a65c_grow_d5877_6 : decode cJx4a65c_grow_d5877 6 = .ok (.iadd, 1) := by decide +kernel
theorem dJx4a65c_grow_d5877_7 : decode cJx4a65c_grow_d5877 7 = .ok (.invokevirtual 69, 3) := by decide +kernel
theorem dJx4a65c_grow_d5877_10 : decode cJx4a65c_grow_d5877 10 = .ok (.areturn, 1) := by decide +kernel
theorem dJx4a65c_size_8abf5_0 : decode cJx4a65c_size_8abf5 0 = .ok (.aload_n 0, 1) := by decide +kernel
theorem dJx4a65c_size_8abf5_1 : decode cJx4a65c_size_8abf5 1 = .ok (.getfield 48, 3) := by decide +kernel
theorem dJx4a65c_size_8abf5_4 : decode cJx4a65c_size_8abf5 4 = .ok (.ireturn, 1) := by decide +kernel
theorem dJx4a65c_elementData_915e3_0 : decode cJx4a65c_elementData_915e3 0 = .ok (.aload_n 0, 1) := by decide +kernel
theorem dJx4a65c_elementData_915e3_1 : decode cJx4a65c_elementData_915e3 1 = .ok (.getfield 9, 3) := by decide +kernel
theorem dJx4a65c_elementData_915e3_4 : decode cJx4a65c_elementData_915e3 4 = .ok (.iload_n 1, 1) := by decide +kernel
theorem dJx4a65c_elementData_915e3_5 : decode cJx4a65c_elementData_915e3 5 = .ok (.aaload, 1) := by decide +kernel
theorem dJx4a65c_elementData_915e3_6 : decode cJx4a65c_elementData_915e3 6 = .ok (.areturn, 1) := by decide +kernel
theorem dJx4a65c_get_915e3_0 : decode cJx4a65c_get_915e3 0 = .ok (.iload_n 1, 1) := by decide +kernel
theorem dJx4a65c_get_915e3_1 : decode cJx4a65c_get_915e3 1 = .ok (.aload_n 0, 1) := by decide +kernel
theorem dJx4a65c_get_915e3_2 : decode cJx4a65c_get_915e3 2 = .ok (.getfield 48, 3) := by decide +kernel
theorem dJx4a65c_get_915e3_5 : decode cJx4a65c_get_915e3 5 = .ok (.invokestatic 118, 3) := by decide +kernel
theorem dJx4a65c_get_915e3_8 : decode cJx4a65c_get_915e3 8 = .ok (.pop, 1) := by decide +kernel
theorem dJx4a65c_get_915e3_9 : decode cJx4a65c_get_915e3 9 = .ok (.aload_n 0, 1) := by decide +kernel
theorem dJx4a65c_get_915e3_10 : decode cJx4a65c_get_915e3 10 = .ok (.iload_n 1, 1) := by decide +kernel
theorem dJx4a65c_get_915e3_11 : decode cJx4a65c_get_915e3 11 = .ok (.invokevirtual 123, 3) := by decide +kernel
theorem dJx4a65c_get_915e3_14 : decode cJx4a65c_get_915e3 14 = .ok (.areturn, 1) := by decide +kernel
theorem dJx4a65c_add_72be8_0 : decode cJx4a65c_add_72be8 0 = .ok (.iload_n 3, 1) := by decide +kernel
theorem dJx4a65c_add_72be8_1 : decode cJx4a65c_add_72be8 1 = .ok (.aload_n 2, 1) := by decide +kernel
theorem dJx4a65c_add_72be8_2 : decode cJx4a65c_add_72be8 2 = .ok (.arraylength, 1) := by decide +kernel
theorem dJx4a65c_add_72be8_3 : decode cJx4a65c_add_72be8 3 = .ok (.if_icmp .ne 8, 3) := by decide +kernel
theorem dJx4a65c_add_72be8_6 : decode cJx4a65c_add_72be8 6 = .ok (.aload_n 0, 1) := by decide +kernel
theorem dJx4a65c_add_72be8_7 : decode cJx4a65c_add_72be8 7 = .ok (.invokevirtual 129, 3) := by decide +kernel
theorem dJx4a65c_add_72be8_10 : decode cJx4a65c_add_72be8 10 = .ok (.astore_n 2, 1) := by decide +kernel
theorem dJx4a65c_add_72be8_11 : decode cJx4a65c_add_72be8 11 = .ok (.aload_n 2, 1) := by decide +kernel
theorem dJx4a65c_add_72be8_12 : decode cJx4a65c_add_72be8 12 = .ok (.iload_n 3, 1) := by decide +kernel
theorem dJx4a65c_add_72be8_13 : decode cJx4a65c_add_72be8 13 = .ok (.aload_n 1, 1) := by decide +kernel
theorem dJx4a65c_add_72be8_14 : decode cJx4a65c_add_72be8 14 = .ok (.aastore, 1) := by decide +kernel
theorem dJx4a65c_add_72be8_15 : decode cJx4a65c_add_72be8 15 = .ok (.aload_n 0, 1) := by decide +kernel
theorem dJx4a65c_add_72be8_16 : decode cJx4a65c_add_72be8 16 = .ok (.iload_n 3, 1) := by decide +kernel
theorem dJx4a65c_add_72be8_17 : decode cJx4a65c_add_72be8 17 = .ok (.iconst 1, 1) := by decide +kernel
theorem dJx4a65c_add_72be8_18 : decode cJx4a65c_add_72be8 18 = .ok (.iadd, 1) := by decide +kernel
theorem dJx4a65c_add_72be8_19 : decode cJx4a65c_add_72be8 19 = .ok (.putfield 48, 3) := by decide +kernel
theorem dJx4a65c_add_72be8_22 : decode cJx4a65c_add_72be8 22 = .ok (.return_, 1) := by decide +kernel
theorem dJx4a65c_add_9ea2d_0 : decode cJx4a65c_add_9ea2d 0 = .ok (.aload_n 0, 1) := by decide +kernel
theorem dJx4a65c_add_9ea2d_1 : decode cJx4a65c_add_9ea2d 1 = .ok (.dup, 1) := by decide +kernel
theorem dJx4a65c_add_9ea2d_2 : decode cJx4a65c_add_9ea2d 2 = .ok (.getfield 63, 3) := by decide +kernel
theorem dJx4a65c_add_9ea2d_5 : decode cJx4a65c_add_9ea2d 5 = .ok (.iconst 1, 1) := by decide +kernel
theorem dJx4a65c_add_9ea2d_6 : decode cJx4a65c_add_9ea2d 6 = .ok (.iadd, 1) := by decide +kernel
theorem dJx4a65c_add_9ea2d_7 : decode cJx4a65c_add_9ea2d 7 = .ok (.putfield 63, 3) := by decide +kernel
theorem dJx4a65c_add_9ea2d_10 : decode cJx4a65c_add_9ea2d 10 = .ok (.aload_n 0, 1) := by decide +kernel
theorem dJx4a65c_add_9ea2d_11 : decode cJx4a65c_add_9ea2d 11 = .ok (.aload_n 1, 1) := by decide +kernel
theorem dJx4a65c_add_9ea2d_12 : decode cJx4a65c_add_9ea2d 12 = .ok (.aload_n 0, 1) := by decide +kernel
theorem dJx4a65c_add_9ea2d_13 : decode cJx4a65c_add_9ea2d 13 = .ok (.getfield 9, 3) := by decide +kernel
theorem dJx4a65c_add_9ea2d_16 : decode cJx4a65c_add_9ea2d 16 = .ok (.aload_n 0, 1) := by decide +kernel
theorem dJx4a65c_add_9ea2d_17 : decode cJx4a65c_add_9ea2d 17 = .ok (.getfield 48, 3) := by decide +kernel
theorem dJx4a65c_add_9ea2d_20 : decode cJx4a65c_add_9ea2d 20 = .ok (.invokevirtual 131, 3) := by decide +kernel
theorem dJx4a65c_add_9ea2d_23 : decode cJx4a65c_add_9ea2d 23 = .ok (.iconst 1, 1) := by decide +kernel
theorem dJx4a65c_add_9ea2d_24 : decode cJx4a65c_add_9ea2d 24 = .ok (.ireturn, 1) := by decide +kernel
theorem dJ7_fill_53178_0 : decode cJ7_fill_53178 0 = .ok (.iconst 0, 1) := by decide +kernel
theorem dJ7_fill_53178_1 : decode cJ7_fill_53178 1 = .ok (.istore_n 2, 1) := by decide +kernel
theorem dJ7_fill_53178_2 : decode cJ7_fill_53178 2 = .ok (.aload_n 0, 1) := by decide +kernel
theorem dJ7_fill_53178_3 : decode cJ7_fill_53178 3 = .ok (.arraylength, 1) := by decide +kernel
theorem dJ7_fill_53178_4 : decode cJ7_fill_53178 4 = .ok (.istore_n 3, 1) := by decide +kernel
theorem dJ7_fill_53178_5 : decode cJ7_fill_53178 5 = .ok (.iload_n 2, 1) := by decide +kernel
theorem dJ7_fill_53178_6 : decode cJ7_fill_53178 6 = .ok (.iload_n 3, 1) := by decide +kernel
theorem dJ7_fill_53178_7 : decode cJ7_fill_53178 7 = .ok (.if_icmp .ge 13, 3) := by decide +kernel
theorem dJ7_fill_53178_10 : decode cJ7_fill_53178 10 = .ok (.aload_n 0, 1) := by decide +kernel
theorem dJ7_fill_53178_11 : decode cJ7_fill_53178 11 = .ok (.iload_n 2, 1) := by decide +kernel
theorem dJ7_fill_53178_12 : decode cJ7_fill_53178 12 = .ok (.iload_n 1, 1) := by decide +kernel
theorem dJ7_fill_53178_13 : decode cJ7_fill_53178 13 = .ok (.iastore, 1) := by decide +kernel
theorem dJ7_fill_53178_14 : decode cJ7_fill_53178 14 = .ok (.iinc 2 1, 3) := by decide +kernel
theorem dJ7_fill_53178_17 : decode cJ7_fill_53178 17 = .ok (.goto (-12), 3) := by decide +kernel
theorem dJ7_fill_53178_20 : decode cJ7_fill_53178 20 = .ok (.return_, 1) := by decide +kernel
theorem dJ7_fill_7f8df_0 : decode cJ7_fill_7f8df 0 = .ok (.iconst 0, 1) := by decide +kernel
theorem dJ7_fill_7f8df_1 : decode cJ7_fill_7f8df 1 = .ok (.istore_n 3, 1) := by decide +kernel
theorem dJ7_fill_7f8df_2 : decode cJ7_fill_7f8df 2 = .ok (.aload_n 0, 1) := by decide +kernel
theorem dJ7_fill_7f8df_3 : decode cJ7_fill_7f8df 3 = .ok (.arraylength, 1) := by decide +kernel
theorem dJ7_fill_7f8df_4 : decode cJ7_fill_7f8df 4 = .ok (.istore 4, 2) := by decide +kernel
theorem dJ7_fill_7f8df_6 : decode cJ7_fill_7f8df 6 = .ok (.iload_n 3, 1) := by decide +kernel
theorem dJ7_fill_7f8df_7 : decode cJ7_fill_7f8df 7 = .ok (.iload 4, 2) := by decide +kernel
theorem dJ7_fill_7f8df_9 : decode cJ7_fill_7f8df 9 = .ok (.if_icmp .ge 13, 3) := by decide +kernel
theorem dJ7_fill_7f8df_12 : decode cJ7_fill_7f8df 12 = .ok (.aload_n 0, 1) := by decide +kernel
theorem dJ7_fill_7f8df_13 : decode cJ7_fill_7f8df 13 = .ok (.iload_n 3, 1) := by decide +kernel
theorem dJ7_fill_7f8df_14 : decode cJ7_fill_7f8df 14 = .ok (.dload_n 1, 1) := by decide +kernel
theorem dJ7_fill_7f8df_15 : decode cJ7_fill_7f8df 15 = .ok (.dastore, 1) := by decide +kernel
theorem dJ7_fill_7f8df_16 : decode cJ7_fill_7f8df 16 = .ok (.iinc 3 1, 3) := by decide +kernel
theorem dJ7_fill_7f8df_19 : decode cJ7_fill_7f8df 19 = .ok (.goto (-13), 3) := by decide +kernel
theorem dJ7_fill_7f8df_22 : decode cJ7_fill_7f8df 22 = .ok (.return_, 1) := by decide +kernel
theorem dJ7_copyOf_1904c_0 : decode cJ7_copyOf_1904c 0 = .ok (.aload_n 0, 1) := by decide +kernel
theorem dJ7_copyOf_1904c_1 : decode cJ7_copyOf_1904c 1 = .ok (.iload_n 1, 1) := by decide +kernel
theorem dJ7_copyOf_1904c_2 : decode cJ7_copyOf_1904c 2 = .ok (.aload_n 0, 1) := by decide +kernel
theorem dJ7_copyOf_1904c_3 : decode cJ7_copyOf_1904c 3 = .ok (.invokevirtual 86, 3) := by decide +kernel
theorem dJ7_copyOf_1904c_6 : decode cJ7_copyOf_1904c 6 = .ok (.invokestatic 300, 3) := by decide +kernel
theorem dJ7_copyOf_1904c_9 : decode cJ7_copyOf_1904c 9 = .ok (.areturn, 1) := by decide +kernel
theorem dJ7_copyOf_6403c_0 : decode cJ7_copyOf_6403c 0 = .ok (.aload_n 2, 1) := by decide +kernel
theorem dJ7_copyOf_6403c_1 : decode cJ7_copyOf_6403c 1 = .ok (.ldc 110, 2) := by decide +kernel
theorem dJ7_copyOf_6403c_3 : decode cJ7_copyOf_6403c 3 = .ok (.if_acmp .ne 10, 3) := by decide +kernel
theorem dJ7_copyOf_6403c_6 : decode cJ7_copyOf_6403c 6 = .ok (.iload_n 1, 1) := by decide +kernel
theorem dJ7_copyOf_6403c_7 : decode cJ7_copyOf_6403c 7 = .ok (.anewarray 2, 3) := by decide +kernel
theorem dJ7_copyOf_6403c_10 : decode cJ7_copyOf_6403c 10 = .ok (.goto 14, 3) := by decide +kernel
theorem dJ7_copyOf_6403c_13 : decode cJ7_copyOf_6403c 13 = .ok (.aload_n 2, 1) := by decide +kernel
theorem dJ7_copyOf_6403c_14 : decode cJ7_copyOf_6403c 14 = .ok (.invokevirtual 90, 3) := by decide +kernel
theorem dJ7_copyOf_6403c_17 : decode cJ7_copyOf_6403c 17 = .ok (.iload_n 1, 1) := by decide +kernel
theorem dJ7_copyOf_6403c_18 : decode cJ7_copyOf_6403c 18 = .ok (.invokestatic 95, 3) := by decide +kernel
theorem dJ7_copyOf_6403c_21 : decode cJ7_copyOf_6403c 21 = .ok (.checkcast 110, 3) := by decide +kernel
theorem dJ7_copyOf_6403c_24 : decode cJ7_copyOf_6403c 24 = .ok (.astore_n 3, 1) := by decide +kernel
theorem dJ7_copyOf_6403c_25 : decode cJ7_copyOf_6403c 25 = .ok (.aload_n 0, 1) := by decide +kernel
theorem dJ7_copyOf_6403c_26 : decode cJ7_copyOf_6403c 26 = .ok (.iconst 0, 1) := by decide +kernel
theorem dJ7_copyOf_6403c_27 : decode cJ7_copyOf_6403c 27 = .ok (.aload_n 3, 1) := by decide +kernel
theorem dJ7_copyOf_6403c_28 : decode cJ7_copyOf_6403c 28 = .ok (.iconst 0, 1) := by decide +kernel
theorem dJ7_copyOf_6403c_29 : decode cJ7_copyOf_6403c 29 = .ok (.aload_n 0, 1) := by decide +kernel
theorem dJ7_copyOf_6403c_30 : decode cJ7_copyOf_6403c 30 = .ok (.arraylength, 1) := by decide +kernel
theorem dJ7_copyOf_6403c_31 : decode cJ7_copyOf_6403c 31 = .ok (.iload_n 1, 1) := by decide +kernel
theorem dJ7_copyOf_6403c_32 : decode cJ7_copyOf_6403c 32 = .ok (.invokestatic 304, 3) := by decide +kernel
theorem dJ7_copyOf_6403c_35 : decode cJ7_copyOf_6403c 35 = .ok (.invokestatic 150, 3) := by decide +kernel
theorem dJ7_copyOf_6403c_38 : decode cJ7_copyOf_6403c 38 = .ok (.aload_n 3, 1) := by decide +kernel
theorem dJ7_copyOf_6403c_39 : decode cJ7_copyOf_6403c 39 = .ok (.areturn, 1) := by decide +kernel
theorem dJ15_checkIndex_7cf53_0 : decode cJ15_checkIndex_7cf53 0 = .ok (.iload_n 0, 1) := by decide +kernel
theorem dJ15_checkIndex_7cf53_1 : decode cJ15_checkIndex_7cf53 1 = .ok (.iload_n 1, 1) := by decide +kernel
theorem dJ15_checkIndex_7cf53_2 : decode cJ15_checkIndex_7cf53 2 = .ok (.aconst_null, 1) := by decide +kernel
theorem dJ15_checkIndex_7cf53_3 : decode cJ15_checkIndex_7cf53 3 = .ok (.invokestatic 105, 3) := by decide +kernel
theorem dJ15_checkIndex_7cf53_6 : decode cJ15_checkIndex_7cf53 6 = .ok (.ireturn, 1) := by decide +kernel
theorem dJ8_newLength_cabcc_0 : decode cJ8_newLength_cabcc 0 = .ok (.iload_n 0, 1) := by decide +kernel
theorem dJ8_newLength_cabcc_1 : decode cJ8_newLength_cabcc 1 = .ok (.iload_n 1, 1) := by decide +kernel
theorem dJ8_newLength_cabcc_2 : decode cJ8_newLength_cabcc 2 = .ok (.iload_n 2, 1) := by decide +kernel
theorem dJ8_newLength_cabcc_3 : decode cJ8_newLength_cabcc 3 = .ok (.invokestatic 194, 3) := by decide +kernel
theorem dJ8_newLength_cabcc_6 : decode cJ8_newLength_cabcc 6 = .ok (.iadd, 1) := by decide +kernel
theorem dJ8_newLength_cabcc_7 : decode cJ8_newLength_cabcc 7 = .ok (.istore_n 3, 1) := by decide +kernel
theorem dJ8_newLength_cabcc_8 : decode cJ8_newLength_cabcc 8 = .ok (.iconst 0, 1) := by decide +kernel
theorem dJ8_newLength_cabcc_9 : decode cJ8_newLength_cabcc 9 = .ok (.iload_n 3, 1) := by decide +kernel
theorem dJ8_newLength_cabcc_10 : decode cJ8_newLength_cabcc 10 = .ok (.if_icmp .ge 11, 3) := by decide +kernel
theorem dJ8_newLength_cabcc_13 : decode cJ8_newLength_cabcc 13 = .ok (.iload_n 3, 1) := by decide +kernel
theorem dJ8_newLength_cabcc_14 : decode cJ8_newLength_cabcc 14 = .ok (.ldc 200, 2) := by decide +kernel
theorem dJ8_newLength_cabcc_16 : decode cJ8_newLength_cabcc 16 = .ok (.if_icmp .gt 5, 3) := by decide +kernel
theorem dJ8_newLength_cabcc_19 : decode cJ8_newLength_cabcc 19 = .ok (.iload_n 3, 1) := by decide +kernel
theorem dJ8_newLength_cabcc_20 : decode cJ8_newLength_cabcc 20 = .ok (.ireturn, 1) := by decide +kernel
theorem dJ8_newLength_cabcc_21 : decode cJ8_newLength_cabcc 21 = .ok (.iload_n 0, 1) := by decide +kernel
theorem dJ8_newLength_cabcc_22 : decode cJ8_newLength_cabcc 22 = .ok (.iload_n 1, 1) := by decide +kernel
theorem dJ8_newLength_cabcc_23 : decode cJ8_newLength_cabcc 23 = .ok (.invokestatic 201, 3) := by decide +kernel
theorem dJ8_newLength_cabcc_26 : decode cJ8_newLength_cabcc 26 = .ok (.ireturn, 1) := by decide +kernel
theorem dJ8_hugeLength_7cf53_0 : decode cJ8_hugeLength_7cf53 0 = .ok (.iload_n 0, 1) := by decide +kernel
theorem dJ8_hugeLength_7cf53_1 : decode cJ8_hugeLength_7cf53 1 = .ok (.iload_n 1, 1) := by decide +kernel
theorem dJ8_hugeLength_7cf53_2 : decode cJ8_hugeLength_7cf53 2 = .ok (.iadd, 1) := by decide +kernel
theorem dJ8_hugeLength_7cf53_3 : decode cJ8_hugeLength_7cf53 3 = .ok (.istore_n 2, 1) := by decide +kernel
theorem dJ8_hugeLength_7cf53_4 : decode cJ8_hugeLength_7cf53 4 = .ok (.iload_n 2, 1) := by decide +kernel
theorem dJ8_hugeLength_7cf53_5 : decode cJ8_hugeLength_7cf53 5 = .ok (.ifCond .ge 44, 3) := by decide +kernel
theorem dJ8_hugeLength_7cf53_8 : decode cJ8_hugeLength_7cf53 8 = .ok (.new 204, 3) := by decide +kernel
theorem dJ8_hugeLength_7cf53_11 : decode cJ8_hugeLength_7cf53 11 = .ok (.dup, 1) := by decide +kernel
theorem dJ8_hugeLength_7cf53_12 : decode cJ8_hugeLength_7cf53 12 = .ok (.new 89, 3) := by decide +kernel
theorem dJ8_hugeLength_7cf53_15 : decode cJ8_hugeLength_7cf53 15 = .ok (.dup, 1) := by decide +kernel
theorem dJ8_hugeLength_7cf53_16 : decode cJ8_hugeLength_7cf53 16 = .ok (.invokespecial 91, 3) := by decide +kernel
theorem dJ8_hugeLength_7cf53_19 : decode cJ8_hugeLength_7cf53 19 = .ok (.ldc 206, 2) := by decide +kernel
theorem dJ8_hugeLength_7cf53_21 : decode cJ8_hugeLength_7cf53 21 = .ok (.invokevirtual 94, 3) := by decide +kernel
theorem dJ8_hugeLength_7cf53_24 : decode cJ8_hugeLength_7cf53 24 = .ok (.iload_n 0, 1) := by decide +kernel
theorem dJ8_hugeLength_7cf53_25 : decode cJ8_hugeLength_7cf53 25 = .ok (.invokevirtual 98, 3) := by decide +kernel
theorem dJ8_hugeLength_7cf53_28 : decode cJ8_hugeLength_7cf53 28 = .ok (.ldc 208, 2) := by decide +kernel
theorem dJ8_hugeLength_7cf53_30 : decode cJ8_hugeLength_7cf53 30 = .ok (.invokevirtual 94, 3) := by decide +kernel
theorem dJ8_hugeLength_7cf53_33 : decode cJ8_hugeLength_7cf53 33 = .ok (.iload_n 1, 1) := by decide +kernel
theorem dJ8_hugeLength_7cf53_34 : decode cJ8_hugeLength_7cf53 34 = .ok (.invokevirtual 98, 3) := by decide +kernel
theorem dJ8_hugeLength_7cf53_37 : decode cJ8_hugeLength_7cf53 37 = .ok (.ldc 210, 2) := by decide +kernel
theorem dJ8_hugeLength_7cf53_39 : decode cJ8_hugeLength_7cf53 39 = .ok (.invokevirtual 94, 3) := by decide +kernel
theorem dJ8_hugeLength_7cf53_42 : decode cJ8_hugeLength_7cf53 42 = .ok (.invokevirtual 101, 3) := by decide +kernel
theorem dJ8_hugeLength_7cf53_45 : decode cJ8_hugeLength_7cf53 45 = .ok (.invokespecial 212, 3) := by decide +kernel
theorem dJ8_hugeLength_7cf53_48 : decode cJ8_hugeLength_7cf53 48 = .ok (.athrow, 1) := by decide +kernel
theorem dJ8_hugeLength_7cf53_49 : decode cJ8_hugeLength_7cf53 49 = .ok (.iload_n 2, 1) := by decide +kernel
theorem dJ8_hugeLength_7cf53_50 : decode cJ8_hugeLength_7cf53 50 = .ok (.ldc 200, 2) := by decide +kernel
theorem dJ8_hugeLength_7cf53_52 : decode cJ8_hugeLength_7cf53 52 = .ok (.if_icmp .gt 6, 3) := by decide +kernel
theorem dJ8_hugeLength_7cf53_55 : decode cJ8_hugeLength_7cf53 55 = .ok (.ldc 200, 2) := by decide +kernel
theorem dJ8_hugeLength_7cf53_57 : decode cJ8_hugeLength_7cf53 57 = .ok (.ireturn, 1) := by decide +kernel
theorem dJ8_hugeLength_7cf53_58 : decode cJ8_hugeLength_7cf53 58 = .ok (.iload_n 2, 1) := by decide +kernel
theorem dJ8_hugeLength_7cf53_59 : decode cJ8_hugeLength_7cf53 59 = .ok (.ireturn, 1) := by decide +kernel
theorem dJ3_checkIndex_8e157_0 : decode cJ3_checkIndex_8e157 0 = .ok (.iload_n 0, 1) := by decide +kernel
theorem dJ3_checkIndex_8e157_1 : decode cJ3_checkIndex_8e157 1 = .ok (.ifCond .lt 8, 3) := by decide +kernel
theorem dJ3_checkIndex_8e157_4 : decode cJ3_checkIndex_8e157 4 = .ok (.iload_n 0, 1) := by decide +kernel
theorem dJ3_checkIndex_8e157_5 : decode cJ3_checkIndex_8e157 5 = .ok (.iload_n 1, 1) := by decide +kernel
theorem dJ3_checkIndex_8e157_6 : decode cJ3_checkIndex_8e157 6 = .ok (.if_icmp .lt 10, 3) := by decide +kernel
theorem dJ3_checkIndex_8e157_9 : decode cJ3_checkIndex_8e157 9 = .ok (.aload_n 2, 1) := by decide +kernel
theorem dJ3_checkIndex_8e157_10 : decode cJ3_checkIndex_8e157 10 = .ok (.iload_n 0, 1) := by decide +kernel
theorem dJ3_checkIndex_8e157_11 : decode cJ3_checkIndex_8e157 11 = .ok (.iload_n 1, 1) := by decide +kernel
theorem dJ3_checkIndex_8e157_12 : decode cJ3_checkIndex_8e157 12 = .ok (.invokestatic 95, 3) := by decide +kernel
theorem dJ3_checkIndex_8e157_15 : decode cJ3_checkIndex_8e157 15 = .ok (.athrow, 1) := by decide +kernel
theorem dJ3_checkIndex_8e157_16 : decode cJ3_checkIndex_8e157 16 = .ok (.iload_n 0, 1) := by decide +kernel
theorem dJ3_checkIndex_8e157_17 : decode cJ3_checkIndex_8e157 17 = .ok (.ireturn, 1) := by decide +kernel
theorem dL_star_0 : decode cL_star 0 = .ok (.aload_n 2, 1) := by decide +kernel
theorem dL_star_1 : decode cL_star 1 = .ok (.iconst 0, 1) := by decide +kernel
theorem dL_star_2 : decode cL_star 2 = .ok (.aload_n 0, 1) := by decide +kernel
theorem dL_star_3 : decode cL_star 3 = .ok (.iload_n 1, 1) := by decide +kernel
theorem dL_star_4 : decode cL_star 4 = .ok (.invokevirtual 7, 3) := by decide +kernel
theorem dL_star_7 : decode cL_star 7 = .ok (.i2l, 1) := by decide +kernel
theorem dL_star_8 : decode cL_star 8 = .ok (.lastore, 1) := by decide +kernel
theorem dL_star_9 : decode cL_star 9 = .ok (.goto 9, 3) := by decide +kernel
theorem dL_star_12 : decode cL_star 12 = .ok (.astore_n 3, 1) := by decide +kernel
theorem dL_star_13 : decode cL_star 13 = .ok (.iconst 1, 1) := by decide +kernel
theorem dL_star_14 : decode cL_star 14 = .ok (.ireturn, 1) := by decide +kernel
theorem dL_star_15 : decode cL_star 15 = .ok (.astore_n 3, 1) := by decide +kernel
theorem dL_star_16 : decode cL_star 16 = .ok (.iconst 2, 1) := by decide +kernel
theorem dL_star_17 : decode cL_star 17 = .ok (.ireturn, 1) := by decide +kernel
theorem dL_star_18 : decode cL_star 18 = .ok (.iconst 0, 1) := by decide +kernel
theorem dL_star_19 : decode cL_star 19 = .ok (.ireturn, 1) := by decide +kernel
theorem dL_planet_0 : decode cL_planet 0 = .ok (.aload 6, 2) := by decide +kernel
theorem dL_planet_2 : decode cL_planet 2 = .ok (.iconst 0, 1) := by decide +kernel
theorem dL_planet_3 : decode cL_planet 3 = .ok (.aload_n 0, 1) := by decide +kernel
theorem dL_planet_4 : decode cL_planet 4 = .ok (.iload_n 1, 1) := by decide +kernel
theorem dL_planet_5 : decode cL_planet 5 = .ok (.iload_n 2, 1) := by decide +kernel
theorem dL_planet_6 : decode cL_planet 6 = .ok (.iload_n 3, 1) := by decide +kernel
theorem dL_planet_7 : decode cL_planet 7 = .ok (.iload 4, 2) := by decide +kernel
theorem dL_planet_9 : decode cL_planet 9 = .ok (.iload 5, 2) := by decide +kernel
theorem dL_planet_11 : decode cL_planet 11 = .ok (.invokevirtual 17, 3) := by decide +kernel
theorem dL_planet_14 : decode cL_planet 14 = .ok (.i2l, 1) := by decide +kernel
theorem dL_planet_15 : decode cL_planet 15 = .ok (.lastore, 1) := by decide +kernel
theorem dL_planet_16 : decode cL_planet 16 = .ok (.goto 15, 3) := by decide +kernel
theorem dL_planet_19 : decode cL_planet 19 = .ok (.astore 7, 2) := by decide +kernel
theorem dL_planet_21 : decode cL_planet 21 = .ok (.iconst 1, 1) := by decide +kernel
theorem dL_planet_22 : decode cL_planet 22 = .ok (.ireturn, 1) := by decide +kernel
theorem dL_planet_23 : decode cL_planet 23 = .ok (.astore 7, 2) := by decide +kernel
theorem dL_planet_25 : decode cL_planet 25 = .ok (.iconst 2, 1) := by decide +kernel
theorem dL_planet_26 : decode cL_planet 26 = .ok (.ireturn, 1) := by decide +kernel
theorem dL_planet_27 : decode cL_planet 27 = .ok (.astore 7, 2) := by decide +kernel
theorem dL_planet_29 : decode cL_planet 29 = .ok (.iconst 3, 1) := by decide +kernel
theorem dL_planet_30 : decode cL_planet 30 = .ok (.ireturn, 1) := by decide +kernel
theorem dL_planet_31 : decode cL_planet 31 = .ok (.iconst 0, 1) := by decide +kernel
theorem dL_planet_32 : decode cL_planet 32 = .ok (.ireturn, 1) := by decide +kernel
theorem dL_spots_0 : decode cL_spots 0 = .ok (.aload 4, 2) := by decide +kernel
theorem dL_spots_2 : decode cL_spots 2 = .ok (.iconst 0, 1) := by decide +kernel
theorem dL_spots_3 : decode cL_spots 3 = .ok (.aload_n 0, 1) := by decide +kernel
theorem dL_spots_4 : decode cL_spots 4 = .ok (.iload_n 1, 1) := by decide +kernel
theorem dL_spots_5 : decode cL_spots 5 = .ok (.iload_n 2, 1) := by decide +kernel
theorem dL_spots_6 : decode cL_spots 6 = .ok (.iload_n 3, 1) := by decide +kernel
theorem dL_spots_7 : decode cL_spots 7 = .ok (.invokevirtual 23, 3) := by decide +kernel
theorem dL_spots_10 : decode cL_spots 10 = .ok (.i2l, 1) := by decide +kernel
theorem dL_spots_11 : decode cL_spots 11 = .ok (.lastore, 1) := by decide +kernel
theorem dL_spots_12 : decode cL_spots 12 = .ok (.goto 11, 3) := by decide +kernel
theorem dL_spots_15 : decode cL_spots 15 = .ok (.astore 5, 2) := by decide +kernel
theorem dL_spots_17 : decode cL_spots 17 = .ok (.iconst 1, 1) := by decide +kernel
theorem dL_spots_18 : decode cL_spots 18 = .ok (.ireturn, 1) := by decide +kernel
theorem dL_spots_19 : decode cL_spots 19 = .ok (.astore 5, 2) := by decide +kernel
theorem dL_spots_21 : decode cL_spots 21 = .ok (.iconst 2, 1) := by decide +kernel
theorem dL_spots_22 : decode cL_spots 22 = .ok (.ireturn, 1) := by decide +kernel
theorem dL_spots_23 : decode cL_spots 23 = .ok (.iconst 0, 1) := by decide +kernel
theorem dL_spots_24 : decode cL_spots 24 = .ok (.ireturn, 1) := by decide +kernel
theorem dL_blend_0 : decode cL_blend 0 = .ok (.aload_n 3, 1) := by decide +kernel
theorem dL_blend_1 : decode cL_blend 1 = .ok (.iconst 0, 1) := by decide +kernel
theorem dL_blend_2 : decode cL_blend 2 = .ok (.aload_n 0, 1) := by decide +kernel
theorem dL_blend_3 : decode cL_blend 3 = .ok (.iload_n 1, 1) := by decide +kernel
theorem dL_blend_4 : decode cL_blend 4 = .ok (.iload_n 2, 1) := by decide +kernel
theorem dL_blend_5 : decode cL_blend 5 = .ok (.invokevirtual 27, 3) := by decide +kernel
theorem dL_blend_8 : decode cL_blend 8 = .ok (.i2l, 1) := by decide +kernel
theorem dL_blend_9 : decode cL_blend 9 = .ok (.lastore, 1) := by decide +kernel
theorem dL_blend_10 : decode cL_blend 10 = .ok (.goto 11, 3) := by decide +kernel
theorem dL_blend_13 : decode cL_blend 13 = .ok (.astore 4, 2) := by decide +kernel
theorem dL_blend_15 : decode cL_blend 15 = .ok (.iconst 1, 1) := by decide +kernel
theorem dL_blend_16 : decode cL_blend 16 = .ok (.ireturn, 1) := by decide +kernel
theorem dL_blend_17 : decode cL_blend 17 = .ok (.astore 4, 2) := by decide +kernel
theorem dL_blend_19 : decode cL_blend 19 = .ok (.iconst 2, 1) := by decide +kernel
theorem dL_blend_20 : decode cL_blend 20 = .ok (.ireturn, 1) := by decide +kernel
theorem dL_blend_21 : decode cL_blend 21 = .ok (.iconst 0, 1) := by decide +kernel
theorem dL_blend_22 : decode cL_blend 22 = .ok (.ireturn, 1) := by decide +kernel
theorem dL_light_0 : decode cL_light 0 = .ok (.aload_n 3, 1) := by decide +kernel
theorem dL_light_1 : decode cL_light 1 = .ok (.iconst 0, 1) := by decide +kernel
theorem dL_light_2 : decode cL_light 2 = .ok (.aload_n 0, 1) := by decide +kernel
theorem dL_light_3 : decode cL_light 3 = .ok (.iload_n 1, 1) := by decide +kernel
theorem dL_light_4 : decode cL_light 4 = .ok (.iload_n 2, 1) := by decide +kernel
theorem dL_light_5 : decode cL_light 5 = .ok (.invokevirtual 31, 3) := by decide +kernel
theorem dL_light_8 : decode cL_light 8 = .ok (.lastore, 1) := by decide +kernel
theorem dL_light_9 : decode cL_light 9 = .ok (.goto 7, 3) := by decide +kernel
theorem dL_light_12 : decode cL_light 12 = .ok (.astore 4, 2) := by decide +kernel
theorem dL_light_14 : decode cL_light 14 = .ok (.iconst 1, 1) := by decide +kernel
theorem dL_light_15 : decode cL_light 15 = .ok (.ireturn, 1) := by decide +kernel
theorem dL_light_16 : decode cL_light 16 = .ok (.iconst 0, 1) := by decide +kernel
theorem dL_light_17 : decode cL_light 17 = .ok (.ireturn, 1) := by decide +kernel
theorem dL_cloud_0 : decode cL_cloud 0 = .ok (.aload_n 3, 1) := by decide +kernel
theorem dL_cloud_1 : decode cL_cloud 1 = .ok (.iconst 0, 1) := by decide +kernel
theorem dL_cloud_2 : decode cL_cloud 2 = .ok (.aload_n 0, 1) := by decide +kernel
theorem dL_cloud_3 : decode cL_cloud 3 = .ok (.iload_n 1, 1) := by decide +kernel
theorem dL_cloud_4 : decode cL_cloud 4 = .ok (.iload_n 2, 1) := by decide +kernel
theorem dL_cloud_5 : decode cL_cloud 5 = .ok (.invokevirtual 35, 3) := by decide +kernel
theorem dL_cloud_8 : decode cL_cloud 8 = .ok (.i2l, 1) := by decide +kernel
theorem dL_cloud_9 : decode cL_cloud 9 = .ok (.lastore, 1) := by decide +kernel
theorem dL_cloud_10 : decode cL_cloud 10 = .ok (.goto 11, 3) := by decide +kernel
theorem dL_cloud_13 : decode cL_cloud 13 = .ok (.astore 4, 2) := by decide +kernel
theorem dL_cloud_15 : decode cL_cloud 15 = .ok (.iconst 1, 1) := by decide +kernel
theorem dL_cloud_16 : decode cL_cloud 16 = .ok (.ireturn, 1) := by decide +kernel
theorem dL_cloud_17 : decode cL_cloud 17 = .ok (.astore 4, 2) := by decide +kernel
theorem dL_cloud_19 : decode cL_cloud 19 = .ok (.iconst 2, 1) := by decide +kernel
theorem dL_cloud_20 : decode cL_cloud 20 = .ok (.ireturn, 1) := by decide +kernel
theorem dL_cloud_21 : decode cL_cloud 21 = .ok (.iconst 0, 1) := by decide +kernel
theorem dL_cloud_22 : decode cL_cloud 22 = .ok (.ireturn, 1) := by decide +kernel
theorem dL_observe_0 : decode cL_observe 0 = .ok (.aload 4, 2) := by decide +kernel
theorem dL_observe_2 : decode cL_observe 2 = .ok (.iconst 0, 1) := by decide +kernel
theorem dL_observe_3 : decode cL_observe 3 = .ok (.aload_n 0, 1) := by decide +kernel
theorem dL_observe_4 : decode cL_observe 4 = .ok (.iload_n 1, 1) := by decide +kernel
theorem dL_observe_5 : decode cL_observe 5 = .ok (.iload_n 2, 1) := by decide +kernel
theorem dL_observe_6 : decode cL_observe 6 = .ok (.iload_n 3, 1) := by decide +kernel
theorem dL_observe_7 : decode cL_observe 7 = .ok (.invokevirtual 38, 3) := by decide +kernel
theorem dL_observe_10 : decode cL_observe 10 = .ok (.i2l, 1) := by decide +kernel
theorem dL_observe_11 : decode cL_observe 11 = .ok (.lastore, 1) := by decide +kernel
theorem dL_observe_12 : decode cL_observe 12 = .ok (.goto 11, 3) := by decide +kernel
theorem dL_observe_15 : decode cL_observe 15 = .ok (.astore 5, 2) := by decide +kernel
theorem dL_observe_17 : decode cL_observe 17 = .ok (.iconst 1, 1) := by decide +kernel
theorem dL_observe_18 : decode cL_observe 18 = .ok (.ireturn, 1) := by decide +kernel
theorem dL_observe_19 : decode cL_observe 19 = .ok (.astore 5, 2) := by decide +kernel
theorem dL_observe_21 : decode cL_observe 21 = .ok (.iconst 2, 1) := by decide +kernel
theorem dL_observe_22 : decode cL_observe 22 = .ok (.ireturn, 1) := by decide +kernel
theorem dL_observe_23 : decode cL_observe 23 = .ok (.iconst 0, 1) := by decide +kernel
theorem dL_observe_24 : decode cL_observe 24 = .ok (.ireturn, 1) := by decide +kernel
theorem dL_kept_0 : decode cL_kept 0 = .ok (.aload_n 3, 1) := by decide +kernel
theorem dL_kept_1 : decode cL_kept 1 = .ok (.iconst 0, 1) := by decide +kernel
theorem dL_kept_2 : decode cL_kept 2 = .ok (.aload_n 0, 1) := by decide +kernel
theorem dL_kept_3 : decode cL_kept 3 = .ok (.iload_n 1, 1) := by decide +kernel
theorem dL_kept_4 : decode cL_kept 4 = .ok (.iload_n 2, 1) := by decide +kernel
theorem dL_kept_5 : decode cL_kept 5 = .ok (.invokevirtual 41, 3) := by decide +kernel
theorem dL_kept_8 : decode cL_kept 8 = .ok (.lastore, 1) := by decide +kernel
theorem dL_kept_9 : decode cL_kept 9 = .ok (.goto 7, 3) := by decide +kernel
theorem dL_kept_12 : decode cL_kept 12 = .ok (.astore 4, 2) := by decide +kernel
theorem dL_kept_14 : decode cL_kept 14 = .ok (.iconst 1, 1) := by decide +kernel
theorem dL_kept_15 : decode cL_kept 15 = .ok (.ireturn, 1) := by decide +kernel
theorem dL_kept_16 : decode cL_kept 16 = .ok (.iconst 0, 1) := by decide +kernel
theorem dL_kept_17 : decode cL_kept 17 = .ok (.ireturn, 1) := by decide +kernel
theorem dL_score_0 : decode cL_score 0 = .ok (.aload_n 3, 1) := by decide +kernel
theorem dL_score_1 : decode cL_score 1 = .ok (.iconst 0, 1) := by decide +kernel
theorem dL_score_2 : decode cL_score 2 = .ok (.aload_n 0, 1) := by decide +kernel
theorem dL_score_3 : decode cL_score 3 = .ok (.iload_n 1, 1) := by decide +kernel
theorem dL_score_4 : decode cL_score 4 = .ok (.iload_n 2, 1) := by decide +kernel
theorem dL_score_5 : decode cL_score 5 = .ok (.invokevirtual 44, 3) := by decide +kernel
theorem dL_score_8 : decode cL_score 8 = .ok (.lastore, 1) := by decide +kernel
theorem dL_score_9 : decode cL_score 9 = .ok (.goto 15, 3) := by decide +kernel
theorem dL_score_12 : decode cL_score 12 = .ok (.astore 4, 2) := by decide +kernel
theorem dL_score_14 : decode cL_score 14 = .ok (.iconst 1, 1) := by decide +kernel
theorem dL_score_15 : decode cL_score 15 = .ok (.ireturn, 1) := by decide +kernel
theorem dL_score_16 : decode cL_score 16 = .ok (.astore 4, 2) := by decide +kernel
theorem dL_score_18 : decode cL_score 18 = .ok (.iconst 2, 1) := by decide +kernel
theorem dL_score_19 : decode cL_score 19 = .ok (.ireturn, 1) := by decide +kernel
theorem dL_score_20 : decode cL_score 20 = .ok (.astore 4, 2) := by decide +kernel
theorem dL_score_22 : decode cL_score 22 = .ok (.iconst 3, 1) := by decide +kernel
theorem dL_score_23 : decode cL_score 23 = .ok (.ireturn, 1) := by decide +kernel
theorem dL_score_24 : decode cL_score 24 = .ok (.iconst 0, 1) := by decide +kernel
theorem dL_score_25 : decode cL_score 25 = .ok (.ireturn, 1) := by decide +kernel
theorem dL_phase_0 : decode cL_phase 0 = .ok (.aload_n 3, 1) := by decide +kernel
theorem dL_phase_1 : decode cL_phase 1 = .ok (.iconst 0, 1) := by decide +kernel
theorem dL_phase_2 : decode cL_phase 2 = .ok (.aload_n 0, 1) := by decide +kernel
theorem dL_phase_3 : decode cL_phase 3 = .ok (.iload_n 1, 1) := by decide +kernel
theorem dL_phase_4 : decode cL_phase 4 = .ok (.iload_n 2, 1) := by decide +kernel
theorem dL_phase_5 : decode cL_phase 5 = .ok (.invokevirtual 47, 3) := by decide +kernel
theorem dL_phase_8 : decode cL_phase 8 = .ok (.i2l, 1) := by decide +kernel
theorem dL_phase_9 : decode cL_phase 9 = .ok (.lastore, 1) := by decide +kernel
theorem dL_phase_10 : decode cL_phase 10 = .ok (.goto 15, 3) := by decide +kernel
theorem dL_phase_13 : decode cL_phase 13 = .ok (.astore 4, 2) := by decide +kernel
theorem dL_phase_15 : decode cL_phase 15 = .ok (.iconst 1, 1) := by decide +kernel
theorem dL_phase_16 : decode cL_phase 16 = .ok (.ireturn, 1) := by decide +kernel
theorem dL_phase_17 : decode cL_phase 17 = .ok (.astore 4, 2) := by decide +kernel
theorem dL_phase_19 : decode cL_phase 19 = .ok (.iconst 2, 1) := by decide +kernel
theorem dL_phase_20 : decode cL_phase 20 = .ok (.ireturn, 1) := by decide +kernel
theorem dL_phase_21 : decode cL_phase 21 = .ok (.astore 4, 2) := by decide +kernel
theorem dL_phase_23 : decode cL_phase 23 = .ok (.iconst 3, 1) := by decide +kernel
theorem dL_phase_24 : decode cL_phase 24 = .ok (.ireturn, 1) := by decide +kernel
theorem dL_phase_25 : decode cL_phase 25 = .ok (.iconst 0, 1) := by decide +kernel
theorem dL_phase_26 : decode cL_phase 26 = .ok (.ireturn, 1) := by decide +kernel
theorem dL_period_0 : decode cL_period 0 = .ok (.aload_n 3, 1) := by decide +kernel
theorem dL_period_1 : decode cL_period 1 = .ok (.iconst 0, 1) := by decide +kernel
theorem dL_period_2 : decode cL_period 2 = .ok (.aload_n 0, 1) := by decide +kernel
theorem dL_period_3 : decode cL_period 3 = .ok (.iload_n 1, 1) := by decide +kernel
theorem dL_period_4 : decode cL_period 4 = .ok (.iload_n 2, 1) := by decide +kernel
theorem dL_period_5 : decode cL_period 5 = .ok (.invokevirtual 50, 3) := by decide +kernel
theorem dL_period_8 : decode cL_period 8 = .ok (.i2l, 1) := by decide +kernel
theorem dL_period_9 : decode cL_period 9 = .ok (.lastore, 1) := by decide +kernel
theorem dL_period_10 : decode cL_period 10 = .ok (.goto 15, 3) := by decide +kernel
theorem dL_period_13 : decode cL_period 13 = .ok (.astore 4, 2) := by decide +kernel
theorem dL_period_15 : decode cL_period 15 = .ok (.iconst 1, 1) := by decide +kernel
theorem dL_period_16 : decode cL_period 16 = .ok (.ireturn, 1) := by decide +kernel
theorem dL_period_17 : decode cL_period 17 = .ok (.astore 4, 2) := by decide +kernel
theorem dL_period_19 : decode cL_period 19 = .ok (.iconst 2, 1) := by decide +kernel
theorem dL_period_20 : decode cL_period 20 = .ok (.ireturn, 1) := by decide +kernel
theorem dL_period_21 : decode cL_period 21 = .ok (.astore 4, 2) := by decide +kernel
theorem dL_period_23 : decode cL_period 23 = .ok (.iconst 3, 1) := by decide +kernel
theorem dL_period_24 : decode cL_period 24 = .ok (.ireturn, 1) := by decide +kernel
theorem dL_period_25 : decode cL_period 25 = .ok (.iconst 0, 1) := by decide +kernel
theorem dL_period_26 : decode cL_period 26 = .ok (.ireturn, 1) := by decide +kernel
theorem dL_whyNot_0 : decode cL_whyNot 0 = .ok (.aload_n 3, 1) := by decide +kernel
theorem dL_whyNot_1 : decode cL_whyNot 1 = .ok (.iconst 0, 1) := by decide +kernel
theorem dL_whyNot_2 : decode cL_whyNot 2 = .ok (.aload_n 0, 1) := by decide +kernel
theorem dL_whyNot_3 : decode cL_whyNot 3 = .ok (.iload_n 1, 1) := by decide +kernel
theorem dL_whyNot_4 : decode cL_whyNot 4 = .ok (.iload_n 2, 1) := by decide +kernel
theorem dL_whyNot_5 : decode cL_whyNot 5 = .ok (.invokevirtual 53, 3) := by decide +kernel
theorem dL_whyNot_8 : decode cL_whyNot 8 = .ok (.i2l, 1) := by decide +kernel
theorem dL_whyNot_9 : decode cL_whyNot 9 = .ok (.lastore, 1) := by decide +kernel
theorem dL_whyNot_10 : decode cL_whyNot 10 = .ok (.goto 11, 3) := by decide +kernel
theorem dL_whyNot_13 : decode cL_whyNot 13 = .ok (.astore 4, 2) := by decide +kernel
theorem dL_whyNot_15 : decode cL_whyNot 15 = .ok (.iconst 1, 1) := by decide +kernel
theorem dL_whyNot_16 : decode cL_whyNot 16 = .ok (.ireturn, 1) := by decide +kernel
theorem dL_whyNot_17 : decode cL_whyNot 17 = .ok (.astore 4, 2) := by decide +kernel
theorem dL_whyNot_19 : decode cL_whyNot 19 = .ok (.iconst 2, 1) := by decide +kernel
theorem dL_whyNot_20 : decode cL_whyNot 20 = .ok (.ireturn, 1) := by decide +kernel
theorem dL_whyNot_21 : decode cL_whyNot 21 = .ok (.iconst 0, 1) := by decide +kernel
theorem dL_whyNot_22 : decode cL_whyNot 22 = .ok (.ireturn, 1) := by decide +kernel
theorem dL_oddEven_0 : decode cL_oddEven 0 = .ok (.aload_n 3, 1) := by decide +kernel
theorem dL_oddEven_1 : decode cL_oddEven 1 = .ok (.iconst 0, 1) := by decide +kernel
theorem dL_oddEven_2 : decode cL_oddEven 2 = .ok (.aload_n 0, 1) := by decide +kernel
theorem dL_oddEven_3 : decode cL_oddEven 3 = .ok (.iload_n 1, 1) := by decide +kernel
theorem dL_oddEven_4 : decode cL_oddEven 4 = .ok (.iload_n 2, 1) := by decide +kernel
theorem dL_oddEven_5 : decode cL_oddEven 5 = .ok (.invokevirtual 56, 3) := by decide +kernel
theorem dL_oddEven_8 : decode cL_oddEven 8 = .ok (.lastore, 1) := by decide +kernel
theorem dL_oddEven_9 : decode cL_oddEven 9 = .ok (.goto 15, 3) := by decide +kernel
theorem dL_oddEven_12 : decode cL_oddEven 12 = .ok (.astore 4, 2) := by decide +kernel
theorem dL_oddEven_14 : decode cL_oddEven 14 = .ok (.iconst 1, 1) := by decide +kernel
theorem dL_oddEven_15 : decode cL_oddEven 15 = .ok (.ireturn, 1) := by decide +kernel
theorem dL_oddEven_16 : decode cL_oddEven 16 = .ok (.astore 4, 2) := by decide +kernel
theorem dL_oddEven_18 : decode cL_oddEven 18 = .ok (.iconst 2, 1) := by decide +kernel
theorem dL_oddEven_19 : decode cL_oddEven 19 = .ok (.ireturn, 1) := by decide +kernel
theorem dL_oddEven_20 : decode cL_oddEven 20 = .ok (.astore 4, 2) := by decide +kernel
theorem dL_oddEven_22 : decode cL_oddEven 22 = .ok (.iconst 3, 1) := by decide +kernel
theorem dL_oddEven_23 : decode cL_oddEven 23 = .ok (.ireturn, 1) := by decide +kernel
theorem dL_oddEven_24 : decode cL_oddEven 24 = .ok (.iconst 0, 1) := by decide +kernel
theorem dL_oddEven_25 : decode cL_oddEven 25 = .ok (.ireturn, 1) := by decide +kernel
theorem dL_world_0 : decode cL_world 0 = .ok (.aload_n 3, 1) := by decide +kernel
theorem dL_world_1 : decode cL_world 1 = .ok (.iconst 0, 1) := by decide +kernel
theorem dL_world_2 : decode cL_world 2 = .ok (.aload_n 0, 1) := by decide +kernel
theorem dL_world_3 : decode cL_world 3 = .ok (.iload_n 1, 1) := by decide +kernel
theorem dL_world_4 : decode cL_world 4 = .ok (.iload_n 2, 1) := by decide +kernel
theorem dL_world_5 : decode cL_world 5 = .ok (.invokevirtual 59, 3) := by decide +kernel
theorem dL_world_8 : decode cL_world 8 = .ok (.i2l, 1) := by decide +kernel
theorem dL_world_9 : decode cL_world 9 = .ok (.lastore, 1) := by decide +kernel
theorem dL_world_10 : decode cL_world 10 = .ok (.goto 15, 3) := by decide +kernel
theorem dL_world_13 : decode cL_world 13 = .ok (.astore 4, 2) := by decide +kernel
theorem dL_world_15 : decode cL_world 15 = .ok (.iconst 1, 1) := by decide +kernel
theorem dL_world_16 : decode cL_world 16 = .ok (.ireturn, 1) := by decide +kernel
theorem dL_world_17 : decode cL_world 17 = .ok (.astore 4, 2) := by decide +kernel
theorem dL_world_19 : decode cL_world 19 = .ok (.iconst 2, 1) := by decide +kernel
theorem dL_world_20 : decode cL_world 20 = .ok (.ireturn, 1) := by decide +kernel
theorem dL_world_21 : decode cL_world 21 = .ok (.astore 4, 2) := by decide +kernel
theorem dL_world_23 : decode cL_world 23 = .ok (.iconst 3, 1) := by decide +kernel
theorem dL_world_24 : decode cL_world 24 = .ok (.ireturn, 1) := by decide +kernel
theorem dL_world_25 : decode cL_world 25 = .ok (.iconst 0, 1) := by decide +kernel
theorem dL_world_26 : decode cL_world 26 = .ok (.ireturn, 1) := by decide +kernel
theorem dL_about_0 : decode cL_about 0 = .ok (.aload_n 3, 1) := by decide +kernel
theorem dL_about_1 : decode cL_about 1 = .ok (.iconst 0, 1) := by decide +kernel
theorem dL_about_2 : decode cL_about 2 = .ok (.aload_n 0, 1) := by decide +kernel
theorem dL_about_3 : decode cL_about 3 = .ok (.iload_n 1, 1) := by decide +kernel
theorem dL_about_4 : decode cL_about 4 = .ok (.iload_n 2, 1) := by decide +kernel
theorem dL_about_5 : decode cL_about 5 = .ok (.invokevirtual 62, 3) := by decide +kernel
theorem dL_about_8 : decode cL_about 8 = .ok (.i2l, 1) := by decide +kernel
theorem dL_about_9 : decode cL_about 9 = .ok (.lastore, 1) := by decide +kernel
theorem dL_about_10 : decode cL_about 10 = .ok (.goto 11, 3) := by decide +kernel
theorem dL_about_13 : decode cL_about 13 = .ok (.astore 4, 2) := by decide +kernel
theorem dL_about_15 : decode cL_about 15 = .ok (.iconst 1, 1) := by decide +kernel
theorem dL_about_16 : decode cL_about 16 = .ok (.ireturn, 1) := by decide +kernel
theorem dL_about_17 : decode cL_about 17 = .ok (.astore 4, 2) := by decide +kernel
theorem dL_about_19 : decode cL_about 19 = .ok (.iconst 2, 1) := by decide +kernel
theorem dL_about_20 : decode cL_about 20 = .ok (.ireturn, 1) := by decide +kernel
theorem dL_about_21 : decode cL_about 21 = .ok (.iconst 0, 1) := by decide +kernel
theorem dL_about_22 : decode cL_about 22 = .ok (.ireturn, 1) := by decide +kernel
theorem dL_periodAnew_0 : decode cL_periodAnew 0 = .ok (.aload_n 2, 1) := by decide +kernel
theorem dL_periodAnew_1 : decode cL_periodAnew 1 = .ok (.iconst 0, 1) := by decide +kernel
theorem dL_periodAnew_2 : decode cL_periodAnew 2 = .ok (.aload_n 0, 1) := by decide +kernel
theorem dL_periodAnew_3 : decode cL_periodAnew 3 = .ok (.iload_n 1, 1) := by decide +kernel
theorem dL_periodAnew_4 : decode cL_periodAnew 4 = .ok (.invokevirtual 65, 3) := by decide +kernel
theorem dL_periodAnew_7 : decode cL_periodAnew 7 = .ok (.i2l, 1) := by decide +kernel
theorem dL_periodAnew_8 : decode cL_periodAnew 8 = .ok (.lastore, 1) := by decide +kernel
theorem dL_periodAnew_9 : decode cL_periodAnew 9 = .ok (.goto 6, 3) := by decide +kernel
theorem dL_periodAnew_12 : decode cL_periodAnew 12 = .ok (.astore_n 3, 1) := by decide +kernel
theorem dL_periodAnew_13 : decode cL_periodAnew 13 = .ok (.iconst 1, 1) := by decide +kernel
theorem dL_periodAnew_14 : decode cL_periodAnew 14 = .ok (.ireturn, 1) := by decide +kernel
theorem dL_periodAnew_15 : decode cL_periodAnew 15 = .ok (.iconst 0, 1) := by decide +kernel
theorem dL_periodAnew_16 : decode cL_periodAnew 16 = .ok (.ireturn, 1) := by decide +kernel
theorem dL_paper_0 : decode cL_paper 0 = .ok (.aload_n 3, 1) := by decide +kernel
theorem dL_paper_1 : decode cL_paper 1 = .ok (.iconst 0, 1) := by decide +kernel
theorem dL_paper_2 : decode cL_paper 2 = .ok (.aload_n 0, 1) := by decide +kernel
theorem dL_paper_3 : decode cL_paper 3 = .ok (.iload_n 1, 1) := by decide +kernel
theorem dL_paper_4 : decode cL_paper 4 = .ok (.iload_n 2, 1) := by decide +kernel
theorem dL_paper_5 : decode cL_paper 5 = .ok (.invokevirtual 68, 3) := by decide +kernel
theorem dL_paper_8 : decode cL_paper 8 = .ok (.i2l, 1) := by decide +kernel
theorem dL_paper_9 : decode cL_paper 9 = .ok (.lastore, 1) := by decide +kernel
theorem dL_paper_10 : decode cL_paper 10 = .ok (.goto 11, 3) := by decide +kernel
theorem dL_paper_13 : decode cL_paper 13 = .ok (.astore 4, 2) := by decide +kernel
theorem dL_paper_15 : decode cL_paper 15 = .ok (.iconst 1, 1) := by decide +kernel
theorem dL_paper_16 : decode cL_paper 16 = .ok (.ireturn, 1) := by decide +kernel
theorem dL_paper_17 : decode cL_paper 17 = .ok (.astore 4, 2) := by decide +kernel
theorem dL_paper_19 : decode cL_paper 19 = .ok (.iconst 2, 1) := by decide +kernel
theorem dL_paper_20 : decode cL_paper 20 = .ok (.ireturn, 1) := by decide +kernel
theorem dL_paper_21 : decode cL_paper 21 = .ok (.iconst 0, 1) := by decide +kernel
theorem dL_paper_22 : decode cL_paper 22 = .ok (.ireturn, 1) := by decide +kernel
theorem dL_withdraw_0 : decode cL_withdraw 0 = .ok (.aload_n 2, 1) := by decide +kernel
theorem dL_withdraw_1 : decode cL_withdraw 1 = .ok (.iconst 0, 1) := by decide +kernel
theorem dL_withdraw_2 : decode cL_withdraw 2 = .ok (.aload_n 0, 1) := by decide +kernel
theorem dL_withdraw_3 : decode cL_withdraw 3 = .ok (.iload_n 1, 1) := by decide +kernel
theorem dL_withdraw_4 : decode cL_withdraw 4 = .ok (.invokevirtual 71, 3) := by decide +kernel
theorem dL_withdraw_7 : decode cL_withdraw 7 = .ok (.i2l, 1) := by decide +kernel
theorem dL_withdraw_8 : decode cL_withdraw 8 = .ok (.lastore, 1) := by decide +kernel
theorem dL_withdraw_9 : decode cL_withdraw 9 = .ok (.goto 9, 3) := by decide +kernel
theorem dL_withdraw_12 : decode cL_withdraw 12 = .ok (.astore_n 3, 1) := by decide +kernel
theorem dL_withdraw_13 : decode cL_withdraw 13 = .ok (.iconst 1, 1) := by decide +kernel
theorem dL_withdraw_14 : decode cL_withdraw 14 = .ok (.ireturn, 1) := by decide +kernel
theorem dL_withdraw_15 : decode cL_withdraw 15 = .ok (.astore_n 3, 1) := by decide +kernel
theorem dL_withdraw_16 : decode cL_withdraw 16 = .ok (.iconst 2, 1) := by decide +kernel
theorem dL_withdraw_17 : decode cL_withdraw 17 = .ok (.ireturn, 1) := by decide +kernel
theorem dL_withdraw_18 : decode cL_withdraw 18 = .ok (.iconst 0, 1) := by decide +kernel
theorem dL_withdraw_19 : decode cL_withdraw 19 = .ok (.ireturn, 1) := by decide +kernel
theorem dL_hasFallen_0 : decode cL_hasFallen 0 = .ok (.aload_n 2, 1) := by decide +kernel
theorem dL_hasFallen_1 : decode cL_hasFallen 1 = .ok (.iconst 0, 1) := by decide +kernel
theorem dL_hasFallen_2 : decode cL_hasFallen 2 = .ok (.aload_n 0, 1) := by decide +kernel
theorem dL_hasFallen_3 : decode cL_hasFallen 3 = .ok (.iload_n 1, 1) := by decide +kernel
theorem dL_hasFallen_4 : decode cL_hasFallen 4 = .ok (.invokevirtual 74, 3) := by decide +kernel
theorem dL_hasFallen_7 : decode cL_hasFallen 7 = .ok (.ifCond .eq 7, 3) := by decide +kernel
theorem dL_hasFallen_10 : decode cL_hasFallen 10 = .ok (.lconst 1, 1) := by decide +kernel
theorem dL_hasFallen_11 : decode cL_hasFallen 11 = .ok (.goto 4, 3) := by decide +kernel
theorem dL_hasFallen_14 : decode cL_hasFallen 14 = .ok (.lconst 0, 1) := by decide +kernel
theorem dL_hasFallen_15 : decode cL_hasFallen 15 = .ok (.lastore, 1) := by decide +kernel
theorem dL_hasFallen_16 : decode cL_hasFallen 16 = .ok (.goto 6, 3) := by decide +kernel
theorem dL_hasFallen_19 : decode cL_hasFallen 19 = .ok (.astore_n 3, 1) := by decide +kernel
theorem dL_hasFallen_20 : decode cL_hasFallen 20 = .ok (.iconst 1, 1) := by decide +kernel
theorem dL_hasFallen_21 : decode cL_hasFallen 21 = .ok (.ireturn, 1) := by decide +kernel
theorem dL_hasFallen_22 : decode cL_hasFallen 22 = .ok (.iconst 0, 1) := by decide +kernel
theorem dL_hasFallen_23 : decode cL_hasFallen 23 = .ok (.ireturn, 1) := by decide +kernel
end
section
theorem dL_law_0 : decode cL_law 0 = .ok (.new 8, 3) := by decide +kernel
theorem dL_law_3 : decode cL_law 3 = .ok (.dup, 1) := by decide +kernel
theorem dL_law_4 : decode cL_law 4 = .ok (.invokespecial 78, 3) := by decide +kernel
theorem dL_law_7 : decode cL_law 7 = .ok (.astore_n 1, 1) := by decide +kernel
theorem dL_law_8 : decode cL_law 8 = .ok (.new 79, 3) := by decide +kernel
theorem dL_law_11 : decode cL_law 11 = .ok (.dup, 1) := by decide +kernel
theorem dL_law_12 : decode cL_law 12 = .ok (.invokespecial 81, 3) := by decide +kernel
theorem dL_law_15 : decode cL_law 15 = .ok (.astore_n 2, 1) := by decide +kernel
theorem dL_law_16 : decode cL_law 16 = .ok (.iconst 1, 1) := by decide +kernel
theorem dL_law_17 : decode cL_law 17 = .ok (.newarray .long, 2) := by decide +kernel
theorem dL_law_19 : decode cL_law 19 = .ok (.astore_n 3, 1) := by decide +kernel
theorem dL_law_20 : decode cL_law 20 = .ok (.iconst 0, 1) := by decide +kernel
theorem dL_law_21 : decode cL_law 21 = .ok (.istore 4, 2) := by decide +kernel
theorem dL_law_23 : decode cL_law 23 = .ok (.iload 4, 2) := by decide +kernel
theorem dL_law_25 : decode cL_law 25 = .ok (.aload_n 0, 1) := by decide +kernel
theorem dL_law_26 : decode cL_law 26 = .ok (.arraylength, 1) := by decide +kernel
theorem dL_law_27 : decode cL_law 27 = .ok (.bipush 6, 2) := by decide +kernel
theorem dL_law_29 : decode cL_law 29 = .ok (.isub, 1) := by decide +kernel
theorem dL_law_30 : decode cL_law 30 = .ok (.if_icmp .gt 1415, 3) := by decide +kernel
theorem dL_law_33 : decode cL_law 33 = .ok (.aload_n 0, 1) := by decide +kernel
theorem dL_law_34 : decode cL_law 34 = .ok (.iload 4, 2) := by decide +kernel
theorem dL_law_36 : decode cL_law 36 = .ok (.iaload, 1) := by decide +kernel
theorem dL_law_37 : decode cL_law 37 = .ok (.bipush 31, 2) := by decide +kernel
theorem dL_law_39 : decode cL_law 39 = .ok (.iand, 1) := by decide +kernel
theorem dL_law_40 : decode cL_law 40 = .ok (.tableswitch 1399 0 18 #[92, 148, 252, 332, 400, 467, 535, 615, 682, 749, 817, 885, 953, 1020, 1088, 1156, 1212, 1280, 1336], 92) := by decide +kernel
theorem dL_law_132 : decode cL_law 132 = .ok (.aload_n 1, 1) := by decide +kernel
theorem dL_law_133 : decode cL_law 133 = .ok (.aload_n 0, 1) := by decide +kernel
theorem dL_law_134 : decode cL_law 134 = .ok (.iload 4, 2) := by decide +kernel
theorem dL_law_136 : decode cL_law 136 = .ok (.iconst 1, 1) := by decide +kernel
theorem dL_law_137 : decode cL_law 137 = .ok (.iadd, 1) := by decide +kernel
theorem dL_law_138 : decode cL_law 138 = .ok (.iaload, 1) := by decide +kernel
theorem dL_law_139 : decode cL_law 139 = .ok (.aload_n 3, 1) := by decide +kernel
theorem dL_law_140 : decode cL_law 140 = .ok (.invokestatic 82, 3) := by decide +kernel
theorem dL_law_143 : decode cL_law 143 = .ok (.istore 5, 2) := by decide +kernel
theorem dL_law_145 : decode cL_law 145 = .ok (.aload_n 2, 1) := by decide +kernel
theorem dL_law_146 : decode cL_law 146 = .ok (.aload_n 0, 1) := by decide +kernel
theorem dL_law_147 : decode cL_law 147 = .ok (.iload 4, 2) := by decide +kernel
theorem dL_law_149 : decode cL_law 149 = .ok (.iconst 1, 1) := by decide +kernel
theorem dL_law_150 : decode cL_law 150 = .ok (.iadd, 1) := by decide +kernel
theorem dL_law_151 : decode cL_law 151 = .ok (.iaload, 1) := by decide +kernel
theorem dL_law_152 : decode cL_law 152 = .ok (.invokevirtual 87, 3) := by decide +kernel
theorem dL_law_155 : decode cL_law 155 = .ok (.istore 6, 2) := by decide +kernel
theorem dL_law_157 : decode cL_law 157 = .ok (.aload_n 2, 1) := by decide +kernel
theorem dL_law_158 : decode cL_law 158 = .ok (.invokevirtual 88, 3) := by decide +kernel
theorem dL_law_161 : decode cL_law 161 = .ok (.iload 5, 2) := by decide +kernel
theorem dL_law_163 : decode cL_law 163 = .ok (.if_icmp .eq 5, 3) := by decide +kernel
theorem dL_law_166 : decode cL_law 166 = .ok (.iconst 0, 1) := by decide +kernel
theorem dL_law_167 : decode cL_law 167 = .ok (.ireturn, 1) := by decide +kernel
theorem dL_law_168 : decode cL_law 168 = .ok (.iload 5, 2) := by decide +kernel
theorem dL_law_170 : decode cL_law 170 = .ok (.ifCond .ne 15, 3) := by decide +kernel
theorem dL_law_173 : decode cL_law 173 = .ok (.aload_n 3, 1) := by decide +kernel
theorem dL_law_174 : decode cL_law 174 = .ok (.iconst 0, 1) := by decide +kernel
theorem dL_law_175 : decode cL_law 175 = .ok (.laload, 1) := by decide +kernel
theorem dL_law_176 : decode cL_law 176 = .ok (.iload 6, 2) := by decide +kernel
theorem dL_law_178 : decode cL_law 178 = .ok (.i2l, 1) := by decide +kernel
theorem dL_law_179 : decode cL_law 179 = .ok (.lcmp, 1) := by decide +kernel
theorem dL_law_180 : decode cL_law 180 = .ok (.ifCond .eq 5, 3) := by decide +kernel
theorem dL_law_183 : decode cL_law 183 = .ok (.iconst 0, 1) := by decide +kernel
theorem dL_law_184 : decode cL_law 184 = .ok (.ireturn, 1) := by decide +kernel
theorem dL_law_185 : decode cL_law 185 = .ok (.goto 1254, 3) := by decide +kernel
theorem dL_law_188 : decode cL_law 188 = .ok (.aload_n 1, 1) := by decide +kernel
theorem dL_law_189 : decode cL_law 189 = .ok (.aload_n 0, 1) := by decide +kernel
theorem dL_law_190 : decode cL_law 190 = .ok (.iload 4, 2) := by decide +kernel
theorem dL_law_192 : decode cL_law 192 = .ok (.iconst 1, 1) := by decide +kernel
theorem dL_law_193 : decode cL_law 193 = .ok (.iadd, 1) := by decide +kernel
theorem dL_law_194 : decode cL_law 194 = .ok (.iaload, 1) := by decide +kernel
theorem dL_law_195 : decode cL_law 195 = .ok (.aload_n 0, 1) := by decide +kernel
theorem dL_law_196 : decode cL_law 196 = .ok (.iload 4, 2) := by decide +kernel
theorem dL_law_198 : decode cL_law 198 = .ok (.iconst 2, 1) := by decide +kernel
theorem dL_law_199 : decode cL_law 199 = .ok (.iadd, 1) := by decide +kernel
theorem dL_law_200 : decode cL_law 200 = .ok (.iaload, 1) := by decide +kernel
theorem dL_law_201 : decode cL_law 201 = .ok (.aload_n 0, 1) := by decide +kernel
theorem dL_law_202 : decode cL_law 202 = .ok (.iload 4, 2) := by decide +kernel
theorem dL_law_204 : decode cL_law 204 = .ok (.iconst 3, 1) := by decide +kernel
theorem dL_law_205 : decode cL_law 205 = .ok (.iadd, 1) := by decide +kernel
theorem dL_law_206 : decode cL_law 206 = .ok (.iaload, 1) := by decide +kernel
theorem dL_law_207 : decode cL_law 207 = .ok (.aload_n 0, 1) := by decide +kernel
theorem dL_law_208 : decode cL_law 208 = .ok (.iload 4, 2) := by decide +kernel
theorem dL_law_210 : decode cL_law 210 = .ok (.iconst 4, 1) := by decide +kernel
theorem dL_law_211 : decode cL_law 211 = .ok (.iadd, 1) := by decide +kernel
theorem dL_law_212 : decode cL_law 212 = .ok (.iaload, 1) := by decide +kernel
theorem dL_law_213 : decode cL_law 213 = .ok (.aload_n 0, 1) := by decide +kernel
theorem dL_law_214 : decode cL_law 214 = .ok (.iload 4, 2) := by decide +kernel
theorem dL_law_216 : decode cL_law 216 = .ok (.iconst 5, 1) := by decide +kernel
theorem dL_law_217 : decode cL_law 217 = .ok (.iadd, 1) := by decide +kernel
theorem dL_law_218 : decode cL_law 218 = .ok (.iaload, 1) := by decide +kernel
theorem dL_law_219 : decode cL_law 219 = .ok (.aload_n 3, 1) := by decide +kernel
theorem dL_law_220 : decode cL_law 220 = .ok (.invokestatic 92, 3) := by decide +kernel
theorem dL_law_223 : decode cL_law 223 = .ok (.istore 5, 2) := by decide +kernel
theorem dL_law_225 : decode cL_law 225 = .ok (.aload_n 2, 1) := by decide +kernel
theorem dL_law_226 : decode cL_law 226 = .ok (.aload_n 0, 1) := by decide +kernel
theorem dL_law_227 : decode cL_law 227 = .ok (.iload 4, 2) := by decide +kernel
theorem dL_law_229 : decode cL_law 229 = .ok (.iconst 1, 1) := by decide +kernel
theorem dL_law_230 : decode cL_law 230 = .ok (.iadd, 1) := by decide +kernel
theorem dL_law_231 : decode cL_law 231 = .ok (.iaload, 1) := by decide +kernel
theorem dL_law_232 : decode cL_law 232 = .ok (.aload_n 0, 1) := by decide +kernel
theorem dL_law_233 : decode cL_law 233 = .ok (.iload 4, 2) := by decide +kernel
theorem dL_law_235 : decode cL_law 235 = .ok (.iconst 2, 1) := by decide +kernel
theorem dL_law_236 : decode cL_law 236 = .ok (.iadd, 1) := by decide +kernel
theorem dL_law_237 : decode cL_law 237 = .ok (.iaload, 1) := by decide +kernel
theorem dL_law_238 : decode cL_law 238 = .ok (.aload_n 0, 1) := by decide +kernel
theorem dL_law_239 : decode cL_law 239 = .ok (.iload 4, 2) := by decide +kernel
theorem dL_law_241 : decode cL_law 241 = .ok (.iconst 3, 1) := by decide +kernel
theorem dL_law_242 : decode cL_law 242 = .ok (.iadd, 1) := by decide +kernel
theorem dL_law_243 : decode cL_law 243 = .ok (.iaload, 1) := by decide +kernel
theorem dL_law_244 : decode cL_law 244 = .ok (.aload_n 0, 1) := by decide +kernel
theorem dL_law_245 : decode cL_law 245 = .ok (.iload 4, 2) := by decide +kernel
theorem dL_law_247 : decode cL_law 247 = .ok (.iconst 4, 1) := by decide +kernel
theorem dL_law_248 : decode cL_law 248 = .ok (.iadd, 1) := by decide +kernel
theorem dL_law_249 : decode cL_law 249 = .ok (.iaload, 1) := by decide +kernel
theorem dL_law_250 : decode cL_law 250 = .ok (.aload_n 0, 1) := by decide +kernel
theorem dL_law_251 : decode cL_law 251 = .ok (.iload 4, 2) := by decide +kernel
theorem dL_law_253 : decode cL_law 253 = .ok (.iconst 5, 1) := by decide +kernel
theorem dL_law_254 : decode cL_law 254 = .ok (.iadd, 1) := by decide +kernel
theorem dL_law_255 : decode cL_law 255 = .ok (.iaload, 1) := by decide +kernel
theorem dL_law_256 : decode cL_law 256 = .ok (.invokevirtual 95, 3) := by decide +kernel
theorem dL_law_259 : decode cL_law 259 = .ok (.istore 6, 2) := by decide +kernel
theorem dL_law_261 : decode cL_law 261 = .ok (.aload_n 2, 1) := by decide +kernel
theorem dL_law_262 : decode cL_law 262 = .ok (.invokevirtual 88, 3) := by decide +kernel
theorem dL_law_265 : decode cL_law 265 = .ok (.iload 5, 2) := by decide +kernel
theorem dL_law_267 : decode cL_law 267 = .ok (.if_icmp .eq 5, 3) := by decide +kernel
theorem dL_law_270 : decode cL_law 270 = .ok (.iconst 0, 1) := by decide +kernel
theorem dL_law_271 : decode cL_law 271 = .ok (.ireturn, 1) := by decide +kernel
theorem dL_law_272 : decode cL_law 272 = .ok (.iload 5, 2) := by decide +kernel
theorem dL_law_274 : decode cL_law 274 = .ok (.ifCond .ne 15, 3) := by decide +kernel
theorem dL_law_277 : decode cL_law 277 = .ok (.aload_n 3, 1) := by decide +kernel
theorem dL_law_278 : decode cL_law 278 = .ok (.iconst 0, 1) := by decide +kernel
theorem dL_law_279 : decode cL_law 279 = .ok (.laload, 1) := by decide +kernel
theorem dL_law_280 : decode cL_law 280 = .ok (.iload 6, 2) := by decide +kernel
theorem dL_law_282 : decode cL_law 282 = .ok (.i2l, 1) := by decide +kernel
theorem dL_law_283 : decode cL_law 283 = .ok (.lcmp, 1) := by decide +kernel
theorem dL_law_284 : decode cL_law 284 = .ok (.ifCond .eq 5, 3) := by decide +kernel
theorem dL_law_287 : decode cL_law 287 = .ok (.iconst 0, 1) := by decide +kernel
theorem dL_law_288 : decode cL_law 288 = .ok (.ireturn, 1) := by decide +kernel
theorem dL_law_289 : decode cL_law 289 = .ok (.goto 1150, 3) := by decide +kernel
theorem dL_law_292 : decode cL_law 292 = .ok (.aload_n 1, 1) := by decide +kernel
theorem dL_law_293 : decode cL_law 293 = .ok (.aload_n 0, 1) := by decide +kernel
theorem dL_law_294 : decode cL_law 294 = .ok (.iload 4, 2) := by decide +kernel
theorem dL_law_296 : decode cL_law 296 = .ok (.iconst 1, 1) := by decide +kernel
theorem dL_law_297 : decode cL_law 297 = .ok (.iadd, 1) := by decide +kernel
theorem dL_law_298 : decode cL_law 298 = .ok (.iaload, 1) := by decide +kernel
theorem dL_law_299 : decode cL_law 299 = .ok (.aload_n 0, 1) := by decide +kernel
theorem dL_law_300 : decode cL_law 300 = .ok (.iload 4, 2) := by decide +kernel
theorem dL_law_302 : decode cL_law 302 = .ok (.iconst 2, 1) := by decide +kernel
theorem dL_law_303 : decode cL_law 303 = .ok (.iadd, 1) := by decide +kernel
theorem dL_law_304 : decode cL_law 304 = .ok (.iaload, 1) := by decide +kernel
theorem dL_law_305 : decode cL_law 305 = .ok (.aload_n 0, 1) := by decide +kernel
theorem dL_law_306 : decode cL_law 306 = .ok (.iload 4, 2) := by decide +kernel
theorem dL_law_308 : decode cL_law 308 = .ok (.iconst 3, 1) := by decide +kernel
theorem dL_law_309 : decode cL_law 309 = .ok (.iadd, 1) := by decide +kernel
theorem dL_law_310 : decode cL_law 310 = .ok (.iaload, 1) := by decide +kernel
theorem dL_law_311 : decode cL_law 311 = .ok (.aload_n 3, 1) := by decide +kernel
theorem dL_law_312 : decode cL_law 312 = .ok (.invokestatic 96, 3) := by decide +kernel
theorem dL_law_315 : decode cL_law 315 = .ok (.istore 5, 2) := by decide +kernel
theorem dL_law_317 : decode cL_law 317 = .ok (.aload_n 2, 1) := by decide +kernel
theorem dL_law_318 : decode cL_law 318 = .ok (.aload_n 0, 1) := by decide +kernel
theorem dL_law_319 : decode cL_law 319 = .ok (.iload 4, 2) := by decide +kernel
theorem dL_law_321 : decode cL_law 321 = .ok (.iconst 1, 1) := by decide +kernel
theorem dL_law_322 : decode cL_law 322 = .ok (.iadd, 1) := by decide +kernel
theorem dL_law_323 : decode cL_law 323 = .ok (.iaload, 1) := by decide +kernel
theorem dL_law_324 : decode cL_law 324 = .ok (.aload_n 0, 1) := by decide +kernel
theorem dL_law_325 : decode cL_law 325 = .ok (.iload 4, 2) := by decide +kernel
theorem dL_law_327 : decode cL_law 327 = .ok (.iconst 2, 1) := by decide +kernel
theorem dL_law_328 : decode cL_law 328 = .ok (.iadd, 1) := by decide +kernel
theorem dL_law_329 : decode cL_law 329 = .ok (.iaload, 1) := by decide +kernel
theorem dL_law_330 : decode cL_law 330 = .ok (.aload_n 0, 1) := by decide +kernel
theorem dL_law_331 : decode cL_law 331 = .ok (.iload 4, 2) := by decide +kernel
theorem dL_law_333 : decode cL_law 333 = .ok (.iconst 3, 1) := by decide +kernel
theorem dL_law_334 : decode cL_law 334 = .ok (.iadd, 1) := by decide +kernel
theorem dL_law_335 : decode cL_law 335 = .ok (.iaload, 1) := by decide +kernel
theorem dL_law_336 : decode cL_law 336 = .ok (.invokevirtual 99, 3) := by decide +kernel
theorem dL_law_339 : decode cL_law 339 = .ok (.istore 6, 2) := by decide +kernel
theorem dL_law_341 : decode cL_law 341 = .ok (.aload_n 2, 1) := by decide +kernel
theorem dL_law_342 : decode cL_law 342 = .ok (.invokevirtual 88, 3) := by decide +kernel
theorem dL_law_345 : decode cL_law 345 = .ok (.iload 5, 2) := by decide +kernel
theorem dL_law_347 : decode cL_law 347 = .ok (.if_icmp .eq 5, 3) := by decide +kernel
theorem dL_law_350 : decode cL_law 350 = .ok (.iconst 0, 1) := by decide +kernel
theorem dL_law_351 : decode cL_law 351 = .ok (.ireturn, 1) := by decide +kernel
theorem dL_law_352 : decode cL_law 352 = .ok (.iload 5, 2) := by decide +kernel
theorem dL_law_354 : decode cL_law 354 = .ok (.ifCond .ne 15, 3) := by decide +kernel
theorem dL_law_357 : decode cL_law 357 = .ok (.aload_n 3, 1) := by decide +kernel
theorem dL_law_358 : decode cL_law 358 = .ok (.iconst 0, 1) := by decide +kernel
theorem dL_law_359 : decode cL_law 359 = .ok (.laload, 1) := by decide +kernel
theorem dL_law_360 : decode cL_law 360 = .ok (.iload 6, 2) := by decide +kernel
theorem dL_law_362 : decode cL_law 362 = .ok (.i2l, 1) := by decide +kernel
theorem dL_law_363 : decode cL_law 363 = .ok (.lcmp, 1) := by decide +kernel
theorem dL_law_364 : decode cL_law 364 = .ok (.ifCond .eq 5, 3) := by decide +kernel
theorem dL_law_367 : decode cL_law 367 = .ok (.iconst 0, 1) := by decide +kernel
theorem dL_law_368 : decode cL_law 368 = .ok (.ireturn, 1) := by decide +kernel
theorem dL_law_369 : decode cL_law 369 = .ok (.goto 1070, 3) := by decide +kernel
theorem dL_law_372 : decode cL_law 372 = .ok (.aload_n 1, 1) := by decide +kernel
theorem dL_law_373 : decode cL_law 373 = .ok (.aload_n 0, 1) := by decide +kernel
theorem dL_law_374 : decode cL_law 374 = .ok (.iload 4, 2) := by decide +kernel
theorem dL_law_376 : decode cL_law 376 = .ok (.iconst 1, 1) := by decide +kernel
theorem dL_law_377 : decode cL_law 377 = .ok (.iadd, 1) := by decide +kernel
theorem dL_law_378 : decode cL_law 378 = .ok (.iaload, 1) := by decide +kernel
theorem dL_law_379 : decode cL_law 379 = .ok (.aload_n 0, 1) := by decide +kernel
theorem dL_law_380 : decode cL_law 380 = .ok (.iload 4, 2) := by decide +kernel
theorem dL_law_382 : decode cL_law 382 = .ok (.iconst 2, 1) := by decide +kernel
theorem dL_law_383 : decode cL_law 383 = .ok (.iadd, 1) := by decide +kernel
theorem dL_law_384 : decode cL_law 384 = .ok (.iaload, 1) := by decide +kernel
theorem dL_law_385 : decode cL_law 385 = .ok (.aload_n 3, 1) := by decide +kernel
theorem dL_law_386 : decode cL_law 386 = .ok (.invokestatic 100, 3) := by decide +kernel
theorem dL_law_389 : decode cL_law 389 = .ok (.istore 5, 2) := by decide +kernel
theorem dL_law_391 : decode cL_law 391 = .ok (.aload_n 2, 1) := by decide +kernel
theorem dL_law_392 : decode cL_law 392 = .ok (.aload_n 0, 1) := by decide +kernel
theorem dL_law_393 : decode cL_law 393 = .ok (.iload 4, 2) := by decide +kernel
theorem dL_law_395 : decode cL_law 395 = .ok (.iconst 1, 1) := by decide +kernel
theorem dL_law_396 : decode cL_law 396 = .ok (.iadd, 1) := by decide +kernel
theorem dL_law_397 : decode cL_law 397 = .ok (.iaload, 1) := by decide +kernel
theorem dL_law_398 : decode cL_law 398 = .ok (.aload_n 0, 1) := by decide +kernel
theorem dL_law_399 : decode cL_law 399 = .ok (.iload 4, 2) := by decide +kernel
theorem dL_law_401 : decode cL_law 401 = .ok (.iconst 2, 1) := by decide +kernel
theorem dL_law_402 : decode cL_law 402 = .ok (.iadd, 1) := by decide +kernel
theorem dL_law_403 : decode cL_law 403 = .ok (.iaload, 1) := by decide +kernel
theorem dL_law_404 : decode cL_law 404 = .ok (.invokevirtual 103, 3) := by decide +kernel
theorem dL_law_407 : decode cL_law 407 = .ok (.istore 6, 2) := by decide +kernel
theorem dL_law_409 : decode cL_law 409 = .ok (.aload_n 2, 1) := by decide +kernel
theorem dL_law_410 : decode cL_law 410 = .ok (.invokevirtual 88, 3) := by decide +kernel
theorem dL_law_413 : decode cL_law 413 = .ok (.iload 5, 2) := by decide +kernel
theorem dL_law_415 : decode cL_law 415 = .ok (.if_icmp .eq 5, 3) := by decide +kernel
theorem dL_law_418 : decode cL_law 418 = .ok (.iconst 0, 1) := by decide +kernel
theorem dL_law_419 : decode cL_law 419 = .ok (.ireturn, 1) := by decide +kernel
theorem dL_law_420 : decode cL_law 420 = .ok (.iload 5, 2) := by decide +kernel
theorem dL_law_422 : decode cL_law 422 = .ok (.ifCond .ne 15, 3) := by decide +kernel
theorem dL_law_425 : decode cL_law 425 = .ok (.aload_n 3, 1) := by decide +kernel
theorem dL_law_426 : decode cL_law 426 = .ok (.iconst 0, 1) := by decide +kernel
theorem dL_law_427 : decode cL_law 427 = .ok (.laload, 1) := by decide +kernel
theorem dL_law_428 : decode cL_law 428 = .ok (.iload 6, 2) := by decide +kernel
theorem dL_law_430 : decode cL_law 430 = .ok (.i2l, 1) := by decide +kernel
theorem dL_law_431 : decode cL_law 431 = .ok (.lcmp, 1) := by decide +kernel
theorem dL_law_432 : decode cL_law 432 = .ok (.ifCond .eq 5, 3) := by decide +kernel
theorem dL_law_435 : decode cL_law 435 = .ok (.iconst 0, 1) := by decide +kernel
theorem dL_law_436 : decode cL_law 436 = .ok (.ireturn, 1) := by decide +kernel
theorem dL_law_437 : decode cL_law 437 = .ok (.goto 1002, 3) := by decide +kernel
theorem dL_law_440 : decode cL_law 440 = .ok (.aload_n 1, 1) := by decide +kernel
theorem dL_law_441 : decode cL_law 441 = .ok (.aload_n 0, 1) := by decide +kernel
theorem dL_law_442 : decode cL_law 442 = .ok (.iload 4, 2) := by decide +kernel
theorem dL_law_444 : decode cL_law 444 = .ok (.iconst 1, 1) := by decide +kernel
theorem dL_law_445 : decode cL_law 445 = .ok (.iadd, 1) := by decide +kernel
theorem dL_law_446 : decode cL_law 446 = .ok (.iaload, 1) := by decide +kernel
theorem dL_law_447 : decode cL_law 447 = .ok (.aload_n 0, 1) := by decide +kernel
theorem dL_law_448 : decode cL_law 448 = .ok (.iload 4, 2) := by decide +kernel
theorem dL_law_450 : decode cL_law 450 = .ok (.iconst 2, 1) := by decide +kernel
theorem dL_law_451 : decode cL_law 451 = .ok (.iadd, 1) := by decide +kernel
theorem dL_law_452 : decode cL_law 452 = .ok (.iaload, 1) := by decide +kernel
theorem dL_law_453 : decode cL_law 453 = .ok (.aload_n 3, 1) := by decide +kernel
theorem dL_law_454 : decode cL_law 454 = .ok (.invokestatic 104, 3) := by decide +kernel
theorem dL_law_457 : decode cL_law 457 = .ok (.istore 5, 2) := by decide +kernel
theorem dL_law_459 : decode cL_law 459 = .ok (.aload_n 2, 1) := by decide +kernel
theorem dL_law_460 : decode cL_law 460 = .ok (.aload_n 0, 1) := by decide +kernel
theorem dL_law_461 : decode cL_law 461 = .ok (.iload 4, 2) := by decide +kernel
theorem dL_law_463 : decode cL_law 463 = .ok (.iconst 1, 1) := by decide +kernel
theorem dL_law_464 : decode cL_law 464 = .ok (.iadd, 1) := by decide +kernel
theorem dL_law_465 : decode cL_law 465 = .ok (.iaload, 1) := by decide +kernel
theorem dL_law_466 : decode cL_law 466 = .ok (.aload_n 0, 1) := by decide +kernel
theorem dL_law_467 : decode cL_law 467 = .ok (.iload 4, 2) := by decide +kernel
theorem dL_law_469 : decode cL_law 469 = .ok (.iconst 2, 1) := by decide +kernel
theorem dL_law_470 : decode cL_law 470 = .ok (.iadd, 1) := by decide +kernel
theorem dL_law_471 : decode cL_law 471 = .ok (.iaload, 1) := by decide +kernel
theorem dL_law_472 : decode cL_law 472 = .ok (.invokevirtual 106, 3) := by decide +kernel
theorem dL_law_475 : decode cL_law 475 = .ok (.lstore 6, 2) := by decide +kernel
theorem dL_law_477 : decode cL_law 477 = .ok (.aload_n 2, 1) := by decide +kernel
theorem dL_law_478 : decode cL_law 478 = .ok (.invokevirtual 88, 3) := by decide +kernel
theorem dL_law_481 : decode cL_law 481 = .ok (.iload 5, 2) := by decide +kernel
theorem dL_law_483 : decode cL_law 483 = .ok (.if_icmp .eq 5, 3) := by decide +kernel
theorem dL_law_486 : decode cL_law 486 = .ok (.iconst 0, 1) := by decide +kernel
theorem dL_law_487 : decode cL_law 487 = .ok (.ireturn, 1) := by decide +kernel
theorem dL_law_488 : decode cL_law 488 = .ok (.iload 5, 2) := by decide +kernel
theorem dL_law_490 : decode cL_law 490 = .ok (.ifCond .ne 14, 3) := by decide +kernel
theorem dL_law_493 : decode cL_law 493 = .ok (.aload_n 3, 1) := by decide +kernel
theorem dL_law_494 : decode cL_law 494 = .ok (.iconst 0, 1) := by decide +kernel
theorem dL_law_495 : decode cL_law 495 = .ok (.laload, 1) := by decide +kernel
theorem dL_law_496 : decode cL_law 496 = .ok (.lload 6, 2) := by decide +kernel
theorem dL_law_498 : decode cL_law 498 = .ok (.lcmp, 1) := by decide +kernel
theorem dL_law_499 : decode cL_law 499 = .ok (.ifCond .eq 5, 3) := by decide +kernel
theorem dL_law_502 : decode cL_law 502 = .ok (.iconst 0, 1) := by decide +kernel
theorem dL_law_503 : decode cL_law 503 = .ok (.ireturn, 1) := by decide +kernel
theorem dL_law_504 : decode cL_law 504 = .ok (.goto 935, 3) := by decide +kernel
theorem dL_law_507 : decode cL_law 507 = .ok (.aload_n 1, 1) := by decide +kernel
theorem dL_law_508 : decode cL_law 508 = .ok (.aload_n 0, 1) := by decide +kernel
theorem dL_law_509 : decode cL_law 509 = .ok (.iload 4, 2) := by decide +kernel
theorem dL_law_511 : decode cL_law 511 = .ok (.iconst 1, 1) := by decide +kernel
theorem dL_law_512 : decode cL_law 512 = .ok (.iadd, 1) := by decide +kernel
theorem dL_law_513 : decode cL_law 513 = .ok (.iaload, 1) := by decide +kernel
theorem dL_law_514 : decode cL_law 514 = .ok (.aload_n 0, 1) := by decide +kernel
theorem dL_law_515 : decode cL_law 515 = .ok (.iload 4, 2) := by decide +kernel
theorem dL_law_517 : decode cL_law 517 = .ok (.iconst 2, 1) := by decide +kernel
theorem dL_law_518 : decode cL_law 518 = .ok (.iadd, 1) := by decide +kernel
theorem dL_law_519 : decode cL_law 519 = .ok (.iaload, 1) := by decide +kernel
theorem dL_law_520 : decode cL_law 520 = .ok (.aload_n 3, 1) := by decide +kernel
theorem dL_law_521 : decode cL_law 521 = .ok (.invokestatic 107, 3) := by decide +kernel
theorem dL_law_524 : decode cL_law 524 = .ok (.istore 5, 2) := by decide +kernel
theorem dL_law_526 : decode cL_law 526 = .ok (.aload_n 2, 1) := by decide +kernel
theorem dL_law_527 : decode cL_law 527 = .ok (.aload_n 0, 1) := by decide +kernel
theorem dL_law_528 : decode cL_law 528 = .ok (.iload 4, 2) := by decide +kernel
theorem dL_law_530 : decode cL_law 530 = .ok (.iconst 1, 1) := by decide +kernel
theorem dL_law_531 : decode cL_law 531 = .ok (.iadd, 1) := by decide +kernel
theorem dL_law_532 : decode cL_law 532 = .ok (.iaload, 1) := by decide +kernel
theorem dL_law_533 : decode cL_law 533 = .ok (.aload_n 0, 1) := by decide +kernel
theorem dL_law_534 : decode cL_law 534 = .ok (.iload 4, 2) := by decide +kernel
theorem dL_law_536 : decode cL_law 536 = .ok (.iconst 2, 1) := by decide +kernel
theorem dL_law_537 : decode cL_law 537 = .ok (.iadd, 1) := by decide +kernel
theorem dL_law_538 : decode cL_law 538 = .ok (.iaload, 1) := by decide +kernel
theorem dL_law_539 : decode cL_law 539 = .ok (.invokevirtual 109, 3) := by decide +kernel
theorem dL_law_542 : decode cL_law 542 = .ok (.istore 6, 2) := by decide +kernel
theorem dL_law_544 : decode cL_law 544 = .ok (.aload_n 2, 1) := by decide +kernel
theorem dL_law_545 : decode cL_law 545 = .ok (.invokevirtual 88, 3) := by decide +kernel
theorem dL_law_548 : decode cL_law 548 = .ok (.iload 5, 2) := by decide +kernel
theorem dL_law_550 : decode cL_law 550 = .ok (.if_icmp .eq 5, 3) := by decide +kernel
theorem dL_law_553 : decode cL_law 553 = .ok (.iconst 0, 1) := by decide +kernel
theorem dL_law_554 : decode cL_law 554 = .ok (.ireturn, 1) := by decide +kernel
theorem dL_law_555 : decode cL_law 555 = .ok (.iload 5, 2) := by decide +kernel
theorem dL_law_557 : decode cL_law 557 = .ok (.ifCond .ne 15, 3) := by decide +kernel
theorem dL_law_560 : decode cL_law 560 = .ok (.aload_n 3, 1) := by decide +kernel
theorem dL_law_561 : decode cL_law 561 = .ok (.iconst 0, 1) := by decide +kernel
theorem dL_law_562 : decode cL_law 562 = .ok (.laload, 1) := by decide +kernel
theorem dL_law_563 : decode cL_law 563 = .ok (.iload 6, 2) := by decide +kernel
theorem dL_law_565 : decode cL_law 565 = .ok (.i2l, 1) := by decide +kernel
theorem dL_law_566 : decode cL_law 566 = .ok (.lcmp, 1) := by decide +kernel
theorem dL_law_567 : decode cL_law 567 = .ok (.ifCond .eq 5, 3) := by decide +kernel
theorem dL_law_570 : decode cL_law 570 = .ok (.iconst 0, 1) := by decide +kernel
theorem dL_law_571 : decode cL_law 571 = .ok (.ireturn, 1) := by decide +kernel
theorem dL_law_572 : decode cL_law 572 = .ok (.goto 867, 3) := by decide +kernel
theorem dL_law_575 : decode cL_law 575 = .ok (.aload_n 1, 1) := by decide +kernel
theorem dL_law_576 : decode cL_law 576 = .ok (.aload_n 0, 1) := by decide +kernel
theorem dL_law_577 : decode cL_law 577 = .ok (.iload 4, 2) := by decide +kernel
theorem dL_law_579 : decode cL_law 579 = .ok (.iconst 1, 1) := by decide +kernel
theorem dL_law_580 : decode cL_law 580 = .ok (.iadd, 1) := by decide +kernel
theorem dL_law_581 : decode cL_law 581 = .ok (.iaload, 1) := by decide +kernel
theorem dL_law_582 : decode cL_law 582 = .ok (.aload_n 0, 1) := by decide +kernel
theorem dL_law_583 : decode cL_law 583 = .ok (.iload 4, 2) := by decide +kernel
theorem dL_law_585 : decode cL_law 585 = .ok (.iconst 2, 1) := by decide +kernel
theorem dL_law_586 : decode cL_law 586 = .ok (.iadd, 1) := by decide +kernel
theorem dL_law_587 : decode cL_law 587 = .ok (.iaload, 1) := by decide +kernel
theorem dL_law_588 : decode cL_law 588 = .ok (.aload_n 0, 1) := by decide +kernel
theorem dL_law_589 : decode cL_law 589 = .ok (.iload 4, 2) := by decide +kernel
theorem dL_law_591 : decode cL_law 591 = .ok (.iconst 3, 1) := by decide +kernel
theorem dL_law_592 : decode cL_law 592 = .ok (.iadd, 1) := by decide +kernel
theorem dL_law_593 : decode cL_law 593 = .ok (.iaload, 1) := by decide +kernel
theorem dL_law_594 : decode cL_law 594 = .ok (.aload_n 3, 1) := by decide +kernel
theorem dL_law_595 : decode cL_law 595 = .ok (.invokestatic 110, 3) := by decide +kernel
theorem dL_law_598 : decode cL_law 598 = .ok (.istore 5, 2) := by decide +kernel
theorem dL_law_600 : decode cL_law 600 = .ok (.aload_n 2, 1) := by decide +kernel
theorem dL_law_601 : decode cL_law 601 = .ok (.aload_n 0, 1) := by decide +kernel
theorem dL_law_602 : decode cL_law 602 = .ok (.iload 4, 2) := by decide +kernel
theorem dL_law_604 : decode cL_law 604 = .ok (.iconst 1, 1) := by decide +kernel
theorem dL_law_605 : decode cL_law 605 = .ok (.iadd, 1) := by decide +kernel
theorem dL_law_606 : decode cL_law 606 = .ok (.iaload, 1) := by decide +kernel
theorem dL_law_607 : decode cL_law 607 = .ok (.aload_n 0, 1) := by decide +kernel
theorem dL_law_608 : decode cL_law 608 = .ok (.iload 4, 2) := by decide +kernel
theorem dL_law_610 : decode cL_law 610 = .ok (.iconst 2, 1) := by decide +kernel
theorem dL_law_611 : decode cL_law 611 = .ok (.iadd, 1) := by decide +kernel
theorem dL_law_612 : decode cL_law 612 = .ok (.iaload, 1) := by decide +kernel
theorem dL_law_613 : decode cL_law 613 = .ok (.aload_n 0, 1) := by decide +kernel
theorem dL_law_614 : decode cL_law 614 = .ok (.iload 4, 2) := by decide +kernel
theorem dL_law_616 : decode cL_law 616 = .ok (.iconst 3, 1) := by decide +kernel
theorem dL_law_617 : decode cL_law 617 = .ok (.iadd, 1) := by decide +kernel
theorem dL_law_618 : decode cL_law 618 = .ok (.iaload, 1) := by decide +kernel
theorem dL_law_619 : decode cL_law 619 = .ok (.invokevirtual 112, 3) := by decide +kernel
theorem dL_law_622 : decode cL_law 622 = .ok (.istore 6, 2) := by decide +kernel
theorem dL_law_624 : decode cL_law 624 = .ok (.aload_n 2, 1) := by decide +kernel
theorem dL_law_625 : decode cL_law 625 = .ok (.invokevirtual 88, 3) := by decide +kernel
theorem dL_law_628 : decode cL_law 628 = .ok (.iload 5, 2) := by decide +kernel
theorem dL_law_630 : decode cL_law 630 = .ok (.if_icmp .eq 5, 3) := by decide +kernel
theorem dL_law_633 : decode cL_law 633 = .ok (.iconst 0, 1) := by decide +kernel
theorem dL_law_634 : decode cL_law 634 = .ok (.ireturn, 1) := by decide +kernel
theorem dL_law_635 : decode cL_law 635 = .ok (.iload 5, 2) := by decide +kernel
theorem dL_law_637 : decode cL_law 637 = .ok (.ifCond .ne 15, 3) := by decide +kernel
theorem dL_law_640 : decode cL_law 640 = .ok (.aload_n 3, 1) := by decide +kernel
theorem dL_law_641 : decode cL_law 641 = .ok (.iconst 0, 1) := by decide +kernel
theorem dL_law_642 : decode cL_law 642 = .ok (.laload, 1) := by decide +kernel
theorem dL_law_643 : decode cL_law 643 = .ok (.iload 6, 2) := by decide +kernel
theorem dL_law_645 : decode cL_law 645 = .ok (.i2l, 1) := by decide +kernel
theorem dL_law_646 : decode cL_law 646 = .ok (.lcmp, 1) := by decide +kernel
theorem dL_law_647 : decode cL_law 647 = .ok (.ifCond .eq 5, 3) := by decide +kernel
theorem dL_law_650 : decode cL_law 650 = .ok (.iconst 0, 1) := by decide +kernel
theorem dL_law_651 : decode cL_law 651 = .ok (.ireturn, 1) := by decide +kernel
theorem dL_law_652 : decode cL_law 652 = .ok (.goto 787, 3) := by decide +kernel
theorem dL_law_655 : decode cL_law 655 = .ok (.aload_n 1, 1) := by decide +kernel
theorem dL_law_656 : decode cL_law 656 = .ok (.aload_n 0, 1) := by decide +kernel
theorem dL_law_657 : decode cL_law 657 = .ok (.iload 4, 2) := by decide +kernel
theorem dL_law_659 : decode cL_law 659 = .ok (.iconst 1, 1) := by decide +kernel
theorem dL_law_660 : decode cL_law 660 = .ok (.iadd, 1) := by decide +kernel
theorem dL_law_661 : decode cL_law 661 = .ok (.iaload, 1) := by decide +kernel
theorem dL_law_662 : decode cL_law 662 = .ok (.aload_n 0, 1) := by decide +kernel
theorem dL_law_663 : decode cL_law 663 = .ok (.iload 4, 2) := by decide +kernel
theorem dL_law_665 : decode cL_law 665 = .ok (.iconst 2, 1) := by decide +kernel
theorem dL_law_666 : decode cL_law 666 = .ok (.iadd, 1) := by decide +kernel
theorem dL_law_667 : decode cL_law 667 = .ok (.iaload, 1) := by decide +kernel
theorem dL_law_668 : decode cL_law 668 = .ok (.aload_n 3, 1) := by decide +kernel
theorem dL_law_669 : decode cL_law 669 = .ok (.invokestatic 113, 3) := by decide +kernel
theorem dL_law_672 : decode cL_law 672 = .ok (.istore 5, 2) := by decide +kernel
theorem dL_law_674 : decode cL_law 674 = .ok (.aload_n 2, 1) := by decide +kernel
theorem dL_law_675 : decode cL_law 675 = .ok (.aload_n 0, 1) := by decide +kernel
theorem dL_law_676 : decode cL_law 676 = .ok (.iload 4, 2) := by decide +kernel
theorem dL_law_678 : decode cL_law 678 = .ok (.iconst 1, 1) := by decide +kernel
theorem dL_law_679 : decode cL_law 679 = .ok (.iadd, 1) := by decide +kernel
theorem dL_law_680 : decode cL_law 680 = .ok (.iaload, 1) := by decide +kernel
theorem dL_law_681 : decode cL_law 681 = .ok (.aload_n 0, 1) := by decide +kernel
theorem dL_law_682 : decode cL_law 682 = .ok (.iload 4, 2) := by decide +kernel
theorem dL_law_684 : decode cL_law 684 = .ok (.iconst 2, 1) := by decide +kernel
theorem dL_law_685 : decode cL_law 685 = .ok (.iadd, 1) := by decide +kernel
theorem dL_law_686 : decode cL_law 686 = .ok (.iaload, 1) := by decide +kernel
theorem dL_law_687 : decode cL_law 687 = .ok (.invokevirtual 115, 3) := by decide +kernel
theorem dL_law_690 : decode cL_law 690 = .ok (.lstore 6, 2) := by decide +kernel
theorem dL_law_692 : decode cL_law 692 = .ok (.aload_n 2, 1) := by decide +kernel
theorem dL_law_693 : decode cL_law 693 = .ok (.invokevirtual 88, 3) := by decide +kernel
theorem dL_law_696 : decode cL_law 696 = .ok (.iload 5, 2) := by decide +kernel
theorem dL_law_698 : decode cL_law 698 = .ok (.if_icmp .eq 5, 3) := by decide +kernel
theorem dL_law_701 : decode cL_law 701 = .ok (.iconst 0, 1) := by decide +kernel
theorem dL_law_702 : decode cL_law 702 = .ok (.ireturn, 1) := by decide +kernel
theorem dL_law_703 : decode cL_law 703 = .ok (.iload 5, 2) := by decide +kernel
theorem dL_law_705 : decode cL_law 705 = .ok (.ifCond .ne 14, 3) := by decide +kernel
theorem dL_law_708 : decode cL_law 708 = .ok (.aload_n 3, 1) := by decide +kernel
theorem dL_law_709 : decode cL_law 709 = .ok (.iconst 0, 1) := by decide +kernel
theorem dL_law_710 : decode cL_law 710 = .ok (.laload, 1) := by decide +kernel
theorem dL_law_711 : decode cL_law 711 = .ok (.lload 6, 2) := by decide +kernel
theorem dL_law_713 : decode cL_law 713 = .ok (.lcmp, 1) := by decide +kernel
theorem dL_law_714 : decode cL_law 714 = .ok (.ifCond .eq 5, 3) := by decide +kernel
theorem dL_law_717 : decode cL_law 717 = .ok (.iconst 0, 1) := by decide +kernel
theorem dL_law_718 : decode cL_law 718 = .ok (.ireturn, 1) := by decide +kernel
theorem dL_law_719 : decode cL_law 719 = .ok (.goto 720, 3) := by decide +kernel
theorem dL_law_722 : decode cL_law 722 = .ok (.aload_n 1, 1) := by decide +kernel
theorem dL_law_723 : decode cL_law 723 = .ok (.aload_n 0, 1) := by decide +kernel
theorem dL_law_724 : decode cL_law 724 = .ok (.iload 4, 2) := by decide +kernel
theorem dL_law_726 : decode cL_law 726 = .ok (.iconst 1, 1) := by decide +kernel
theorem dL_law_727 : decode cL_law 727 = .ok (.iadd, 1) := by decide +kernel
theorem dL_law_728 : decode cL_law 728 = .ok (.iaload, 1) := by decide +kernel
theorem dL_law_729 : decode cL_law 729 = .ok (.aload_n 0, 1) := by decide +kernel
theorem dL_law_730 : decode cL_law 730 = .ok (.iload 4, 2) := by decide +kernel
theorem dL_law_732 : decode cL_law 732 = .ok (.iconst 2, 1) := by decide +kernel
theorem dL_law_733 : decode cL_law 733 = .ok (.iadd, 1) := by decide +kernel
theorem dL_law_734 : decode cL_law 734 = .ok (.iaload, 1) := by decide +kernel
theorem dL_law_735 : decode cL_law 735 = .ok (.aload_n 3, 1) := by decide +kernel
theorem dL_law_736 : decode cL_law 736 = .ok (.invokestatic 116, 3) := by decide +kernel
theorem dL_law_739 : decode cL_law 739 = .ok (.istore 5, 2) := by decide +kernel
theorem dL_law_741 : decode cL_law 741 = .ok (.aload_n 2, 1) := by decide +kernel
theorem dL_law_742 : decode cL_law 742 = .ok (.aload_n 0, 1) := by decide +kernel
theorem dL_law_743 : decode cL_law 743 = .ok (.iload 4, 2) := by decide +kernel
theorem dL_law_745 : decode cL_law 745 = .ok (.iconst 1, 1) := by decide +kernel
theorem dL_law_746 : decode cL_law 746 = .ok (.iadd, 1) := by decide +kernel
theorem dL_law_747 : decode cL_law 747 = .ok (.iaload, 1) := by decide +kernel
theorem dL_law_748 : decode cL_law 748 = .ok (.aload_n 0, 1) := by decide +kernel
theorem dL_law_749 : decode cL_law 749 = .ok (.iload 4, 2) := by decide +kernel
theorem dL_law_751 : decode cL_law 751 = .ok (.iconst 2, 1) := by decide +kernel
theorem dL_law_752 : decode cL_law 752 = .ok (.iadd, 1) := by decide +kernel
end
section
theorem dL_law_753 : decode cL_law 753 = .ok (.iaload, 1) := by decide +kernel
theorem dL_law_754 : decode cL_law 754 = .ok (.invokevirtual 118, 3) := by decide +kernel
theorem dL_law_757 : decode cL_law 757 = .ok (.lstore 6, 2) := by decide +kernel
theorem dL_law_759 : decode cL_law 759 = .ok (.aload_n 2, 1) := by decide +kernel
theorem dL_law_760 : decode cL_law 760 = .ok (.invokevirtual 88, 3) := by decide +kernel
theorem dL_law_763 : decode cL_law 763 = .ok (.iload 5, 2) := by decide +kernel
theorem dL_law_765 : decode cL_law 765 = .ok (.if_icmp .eq 5, 3) := by decide +kernel
theorem dL_law_768 : decode cL_law 768 = .ok (.iconst 0, 1) := by decide +kernel
theorem dL_law_769 : decode cL_law 769 = .ok (.ireturn, 1) := by decide +kernel
theorem dL_law_770 : decode cL_law 770 = .ok (.iload 5, 2) := by decide +kernel
theorem dL_law_772 : decode cL_law 772 = .ok (.ifCond .ne 14, 3) := by decide +kernel
theorem dL_law_775 : decode cL_law 775 = .ok (.aload_n 3, 1) := by decide +kernel
theorem dL_law_776 : decode cL_law 776 = .ok (.iconst 0, 1) := by decide +kernel
theorem dL_law_777 : decode cL_law 777 = .ok (.laload, 1) := by decide +kernel
theorem dL_law_778 : decode cL_law 778 = .ok (.lload 6, 2) := by decide +kernel
theorem dL_law_780 : decode cL_law 780 = .ok (.lcmp, 1) := by decide +kernel
theorem dL_law_781 : decode cL_law 781 = .ok (.ifCond .eq 5, 3) := by decide +kernel
theorem dL_law_784 : decode cL_law 784 = .ok (.iconst 0, 1) := by decide +kernel
theorem dL_law_785 : decode cL_law 785 = .ok (.ireturn, 1) := by decide +kernel
theorem dL_law_786 : decode cL_law 786 = .ok (.goto 653, 3) := by decide +kernel
theorem dL_law_789 : decode cL_law 789 = .ok (.aload_n 1, 1) := by decide +kernel
theorem dL_law_790 : decode cL_law 790 = .ok (.aload_n 0, 1) := by decide +kernel
theorem dL_law_791 : decode cL_law 791 = .ok (.iload 4, 2) := by decide +kernel
theorem dL_law_793 : decode cL_law 793 = .ok (.iconst 1, 1) := by decide +kernel
theorem dL_law_794 : decode cL_law 794 = .ok (.iadd, 1) := by decide +kernel
theorem dL_law_795 : decode cL_law 795 = .ok (.iaload, 1) := by decide +kernel
theorem dL_law_796 : decode cL_law 796 = .ok (.aload_n 0, 1) := by decide +kernel
theorem dL_law_797 : decode cL_law 797 = .ok (.iload 4, 2) := by decide +kernel
theorem dL_law_799 : decode cL_law 799 = .ok (.iconst 2, 1) := by decide +kernel
theorem dL_law_800 : decode cL_law 800 = .ok (.iadd, 1) := by decide +kernel
theorem dL_law_801 : decode cL_law 801 = .ok (.iaload, 1) := by decide +kernel
theorem dL_law_802 : decode cL_law 802 = .ok (.aload_n 3, 1) := by decide +kernel
theorem dL_law_803 : decode cL_law 803 = .ok (.invokestatic 119, 3) := by decide +kernel
theorem dL_law_806 : decode cL_law 806 = .ok (.istore 5, 2) := by decide +kernel
theorem dL_law_808 : decode cL_law 808 = .ok (.aload_n 2, 1) := by decide +kernel
theorem dL_law_809 : decode cL_law 809 = .ok (.aload_n 0, 1) := by decide +kernel
theorem dL_law_810 : decode cL_law 810 = .ok (.iload 4, 2) := by decide +kernel
theorem dL_law_812 : decode cL_law 812 = .ok (.iconst 1, 1) := by decide +kernel
theorem dL_law_813 : decode cL_law 813 = .ok (.iadd, 1) := by decide +kernel
theorem dL_law_814 : decode cL_law 814 = .ok (.iaload, 1) := by decide +kernel
theorem dL_law_815 : decode cL_law 815 = .ok (.aload_n 0, 1) := by decide +kernel
theorem dL_law_816 : decode cL_law 816 = .ok (.iload 4, 2) := by decide +kernel
theorem dL_law_818 : decode cL_law 818 = .ok (.iconst 2, 1) := by decide +kernel
theorem dL_law_819 : decode cL_law 819 = .ok (.iadd, 1) := by decide +kernel
theorem dL_law_820 : decode cL_law 820 = .ok (.iaload, 1) := by decide +kernel
theorem dL_law_821 : decode cL_law 821 = .ok (.invokevirtual 121, 3) := by decide +kernel
theorem dL_law_824 : decode cL_law 824 = .ok (.istore 6, 2) := by decide +kernel
theorem dL_law_826 : decode cL_law 826 = .ok (.aload_n 2, 1) := by decide +kernel
theorem dL_law_827 : decode cL_law 827 = .ok (.invokevirtual 88, 3) := by decide +kernel
theorem dL_law_830 : decode cL_law 830 = .ok (.iload 5, 2) := by decide +kernel
theorem dL_law_832 : decode cL_law 832 = .ok (.if_icmp .eq 5, 3) := by decide +kernel
theorem dL_law_835 : decode cL_law 835 = .ok (.iconst 0, 1) := by decide +kernel
theorem dL_law_836 : decode cL_law 836 = .ok (.ireturn, 1) := by decide +kernel
theorem dL_law_837 : decode cL_law 837 = .ok (.iload 5, 2) := by decide +kernel
theorem dL_law_839 : decode cL_law 839 = .ok (.ifCond .ne 15, 3) := by decide +kernel
theorem dL_law_842 : decode cL_law 842 = .ok (.aload_n 3, 1) := by decide +kernel
theorem dL_law_843 : decode cL_law 843 = .ok (.iconst 0, 1) := by decide +kernel
theorem dL_law_844 : decode cL_law 844 = .ok (.laload, 1) := by decide +kernel
theorem dL_law_845 : decode cL_law 845 = .ok (.iload 6, 2) := by decide +kernel
theorem dL_law_847 : decode cL_law 847 = .ok (.i2l, 1) := by decide +kernel
theorem dL_law_848 : decode cL_law 848 = .ok (.lcmp, 1) := by decide +kernel
theorem dL_law_849 : decode cL_law 849 = .ok (.ifCond .eq 5, 3) := by decide +kernel
theorem dL_law_852 : decode cL_law 852 = .ok (.iconst 0, 1) := by decide +kernel
theorem dL_law_853 : decode cL_law 853 = .ok (.ireturn, 1) := by decide +kernel
theorem dL_law_854 : decode cL_law 854 = .ok (.goto 585, 3) := by decide +kernel
theorem dL_law_857 : decode cL_law 857 = .ok (.aload_n 1, 1) := by decide +kernel
theorem dL_law_858 : decode cL_law 858 = .ok (.aload_n 0, 1) := by decide +kernel
theorem dL_law_859 : decode cL_law 859 = .ok (.iload 4, 2) := by decide +kernel
theorem dL_law_861 : decode cL_law 861 = .ok (.iconst 1, 1) := by decide +kernel
theorem dL_law_862 : decode cL_law 862 = .ok (.iadd, 1) := by decide +kernel
theorem dL_law_863 : decode cL_law 863 = .ok (.iaload, 1) := by decide +kernel
theorem dL_law_864 : decode cL_law 864 = .ok (.aload_n 0, 1) := by decide +kernel
theorem dL_law_865 : decode cL_law 865 = .ok (.iload 4, 2) := by decide +kernel
theorem dL_law_867 : decode cL_law 867 = .ok (.iconst 2, 1) := by decide +kernel
theorem dL_law_868 : decode cL_law 868 = .ok (.iadd, 1) := by decide +kernel
theorem dL_law_869 : decode cL_law 869 = .ok (.iaload, 1) := by decide +kernel
theorem dL_law_870 : decode cL_law 870 = .ok (.aload_n 3, 1) := by decide +kernel
theorem dL_law_871 : decode cL_law 871 = .ok (.invokestatic 122, 3) := by decide +kernel
theorem dL_law_874 : decode cL_law 874 = .ok (.istore 5, 2) := by decide +kernel
theorem dL_law_876 : decode cL_law 876 = .ok (.aload_n 2, 1) := by decide +kernel
theorem dL_law_877 : decode cL_law 877 = .ok (.aload_n 0, 1) := by decide +kernel
theorem dL_law_878 : decode cL_law 878 = .ok (.iload 4, 2) := by decide +kernel
theorem dL_law_880 : decode cL_law 880 = .ok (.iconst 1, 1) := by decide +kernel
theorem dL_law_881 : decode cL_law 881 = .ok (.iadd, 1) := by decide +kernel
theorem dL_law_882 : decode cL_law 882 = .ok (.iaload, 1) := by decide +kernel
theorem dL_law_883 : decode cL_law 883 = .ok (.aload_n 0, 1) := by decide +kernel
theorem dL_law_884 : decode cL_law 884 = .ok (.iload 4, 2) := by decide +kernel
theorem dL_law_886 : decode cL_law 886 = .ok (.iconst 2, 1) := by decide +kernel
theorem dL_law_887 : decode cL_law 887 = .ok (.iadd, 1) := by decide +kernel
theorem dL_law_888 : decode cL_law 888 = .ok (.iaload, 1) := by decide +kernel
theorem dL_law_889 : decode cL_law 889 = .ok (.invokevirtual 124, 3) := by decide +kernel
theorem dL_law_892 : decode cL_law 892 = .ok (.istore 6, 2) := by decide +kernel
theorem dL_law_894 : decode cL_law 894 = .ok (.aload_n 2, 1) := by decide +kernel
theorem dL_law_895 : decode cL_law 895 = .ok (.invokevirtual 88, 3) := by decide +kernel
theorem dL_law_898 : decode cL_law 898 = .ok (.iload 5, 2) := by decide +kernel
theorem dL_law_900 : decode cL_law 900 = .ok (.if_icmp .eq 5, 3) := by decide +kernel
theorem dL_law_903 : decode cL_law 903 = .ok (.iconst 0, 1) := by decide +kernel
theorem dL_law_904 : decode cL_law 904 = .ok (.ireturn, 1) := by decide +kernel
theorem dL_law_905 : decode cL_law 905 = .ok (.iload 5, 2) := by decide +kernel
theorem dL_law_907 : decode cL_law 907 = .ok (.ifCond .ne 15, 3) := by decide +kernel
theorem dL_law_910 : decode cL_law 910 = .ok (.aload_n 3, 1) := by decide +kernel
theorem dL_law_911 : decode cL_law 911 = .ok (.iconst 0, 1) := by decide +kernel
theorem dL_law_912 : decode cL_law 912 = .ok (.laload, 1) := by decide +kernel
theorem dL_law_913 : decode cL_law 913 = .ok (.iload 6, 2) := by decide +kernel
theorem dL_law_915 : decode cL_law 915 = .ok (.i2l, 1) := by decide +kernel
theorem dL_law_916 : decode cL_law 916 = .ok (.lcmp, 1) := by decide +kernel
theorem dL_law_917 : decode cL_law 917 = .ok (.ifCond .eq 5, 3) := by decide +kernel
theorem dL_law_920 : decode cL_law 920 = .ok (.iconst 0, 1) := by decide +kernel
theorem dL_law_921 : decode cL_law 921 = .ok (.ireturn, 1) := by decide +kernel
theorem dL_law_922 : decode cL_law 922 = .ok (.goto 517, 3) := by decide +kernel
theorem dL_law_925 : decode cL_law 925 = .ok (.aload_n 1, 1) := by decide +kernel
theorem dL_law_926 : decode cL_law 926 = .ok (.aload_n 0, 1) := by decide +kernel
theorem dL_law_927 : decode cL_law 927 = .ok (.iload 4, 2) := by decide +kernel
theorem dL_law_929 : decode cL_law 929 = .ok (.iconst 1, 1) := by decide +kernel
theorem dL_law_930 : decode cL_law 930 = .ok (.iadd, 1) := by decide +kernel
theorem dL_law_931 : decode cL_law 931 = .ok (.iaload, 1) := by decide +kernel
theorem dL_law_932 : decode cL_law 932 = .ok (.aload_n 0, 1) := by decide +kernel
theorem dL_law_933 : decode cL_law 933 = .ok (.iload 4, 2) := by decide +kernel
theorem dL_law_935 : decode cL_law 935 = .ok (.iconst 2, 1) := by decide +kernel
theorem dL_law_936 : decode cL_law 936 = .ok (.iadd, 1) := by decide +kernel
theorem dL_law_937 : decode cL_law 937 = .ok (.iaload, 1) := by decide +kernel
theorem dL_law_938 : decode cL_law 938 = .ok (.aload_n 3, 1) := by decide +kernel
theorem dL_law_939 : decode cL_law 939 = .ok (.invokestatic 125, 3) := by decide +kernel
theorem dL_law_942 : decode cL_law 942 = .ok (.istore 5, 2) := by decide +kernel
theorem dL_law_944 : decode cL_law 944 = .ok (.aload_n 2, 1) := by decide +kernel
theorem dL_law_945 : decode cL_law 945 = .ok (.aload_n 0, 1) := by decide +kernel
theorem dL_law_946 : decode cL_law 946 = .ok (.iload 4, 2) := by decide +kernel
theorem dL_law_948 : decode cL_law 948 = .ok (.iconst 1, 1) := by decide +kernel
theorem dL_law_949 : decode cL_law 949 = .ok (.iadd, 1) := by decide +kernel
theorem dL_law_950 : decode cL_law 950 = .ok (.iaload, 1) := by decide +kernel
theorem dL_law_951 : decode cL_law 951 = .ok (.aload_n 0, 1) := by decide +kernel
theorem dL_law_952 : decode cL_law 952 = .ok (.iload 4, 2) := by decide +kernel
theorem dL_law_954 : decode cL_law 954 = .ok (.iconst 2, 1) := by decide +kernel
theorem dL_law_955 : decode cL_law 955 = .ok (.iadd, 1) := by decide +kernel
theorem dL_law_956 : decode cL_law 956 = .ok (.iaload, 1) := by decide +kernel
theorem dL_law_957 : decode cL_law 957 = .ok (.invokevirtual 127, 3) := by decide +kernel
theorem dL_law_960 : decode cL_law 960 = .ok (.istore 6, 2) := by decide +kernel
theorem dL_law_962 : decode cL_law 962 = .ok (.aload_n 2, 1) := by decide +kernel
theorem dL_law_963 : decode cL_law 963 = .ok (.invokevirtual 88, 3) := by decide +kernel
theorem dL_law_966 : decode cL_law 966 = .ok (.iload 5, 2) := by decide +kernel
theorem dL_law_968 : decode cL_law 968 = .ok (.if_icmp .eq 5, 3) := by decide +kernel
theorem dL_law_971 : decode cL_law 971 = .ok (.iconst 0, 1) := by decide +kernel
theorem dL_law_972 : decode cL_law 972 = .ok (.ireturn, 1) := by decide +kernel
theorem dL_law_973 : decode cL_law 973 = .ok (.iload 5, 2) := by decide +kernel
theorem dL_law_975 : decode cL_law 975 = .ok (.ifCond .ne 15, 3) := by decide +kernel
theorem dL_law_978 : decode cL_law 978 = .ok (.aload_n 3, 1) := by decide +kernel
theorem dL_law_979 : decode cL_law 979 = .ok (.iconst 0, 1) := by decide +kernel
theorem dL_law_980 : decode cL_law 980 = .ok (.laload, 1) := by decide +kernel
theorem dL_law_981 : decode cL_law 981 = .ok (.iload 6, 2) := by decide +kernel
theorem dL_law_983 : decode cL_law 983 = .ok (.i2l, 1) := by decide +kernel
theorem dL_law_984 : decode cL_law 984 = .ok (.lcmp, 1) := by decide +kernel
theorem dL_law_985 : decode cL_law 985 = .ok (.ifCond .eq 5, 3) := by decide +kernel
theorem dL_law_988 : decode cL_law 988 = .ok (.iconst 0, 1) := by decide +kernel
theorem dL_law_989 : decode cL_law 989 = .ok (.ireturn, 1) := by decide +kernel
theorem dL_law_990 : decode cL_law 990 = .ok (.goto 449, 3) := by decide +kernel
theorem dL_law_993 : decode cL_law 993 = .ok (.aload_n 1, 1) := by decide +kernel
theorem dL_law_994 : decode cL_law 994 = .ok (.aload_n 0, 1) := by decide +kernel
theorem dL_law_995 : decode cL_law 995 = .ok (.iload 4, 2) := by decide +kernel
theorem dL_law_997 : decode cL_law 997 = .ok (.iconst 1, 1) := by decide +kernel
theorem dL_law_998 : decode cL_law 998 = .ok (.iadd, 1) := by decide +kernel
theorem dL_law_999 : decode cL_law 999 = .ok (.iaload, 1) := by decide +kernel
theorem dL_law_1000 : decode cL_law 1000 = .ok (.aload_n 0, 1) := by decide +kernel
theorem dL_law_1001 : decode cL_law 1001 = .ok (.iload 4, 2) := by decide +kernel
theorem dL_law_1003 : decode cL_law 1003 = .ok (.iconst 2, 1) := by decide +kernel
theorem dL_law_1004 : decode cL_law 1004 = .ok (.iadd, 1) := by decide +kernel
theorem dL_law_1005 : decode cL_law 1005 = .ok (.iaload, 1) := by decide +kernel
theorem dL_law_1006 : decode cL_law 1006 = .ok (.aload_n 3, 1) := by decide +kernel
theorem dL_law_1007 : decode cL_law 1007 = .ok (.invokestatic 128, 3) := by decide +kernel
theorem dL_law_1010 : decode cL_law 1010 = .ok (.istore 5, 2) := by decide +kernel
theorem dL_law_1012 : decode cL_law 1012 = .ok (.aload_n 2, 1) := by decide +kernel
theorem dL_law_1013 : decode cL_law 1013 = .ok (.aload_n 0, 1) := by decide +kernel
theorem dL_law_1014 : decode cL_law 1014 = .ok (.iload 4, 2) := by decide +kernel
theorem dL_law_1016 : decode cL_law 1016 = .ok (.iconst 1, 1) := by decide +kernel
theorem dL_law_1017 : decode cL_law 1017 = .ok (.iadd, 1) := by decide +kernel
theorem dL_law_1018 : decode cL_law 1018 = .ok (.iaload, 1) := by decide +kernel
theorem dL_law_1019 : decode cL_law 1019 = .ok (.aload_n 0, 1) := by decide +kernel
theorem dL_law_1020 : decode cL_law 1020 = .ok (.iload 4, 2) := by decide +kernel
theorem dL_law_1022 : decode cL_law 1022 = .ok (.iconst 2, 1) := by decide +kernel
theorem dL_law_1023 : decode cL_law 1023 = .ok (.iadd, 1) := by decide +kernel
theorem dL_law_1024 : decode cL_law 1024 = .ok (.iaload, 1) := by decide +kernel
theorem dL_law_1025 : decode cL_law 1025 = .ok (.invokevirtual 130, 3) := by decide +kernel
theorem dL_law_1028 : decode cL_law 1028 = .ok (.lstore 6, 2) := by decide +kernel
theorem dL_law_1030 : decode cL_law 1030 = .ok (.aload_n 2, 1) := by decide +kernel
theorem dL_law_1031 : decode cL_law 1031 = .ok (.invokevirtual 88, 3) := by decide +kernel
theorem dL_law_1034 : decode cL_law 1034 = .ok (.iload 5, 2) := by decide +kernel
theorem dL_law_1036 : decode cL_law 1036 = .ok (.if_icmp .eq 5, 3) := by decide +kernel
theorem dL_law_1039 : decode cL_law 1039 = .ok (.iconst 0, 1) := by decide +kernel
theorem dL_law_1040 : decode cL_law 1040 = .ok (.ireturn, 1) := by decide +kernel
theorem dL_law_1041 : decode cL_law 1041 = .ok (.iload 5, 2) := by decide +kernel
theorem dL_law_1043 : decode cL_law 1043 = .ok (.ifCond .ne 14, 3) := by decide +kernel
theorem dL_law_1046 : decode cL_law 1046 = .ok (.aload_n 3, 1) := by decide +kernel
theorem dL_law_1047 : decode cL_law 1047 = .ok (.iconst 0, 1) := by decide +kernel
theorem dL_law_1048 : decode cL_law 1048 = .ok (.laload, 1) := by decide +kernel
theorem dL_law_1049 : decode cL_law 1049 = .ok (.lload 6, 2) := by decide +kernel
theorem dL_law_1051 : decode cL_law 1051 = .ok (.lcmp, 1) := by decide +kernel
theorem dL_law_1052 : decode cL_law 1052 = .ok (.ifCond .eq 5, 3) := by decide +kernel
theorem dL_law_1055 : decode cL_law 1055 = .ok (.iconst 0, 1) := by decide +kernel
theorem dL_law_1056 : decode cL_law 1056 = .ok (.ireturn, 1) := by decide +kernel
theorem dL_law_1057 : decode cL_law 1057 = .ok (.goto 382, 3) := by decide +kernel
theorem dL_law_1060 : decode cL_law 1060 = .ok (.aload_n 1, 1) := by decide +kernel
theorem dL_law_1061 : decode cL_law 1061 = .ok (.aload_n 0, 1) := by decide +kernel
theorem dL_law_1062 : decode cL_law 1062 = .ok (.iload 4, 2) := by decide +kernel
theorem dL_law_1064 : decode cL_law 1064 = .ok (.iconst 1, 1) := by decide +kernel
theorem dL_law_1065 : decode cL_law 1065 = .ok (.iadd, 1) := by decide +kernel
theorem dL_law_1066 : decode cL_law 1066 = .ok (.iaload, 1) := by decide +kernel
theorem dL_law_1067 : decode cL_law 1067 = .ok (.aload_n 0, 1) := by decide +kernel
theorem dL_law_1068 : decode cL_law 1068 = .ok (.iload 4, 2) := by decide +kernel
theorem dL_law_1070 : decode cL_law 1070 = .ok (.iconst 2, 1) := by decide +kernel
theorem dL_law_1071 : decode cL_law 1071 = .ok (.iadd, 1) := by decide +kernel
theorem dL_law_1072 : decode cL_law 1072 = .ok (.iaload, 1) := by decide +kernel
theorem dL_law_1073 : decode cL_law 1073 = .ok (.aload_n 3, 1) := by decide +kernel
theorem dL_law_1074 : decode cL_law 1074 = .ok (.invokestatic 131, 3) := by decide +kernel
theorem dL_law_1077 : decode cL_law 1077 = .ok (.istore 5, 2) := by decide +kernel
theorem dL_law_1079 : decode cL_law 1079 = .ok (.aload_n 2, 1) := by decide +kernel
theorem dL_law_1080 : decode cL_law 1080 = .ok (.aload_n 0, 1) := by decide +kernel
theorem dL_law_1081 : decode cL_law 1081 = .ok (.iload 4, 2) := by decide +kernel
theorem dL_law_1083 : decode cL_law 1083 = .ok (.iconst 1, 1) := by decide +kernel
theorem dL_law_1084 : decode cL_law 1084 = .ok (.iadd, 1) := by decide +kernel
theorem dL_law_1085 : decode cL_law 1085 = .ok (.iaload, 1) := by decide +kernel
theorem dL_law_1086 : decode cL_law 1086 = .ok (.aload_n 0, 1) := by decide +kernel
theorem dL_law_1087 : decode cL_law 1087 = .ok (.iload 4, 2) := by decide +kernel
theorem dL_law_1089 : decode cL_law 1089 = .ok (.iconst 2, 1) := by decide +kernel
theorem dL_law_1090 : decode cL_law 1090 = .ok (.iadd, 1) := by decide +kernel
theorem dL_law_1091 : decode cL_law 1091 = .ok (.iaload, 1) := by decide +kernel
theorem dL_law_1092 : decode cL_law 1092 = .ok (.invokevirtual 133, 3) := by decide +kernel
theorem dL_law_1095 : decode cL_law 1095 = .ok (.istore 6, 2) := by decide +kernel
theorem dL_law_1097 : decode cL_law 1097 = .ok (.aload_n 2, 1) := by decide +kernel
theorem dL_law_1098 : decode cL_law 1098 = .ok (.invokevirtual 88, 3) := by decide +kernel
theorem dL_law_1101 : decode cL_law 1101 = .ok (.iload 5, 2) := by decide +kernel
theorem dL_law_1103 : decode cL_law 1103 = .ok (.if_icmp .eq 5, 3) := by decide +kernel
theorem dL_law_1106 : decode cL_law 1106 = .ok (.iconst 0, 1) := by decide +kernel
theorem dL_law_1107 : decode cL_law 1107 = .ok (.ireturn, 1) := by decide +kernel
theorem dL_law_1108 : decode cL_law 1108 = .ok (.iload 5, 2) := by decide +kernel
theorem dL_law_1110 : decode cL_law 1110 = .ok (.ifCond .ne 15, 3) := by decide +kernel
theorem dL_law_1113 : decode cL_law 1113 = .ok (.aload_n 3, 1) := by decide +kernel
theorem dL_law_1114 : decode cL_law 1114 = .ok (.iconst 0, 1) := by decide +kernel
theorem dL_law_1115 : decode cL_law 1115 = .ok (.laload, 1) := by decide +kernel
theorem dL_law_1116 : decode cL_law 1116 = .ok (.iload 6, 2) := by decide +kernel
theorem dL_law_1118 : decode cL_law 1118 = .ok (.i2l, 1) := by decide +kernel
theorem dL_law_1119 : decode cL_law 1119 = .ok (.lcmp, 1) := by decide +kernel
theorem dL_law_1120 : decode cL_law 1120 = .ok (.ifCond .eq 5, 3) := by decide +kernel
theorem dL_law_1123 : decode cL_law 1123 = .ok (.iconst 0, 1) := by decide +kernel
theorem dL_law_1124 : decode cL_law 1124 = .ok (.ireturn, 1) := by decide +kernel
theorem dL_law_1125 : decode cL_law 1125 = .ok (.goto 314, 3) := by decide +kernel
theorem dL_law_1128 : decode cL_law 1128 = .ok (.aload_n 1, 1) := by decide +kernel
theorem dL_law_1129 : decode cL_law 1129 = .ok (.aload_n 0, 1) := by decide +kernel
theorem dL_law_1130 : decode cL_law 1130 = .ok (.iload 4, 2) := by decide +kernel
theorem dL_law_1132 : decode cL_law 1132 = .ok (.iconst 1, 1) := by decide +kernel
theorem dL_law_1133 : decode cL_law 1133 = .ok (.iadd, 1) := by decide +kernel
theorem dL_law_1134 : decode cL_law 1134 = .ok (.iaload, 1) := by decide +kernel
theorem dL_law_1135 : decode cL_law 1135 = .ok (.aload_n 0, 1) := by decide +kernel
theorem dL_law_1136 : decode cL_law 1136 = .ok (.iload 4, 2) := by decide +kernel
theorem dL_law_1138 : decode cL_law 1138 = .ok (.iconst 2, 1) := by decide +kernel
theorem dL_law_1139 : decode cL_law 1139 = .ok (.iadd, 1) := by decide +kernel
theorem dL_law_1140 : decode cL_law 1140 = .ok (.iaload, 1) := by decide +kernel
theorem dL_law_1141 : decode cL_law 1141 = .ok (.aload_n 3, 1) := by decide +kernel
theorem dL_law_1142 : decode cL_law 1142 = .ok (.invokestatic 134, 3) := by decide +kernel
theorem dL_law_1145 : decode cL_law 1145 = .ok (.istore 5, 2) := by decide +kernel
theorem dL_law_1147 : decode cL_law 1147 = .ok (.aload_n 2, 1) := by decide +kernel
theorem dL_law_1148 : decode cL_law 1148 = .ok (.aload_n 0, 1) := by decide +kernel
theorem dL_law_1149 : decode cL_law 1149 = .ok (.iload 4, 2) := by decide +kernel
theorem dL_law_1151 : decode cL_law 1151 = .ok (.iconst 1, 1) := by decide +kernel
theorem dL_law_1152 : decode cL_law 1152 = .ok (.iadd, 1) := by decide +kernel
theorem dL_law_1153 : decode cL_law 1153 = .ok (.iaload, 1) := by decide +kernel
theorem dL_law_1154 : decode cL_law 1154 = .ok (.aload_n 0, 1) := by decide +kernel
theorem dL_law_1155 : decode cL_law 1155 = .ok (.iload 4, 2) := by decide +kernel
theorem dL_law_1157 : decode cL_law 1157 = .ok (.iconst 2, 1) := by decide +kernel
theorem dL_law_1158 : decode cL_law 1158 = .ok (.iadd, 1) := by decide +kernel
theorem dL_law_1159 : decode cL_law 1159 = .ok (.iaload, 1) := by decide +kernel
theorem dL_law_1160 : decode cL_law 1160 = .ok (.invokevirtual 136, 3) := by decide +kernel
theorem dL_law_1163 : decode cL_law 1163 = .ok (.istore 6, 2) := by decide +kernel
theorem dL_law_1165 : decode cL_law 1165 = .ok (.aload_n 2, 1) := by decide +kernel
theorem dL_law_1166 : decode cL_law 1166 = .ok (.invokevirtual 88, 3) := by decide +kernel
theorem dL_law_1169 : decode cL_law 1169 = .ok (.iload 5, 2) := by decide +kernel
theorem dL_law_1171 : decode cL_law 1171 = .ok (.if_icmp .eq 5, 3) := by decide +kernel
theorem dL_law_1174 : decode cL_law 1174 = .ok (.iconst 0, 1) := by decide +kernel
theorem dL_law_1175 : decode cL_law 1175 = .ok (.ireturn, 1) := by decide +kernel
theorem dL_law_1176 : decode cL_law 1176 = .ok (.iload 5, 2) := by decide +kernel
theorem dL_law_1178 : decode cL_law 1178 = .ok (.ifCond .ne 15, 3) := by decide +kernel
theorem dL_law_1181 : decode cL_law 1181 = .ok (.aload_n 3, 1) := by decide +kernel
theorem dL_law_1182 : decode cL_law 1182 = .ok (.iconst 0, 1) := by decide +kernel
theorem dL_law_1183 : decode cL_law 1183 = .ok (.laload, 1) := by decide +kernel
theorem dL_law_1184 : decode cL_law 1184 = .ok (.iload 6, 2) := by decide +kernel
theorem dL_law_1186 : decode cL_law 1186 = .ok (.i2l, 1) := by decide +kernel
theorem dL_law_1187 : decode cL_law 1187 = .ok (.lcmp, 1) := by decide +kernel
theorem dL_law_1188 : decode cL_law 1188 = .ok (.ifCond .eq 5, 3) := by decide +kernel
theorem dL_law_1191 : decode cL_law 1191 = .ok (.iconst 0, 1) := by decide +kernel
theorem dL_law_1192 : decode cL_law 1192 = .ok (.ireturn, 1) := by decide +kernel
theorem dL_law_1193 : decode cL_law 1193 = .ok (.goto 246, 3) := by decide +kernel
theorem dL_law_1196 : decode cL_law 1196 = .ok (.aload_n 1, 1) := by decide +kernel
theorem dL_law_1197 : decode cL_law 1197 = .ok (.aload_n 0, 1) := by decide +kernel
theorem dL_law_1198 : decode cL_law 1198 = .ok (.iload 4, 2) := by decide +kernel
theorem dL_law_1200 : decode cL_law 1200 = .ok (.iconst 1, 1) := by decide +kernel
theorem dL_law_1201 : decode cL_law 1201 = .ok (.iadd, 1) := by decide +kernel
theorem dL_law_1202 : decode cL_law 1202 = .ok (.iaload, 1) := by decide +kernel
theorem dL_law_1203 : decode cL_law 1203 = .ok (.aload_n 3, 1) := by decide +kernel
theorem dL_law_1204 : decode cL_law 1204 = .ok (.invokestatic 137, 3) := by decide +kernel
theorem dL_law_1207 : decode cL_law 1207 = .ok (.istore 5, 2) := by decide +kernel
theorem dL_law_1209 : decode cL_law 1209 = .ok (.aload_n 2, 1) := by decide +kernel
theorem dL_law_1210 : decode cL_law 1210 = .ok (.aload_n 0, 1) := by decide +kernel
theorem dL_law_1211 : decode cL_law 1211 = .ok (.iload 4, 2) := by decide +kernel
theorem dL_law_1213 : decode cL_law 1213 = .ok (.iconst 1, 1) := by decide +kernel
theorem dL_law_1214 : decode cL_law 1214 = .ok (.iadd, 1) := by decide +kernel
theorem dL_law_1215 : decode cL_law 1215 = .ok (.iaload, 1) := by decide +kernel
theorem dL_law_1216 : decode cL_law 1216 = .ok (.invokevirtual 139, 3) := by decide +kernel
theorem dL_law_1219 : decode cL_law 1219 = .ok (.istore 6, 2) := by decide +kernel
theorem dL_law_1221 : decode cL_law 1221 = .ok (.aload_n 2, 1) := by decide +kernel
theorem dL_law_1222 : decode cL_law 1222 = .ok (.invokevirtual 88, 3) := by decide +kernel
theorem dL_law_1225 : decode cL_law 1225 = .ok (.iload 5, 2) := by decide +kernel
theorem dL_law_1227 : decode cL_law 1227 = .ok (.if_icmp .eq 5, 3) := by decide +kernel
theorem dL_law_1230 : decode cL_law 1230 = .ok (.iconst 0, 1) := by decide +kernel
theorem dL_law_1231 : decode cL_law 1231 = .ok (.ireturn, 1) := by decide +kernel
theorem dL_law_1232 : decode cL_law 1232 = .ok (.iload 5, 2) := by decide +kernel
theorem dL_law_1234 : decode cL_law 1234 = .ok (.ifCond .ne 15, 3) := by decide +kernel
theorem dL_law_1237 : decode cL_law 1237 = .ok (.aload_n 3, 1) := by decide +kernel
theorem dL_law_1238 : decode cL_law 1238 = .ok (.iconst 0, 1) := by decide +kernel
theorem dL_law_1239 : decode cL_law 1239 = .ok (.laload, 1) := by decide +kernel
theorem dL_law_1240 : decode cL_law 1240 = .ok (.iload 6, 2) := by decide +kernel
theorem dL_law_1242 : decode cL_law 1242 = .ok (.i2l, 1) := by decide +kernel
theorem dL_law_1243 : decode cL_law 1243 = .ok (.lcmp, 1) := by decide +kernel
theorem dL_law_1244 : decode cL_law 1244 = .ok (.ifCond .eq 5, 3) := by decide +kernel
theorem dL_law_1247 : decode cL_law 1247 = .ok (.iconst 0, 1) := by decide +kernel
theorem dL_law_1248 : decode cL_law 1248 = .ok (.ireturn, 1) := by decide +kernel
theorem dL_law_1249 : decode cL_law 1249 = .ok (.goto 190, 3) := by decide +kernel
theorem dL_law_1252 : decode cL_law 1252 = .ok (.aload_n 1, 1) := by decide +kernel
theorem dL_law_1253 : decode cL_law 1253 = .ok (.aload_n 0, 1) := by decide +kernel
theorem dL_law_1254 : decode cL_law 1254 = .ok (.iload 4, 2) := by decide +kernel
theorem dL_law_1256 : decode cL_law 1256 = .ok (.iconst 1, 1) := by decide +kernel
theorem dL_law_1257 : decode cL_law 1257 = .ok (.iadd, 1) := by decide +kernel
theorem dL_law_1258 : decode cL_law 1258 = .ok (.iaload, 1) := by decide +kernel
theorem dL_law_1259 : decode cL_law 1259 = .ok (.aload_n 0, 1) := by decide +kernel
theorem dL_law_1260 : decode cL_law 1260 = .ok (.iload 4, 2) := by decide +kernel
theorem dL_law_1262 : decode cL_law 1262 = .ok (.iconst 2, 1) := by decide +kernel
theorem dL_law_1263 : decode cL_law 1263 = .ok (.iadd, 1) := by decide +kernel
theorem dL_law_1264 : decode cL_law 1264 = .ok (.iaload, 1) := by decide +kernel
theorem dL_law_1265 : decode cL_law 1265 = .ok (.aload_n 3, 1) := by decide +kernel
theorem dL_law_1266 : decode cL_law 1266 = .ok (.invokestatic 140, 3) := by decide +kernel
theorem dL_law_1269 : decode cL_law 1269 = .ok (.istore 5, 2) := by decide +kernel
theorem dL_law_1271 : decode cL_law 1271 = .ok (.aload_n 2, 1) := by decide +kernel
theorem dL_law_1272 : decode cL_law 1272 = .ok (.aload_n 0, 1) := by decide +kernel
theorem dL_law_1273 : decode cL_law 1273 = .ok (.iload 4, 2) := by decide +kernel
theorem dL_law_1275 : decode cL_law 1275 = .ok (.iconst 1, 1) := by decide +kernel
theorem dL_law_1276 : decode cL_law 1276 = .ok (.iadd, 1) := by decide +kernel
theorem dL_law_1277 : decode cL_law 1277 = .ok (.iaload, 1) := by decide +kernel
theorem dL_law_1278 : decode cL_law 1278 = .ok (.aload_n 0, 1) := by decide +kernel
theorem dL_law_1279 : decode cL_law 1279 = .ok (.iload 4, 2) := by decide +kernel
theorem dL_law_1281 : decode cL_law 1281 = .ok (.iconst 2, 1) := by decide +kernel
theorem dL_law_1282 : decode cL_law 1282 = .ok (.iadd, 1) := by decide +kernel
theorem dL_law_1283 : decode cL_law 1283 = .ok (.iaload, 1) := by decide +kernel
theorem dL_law_1284 : decode cL_law 1284 = .ok (.invokevirtual 142, 3) := by decide +kernel
theorem dL_law_1287 : decode cL_law 1287 = .ok (.istore 6, 2) := by decide +kernel
theorem dL_law_1289 : decode cL_law 1289 = .ok (.aload_n 2, 1) := by decide +kernel
theorem dL_law_1290 : decode cL_law 1290 = .ok (.invokevirtual 88, 3) := by decide +kernel
theorem dL_law_1293 : decode cL_law 1293 = .ok (.iload 5, 2) := by decide +kernel
theorem dL_law_1295 : decode cL_law 1295 = .ok (.if_icmp .eq 5, 3) := by decide +kernel
theorem dL_law_1298 : decode cL_law 1298 = .ok (.iconst 0, 1) := by decide +kernel
theorem dL_law_1299 : decode cL_law 1299 = .ok (.ireturn, 1) := by decide +kernel
theorem dL_law_1300 : decode cL_law 1300 = .ok (.iload 5, 2) := by decide +kernel
theorem dL_law_1302 : decode cL_law 1302 = .ok (.ifCond .ne 15, 3) := by decide +kernel
theorem dL_law_1305 : decode cL_law 1305 = .ok (.aload_n 3, 1) := by decide +kernel
theorem dL_law_1306 : decode cL_law 1306 = .ok (.iconst 0, 1) := by decide +kernel
theorem dL_law_1307 : decode cL_law 1307 = .ok (.laload, 1) := by decide +kernel
theorem dL_law_1308 : decode cL_law 1308 = .ok (.iload 6, 2) := by decide +kernel
theorem dL_law_1310 : decode cL_law 1310 = .ok (.i2l, 1) := by decide +kernel
theorem dL_law_1311 : decode cL_law 1311 = .ok (.lcmp, 1) := by decide +kernel
theorem dL_law_1312 : decode cL_law 1312 = .ok (.ifCond .eq 5, 3) := by decide +kernel
theorem dL_law_1315 : decode cL_law 1315 = .ok (.iconst 0, 1) := by decide +kernel
theorem dL_law_1316 : decode cL_law 1316 = .ok (.ireturn, 1) := by decide +kernel
theorem dL_law_1317 : decode cL_law 1317 = .ok (.goto 122, 3) := by decide +kernel
theorem dL_law_1320 : decode cL_law 1320 = .ok (.aload_n 1, 1) := by decide +kernel
theorem dL_law_1321 : decode cL_law 1321 = .ok (.aload_n 0, 1) := by decide +kernel
theorem dL_law_1322 : decode cL_law 1322 = .ok (.iload 4, 2) := by decide +kernel
theorem dL_law_1324 : decode cL_law 1324 = .ok (.iconst 1, 1) := by decide +kernel
theorem dL_law_1325 : decode cL_law 1325 = .ok (.iadd, 1) := by decide +kernel
theorem dL_law_1326 : decode cL_law 1326 = .ok (.iaload, 1) := by decide +kernel
theorem dL_law_1327 : decode cL_law 1327 = .ok (.aload_n 3, 1) := by decide +kernel
theorem dL_law_1328 : decode cL_law 1328 = .ok (.invokestatic 143, 3) := by decide +kernel
theorem dL_law_1331 : decode cL_law 1331 = .ok (.istore 5, 2) := by decide +kernel
theorem dL_law_1333 : decode cL_law 1333 = .ok (.aload_n 2, 1) := by decide +kernel
theorem dL_law_1334 : decode cL_law 1334 = .ok (.aload_n 0, 1) := by decide +kernel
theorem dL_law_1335 : decode cL_law 1335 = .ok (.iload 4, 2) := by decide +kernel
theorem dL_law_1337 : decode cL_law 1337 = .ok (.iconst 1, 1) := by decide +kernel
theorem dL_law_1338 : decode cL_law 1338 = .ok (.iadd, 1) := by decide +kernel
theorem dL_law_1339 : decode cL_law 1339 = .ok (.iaload, 1) := by decide +kernel
theorem dL_law_1340 : decode cL_law 1340 = .ok (.invokevirtual 145, 3) := by decide +kernel
theorem dL_law_1343 : decode cL_law 1343 = .ok (.istore 6, 2) := by decide +kernel
theorem dL_law_1345 : decode cL_law 1345 = .ok (.aload_n 2, 1) := by decide +kernel
theorem dL_law_1346 : decode cL_law 1346 = .ok (.invokevirtual 88, 3) := by decide +kernel
theorem dL_law_1349 : decode cL_law 1349 = .ok (.iload 5, 2) := by decide +kernel
theorem dL_law_1351 : decode cL_law 1351 = .ok (.if_icmp .eq 5, 3) := by decide +kernel
theorem dL_law_1354 : decode cL_law 1354 = .ok (.iconst 0, 1) := by decide +kernel
theorem dL_law_1355 : decode cL_law 1355 = .ok (.ireturn, 1) := by decide +kernel
theorem dL_law_1356 : decode cL_law 1356 = .ok (.iload 5, 2) := by decide +kernel
theorem dL_law_1358 : decode cL_law 1358 = .ok (.ifCond .ne 15, 3) := by decide +kernel
theorem dL_law_1361 : decode cL_law 1361 = .ok (.aload_n 3, 1) := by decide +kernel
theorem dL_law_1362 : decode cL_law 1362 = .ok (.iconst 0, 1) := by decide +kernel
theorem dL_law_1363 : decode cL_law 1363 = .ok (.laload, 1) := by decide +kernel
theorem dL_law_1364 : decode cL_law 1364 = .ok (.iload 6, 2) := by decide +kernel
theorem dL_law_1366 : decode cL_law 1366 = .ok (.i2l, 1) := by decide +kernel
theorem dL_law_1367 : decode cL_law 1367 = .ok (.lcmp, 1) := by decide +kernel
theorem dL_law_1368 : decode cL_law 1368 = .ok (.ifCond .eq 5, 3) := by decide +kernel
theorem dL_law_1371 : decode cL_law 1371 = .ok (.iconst 0, 1) := by decide +kernel
theorem dL_law_1372 : decode cL_law 1372 = .ok (.ireturn, 1) := by decide +kernel
theorem dL_law_1373 : decode cL_law 1373 = .ok (.goto 66, 3) := by decide +kernel
theorem dL_law_1376 : decode cL_law 1376 = .ok (.aload_n 1, 1) := by decide +kernel
theorem dL_law_1377 : decode cL_law 1377 = .ok (.aload_n 0, 1) := by decide +kernel
theorem dL_law_1378 : decode cL_law 1378 = .ok (.iload 4, 2) := by decide +kernel
theorem dL_law_1380 : decode cL_law 1380 = .ok (.iconst 1, 1) := by decide +kernel
theorem dL_law_1381 : decode cL_law 1381 = .ok (.iadd, 1) := by decide +kernel
theorem dL_law_1382 : decode cL_law 1382 = .ok (.iaload, 1) := by decide +kernel
theorem dL_law_1383 : decode cL_law 1383 = .ok (.aload_n 3, 1) := by decide +kernel
theorem dL_law_1384 : decode cL_law 1384 = .ok (.invokestatic 146, 3) := by decide +kernel
theorem dL_law_1387 : decode cL_law 1387 = .ok (.istore 5, 2) := by decide +kernel
theorem dL_law_1389 : decode cL_law 1389 = .ok (.aload_n 2, 1) := by decide +kernel
theorem dL_law_1390 : decode cL_law 1390 = .ok (.aload_n 0, 1) := by decide +kernel
theorem dL_law_1391 : decode cL_law 1391 = .ok (.iload 4, 2) := by decide +kernel
theorem dL_law_1393 : decode cL_law 1393 = .ok (.iconst 1, 1) := by decide +kernel
theorem dL_law_1394 : decode cL_law 1394 = .ok (.iadd, 1) := by decide +kernel
theorem dL_law_1395 : decode cL_law 1395 = .ok (.iaload, 1) := by decide +kernel
theorem dL_law_1396 : decode cL_law 1396 = .ok (.invokevirtual 148, 3) := by decide +kernel
theorem dL_law_1399 : decode cL_law 1399 = .ok (.istore 6, 2) := by decide +kernel
theorem dL_law_1401 : decode cL_law 1401 = .ok (.aload_n 2, 1) := by decide +kernel
theorem dL_law_1402 : decode cL_law 1402 = .ok (.invokevirtual 88, 3) := by decide +kernel
theorem dL_law_1405 : decode cL_law 1405 = .ok (.iload 5, 2) := by decide +kernel
theorem dL_law_1407 : decode cL_law 1407 = .ok (.if_icmp .eq 5, 3) := by decide +kernel
theorem dL_law_1410 : decode cL_law 1410 = .ok (.iconst 0, 1) := by decide +kernel
theorem dL_law_1411 : decode cL_law 1411 = .ok (.ireturn, 1) := by decide +kernel
theorem dL_law_1412 : decode cL_law 1412 = .ok (.iload 5, 2) := by decide +kernel
theorem dL_law_1414 : decode cL_law 1414 = .ok (.ifCond .ne 22, 3) := by decide +kernel
theorem dL_law_1417 : decode cL_law 1417 = .ok (.aload_n 3, 1) := by decide +kernel
theorem dL_law_1418 : decode cL_law 1418 = .ok (.iconst 0, 1) := by decide +kernel
theorem dL_law_1419 : decode cL_law 1419 = .ok (.laload, 1) := by decide +kernel
theorem dL_law_1420 : decode cL_law 1420 = .ok (.iload 6, 2) := by decide +kernel
theorem dL_law_1422 : decode cL_law 1422 = .ok (.ifCond .eq 7, 3) := by decide +kernel
theorem dL_law_1425 : decode cL_law 1425 = .ok (.lconst 1, 1) := by decide +kernel
theorem dL_law_1426 : decode cL_law 1426 = .ok (.goto 4, 3) := by decide +kernel
theorem dL_law_1429 : decode cL_law 1429 = .ok (.lconst 0, 1) := by decide +kernel
theorem dL_law_1430 : decode cL_law 1430 = .ok (.lcmp, 1) := by decide +kernel
theorem dL_law_1431 : decode cL_law 1431 = .ok (.ifCond .eq 5, 3) := by decide +kernel
theorem dL_law_1434 : decode cL_law 1434 = .ok (.iconst 0, 1) := by decide +kernel
theorem dL_law_1435 : decode cL_law 1435 = .ok (.ireturn, 1) := by decide +kernel
theorem dL_law_1436 : decode cL_law 1436 = .ok (.goto 3, 3) := by decide +kernel
theorem dL_law_1439 : decode cL_law 1439 = .ok (.iinc 4 6, 3) := by decide +kernel
theorem dL_law_1442 : decode cL_law 1442 = .ok (.goto (-1419), 3) := by decide +kernel
theorem dL_law_1445 : decode cL_law 1445 = .ok (.iconst 1, 1) := by decide +kernel
theorem dL_law_1446 : decode cL_law 1446 = .ok (.ireturn, 1) := by decide +kernel
end
section
/-! THE FRAME of this proof: one memory picture for all methods. A world is a list L of addresses and what f says of each (the kit's pool); every contract is said of the whole world (L, f); 'base' is the heap's size when the law begins: all cells of ours lie above it. -/
def WA : List Cond := lw_tbl.filter goodWord
theorem wa_good {w : Cond} (h : w ∈ WA) : (w.onTables && w.keeps) = true ∨ ∃ ty, w = .arrayClass ty := good_of_word (List.mem_filter.mp h).2
theorem wa_in {w : Cond} (i : Nat) (h : lw_tbl[i]? = some w) (g : goodWord w = true) : w ∈ WA := List.mem_filter.mpr ⟨List.mem_of_getElem? h, g⟩
theorem wa_list {ws : List Cond} (ps : List Nat) (hp : ws = ps.filterMap (fun i => lw_tbl[i]?)) (hg : ws.all goodWord = true) : ∀ w ∈ ws, w ∈ WA := by
  intro w hw
  have h1 := List.all_eq_true.mp hg w hw
  rw [hp] at hw
  obtain ⟨i, -, hi⟩ := List.mem_filterMap.mp hw
  exact wa_in i hi h1
abbrev wz (y : MethodName) (b : ByteArray) (n : Nat) (r : Option FieldType) : List Cond := .code y b n r :: WA
theorem wz_in {y : MethodName} {b : ByteArray} {n : Nat} {r : Option FieldType} (h : Cond.code y b n r ∈ WA) : GoodIn WA (wz y b n r) := fun w hw => (List.mem_cons.mp hw).elim (fun e => by rw [e]; exact ⟨h, wa_good h⟩) (fun h => ⟨h, wa_good h⟩)
/-- words that stay, but are not 'good': nests, casts, declarations -/
def zk : Cond → Bool
  | .fieldLinkNest .. => true
  | .methodLinkNest .. => true
  | .castable .. => true
  | .declares .. => true
  | _ => false
def zN : List Cond := lw_tbl.filter zk
theorem zn_in {w : Cond} (i : Nat) (h : lw_tbl[i]? = some w) (g : zk w = true) : w ∈ zN := List.mem_filter.mpr ⟨List.mem_of_getElem? h, g⟩
theorem zk_tab {w : Cond} (h : zk w = true) : w.onTables = true := by
  cases w <;> first | rfl | (simp [zk] at h)
theorem zk_warm {w : Cond} (h : zk w = true) {s U : State} (hW : s.WarmedH U.vm) (hZ : va_Nw w s) : va_Nw w U := by
  cases w with
  | fieldLinkNest a i b n d h0 => exact va_Nw.warmF hW hZ
  | methodLinkNest a i x h0 => exact va_Nw.warmM hW hZ
  | castable a b => exact va_Nw.warmC hW hZ
  | declares x => exact va_Nw.warmD hW hZ
  | _ => simp [zk] at h
/-- class numbers and slots, the array classes by places, the empty array of new lists, the class object of arrays of objects -/
abbrev zK : Type := va_G × (Nat → ClassId) × Nat × Nat
def ztys (K : zK) : List (ClassId × FieldType) := [(K.2.1 0, .double), (K.2.1 1, .int), (K.2.1 2, .boolean), (K.2.1 3, .object "java/lang/Object"), (K.2.1 4, .long)]
abbrev eD (K : zK) (n : Nat) (f : Nat → UInt64) : va_E := .inl (K.2.1 0, n, .inr (.inr (.inr (.inl f))))
abbrev eI (K : zK) (n : Nat) (f : Nat → Int32) : va_E := .inl (K.2.1 1, n, .inl f)
abbrev eZ (K : zK) (n : Nat) (f : Nat → Int32) : va_E := .inl (K.2.1 2, n, .inl f)
abbrev eO (K : zK) (n : Nat) (f : Nat → Option Nat) : va_E := .inl (K.2.1 3, n, .inr (.inr (.inr (.inr f))))
abbrev eJ (K : zK) (n : Nat) (f : Nat → Int64) : va_E := .inl (K.2.1 4, n, .inr (.inl f))
abbrev eS (ci : Nat) (fs : List Value) : va_E := .inr (ci, fs)
def zstr : List (Nat × String) := [(240, "an argument is out of its range"), (48, "there are as many stars as there can be"), (222, "there is no such star"), (75, "the star has as many planets as it can have"), (233, "there is no such hour"), (237, "the last hour is before the first"), (242, "too few hours were kept"), (244, "the star has no period"), (164, "there are as many worlds as there can be"), (229, "there is no such world"), (231, "there is no such paper"), (208, "a paper cannot cite what was withdrawn or has fallen"), (210, "there are as many papers as there can be"), (212, "the world is withdrawn")]
def xIO : String := "java/lang/IndexOutOfBoundsException"
def xIA : String := "java/lang/IllegalArgumentException"
def xIS : String := "java/lang/IllegalStateException"
def znc : List (String × String) := [(xIO, xIA), (xIO, xIS), (xIA, xIO), (xIA, xIS), (xIS, xIO), (xIS, xIA)]
/-- what stays for the whole run: the tables, the statics that are read, the texts -/
def zS (base : Nat) (K : zK) (U : State) (H : Heap) : Prop :=
  va_K K.1 vwCl (ztys K) U ∧ vx_Zq Bundle.tN "UNASSIGNED_STACK" Bundle.steD (base ≤ ·) U H ∧ vx_Zq Bundle.tN "SUPPRESSED_SENTINEL" Bundle.listD (base ≤ ·) U H ∧
  va_Z "java/util/ArrayList" "DEFAULTCAPACITY_EMPTY_ELEMENTDATA" "[Ljava/lang/Object;" (.ref K.2.2.1) (base ≤ ·) U H ∧ va_T (.object "java/lang/Object") K.2.2.1 0 (fun _ => .null) (base ≤ ·) U H ∧
  (∀ q ∈ zstr, ∃ a, vk_R "Transitry" q.1 q.2 a U) ∧ (∀ w ∈ zN, va_Nw w U) ∧ va_Mi "[Ljava/lang/Object;" K.2.2.2 U ∧ va_AO "java/lang/Object" U ∧ (∀ q ∈ znc, va_Nc q.1 q.2 U) ∧ K.2.2.1 < base ∧ base ≤ H.size
theorem zS.warm {base : Nat} {K : zK} {s U : State} {H : Heap} (hW : s.WarmedH U.vm) (h : zS base K s H) : zS base K U H := by
  obtain ⟨h1, h2, h3, h4, h5, h6, h7, h8, h9, h10, h11, h12⟩ := h
  have hv := hW.alike
  exact ⟨va_K.moved hv h1, h2.moved hv, h3.moved hv, va_Z.moved hv h4, va_T.moved hv h5, fun q hq => let ⟨a, ha⟩ := h6 q hq; ⟨a, vk_R.warm hW ha⟩, fun w hw => zk_warm (List.mem_filter.mp hw).2 hW (h7 w hw), va_Mi.moved hv h8, va_AO.moved hv h9, fun q hq => va_Nc.moved hv (h10 q hq), h11, h12⟩
theorem zS.same {base : Nat} {K : zK} {s U : State} {H : Heap} (hv : s.vm = U.vm) (h : zS base K s H) : zS base K U H := by
  obtain ⟨h1, h2, h3, h4, h5, h6, h7, h8, h9, h10, h11, h12⟩ := h
  have ha : s.vm.Alike U.vm := by rw [hv]; exact Vm.Alike.refl _
  exact ⟨va_K.moved ha h1, h2.moved ha, h3.moved ha, va_Z.moved ha h4, va_T.moved ha h5, fun q hq => let ⟨a, h⟩ := h6 q hq; ⟨a, vk_R.same hv.symm h⟩, fun w hw => (h7 w hw).same (zk_tab (List.mem_filter.mp hw).2) hv, va_Mi.moved ha h8, va_AO.moved ha h9, fun q hq => va_Nc.moved ha (h10 q hq), h11, h12⟩
theorem zS.kept {base : Nat} {K : zK} {U : State} {H0 H : Heap} {locs : List Loc} (hS : va_S (base ≤ ·) H0 H locs) (h : zS base K U H0) : zS base K U H := by
  obtain ⟨h1, h2, h3, h4, h5, h6, h7, h8, h9, h10, h11, h12⟩ := h
  exact ⟨h1, h2.kept hS.2.1, h3.kept hS.2.1, h4.kept hS.2.1, h5.kept hS.2.1, h6, h7, h8, h9, h10, h11, Nat.le_trans h12 hS.1⟩
/-- the world of a method at its start, and behind it -/
def zPre (base : Nat) (K : zK) (L : List Nat) (f : Nat → va_E) (U : State) : Prop := zS base K U U.heap ∧ va_P K.1 vwCl (va_pl L f) U.heap ∧ va_D (base ≤ ·) (va_pl L f)
abbrev zW : Type := List Nat × (Nat → va_E)
def zB (base : Nat) (K : zK) (u : zW) (t : State) : Prop := va_P K.1 vwCl (va_pl u.1 u.2) t.heap ∧ va_D (base ≤ ·) (va_pl u.1 u.2)
def zBr (base : Nat) (K : zK) (u : zW × Option Nat) (t : State) : Prop := zB base K u.1 t
theorem zPre.blind {base : Nat} {K : zK} {L : List Nat} {f : Nat → va_E} {av : List Value} : FrameBlind (va_Pc av (zPre base K L f)) := fun a U g mk q => ⟨q.1, zS.same (s := U) (U := U.calling g mk a) rfl q.2.1, q.2.2⟩
/-- the fixed part of a walk -/
def zC (p : Program) (s : State) (args : Array Value) (m : MethodId) (c : Code) (cc : ByteArray) (nL : Nat) (own : String) (base : Nat) (K : zK) : Prop :=
  p.tables.exec = Jvm.exec ∧ c.code = cc ∧ c.maxLocals = nL ∧ s.vm.findClass own = some m.cls ∧ (∀ w ∈ WA, w.before args s = true) ∧ zS base K s s.heap
/-- the moving part -/
def zM (base : Nat) (K : zK) (L : List Nat) (f : Nat → va_E) (s : State) (H : Heap) (locs : List Loc) : Prop := va_P K.1 vwCl (va_pl L f) H ∧ va_D (base ≤ ·) (va_pl L f) ∧ va_S (base ≤ ·) s.heap H locs
theorem zM.start {base : Nat} {K : zK} {L : List Nat} {f : Nat → va_E} {s : State} (h : zPre base K L f s) : zM base K L f s s.heap [] := ⟨h.2.1, h.2.2, va_S.rf⟩
theorem pl_at {L : List Nat} {f : Nat → va_E} {a : Nat} (h : a ∈ L) : ∃ k : Nat, (va_pl L f)[k]? = some (a, f a) := List.getElem?_of_mem (List.mem_map.mpr ⟨a, h, rfl⟩)
theorem pl_set {A : Nat → Prop} {L : List Nat} {f : Nat → va_E} {a k : Nat} {e : va_E} (hD : va_D A (va_pl L f)) (h : a ∈ L) (hk : (va_pl L f)[k]? = some (a, f a)) : (va_pl L f).set k (a, e) = va_pl L (va_up f a e) := by
  have := va_pl_set (X := []) hD h hk (e := e)
  simpa using this
theorem zM.new {base : Nat} {K : zK} {L : List Nat} {f : Nat → va_E} {s : State} {H : Heap} {locs : List Loc} (h : zM base K L f s H locs) {a : Nat} (ha : H.size ≤ a) : a ∉ L := va_pl_fresh (X := []) h.1 ha
theorem zM.lt {base : Nat} {K : zK} {L : List Nat} {f : Nat → va_E} {s : State} {H : Heap} {locs : List Loc} (h : zM base K L f s H locs) {a : Nat} (ha : a ∈ L) : a < H.size := va_pl_lt (X := []) h.1 ha
/-- bundles of words -/
def zCl (ci : Nat) (C : String) (T : u_T) (N : Nat) (ty : Nat → FieldType) : Prop := vwCl[ci]? = some (C, T, N) ∧ (∀ w ∈ u_ws C T N, w ∈ WA) ∧ (∀ k, k < N → parseFieldDescriptor (T k).2.2.1 = some (ty k)) ∧ ∀ a, a < N → ∀ b, b < N → a ≠ b → (T a).2.1 ≠ (T b).2.1
def zL (own : String) (index : Nat) (ref : String) (T : u_T) (k : Nat) : Prop := Cond.fieldLink own index ref (T k).2.1 (T k).2.2.1 ∈ WA ∧ (ref = (T k).1 ∨ Cond.sameField ref (T k).1 (T k).2.1 (T k).2.2.1 ∈ WA)
def zLN (own : String) (index : Nat) (ref : String) (T : u_T) (k : Nat) (host : String) : Prop := Cond.fieldLinkNest own index ref (T k).2.1 (T k).2.2.1 host ∈ zN ∧ ref = (T k).1
def zY (y : MethodName) (bytes : ByteArray) (maxL : Nat) (ret : Option FieldType) (n : Nat) : Prop := Cond.code y bytes maxL ret ∈ WA ∧ Cond.initialized y.cls ∈ WA ∧ y.cls ≠ "java/lang/invoke/MethodHandle" ∧ y.cls ≠ "java/lang/invoke/VarHandle" ∧ (parseMethodDescriptor y.desc).map (fun d => d.parameters.length) = some n
def zV (own : String) (index : Nat) (y : MethodName) : Prop := Cond.methodLink own index y ∈ WA ∧ Cond.instanceMethod y ∈ WA ∧ Cond.selects y.cls y y ∈ WA
def zSt (own : String) (index : Nat) (y : MethodName) : Prop := Cond.methodLink own index y ∈ WA ∧ Cond.static y ∈ WA
def zI (own : String) (index : Nat) (y : MethodName) : Prop := Cond.methodLink own index y ∈ WA ∧ Cond.instanceMethod y ∈ WA ∧ y.name = "<init>"
def zNewW (own : String) (index : Nat) (C : String) (N : Nat) : Prop := Cond.classLink own index C ∈ WA ∧ Cond.instantiable C N ∈ WA ∧ Cond.initialized C ∈ WA
section ZR
variable {p : Program} {l : Launch} {e : Env} {R : Room} {s : State} {m : MethodId} {args : Array Value} {below : List Frame} {meth : Method} {c : Code} {H : Heap} {locs : List Loc} {cells slots : Nat} {Q : State → Prop}
variable {cc : ByteArray} {nL pc : Nat} {own : String} {base : Nat} {K : zK} {L : List Nat} {f : Nat → va_E} {ls : Array Slot} {rest : List Value} {a : Nat}
theorem zS.same_ref {ref : String} {T : u_T} {k : Nat} (hC : zC p s args m c cc nL own base K) (h : ref = (T k).1 ∨ Cond.sameField ref (T k).1 (T k).2.1 (T k).2.2.1 ∈ WA) : ∀ x, s.fieldFound? (T k).1 (T k).2.1 (T k).2.2.1 = some x → s.fieldFound? ref (T k).2.1 (T k).2.2.1 = some x := by
  rcases h with h | h
  · subst h; exact fun _ h => h
  · exact fun x hx => u_same (hC.2.2.2.2.1 _ h) x hx
theorem z_get {ref C : String} {T : u_T} {N ci index k : Nat} {ty : Nat → FieldType} {fs : List Value} {v : Value} (hC : zC p s args m c cc nL own base K) (hM : zM base K L f s H locs) (ha : a ∈ L) (hf : f a = eS ci fs) (hcl : zCl ci C T N ty) (hk : k < N) (hl : zL own index ref T k) (hv : fs[k]? = some v) (hdg : decode cc pc = .ok (.getfield index, 3))
    (kk : W p l e R s m args below meth c H locs cells slots Q (F0 m (pc + 3) ls (v :: rest))) : W p l e R s m args below meth c H locs cells slots Q (F0 m pc ls (.ref a :: rest)) := by
  obtain ⟨q, hq⟩ := pl_at (f := f) ha
  rw [hf] at hq
  exact va_get hC.1 hC.2.1 hC.2.2.2.2.1 hcl.2.1 hC.2.2.2.1 hC.2.2.2.2.2.1 hM.1 q hq hcl.1 k hk (hC.2.2.2.2.1 _ hl.1) (zS.same_ref hC hl.2) hv hdg kk
theorem z_getN {ref C host : String} {T : u_T} {N ci index k : Nat} {ty : Nat → FieldType} {fs : List Value} {v : Value} (hC : zC p s args m c cc nL own base K) (hM : zM base K L f s H locs) (ha : a ∈ L) (hf : f a = eS ci fs) (hcl : zCl ci C T N ty) (hk : k < N) (hl : zLN own index ref T k host) (hv : fs[k]? = some v) (hdg : decode cc pc = .ok (.getfield index, 3))
    (kk : W p l e R s m args below meth c H locs cells slots Q (F0 m (pc + 3) ls (v :: rest))) : W p l e R s m args below meth c H locs cells slots Q (F0 m pc ls (.ref a :: rest)) := by
  obtain ⟨q, hq⟩ := pl_at (f := f) ha
  rw [hf] at hq
  obtain ⟨h1, h2⟩ := hl
  subst h2
  exact va_getN hC.1 hC.2.1 hC.2.2.2.2.1 hcl.2.1 hC.2.2.2.1 hC.2.2.2.2.2.1 hM.1 q hq hcl.1 k hk ((hC.2.2.2.2.2.2.2.2.2.2.2.1 _ h1).use rfl) (fun _ h => h) hv hdg kk
theorem z_put {ref C : String} {T : u_T} {N ci index k : Nat} {ty : Nat → FieldType} {fs fs' : List Value} {v : Value} (hC : zC p s args m c cc nL own base K) (hM : zM base K L f s H locs) (ha : a ∈ L) (hf : f a = eS ci fs) (hcl : zCl ci C T N ty) (hk : k < N) (hl : zL own index ref T k) (hfin : (T k).2.2.2 = false) (hn : narrow (ty k) v = v) (hfit : fits (ty k) v = true) (hlen : k < fs.length) (he : fs.set k v = fs') (hdg : decode cc pc = .ok (.putfield index, 3))
    (kk : ∀ (H1 : Heap) (locs1 : List Loc), zM base K L (va_up f a (eS ci fs')) s H1 locs1 → W p l e R s m args below meth c H1 locs1 cells slots Q (F0 m (pc + 3) ls rest)) : W p l e R s m args below meth c H locs cells slots Q (F0 m pc ls (v :: .ref a :: rest)) := by
  obtain ⟨q, hq⟩ := pl_at (f := f) ha
  have hq' := hq
  rw [hf] at hq
  refine va_put hC.1 hC.2.1 hC.2.2.2.2.1 hcl.2.1 ty hcl.2.2.1 hcl.2.2.2 hC.2.2.2.1 hC.2.2.2.2.2.1 hM.1 hM.2.1 hM.2.2 q hq hcl.1 k hk (hC.2.2.2.2.1 _ hl.1) (zS.same_ref hC hl.2) hfin (hcl.2.2.1 k hk) hn hfit hlen hdg (fun H1 locs1 hP hD hS => ?_)
  rw [he, pl_set hM.2.1 ha hq'] at hP hD
  exact kk H1 locs1 ⟨hP, hD, hS⟩
theorem z_putN {ref C host : String} {T : u_T} {N ci index k : Nat} {ty : Nat → FieldType} {fs fs' : List Value} {v : Value} (hC : zC p s args m c cc nL own base K) (hM : zM base K L f s H locs) (ha : a ∈ L) (hf : f a = eS ci fs) (hcl : zCl ci C T N ty) (hk : k < N) (hl : zLN own index ref T k host) (hfin : (T k).2.2.2 = false) (hn : narrow (ty k) v = v) (hfit : fits (ty k) v = true) (hlen : k < fs.length) (he : fs.set k v = fs') (hdg : decode cc pc = .ok (.putfield index, 3))
    (kk : ∀ (H1 : Heap) (locs1 : List Loc), zM base K L (va_up f a (eS ci fs')) s H1 locs1 → W p l e R s m args below meth c H1 locs1 cells slots Q (F0 m (pc + 3) ls rest)) : W p l e R s m args below meth c H locs cells slots Q (F0 m pc ls (v :: .ref a :: rest)) := by
  obtain ⟨q, hq⟩ := pl_at (f := f) ha
  have hq' := hq
  rw [hf] at hq
  obtain ⟨h1, h2⟩ := hl
  subst h2
  refine va_putN hC.1 hC.2.1 hC.2.2.2.2.1 hcl.2.1 ty hcl.2.2.1 hcl.2.2.2 hC.2.2.2.1 hC.2.2.2.2.2.1 hM.1 hM.2.1 hM.2.2 q hq hcl.1 k hk ((hC.2.2.2.2.2.2.2.2.2.2.2.1 _ h1).use rfl) (fun _ h => h) hfin (hcl.2.2.1 k hk) hn hfit hlen hdg (fun H1 locs1 hP hD hS => ?_)
  rw [he, pl_set hM.2.1 ha hq'] at hP hD
  exact kk H1 locs1 ⟨hP, hD, hS⟩
theorem z_putF {ref C : String} {T : u_T} {N ci index k : Nat} {ty : Nat → FieldType} {fs fs' : List Value} {v : Value} (hC : zC p s args m c cc nL own base K) (hM : zM base K L f s H locs) (hin : meth.name = "<init>") (ha : a ∈ L) (hf : f a = eS ci fs) (hcl : zCl ci C T N ty) (hk : k < N) (hl : zL own index ref T k) (hdecl : (T k).1 = own) (hfin : (T k).2.2.2 = true) (hn : narrow (ty k) v = v) (hfit : fits (ty k) v = true) (hlen : k < fs.length) (he : fs.set k v = fs') (hdg : decode cc pc = .ok (.putfield index, 3))
    (kk : ∀ (H1 : Heap) (locs1 : List Loc), zM base K L (va_up f a (eS ci fs')) s H1 locs1 → W p l e R s m args below meth c H1 locs1 cells slots Q (F0 m (pc + 3) ls rest)) : W p l e R s m args below meth c H locs cells slots Q (F0 m pc ls (v :: .ref a :: rest)) := by
  obtain ⟨q, hq⟩ := pl_at (f := f) ha
  have hq' := hq
  rw [hf] at hq
  refine va_putF hC.1 hC.2.1 hC.2.2.2.2.1 hcl.2.1 ty hcl.2.2.1 hcl.2.2.2 hC.2.2.2.1 hC.2.2.2.2.2.1 hM.1 hM.2.1 hM.2.2 q hq hcl.1 k hk (hC.2.2.2.2.1 _ hl.1) (zS.same_ref hC hl.2) hfin hin hdecl (hcl.2.2.1 k hk) hn hfit hlen hdg (fun H1 locs1 hP hD hS => ?_)
  rw [he, pl_set hM.2.1 ha hq'] at hP hD
  exact kk H1 locs1 ⟨hP, hD, hS⟩
end ZR
end
section
/-! THE WORDS of each link, by their places in the tables (written by wip/whole/words.py) -/
theorem zcl_Jx4a65c : zCl 0 RJx4a65c TJx4a65c 3 tyJx4a65c := ⟨rfl, wa_list [84, 80, 82] (by decide +kernel) (by decide +kernel), tyJx4a65c_ok, nmJx4a65c⟩
theorem zcl_X0 : zCl 1 RX0 TX0 4 tyX0 := ⟨rfl, wa_list [97, 99, 101, 103] (by decide +kernel) (by decide +kernel), tyX0_ok, nmX0⟩
theorem zcl_X1 : zCl 2 RX1 TX1 2 tyX1 := ⟨rfl, wa_list [248, 250] (by decide +kernel) (by decide +kernel), tyX1_ok, nmX1⟩
theorem zcl_X2 : zCl 3 RX2 TX2 3 tyX2 := ⟨rfl, wa_list [673, 675, 677] (by decide +kernel) (by decide +kernel), tyX2_ok, nmX2⟩
theorem zcl_X3 : zCl 4 RX3 TX3 4 tyX3 := ⟨rfl, wa_list [392, 394, 396, 398] (by decide +kernel) (by decide +kernel), tyX3_ok, nmX3⟩
theorem zcl_X4 : zCl 5 RX4 TX4 6 tyX4 := ⟨rfl, wa_list [264, 266, 268, 270, 272, 274] (by decide +kernel) (by decide +kernel), tyX4_ok, nmX4⟩
theorem zcl_X5 : zCl 6 RX5 TX5 6 tyX5 := ⟨rfl, wa_list [619, 621, 623, 625, 627, 629] (by decide +kernel) (by decide +kernel), tyX5_ok, nmX5⟩
theorem zcl_X6 : zCl 7 RX6 TX6 6 tyX6 := ⟨rfl, wa_list [115, 117, 119, 121, 123, 125] (by decide +kernel) (by decide +kernel), tyX6_ok, nmX6⟩
theorem zcl_X7 : zCl 8 RX7 TX7 27 tyX7 := ⟨rfl, wa_list [738, 740, 742, 744, 746, 748, 750, 752, 754, 756, 758, 760, 762, 764, 766, 768, 770, 772, 774, 776, 778, 780, 782, 784, 786, 788, 790] (by decide +kernel) (by decide +kernel), tyX7_ok, nmX7⟩
theorem zm_X6_1 : Cond.methodLink RX6 1 objectInit ∈ WA := (wa_in 58 (by decide +kernel) rfl)
theorem zn_X6_7 : zNewW RX6 7 RJx4a65c 3 := ⟨(wa_in 61 (by decide +kernel) rfl), (wa_in 62 (by decide +kernel) rfl), (wa_in 31 (by decide +kernel) rfl)⟩
theorem zy_Jx4a65c_init_da8c8 : zY yJx4a65c_init_da8c8 cJx4a65c_init_da8c8 1 (none) 0 := ⟨(wa_in 65 (by decide +kernel) rfl), (wa_in 31 (by decide +kernel) rfl), by decide +kernel, by decide +kernel, by decide +kernel⟩
theorem zm_X6_9 : zI RX6 9 yJx4a65c_init_da8c8 := ⟨(wa_in 63 (by decide +kernel) rfl), (wa_in 64 (by decide +kernel) rfl), rfl⟩
theorem zl_X6_10 : zL RX6 10 RX6 TX6 0 := ⟨(wa_in 109 (by decide +kernel) rfl), Or.inl rfl⟩
theorem zl_X6_16 : zL RX6 16 RX6 TX6 1 := ⟨(wa_in 110 (by decide +kernel) rfl), Or.inl rfl⟩
theorem zl_X6_19 : zL RX6 19 RX6 TX6 2 := ⟨(wa_in 111 (by decide +kernel) rfl), Or.inl rfl⟩
theorem zl_X6_22 : zL RX6 22 RX6 TX6 3 := ⟨(wa_in 112 (by decide +kernel) rfl), Or.inl rfl⟩
theorem zl_X6_26 : zL RX6 26 RX6 TX6 4 := ⟨(wa_in 113 (by decide +kernel) rfl), Or.inl rfl⟩
theorem zn_X6_30 : zNewW RX6 30 RX0 4 := ⟨(wa_in 87 (by decide +kernel) rfl), (wa_in 88 (by decide +kernel) rfl), (wa_in 32 (by decide +kernel) rfl)⟩
theorem zy_X0_init : zY yX0_init cX0_init 1 (none) 0 := ⟨(wa_in 91 (by decide +kernel) rfl), (wa_in 32 (by decide +kernel) rfl), by decide +kernel, by decide +kernel, by decide +kernel⟩
theorem zm_X6_32 : Cond.methodLinkNest RX6 32 yX0_init "Transitry" ∈ zN ∧ Cond.instanceMethod yX0_init ∈ WA := ⟨zn_in 89 (by decide +kernel) rfl, (wa_in 90 (by decide +kernel) rfl)⟩
theorem zl_X6_33 : zL RX6 33 RX6 TX6 5 := ⟨(wa_in 114 (by decide +kernel) rfl), Or.inl rfl⟩
theorem zk_X6_37 : Cond.constant RX6 37 (1000000) ∈ WA := (wa_in 137 (by decide +kernel) rfl)
theorem zy_X6_requireRange : zY yX6_requireRange cX6_requireRange 3 (none) 3 := ⟨(wa_in 140 (by decide +kernel) rfl), (wa_in 28 (by decide +kernel) rfl), by decide +kernel, by decide +kernel, by decide +kernel⟩
theorem zm_X6_38 : zSt RX6 38 yX6_requireRange := ⟨(wa_in 138 (by decide +kernel) rfl), (wa_in 139 (by decide +kernel) rfl)⟩
theorem zy_Jx4a65c_size_8abf5 : zY yJx4a65c_size_8abf5 cJx4a65c_size_8abf5 1 (some .int) 0 := ⟨(wa_in 212 (by decide +kernel) rfl), (wa_in 31 (by decide +kernel) rfl), by decide +kernel, by decide +kernel, by decide +kernel⟩
theorem zm_X6_42 : zV RX6 42 yJx4a65c_size_8abf5 := ⟨(wa_in 209 (by decide +kernel) rfl), (wa_in 210 (by decide +kernel) rfl), (wa_in 211 (by decide +kernel) rfl)⟩
theorem zn_X6_46 : zNewW RX6 46 "java/lang/IllegalStateException" 6 := ⟨(wa_in 213 (by decide +kernel) rfl), (wa_in 214 (by decide +kernel) rfl), (wa_in 38 (by decide +kernel) rfl)⟩
theorem zm_X6_50 : Cond.methodLink RX6 50 ⟨"java/lang/IllegalStateException", "<init>", "(Ljava/lang/String;)V"⟩ ∈ WA := (wa_in 223 (by decide +kernel) rfl)
theorem zn_X6_53 : zNewW RX6 53 RX4 6 := ⟨(wa_in 229 (by decide +kernel) rfl), (wa_in 230 (by decide +kernel) rfl), (wa_in 39 (by decide +kernel) rfl)⟩
theorem zy_X4_init : zY yX4_init cX4_init 2 (none) 1 := ⟨(wa_in 233 (by decide +kernel) rfl), (wa_in 39 (by decide +kernel) rfl), by decide +kernel, by decide +kernel, by decide +kernel⟩
theorem zm_X6_55 : zI RX6 55 yX4_init := ⟨(wa_in 231 (by decide +kernel) rfl), (wa_in 232 (by decide +kernel) rfl), rfl⟩
theorem zy_Jx4a65c_add_9ea2d : zY yJx4a65c_add_9ea2d cJx4a65c_add_9ea2d 2 (some .boolean) 1 := ⟨(wa_in 280 (by decide +kernel) rfl), (wa_in 31 (by decide +kernel) rfl), by decide +kernel, by decide +kernel, by decide +kernel⟩
theorem zm_X6_58 : zV RX6 58 yJx4a65c_add_9ea2d := ⟨(wa_in 277 (by decide +kernel) rfl), (wa_in 278 (by decide +kernel) rfl), (wa_in 279 (by decide +kernel) rfl)⟩
theorem zy_X6_starAt : zY yX6_starAt cX6_starAt 2 (some (.object "Transitry$Star")) 1 := ⟨(wa_in 347 (by decide +kernel) rfl), (wa_in 28 (by decide +kernel) rfl), by decide +kernel, by decide +kernel, by decide +kernel⟩
theorem zm_X6_62 : zV RX6 62 yX6_starAt := ⟨(wa_in 344 (by decide +kernel) rfl), (wa_in 346 (by decide +kernel) rfl), (wa_in 4 (by decide +kernel) rfl)⟩
theorem zy_J9_min_7cf53 : zY yJ9_min_7cf53 cJ9_min_7cf53 2 (some .int) 2 := ⟨(wa_in 330 (by decide +kernel) rfl), (wa_in 42 (by decide +kernel) rfl), by decide +kernel, by decide +kernel, by decide +kernel⟩
theorem zm_X6_66 : zSt RX6 66 yJ9_min_7cf53 := ⟨(wa_in 378 (by decide +kernel) rfl), (wa_in 329 (by decide +kernel) rfl)⟩
theorem zl_X6_72 : zLN RX6 72 RX4 TX4 1 "Transitry" := ⟨zn_in 255 (by decide +kernel) rfl, rfl⟩
theorem zn_X6_77 : zNewW RX6 77 RX3 4 := ⟨(wa_in 380 (by decide +kernel) rfl), (wa_in 381 (by decide +kernel) rfl), (wa_in 48 (by decide +kernel) rfl)⟩
theorem zy_X3_init : zY yX3_init cX3_init 5 (none) 4 := ⟨(wa_in 384 (by decide +kernel) rfl), (wa_in 48 (by decide +kernel) rfl), by decide +kernel, by decide +kernel, by decide +kernel⟩
theorem zm_X6_79 : zI RX6 79 yX3_init := ⟨(wa_in 382 (by decide +kernel) rfl), (wa_in 383 (by decide +kernel) rfl), rfl⟩
theorem zl_X6_82 : zLN RX6 82 RX4 TX4 3 "Transitry" := ⟨zn_in 259 (by decide +kernel) rfl, rfl⟩
theorem zl_X6_85 : zLN RX6 85 RX4 TX4 2 "Transitry" := ⟨zn_in 257 (by decide +kernel) rfl, rfl⟩
theorem zl_X6_88 : zLN RX6 88 RX4 TX4 4 "Transitry" := ⟨zn_in 261 (by decide +kernel) rfl, rfl⟩
theorem zy_X6_requireHour : zY yX6_requireHour cX6_requireHour 1 (none) 1 := ⟨(wa_in 424 (by decide +kernel) rfl), (wa_in 28 (by decide +kernel) rfl), by decide +kernel, by decide +kernel, by decide +kernel⟩
theorem zm_X6_91 : zSt RX6 91 yX6_requireHour := ⟨(wa_in 422 (by decide +kernel) rfl), (wa_in 423 (by decide +kernel) rfl)⟩
theorem zy_X4_lightIn : zY yX4_lightIn cX4_lightIn 6 (some .double) 1 := ⟨(wa_in 429 (by decide +kernel) rfl), (wa_in 39 (by decide +kernel) rfl), by decide +kernel, by decide +kernel, by decide +kernel⟩
theorem zm_X6_94 : zV RX6 94 yX4_lightIn := ⟨(wa_in 426 (by decide +kernel) rfl), (wa_in 427 (by decide +kernel) rfl), (wa_in 428 (by decide +kernel) rfl)⟩
theorem zy_X6_bitsOf : zY yX6_bitsOf cX6_bitsOf 10 (some .long) 1 := ⟨(wa_in 447 (by decide +kernel) rfl), (wa_in 28 (by decide +kernel) rfl), by decide +kernel, by decide +kernel, by decide +kernel⟩
theorem zm_X6_98 : zSt RX6 98 yX6_bitsOf := ⟨(wa_in 445 (by decide +kernel) rfl), (wa_in 446 (by decide +kernel) rfl)⟩
theorem zy_X6_requireHours : zY yX6_requireHours cX6_requireHours 2 (none) 2 := ⟨(wa_in 461 (by decide +kernel) rfl), (wa_in 28 (by decide +kernel) rfl), by decide +kernel, by decide +kernel, by decide +kernel⟩
theorem zm_X6_102 : zSt RX6 102 yX6_requireHours := ⟨(wa_in 459 (by decide +kernel) rfl), (wa_in 460 (by decide +kernel) rfl)⟩
theorem zy_X6_isHidden : zY yX6_isHidden cX6_isHidden 2 (some .boolean) 1 := ⟨(wa_in 466 (by decide +kernel) rfl), (wa_in 28 (by decide +kernel) rfl), by decide +kernel, by decide +kernel, by decide +kernel⟩
theorem zm_X6_106 : zV RX6 106 yX6_isHidden := ⟨(wa_in 463 (by decide +kernel) rfl), (wa_in 465 (by decide +kernel) rfl), (wa_in 6 (by decide +kernel) rfl)⟩
theorem zy_X6_hide : zY yX6_hide cX6_hide 2 (none) 1 := ⟨(wa_in 470 (by decide +kernel) rfl), (wa_in 28 (by decide +kernel) rfl), by decide +kernel, by decide +kernel, by decide +kernel⟩
theorem zm_X6_110 : zV RX6 110 yX6_hide := ⟨(wa_in 467 (by decide +kernel) rfl), (wa_in 469 (by decide +kernel) rfl), (wa_in 7 (by decide +kernel) rfl)⟩
theorem zl_X6_113 : zLN RX6 113 RX4 TX4 5 "Transitry" := ⟨zn_in 263 (by decide +kernel) rfl, rfl⟩
theorem zl_X6_117 : zLN RX6 117 RX1 TX1 1 "Transitry" := ⟨zn_in 247 (by decide +kernel) rfl, rfl⟩
theorem zy_X1_hasLight : zY yX1_hasLight cX1_hasLight 2 (some .boolean) 1 := ⟨(wa_in 481 (by decide +kernel) rfl), (wa_in 40 (by decide +kernel) rfl), by decide +kernel, by decide +kernel, by decide +kernel⟩
theorem zm_X6_122 : zV RX6 122 yX1_hasLight := ⟨(wa_in 478 (by decide +kernel) rfl), (wa_in 479 (by decide +kernel) rfl), (wa_in 480 (by decide +kernel) rfl)⟩
theorem zy_X1_keep : zY yX1_keep cX1_keep 4 (none) 2 := ⟨(wa_in 489 (by decide +kernel) rfl), (wa_in 40 (by decide +kernel) rfl), by decide +kernel, by decide +kernel, by decide +kernel⟩
theorem zm_X6_125 : zV RX6 125 yX1_keep := ⟨(wa_in 486 (by decide +kernel) rfl), (wa_in 487 (by decide +kernel) rfl), (wa_in 488 (by decide +kernel) rfl)⟩
theorem zy_X1_lightOf : zY yX1_lightOf cX1_lightOf 2 (some .double) 1 := ⟨(wa_in 485 (by decide +kernel) rfl), (wa_in 40 (by decide +kernel) rfl), by decide +kernel, by decide +kernel, by decide +kernel⟩
theorem zm_X6_129 : zV RX6 129 yX1_lightOf := ⟨(wa_in 497 (by decide +kernel) rfl), (wa_in 483 (by decide +kernel) rfl), (wa_in 484 (by decide +kernel) rfl)⟩
theorem zk_X6_132 : Cond.constantLong RX6 132 (-1) ∈ WA := (wa_in 498 (by decide +kernel) rfl)
theorem zy_X6_nightsToFold : zY yX6_nightsToFold cX6_nightsToFold 4 (some (.object "Transitry$Nights")) 2 := ⟨(wa_in 509 (by decide +kernel) rfl), (wa_in 28 (by decide +kernel) rfl), by decide +kernel, by decide +kernel, by decide +kernel⟩
theorem zm_X6_134 : zV RX6 134 yX6_nightsToFold := ⟨(wa_in 506 (by decide +kernel) rfl), (wa_in 508 (by decide +kernel) rfl), (wa_in 8 (by decide +kernel) rfl)⟩
theorem zy_X0_foldBy : zY yX0_foldBy cX0_foldBy 8 (none) 2 := ⟨(wa_in 514 (by decide +kernel) rfl), (wa_in 32 (by decide +kernel) rfl), by decide +kernel, by decide +kernel, by decide +kernel⟩
theorem zm_X6_138 : zV RX6 138 yX0_foldBy := ⟨(wa_in 511 (by decide +kernel) rfl), (wa_in 512 (by decide +kernel) rfl), (wa_in 513 (by decide +kernel) rfl)⟩
theorem zy_X0_bestFold : zY yX0_bestFold cX0_bestFold 7 (some .int) 0 := ⟨(wa_in 524 (by decide +kernel) rfl), (wa_in 32 (by decide +kernel) rfl), by decide +kernel, by decide +kernel, by decide +kernel⟩
theorem zm_X6_142 : zV RX6 142 yX0_bestFold := ⟨(wa_in 521 (by decide +kernel) rfl), (wa_in 522 (by decide +kernel) rfl), (wa_in 523 (by decide +kernel) rfl)⟩
theorem zy_X0_scoreOf : zY yX0_scoreOf cX0_scoreOf 2 (some .double) 1 := ⟨(wa_in 532 (by decide +kernel) rfl), (wa_in 32 (by decide +kernel) rfl), by decide +kernel, by decide +kernel, by decide +kernel⟩
theorem zm_X6_145 : zV RX6 145 yX0_scoreOf := ⟨(wa_in 537 (by decide +kernel) rfl), (wa_in 530 (by decide +kernel) rfl), (wa_in 531 (by decide +kernel) rfl)⟩
theorem zy_X6_nightsToSearch : zY yX6_nightsToSearch cX6_nightsToSearch 4 (some (.object "Transitry$Nights")) 2 := ⟨(wa_in 555 (by decide +kernel) rfl), (wa_in 28 (by decide +kernel) rfl), by decide +kernel, by decide +kernel, by decide +kernel⟩
theorem zm_X6_148 : zV RX6 148 yX6_nightsToSearch := ⟨(wa_in 552 (by decide +kernel) rfl), (wa_in 554 (by decide +kernel) rfl), (wa_in 9 (by decide +kernel) rfl)⟩
theorem zy_X6_periodToTell : zY yX6_periodToTell cX6_periodToTell 4 (some .int) 2 := ⟨(wa_in 559 (by decide +kernel) rfl), (wa_in 28 (by decide +kernel) rfl), by decide +kernel, by decide +kernel, by decide +kernel⟩
theorem zm_X6_151 : zV RX6 151 yX6_periodToTell := ⟨(wa_in 556 (by decide +kernel) rfl), (wa_in 558 (by decide +kernel) rfl), (wa_in 10 (by decide +kernel) rfl)⟩
theorem zy_X6_bestPeriod : zY yX6_bestPeriod cX6_bestPeriod 9 (some .int) 2 := ⟨(wa_in 563 (by decide +kernel) rfl), (wa_in 28 (by decide +kernel) rfl), by decide +kernel, by decide +kernel, by decide +kernel⟩
theorem zm_X6_155 : zV RX6 155 yX6_bestPeriod := ⟨(wa_in 560 (by decide +kernel) rfl), (wa_in 562 (by decide +kernel) rfl), (wa_in 11 (by decide +kernel) rfl)⟩
theorem zy_X0_hasHours : zY yX0_hasHours cX0_hasHours 2 (some .boolean) 1 := ⟨(wa_in 528 (by decide +kernel) rfl), (wa_in 32 (by decide +kernel) rfl), by decide +kernel, by decide +kernel, by decide +kernel⟩
theorem zm_X6_158 : zV RX6 158 yX0_hasHours := ⟨(wa_in 579 (by decide +kernel) rfl), (wa_in 526 (by decide +kernel) rfl), (wa_in 527 (by decide +kernel) rfl)⟩
theorem zy_X0_meanOf : zY yX0_meanOf cX0_meanOf 2 (some .double) 1 := ⟨(wa_in 536 (by decide +kernel) rfl), (wa_in 32 (by decide +kernel) rfl), by decide +kernel, by decide +kernel, by decide +kernel⟩
theorem zm_X6_161 : zV RX6 161 yX0_meanOf := ⟨(wa_in 580 (by decide +kernel) rfl), (wa_in 534 (by decide +kernel) rfl), (wa_in 535 (by decide +kernel) rfl)⟩
theorem zn_X6_166 : zNewW RX6 166 RX5 6 := ⟨(wa_in 589 (by decide +kernel) rfl), (wa_in 590 (by decide +kernel) rfl), (wa_in 51 (by decide +kernel) rfl)⟩
theorem zn_X6_118 : zNewW RX6 118 RX1 2 := ⟨(wa_in 591 (by decide +kernel) rfl), (wa_in 238 (by decide +kernel) rfl), (wa_in 40 (by decide +kernel) rfl)⟩
theorem zy_X1_init_ : zY yX1_init_ cX1_init_ 2 (none) 1 := ⟨(wa_in 594 (by decide +kernel) rfl), (wa_in 40 (by decide +kernel) rfl), by decide +kernel, by decide +kernel, by decide +kernel⟩
theorem zm_X6_168 : zI RX6 168 yX1_init_ := ⟨(wa_in 592 (by decide +kernel) rfl), (wa_in 593 (by decide +kernel) rfl), rfl⟩
theorem zy_X5_init : zY yX5_init cX5_init 6 (none) 5 := ⟨(wa_in 604 (by decide +kernel) rfl), (wa_in 51 (by decide +kernel) rfl), by decide +kernel, by decide +kernel, by decide +kernel⟩
theorem zm_X6_171 : zI RX6 171 yX5_init := ⟨(wa_in 602 (by decide +kernel) rfl), (wa_in 603 (by decide +kernel) rfl), rfl⟩
theorem zy_X6_worldAt : zY yX6_worldAt cX6_worldAt 2 (some (.object "Transitry$World")) 1 := ⟨(wa_in 642 (by decide +kernel) rfl), (wa_in 28 (by decide +kernel) rfl), by decide +kernel, by decide +kernel, by decide +kernel⟩
theorem zm_X6_174 : zV RX6 174 yX6_worldAt := ⟨(wa_in 639 (by decide +kernel) rfl), (wa_in 641 (by decide +kernel) rfl), (wa_in 12 (by decide +kernel) rfl)⟩
theorem zl_X6_178 : zLN RX6 178 RX5 TX5 0 "Transitry" := ⟨zn_in 607 (by decide +kernel) rfl, rfl⟩
theorem zl_X6_181 : zLN RX6 181 RX5 TX5 2 "Transitry" := ⟨zn_in 611 (by decide +kernel) rfl, rfl⟩
theorem zl_X6_184 : zLN RX6 184 RX5 TX5 3 "Transitry" := ⟨zn_in 613 (by decide +kernel) rfl, rfl⟩
theorem zl_X6_187 : zLN RX6 187 RX5 TX5 5 "Transitry" := ⟨zn_in 618 (by decide +kernel) rfl, rfl⟩
theorem zl_X6_191 : zLN RX6 191 RX5 TX5 4 "Transitry" := ⟨zn_in 615 (by decide +kernel) rfl, rfl⟩
theorem zl_X6_192 : zLN RX6 192 RX5 TX5 1 "Transitry" := ⟨zn_in 609 (by decide +kernel) rfl, rfl⟩
theorem zy_X6_paperAt : zY yX6_paperAt cX6_paperAt 2 (some (.object "Transitry$Paper")) 1 := ⟨(wa_in 661 (by decide +kernel) rfl), (wa_in 28 (by decide +kernel) rfl), by decide +kernel, by decide +kernel, by decide +kernel⟩
theorem zm_X6_195 : zV RX6 195 yX6_paperAt := ⟨(wa_in 658 (by decide +kernel) rfl), (wa_in 660 (by decide +kernel) rfl), (wa_in 13 (by decide +kernel) rfl)⟩
theorem zn_X6_199 : zNewW RX6 199 RX2 3 := ⟨(wa_in 663 (by decide +kernel) rfl), (wa_in 664 (by decide +kernel) rfl), (wa_in 52 (by decide +kernel) rfl)⟩
theorem zy_X2_init : zY yX2_init cX2_init 3 (none) 2 := ⟨(wa_in 667 (by decide +kernel) rfl), (wa_in 52 (by decide +kernel) rfl), by decide +kernel, by decide +kernel, by decide +kernel⟩
theorem zm_X6_201 : zI RX6 201 yX2_init := ⟨(wa_in 665 (by decide +kernel) rfl), (wa_in 666 (by decide +kernel) rfl), rfl⟩
theorem zy_X2_mustFall : zY yX2_mustFall cX2_mustFall 1 (some .boolean) 0 := ⟨(wa_in 683 (by decide +kernel) rfl), (wa_in 52 (by decide +kernel) rfl), by decide +kernel, by decide +kernel, by decide +kernel⟩
theorem zm_X6_204 : zV RX6 204 yX2_mustFall := ⟨(wa_in 680 (by decide +kernel) rfl), (wa_in 681 (by decide +kernel) rfl), (wa_in 682 (by decide +kernel) rfl)⟩
theorem zy_X6_letPapersFall : zY yX6_letPapersFall cX6_letPapersFall 4 (some .int) 0 := ⟨(wa_in 697 (by decide +kernel) rfl), (wa_in 28 (by decide +kernel) rfl), by decide +kernel, by decide +kernel, by decide +kernel⟩
theorem zm_X6_214 : zV RX6 214 yX6_letPapersFall := ⟨(wa_in 694 (by decide +kernel) rfl), (wa_in 696 (by decide +kernel) rfl), (wa_in 14 (by decide +kernel) rfl)⟩
theorem zl_X6_217 : zLN RX6 217 RX2 TX2 2 "Transitry" := ⟨zn_in 672 (by decide +kernel) rfl, rfl⟩
theorem zn_X6_220 : zNewW RX6 220 "java/lang/IndexOutOfBoundsException" 6 := ⟨(wa_in 348 (by decide +kernel) rfl), (wa_in 349 (by decide +kernel) rfl), (wa_in 45 (by decide +kernel) rfl)⟩
theorem zm_X6_224 : Cond.methodLink RX6 224 ⟨"java/lang/IndexOutOfBoundsException", "<init>", "(Ljava/lang/String;)V"⟩ ∈ WA := (wa_in 358 (by decide +kernel) rfl)
theorem zy_Jx4a65c_get_915e3 : zY yJx4a65c_get_915e3 cJx4a65c_get_915e3 2 (some (.object "java/lang/Object")) 1 := ⟨(wa_in 367 (by decide +kernel) rfl), (wa_in 31 (by decide +kernel) rfl), by decide +kernel, by decide +kernel, by decide +kernel⟩
theorem zm_X6_225 : zV RX6 225 yJx4a65c_get_915e3 := ⟨(wa_in 364 (by decide +kernel) rfl), (wa_in 365 (by decide +kernel) rfl), (wa_in 366 (by decide +kernel) rfl)⟩
theorem zc_X6_53 : Cond.classLink RX6 53 "Transitry$Star" ∈ WA := (wa_in 229 (by decide +kernel) rfl)
theorem zc_X6_166 : Cond.classLink RX6 166 "Transitry$World" ∈ WA := (wa_in 589 (by decide +kernel) rfl)
theorem zc_X6_199 : Cond.classLink RX6 199 "Transitry$Paper" ∈ WA := (wa_in 663 (by decide +kernel) rfl)
theorem zn_X6_235 : zNewW RX6 235 "java/lang/IllegalArgumentException" 6 := ⟨(wa_in 141 (by decide +kernel) rfl), (wa_in 142 (by decide +kernel) rfl), (wa_in 37 (by decide +kernel) rfl)⟩
theorem zm_X6_239 : Cond.methodLink RX6 239 ⟨"java/lang/IllegalArgumentException", "<init>", "(Ljava/lang/String;)V"⟩ ∈ WA := (wa_in 183 (by decide +kernel) rfl)
theorem zk_X6_248 : Cond.constantLong RX6 248 (-9223372036854775808) ∈ WA := (wa_in 448 (by decide +kernel) rfl)
theorem zk_X6_250 : Cond.constantLong RX6 250 (1023) ∈ WA := (wa_in 449 (by decide +kernel) rfl)
theorem zk_X6_252 : Cond.constantDouble RX6 252 (4611686018427387904) ∈ WA := (wa_in 450 (by decide +kernel) rfl)
theorem zk_X6_254 : Cond.constantDouble RX6 254 (4841369599423283200) ∈ WA := (wa_in 451 (by decide +kernel) rfl)
theorem zm_X7_1 : Cond.methodLink RX7 1 objectInit ∈ WA := (wa_in 710 (by decide +kernel) rfl)
theorem zl_X7_7 : zL RX7 7 RX7 TX7 2 := ⟨(wa_in 713 (by decide +kernel) rfl), Or.inl rfl⟩
theorem zl_X7_13 : zL RX7 13 RX7 TX7 3 := ⟨(wa_in 714 (by decide +kernel) rfl), Or.inl rfl⟩
theorem zl_X7_16 : zL RX7 16 RX7 TX7 4 := ⟨(wa_in 715 (by decide +kernel) rfl), Or.inl rfl⟩
theorem zl_X7_19 : zL RX7 19 RX7 TX7 5 := ⟨(wa_in 716 (by decide +kernel) rfl), Or.inl rfl⟩
theorem zl_X7_22 : zL RX7 22 RX7 TX7 6 := ⟨(wa_in 717 (by decide +kernel) rfl), Or.inl rfl⟩
theorem zl_X7_25 : zL RX7 25 RX7 TX7 7 := ⟨(wa_in 718 (by decide +kernel) rfl), Or.inl rfl⟩
theorem zl_X7_28 : zL RX7 28 RX7 TX7 8 := ⟨(wa_in 719 (by decide +kernel) rfl), Or.inl rfl⟩
theorem zl_X7_31 : zL RX7 31 RX7 TX7 9 := ⟨(wa_in 720 (by decide +kernel) rfl), Or.inl rfl⟩
theorem zl_X7_34 : zL RX7 34 RX7 TX7 10 := ⟨(wa_in 721 (by decide +kernel) rfl), Or.inl rfl⟩
theorem zl_X7_37 : zL RX7 37 RX7 TX7 11 := ⟨(wa_in 722 (by decide +kernel) rfl), Or.inl rfl⟩
theorem zl_X7_41 : zL RX7 41 RX7 TX7 12 := ⟨(wa_in 723 (by decide +kernel) rfl), Or.inl rfl⟩
theorem zl_X7_44 : zL RX7 44 RX7 TX7 13 := ⟨(wa_in 724 (by decide +kernel) rfl), Or.inl rfl⟩
theorem zl_X7_48 : zL RX7 48 RX7 TX7 14 := ⟨(wa_in 725 (by decide +kernel) rfl), Or.inl rfl⟩
theorem zl_X7_51 : zL RX7 51 RX7 TX7 15 := ⟨(wa_in 726 (by decide +kernel) rfl), Or.inl rfl⟩
theorem zl_X7_54 : zL RX7 54 RX7 TX7 16 := ⟨(wa_in 727 (by decide +kernel) rfl), Or.inl rfl⟩
theorem zl_X7_57 : zL RX7 57 RX7 TX7 20 := ⟨(wa_in 731 (by decide +kernel) rfl), Or.inl rfl⟩
theorem zl_X7_60 : zL RX7 60 RX7 TX7 21 := ⟨(wa_in 732 (by decide +kernel) rfl), Or.inl rfl⟩
theorem zl_X7_63 : zL RX7 63 RX7 TX7 22 := ⟨(wa_in 733 (by decide +kernel) rfl), Or.inl rfl⟩
theorem zl_X7_66 : zL RX7 66 RX7 TX7 23 := ⟨(wa_in 734 (by decide +kernel) rfl), Or.inl rfl⟩
theorem zl_X7_69 : zL RX7 69 RX7 TX7 25 := ⟨(wa_in 736 (by decide +kernel) rfl), Or.inl rfl⟩
theorem zl_X7_72 : zL RX7 72 RX7 TX7 26 := ⟨(wa_in 737 (by decide +kernel) rfl), Or.inl rfl⟩
theorem zl_X7_75 : zL RX7 75 RX7 TX7 0 := ⟨(wa_in 711 (by decide +kernel) rfl), Or.inl rfl⟩
theorem zl_X7_79 : zL RX7 79 RX7 TX7 1 := ⟨(wa_in 712 (by decide +kernel) rfl), Or.inl rfl⟩
theorem zy_X7_isIn : zY yX7_isIn cX7_isIn 3 (some .boolean) 3 := ⟨(wa_in 804 (by decide +kernel) rfl), (wa_in 33 (by decide +kernel) rfl), by decide +kernel, by decide +kernel, by decide +kernel⟩
theorem zm_X7_82 : zSt RX7 82 yX7_isIn := ⟨(wa_in 802 (by decide +kernel) rfl), (wa_in 803 (by decide +kernel) rfl)⟩
theorem zk_X7_86 : Cond.constant RX7 86 (1000000) ∈ WA := (wa_in 801 (by decide +kernel) rfl)
theorem zy_X7_isStar : zY yX7_isStar cX7_isStar 2 (some .boolean) 1 := ⟨(wa_in 812 (by decide +kernel) rfl), (wa_in 33 (by decide +kernel) rfl), by decide +kernel, by decide +kernel, by decide +kernel⟩
theorem zm_X7_87 : zV RX7 87 yX7_isStar := ⟨(wa_in 809 (by decide +kernel) rfl), (wa_in 811 (by decide +kernel) rfl), (wa_in 15 (by decide +kernel) rfl)⟩
theorem zy_X7_remainder : zY yX7_remainder cX7_remainder 3 (some .int) 2 := ⟨(wa_in 834 (by decide +kernel) rfl), (wa_in 33 (by decide +kernel) rfl), by decide +kernel, by decide +kernel, by decide +kernel⟩
theorem zm_X7_91 : zSt RX7 91 yX7_remainder := ⟨(wa_in 832 (by decide +kernel) rfl), (wa_in 833 (by decide +kernel) rfl)⟩
theorem zk_X7_95 : Cond.constantDouble RX7 95 (4652007308841189376) ∈ WA := (wa_in 835 (by decide +kernel) rfl)
theorem zy_X7_isHour : zY yX7_isHour cX7_isHour 1 (some .boolean) 1 := ⟨(wa_in 827 (by decide +kernel) rfl), (wa_in 33 (by decide +kernel) rfl), by decide +kernel, by decide +kernel, by decide +kernel⟩
theorem zm_X7_97 : zSt RX7 97 yX7_isHour := ⟨(wa_in 825 (by decide +kernel) rfl), (wa_in 826 (by decide +kernel) rfl)⟩
theorem zy_X7_lightOf : zY yX7_lightOf cX7_lightOf 6 (some .double) 2 := ⟨(wa_in 831 (by decide +kernel) rfl), (wa_in 33 (by decide +kernel) rfl), by decide +kernel, by decide +kernel, by decide +kernel⟩
theorem zm_X7_100 : zV RX7 100 yX7_lightOf := ⟨(wa_in 828 (by decide +kernel) rfl), (wa_in 830 (by decide +kernel) rfl), (wa_in 16 (by decide +kernel) rfl)⟩
theorem zy_Jxe99ae_doubleToLongBits_ccdee : zY yJxe99ae_doubleToLongBits_ccdee cJxe99ae_doubleToLongBits_ccdee 2 (some .long) 1 := ⟨(wa_in 838 (by decide +kernel) rfl), (wa_in 50 (by decide +kernel) rfl), by decide +kernel, by decide +kernel, by decide +kernel⟩
theorem zm_X7_104 : zSt RX7 104 yJxe99ae_doubleToLongBits_ccdee := ⟨(wa_in 836 (by decide +kernel) rfl), (wa_in 837 (by decide +kernel) rfl)⟩
theorem zk_X7_110 : Cond.constantLong RX7 110 (-1) ∈ WA := (wa_in 858 (by decide +kernel) rfl)
theorem zy_X7_meanOf : zY yX7_meanOf cX7_meanOf 5 (some .double) 1 := ⟨(wa_in 878 (by decide +kernel) rfl), (wa_in 33 (by decide +kernel) rfl), by decide +kernel, by decide +kernel, by decide +kernel⟩
theorem zm_X7_112 : zV RX7 112 yX7_meanOf := ⟨(wa_in 875 (by decide +kernel) rfl), (wa_in 877 (by decide +kernel) rfl), (wa_in 20 (by decide +kernel) rfl)⟩
theorem zy_X7_folds : zY yX7_folds cX7_folds 4 (none) 2 := ⟨(wa_in 882 (by decide +kernel) rfl), (wa_in 33 (by decide +kernel) rfl), by decide +kernel, by decide +kernel, by decide +kernel⟩
theorem zm_X7_116 : zV RX7 116 yX7_folds := ⟨(wa_in 879 (by decide +kernel) rfl), (wa_in 881 (by decide +kernel) rfl), (wa_in 21 (by decide +kernel) rfl)⟩
theorem zl_X7_120 : zL RX7 120 RX7 TX7 18 := ⟨(wa_in 729 (by decide +kernel) rfl), Or.inl rfl⟩
theorem zl_X7_123 : zL RX7 123 RX7 TX7 17 := ⟨(wa_in 728 (by decide +kernel) rfl), Or.inl rfl⟩
theorem zy_X7_hasFew : zY yX7_hasFew cX7_hasFew 2 (some .boolean) 1 := ⟨(wa_in 870 (by decide +kernel) rfl), (wa_in 33 (by decide +kernel) rfl), by decide +kernel, by decide +kernel, by decide +kernel⟩
theorem zm_X7_127 : zV RX7 127 yX7_hasFew := ⟨(wa_in 867 (by decide +kernel) rfl), (wa_in 869 (by decide +kernel) rfl), (wa_in 18 (by decide +kernel) rfl)⟩
theorem zy_X7_thrownFor : zY yX7_thrownFor cX7_thrownFor 3 (some .int) 2 := ⟨(wa_in 866 (by decide +kernel) rfl), (wa_in 33 (by decide +kernel) rfl), by decide +kernel, by decide +kernel, by decide +kernel⟩
theorem zm_X7_130 : zV RX7 130 yX7_thrownFor := ⟨(wa_in 863 (by decide +kernel) rfl), (wa_in 865 (by decide +kernel) rfl), (wa_in 17 (by decide +kernel) rfl)⟩
theorem zy_X7_scores : zY yX7_scores cX7_scores 9 (none) 2 := ⟨(wa_in 874 (by decide +kernel) rfl), (wa_in 33 (by decide +kernel) rfl), by decide +kernel, by decide +kernel, by decide +kernel⟩
theorem zm_X7_133 : zV RX7 133 yX7_scores := ⟨(wa_in 871 (by decide +kernel) rfl), (wa_in 873 (by decide +kernel) rfl), (wa_in 19 (by decide +kernel) rfl)⟩
theorem zy_X7_isThreshold : zY yX7_isThreshold cX7_isThreshold 1 (some .boolean) 1 := ⟨(wa_in 893 (by decide +kernel) rfl), (wa_in 33 (by decide +kernel) rfl), by decide +kernel, by decide +kernel, by decide +kernel⟩
theorem zm_X7_136 : zSt RX7 136 yX7_isThreshold := ⟨(wa_in 891 (by decide +kernel) rfl), (wa_in 892 (by decide +kernel) rfl)⟩
theorem zy_X7_periodOf : zY yX7_periodOf cX7_periodOf 7 (some .int) 2 := ⟨(wa_in 897 (by decide +kernel) rfl), (wa_in 33 (by decide +kernel) rfl), by decide +kernel, by decide +kernel, by decide +kernel⟩
theorem zm_X7_139 : zV RX7 139 yX7_periodOf := ⟨(wa_in 894 (by decide +kernel) rfl), (wa_in 896 (by decide +kernel) rfl), (wa_in 22 (by decide +kernel) rfl)⟩
theorem zl_X7_142 : zL RX7 142 RX7 TX7 19 := ⟨(wa_in 730 (by decide +kernel) rfl), Or.inl rfl⟩
theorem zy_X7_isWorld : zY yX7_isWorld cX7_isWorld 2 (some .boolean) 1 := ⟨(wa_in 917 (by decide +kernel) rfl), (wa_in 33 (by decide +kernel) rfl), by decide +kernel, by decide +kernel, by decide +kernel⟩
theorem zm_X7_145 : zV RX7 145 yX7_isWorld := ⟨(wa_in 914 (by decide +kernel) rfl), (wa_in 916 (by decide +kernel) rfl), (wa_in 23 (by decide +kernel) rfl)⟩
theorem zl_X7_148 : zL RX7 148 RX7 TX7 24 := ⟨(wa_in 735 (by decide +kernel) rfl), Or.inl rfl⟩
theorem zy_X7_fell : zY yX7_fell cX7_fell 3 (some .boolean) 1 := ⟨(wa_in 933 (by decide +kernel) rfl), (wa_in 33 (by decide +kernel) rfl), by decide +kernel, by decide +kernel, by decide +kernel⟩
theorem zm_X7_151 : zV RX7 151 yX7_fell := ⟨(wa_in 930 (by decide +kernel) rfl), (wa_in 932 (by decide +kernel) rfl), (wa_in 25 (by decide +kernel) rfl)⟩
theorem zy_X7_isPaper : zY yX7_isPaper cX7_isPaper 2 (some .boolean) 1 := ⟨(wa_in 929 (by decide +kernel) rfl), (wa_in 33 (by decide +kernel) rfl), by decide +kernel, by decide +kernel, by decide +kernel⟩
theorem zm_X7_154 : zV RX7 154 yX7_isPaper := ⟨(wa_in 926 (by decide +kernel) rfl), (wa_in 928 (by decide +kernel) rfl), (wa_in 24 (by decide +kernel) rfl)⟩
theorem zy_X7_fallen : zY yX7_fallen cX7_fallen 3 (some .int) 0 := ⟨(wa_in 941 (by decide +kernel) rfl), (wa_in 33 (by decide +kernel) rfl), by decide +kernel, by decide +kernel, by decide +kernel⟩
theorem zm_X7_157 : zV RX7 157 yX7_fallen := ⟨(wa_in 938 (by decide +kernel) rfl), (wa_in 940 (by decide +kernel) rfl), (wa_in 26 (by decide +kernel) rfl)⟩
theorem zm_X0_3 : Cond.methodLink RX0 3 objectInit ∈ WA := (wa_in 92 (by decide +kernel) rfl)
theorem zl_X0_9 : zL RX0 9 RX0 TX0 0 := ⟨(wa_in 93 (by decide +kernel) rfl), Or.inl rfl⟩
theorem zl_X0_15 : zL RX0 15 RX0 TX0 1 := ⟨(wa_in 94 (by decide +kernel) rfl), Or.inl rfl⟩
theorem zl_X0_19 : zL RX0 19 RX0 TX0 2 := ⟨(wa_in 95 (by decide +kernel) rfl), Or.inl rfl⟩
theorem zl_X0_23 : zL RX0 23 RX0 TX0 3 := ⟨(wa_in 96 (by decide +kernel) rfl), Or.inl rfl⟩
theorem zy_J7_fill_7f8df : zY yJ7_fill_7f8df cJ7_fill_7f8df 5 (none) 2 := ⟨(wa_in 517 (by decide +kernel) rfl), (wa_in 43 (by decide +kernel) rfl), by decide +kernel, by decide +kernel, by decide +kernel⟩
theorem zm_X0_27 : zSt RX0 27 yJ7_fill_7f8df := ⟨(wa_in 515 (by decide +kernel) rfl), (wa_in 516 (by decide +kernel) rfl)⟩
theorem zy_J7_fill_53178 : zY yJ7_fill_53178 cJ7_fill_53178 4 (none) 2 := ⟨(wa_in 520 (by decide +kernel) rfl), (wa_in 43 (by decide +kernel) rfl), by decide +kernel, by decide +kernel, by decide +kernel⟩
theorem zm_X0_33 : zSt RX0 33 yJ7_fill_53178 := ⟨(wa_in 518 (by decide +kernel) rfl), (wa_in 519 (by decide +kernel) rfl)⟩
theorem zl_X0_36 : zLN RX0 36 RX1 TX1 0 "Transitry" := ⟨zn_in 244 (by decide +kernel) rfl, rfl⟩
theorem zl_X0_41 : zLN RX0 41 RX1 TX1 1 "Transitry" := ⟨zn_in 246 (by decide +kernel) rfl, rfl⟩
theorem zm_X0_44 : zV RX0 44 yX0_hasHours := ⟨(wa_in 525 (by decide +kernel) rfl), (wa_in 526 (by decide +kernel) rfl), (wa_in 527 (by decide +kernel) rfl)⟩
theorem zm_X0_48 : zV RX0 48 yX0_meanOf := ⟨(wa_in 533 (by decide +kernel) rfl), (wa_in 534 (by decide +kernel) rfl), (wa_in 535 (by decide +kernel) rfl)⟩
theorem zm_X0_52 : zV RX0 52 yX0_scoreOf := ⟨(wa_in 529 (by decide +kernel) rfl), (wa_in 530 (by decide +kernel) rfl), (wa_in 531 (by decide +kernel) rfl)⟩
theorem zm_X1_3 : Cond.methodLink RX1 3 objectInit ∈ WA := (wa_in 242 (by decide +kernel) rfl)
theorem zl_X1_9 : zL RX1 9 RX1 TX1 0 := ⟨(wa_in 243 (by decide +kernel) rfl), Or.inl rfl⟩
theorem zl_X1_15 : zL RX1 15 RX1 TX1 1 := ⟨(wa_in 245 (by decide +kernel) rfl), Or.inl rfl⟩
theorem zm_X1_19 : Cond.methodLink RX1 19 ⟨"[D", "clone", "()Ljava/lang/Object;"⟩ ∈ WA := (wa_in 595 (by decide +kernel) rfl)
theorem zc_X1_20 : Cond.classLink RX1 20 "[D" ∈ WA := (wa_in 601 (by decide +kernel) rfl)
theorem zm_X1_24 : zV RX1 24 yX1_lightOf := ⟨(wa_in 482 (by decide +kernel) rfl), (wa_in 483 (by decide +kernel) rfl), (wa_in 484 (by decide +kernel) rfl)⟩
theorem zm_X2_1 : Cond.methodLink RX2 1 objectInit ∈ WA := (wa_in 668 (by decide +kernel) rfl)
theorem zl_X2_7 : zL RX2 7 RX2 TX2 2 := ⟨(wa_in 671 (by decide +kernel) rfl), Or.inl rfl⟩
theorem zl_X2_13 : zL RX2 13 RX2 TX2 0 := ⟨(wa_in 669 (by decide +kernel) rfl), Or.inl rfl⟩
theorem zl_X2_17 : zL RX2 17 RX2 TX2 1 := ⟨(wa_in 670 (by decide +kernel) rfl), Or.inl rfl⟩
theorem zl_X2_21 : zLN RX2 21 RX5 TX5 5 "Transitry" := ⟨zn_in 617 (by decide +kernel) rfl, rfl⟩
theorem zm_X3_1 : Cond.methodLink RX3 1 objectInit ∈ WA := (wa_in 385 (by decide +kernel) rfl)
theorem zl_X3_7 : zL RX3 7 RX3 TX3 0 := ⟨(wa_in 387 (by decide +kernel) rfl), Or.inl rfl⟩
theorem zl_X3_13 : zL RX3 13 RX3 TX3 1 := ⟨(wa_in 388 (by decide +kernel) rfl), Or.inl rfl⟩
theorem zl_X3_16 : zL RX3 16 RX3 TX3 2 := ⟨(wa_in 389 (by decide +kernel) rfl), Or.inl rfl⟩
theorem zk_X3_19 : Cond.constantDouble RX3 19 (4652007308841189376) ∈ WA := (wa_in 386 (by decide +kernel) rfl)
theorem zl_X3_21 : zL RX3 21 RX3 TX3 3 := ⟨(wa_in 390 (by decide +kernel) rfl), Or.inl rfl⟩
theorem zy_J9_floorMod_7cf53 : zY yJ9_floorMod_7cf53 cJ9_floorMod_7cf53 3 (some .int) 2 := ⟨(wa_in 439 (by decide +kernel) rfl), (wa_in 42 (by decide +kernel) rfl), by decide +kernel, by decide +kernel, by decide +kernel⟩
theorem zm_X3_25 : zSt RX3 25 yJ9_floorMod_7cf53 := ⟨(wa_in 437 (by decide +kernel) rfl), (wa_in 438 (by decide +kernel) rfl)⟩
theorem zm_X4_1 : Cond.methodLink RX4 1 objectInit ∈ WA := (wa_in 234 (by decide +kernel) rfl)
theorem zn_X4_7 : zNewW RX4 7 RJx4a65c 3 := ⟨(wa_in 235 (by decide +kernel) rfl), (wa_in 62 (by decide +kernel) rfl), (wa_in 31 (by decide +kernel) rfl)⟩
theorem zm_X4_9 : zI RX4 9 yJx4a65c_init_da8c8 := ⟨(wa_in 236 (by decide +kernel) rfl), (wa_in 64 (by decide +kernel) rfl), rfl⟩
theorem zl_X4_10 : zL RX4 10 RX4 TX4 1 := ⟨(wa_in 254 (by decide +kernel) rfl), Or.inl rfl⟩
theorem zl_X4_16 : zL RX4 16 RX4 TX4 2 := ⟨(wa_in 256 (by decide +kernel) rfl), Or.inl rfl⟩
theorem zl_X4_20 : zL RX4 20 RX4 TX4 3 := ⟨(wa_in 258 (by decide +kernel) rfl), Or.inl rfl⟩
theorem zl_X4_23 : zL RX4 23 RX4 TX4 4 := ⟨(wa_in 260 (by decide +kernel) rfl), Or.inl rfl⟩
theorem zn_X4_26 : zNewW RX4 26 RX1 2 := ⟨(wa_in 237 (by decide +kernel) rfl), (wa_in 238 (by decide +kernel) rfl), (wa_in 40 (by decide +kernel) rfl)⟩
theorem zy_X1_init : zY yX1_init cX1_init 1 (none) 0 := ⟨(wa_in 241 (by decide +kernel) rfl), (wa_in 40 (by decide +kernel) rfl), by decide +kernel, by decide +kernel, by decide +kernel⟩
theorem zm_X4_28 : zI RX4 28 yX1_init := ⟨(wa_in 239 (by decide +kernel) rfl), (wa_in 240 (by decide +kernel) rfl), rfl⟩
theorem zl_X4_29 : zL RX4 29 RX4 TX4 5 := ⟨(wa_in 262 (by decide +kernel) rfl), Or.inl rfl⟩
theorem zl_X4_33 : zL RX4 33 RX4 TX4 0 := ⟨(wa_in 253 (by decide +kernel) rfl), Or.inl rfl⟩
theorem zm_X4_36 : zV RX4 36 yJx4a65c_size_8abf5 := ⟨(wa_in 430 (by decide +kernel) rfl), (wa_in 210 (by decide +kernel) rfl), (wa_in 211 (by decide +kernel) rfl)⟩
theorem zm_X4_40 : zV RX4 40 yJx4a65c_get_915e3 := ⟨(wa_in 431 (by decide +kernel) rfl), (wa_in 365 (by decide +kernel) rfl), (wa_in 366 (by decide +kernel) rfl)⟩
theorem zc_X4_44 : Cond.classLink RX4 44 "Transitry$Planet" ∈ WA := (wa_in 432 (by decide +kernel) rfl)
theorem zy_X3_dipsIn : zY yX3_dipsIn cX3_dipsIn 2 (some .boolean) 1 := ⟨(wa_in 436 (by decide +kernel) rfl), (wa_in 48 (by decide +kernel) rfl), by decide +kernel, by decide +kernel, by decide +kernel⟩
theorem zm_X4_46 : zV RX4 46 yX3_dipsIn := ⟨(wa_in 433 (by decide +kernel) rfl), (wa_in 434 (by decide +kernel) rfl), (wa_in 435 (by decide +kernel) rfl)⟩
theorem zl_X4_50 : zLN RX4 50 RX3 TX3 3 "Transitry" := ⟨zn_in 391 (by decide +kernel) rfl, rfl⟩
theorem zy_X4_showsSpots : zY yX4_showsSpots cX4_showsSpots 2 (some .boolean) 1 := ⟨(wa_in 443 (by decide +kernel) rfl), (wa_in 39 (by decide +kernel) rfl), by decide +kernel, by decide +kernel, by decide +kernel⟩
theorem zm_X4_54 : zV RX4 54 yX4_showsSpots := ⟨(wa_in 440 (by decide +kernel) rfl), (wa_in 442 (by decide +kernel) rfl), (wa_in 5 (by decide +kernel) rfl)⟩
theorem zk_X4_57 : Cond.constantDouble RX4 57 (4652007308841189376) ∈ WA := (wa_in 444 (by decide +kernel) rfl)
theorem zm_X5_1 : Cond.methodLink RX5 1 objectInit ∈ WA := (wa_in 605 (by decide +kernel) rfl)
theorem zl_X5_7 : zL RX5 7 RX5 TX5 5 := ⟨(wa_in 616 (by decide +kernel) rfl), Or.inl rfl⟩
theorem zl_X5_13 : zL RX5 13 RX5 TX5 0 := ⟨(wa_in 606 (by decide +kernel) rfl), Or.inl rfl⟩
theorem zl_X5_17 : zL RX5 17 RX5 TX5 1 := ⟨(wa_in 608 (by decide +kernel) rfl), Or.inl rfl⟩
theorem zl_X5_20 : zL RX5 20 RX5 TX5 2 := ⟨(wa_in 610 (by decide +kernel) rfl), Or.inl rfl⟩
theorem zl_X5_23 : zL RX5 23 RX5 TX5 3 := ⟨(wa_in 612 (by decide +kernel) rfl), Or.inl rfl⟩
theorem zl_X5_26 : zL RX5 26 RX5 TX5 4 := ⟨(wa_in 614 (by decide +kernel) rfl), Or.inl rfl⟩
theorem zy_X6_star : zY yX6_star cX6_star 2 (some .int) 1 := ⟨(wa_in 136 (by decide +kernel) rfl), (wa_in 28 (by decide +kernel) rfl), by decide +kernel, by decide +kernel, by decide +kernel⟩
theorem zm_L_7 : zV RL 7 yX6_star := ⟨(wa_in 133 (by decide +kernel) rfl), (wa_in 134 (by decide +kernel) rfl), (wa_in 135 (by decide +kernel) rfl)⟩
theorem zy_X6_planet : zY yX6_planet cX6_planet 7 (some .int) 5 := ⟨(wa_in 343 (by decide +kernel) rfl), (wa_in 28 (by decide +kernel) rfl), by decide +kernel, by decide +kernel, by decide +kernel⟩
theorem zm_L_17 : zV RL 17 yX6_planet := ⟨(wa_in 340 (by decide +kernel) rfl), (wa_in 341 (by decide +kernel) rfl), (wa_in 342 (by decide +kernel) rfl)⟩
theorem zy_X6_spots : zY yX6_spots cX6_spots 6 (some .int) 3 := ⟨(wa_in 407 (by decide +kernel) rfl), (wa_in 28 (by decide +kernel) rfl), by decide +kernel, by decide +kernel, by decide +kernel⟩
theorem zm_L_23 : zV RL 23 yX6_spots := ⟨(wa_in 404 (by decide +kernel) rfl), (wa_in 405 (by decide +kernel) rfl), (wa_in 406 (by decide +kernel) rfl)⟩
theorem zy_X6_blend : zY yX6_blend cX6_blend 5 (some .int) 2 := ⟨(wa_in 414 (by decide +kernel) rfl), (wa_in 28 (by decide +kernel) rfl), by decide +kernel, by decide +kernel, by decide +kernel⟩
theorem zm_L_27 : zV RL 27 yX6_blend := ⟨(wa_in 411 (by decide +kernel) rfl), (wa_in 412 (by decide +kernel) rfl), (wa_in 413 (by decide +kernel) rfl)⟩
theorem zy_X6_light : zY yX6_light cX6_light 4 (some .long) 2 := ⟨(wa_in 421 (by decide +kernel) rfl), (wa_in 28 (by decide +kernel) rfl), by decide +kernel, by decide +kernel, by decide +kernel⟩
theorem zm_L_31 : zV RL 31 yX6_light := ⟨(wa_in 418 (by decide +kernel) rfl), (wa_in 419 (by decide +kernel) rfl), (wa_in 420 (by decide +kernel) rfl)⟩
theorem zy_X6_cloud : zY yX6_cloud cX6_cloud 4 (some .int) 2 := ⟨(wa_in 458 (by decide +kernel) rfl), (wa_in 28 (by decide +kernel) rfl), by decide +kernel, by decide +kernel, by decide +kernel⟩
theorem zm_L_35 : zV RL 35 yX6_cloud := ⟨(wa_in 455 (by decide +kernel) rfl), (wa_in 456 (by decide +kernel) rfl), (wa_in 457 (by decide +kernel) rfl)⟩
theorem zy_X6_observe : zY yX6_observe cX6_observe 7 (some .int) 3 := ⟨(wa_in 477 (by decide +kernel) rfl), (wa_in 28 (by decide +kernel) rfl), by decide +kernel, by decide +kernel, by decide +kernel⟩
theorem zm_L_38 : zV RL 38 yX6_observe := ⟨(wa_in 474 (by decide +kernel) rfl), (wa_in 475 (by decide +kernel) rfl), (wa_in 476 (by decide +kernel) rfl)⟩
theorem zy_X6_kept : zY yX6_kept cX6_kept 4 (some .long) 2 := ⟨(wa_in 496 (by decide +kernel) rfl), (wa_in 28 (by decide +kernel) rfl), by decide +kernel, by decide +kernel, by decide +kernel⟩
theorem zm_L_41 : zV RL 41 yX6_kept := ⟨(wa_in 493 (by decide +kernel) rfl), (wa_in 494 (by decide +kernel) rfl), (wa_in 495 (by decide +kernel) rfl)⟩
theorem zy_X6_score : zY yX6_score cX6_score 3 (some .long) 2 := ⟨(wa_in 505 (by decide +kernel) rfl), (wa_in 28 (by decide +kernel) rfl), by decide +kernel, by decide +kernel, by decide +kernel⟩
theorem zm_L_44 : zV RL 44 yX6_score := ⟨(wa_in 502 (by decide +kernel) rfl), (wa_in 503 (by decide +kernel) rfl), (wa_in 504 (by decide +kernel) rfl)⟩
theorem zy_X6_phase : zY yX6_phase cX6_phase 3 (some .int) 2 := ⟨(wa_in 544 (by decide +kernel) rfl), (wa_in 28 (by decide +kernel) rfl), by decide +kernel, by decide +kernel, by decide +kernel⟩
theorem zm_L_47 : zV RL 47 yX6_phase := ⟨(wa_in 541 (by decide +kernel) rfl), (wa_in 542 (by decide +kernel) rfl), (wa_in 543 (by decide +kernel) rfl)⟩
theorem zy_X6_period : zY yX6_period cX6_period 3 (some .int) 2 := ⟨(wa_in 551 (by decide +kernel) rfl), (wa_in 28 (by decide +kernel) rfl), by decide +kernel, by decide +kernel, by decide +kernel⟩
theorem zm_L_50 : zV RL 50 yX6_period := ⟨(wa_in 548 (by decide +kernel) rfl), (wa_in 549 (by decide +kernel) rfl), (wa_in 550 (by decide +kernel) rfl)⟩
theorem zy_X6_whyNot : zY yX6_whyNot cX6_whyNot 4 (some .int) 2 := ⟨(wa_in 571 (by decide +kernel) rfl), (wa_in 28 (by decide +kernel) rfl), by decide +kernel, by decide +kernel, by decide +kernel⟩
theorem zm_L_53 : zV RL 53 yX6_whyNot := ⟨(wa_in 568 (by decide +kernel) rfl), (wa_in 569 (by decide +kernel) rfl), (wa_in 570 (by decide +kernel) rfl)⟩
theorem zy_X6_oddEven : zY yX6_oddEven cX6_oddEven 6 (some .long) 2 := ⟨(wa_in 578 (by decide +kernel) rfl), (wa_in 28 (by decide +kernel) rfl), by decide +kernel, by decide +kernel, by decide +kernel⟩
theorem zm_L_56 : zV RL 56 yX6_oddEven := ⟨(wa_in 575 (by decide +kernel) rfl), (wa_in 576 (by decide +kernel) rfl), (wa_in 577 (by decide +kernel) rfl)⟩
theorem zy_X6_world : zY yX6_world cX6_world 5 (some .int) 2 := ⟨(wa_in 587 (by decide +kernel) rfl), (wa_in 28 (by decide +kernel) rfl), by decide +kernel, by decide +kernel, by decide +kernel⟩
theorem zm_L_59 : zV RL 59 yX6_world := ⟨(wa_in 584 (by decide +kernel) rfl), (wa_in 585 (by decide +kernel) rfl), (wa_in 586 (by decide +kernel) rfl)⟩
theorem zy_X6_about : zY yX6_about cX6_about 4 (some .int) 2 := ⟨(wa_in 638 (by decide +kernel) rfl), (wa_in 28 (by decide +kernel) rfl), by decide +kernel, by decide +kernel, by decide +kernel⟩
theorem zm_L_62 : zV RL 62 yX6_about := ⟨(wa_in 635 (by decide +kernel) rfl), (wa_in 636 (by decide +kernel) rfl), (wa_in 637 (by decide +kernel) rfl)⟩
theorem zy_X6_periodAnew : zY yX6_periodAnew cX6_periodAnew 3 (some .int) 1 := ⟨(wa_in 650 (by decide +kernel) rfl), (wa_in 28 (by decide +kernel) rfl), by decide +kernel, by decide +kernel, by decide +kernel⟩
theorem zm_L_65 : zV RL 65 yX6_periodAnew := ⟨(wa_in 647 (by decide +kernel) rfl), (wa_in 648 (by decide +kernel) rfl), (wa_in 649 (by decide +kernel) rfl)⟩
theorem zy_X6_paper : zY yX6_paper cX6_paper 6 (some .int) 2 := ⟨(wa_in 657 (by decide +kernel) rfl), (wa_in 28 (by decide +kernel) rfl), by decide +kernel, by decide +kernel, by decide +kernel⟩
theorem zm_L_68 : zV RL 68 yX6_paper := ⟨(wa_in 654 (by decide +kernel) rfl), (wa_in 655 (by decide +kernel) rfl), (wa_in 656 (by decide +kernel) rfl)⟩
theorem zy_X6_withdraw : zY yX6_withdraw cX6_withdraw 3 (some .int) 1 := ⟨(wa_in 692 (by decide +kernel) rfl), (wa_in 28 (by decide +kernel) rfl), by decide +kernel, by decide +kernel, by decide +kernel⟩
theorem zm_L_71 : zV RL 71 yX6_withdraw := ⟨(wa_in 689 (by decide +kernel) rfl), (wa_in 690 (by decide +kernel) rfl), (wa_in 691 (by decide +kernel) rfl)⟩
theorem zy_X6_hasFallen : zY yX6_hasFallen cX6_hasFallen 2 (some .boolean) 1 := ⟨(wa_in 704 (by decide +kernel) rfl), (wa_in 28 (by decide +kernel) rfl), by decide +kernel, by decide +kernel, by decide +kernel⟩
theorem zm_L_74 : zV RL 74 yX6_hasFallen := ⟨(wa_in 701 (by decide +kernel) rfl), (wa_in 702 (by decide +kernel) rfl), (wa_in 703 (by decide +kernel) rfl)⟩
theorem zn_L_8 : zNewW RL 8 RX6 6 := ⟨(wa_in 53 (by decide +kernel) rfl), (wa_in 54 (by decide +kernel) rfl), (wa_in 28 (by decide +kernel) rfl)⟩
theorem zy_X6_init : zY yX6_init cX6_init 1 (none) 0 := ⟨(wa_in 57 (by decide +kernel) rfl), (wa_in 28 (by decide +kernel) rfl), by decide +kernel, by decide +kernel, by decide +kernel⟩
theorem zm_L_78 : zI RL 78 yX6_init := ⟨(wa_in 55 (by decide +kernel) rfl), (wa_in 56 (by decide +kernel) rfl), rfl⟩
theorem zn_L_79 : zNewW RL 79 RX7 27 := ⟨(wa_in 705 (by decide +kernel) rfl), (wa_in 706 (by decide +kernel) rfl), (wa_in 33 (by decide +kernel) rfl)⟩
theorem zy_X7_init : zY yX7_init cX7_init 1 (none) 0 := ⟨(wa_in 709 (by decide +kernel) rfl), (wa_in 33 (by decide +kernel) rfl), by decide +kernel, by decide +kernel, by decide +kernel⟩
theorem zm_L_81 : zI RL 81 yX7_init := ⟨(wa_in 707 (by decide +kernel) rfl), (wa_in 708 (by decide +kernel) rfl), rfl⟩
theorem zm_L_82 : zSt RL 82 yL_star := ⟨(wa_in 128 (by decide +kernel) rfl), (wa_in 129 (by decide +kernel) rfl)⟩
theorem zy_X7_star : zY yX7_star cX7_star 2 (some .int) 1 := ⟨(wa_in 800 (by decide +kernel) rfl), (wa_in 33 (by decide +kernel) rfl), by decide +kernel, by decide +kernel, by decide +kernel⟩
theorem zm_L_87 : zV RL 87 yX7_star := ⟨(wa_in 797 (by decide +kernel) rfl), (wa_in 798 (by decide +kernel) rfl), (wa_in 799 (by decide +kernel) rfl)⟩
theorem zy_X7_thrown : zY yX7_thrown cX7_thrown 1 (some .int) 0 := ⟨(wa_in 796 (by decide +kernel) rfl), (wa_in 33 (by decide +kernel) rfl), by decide +kernel, by decide +kernel, by decide +kernel⟩
theorem zm_L_88 : zV RL 88 yX7_thrown := ⟨(wa_in 793 (by decide +kernel) rfl), (wa_in 794 (by decide +kernel) rfl), (wa_in 795 (by decide +kernel) rfl)⟩
theorem zm_L_92 : zSt RL 92 yL_planet := ⟨(wa_in 336 (by decide +kernel) rfl), (wa_in 337 (by decide +kernel) rfl)⟩
theorem zy_X7_planet : zY yX7_planet cX7_planet 8 (some .int) 5 := ⟨(wa_in 808 (by decide +kernel) rfl), (wa_in 33 (by decide +kernel) rfl), by decide +kernel, by decide +kernel, by decide +kernel⟩
theorem zm_L_95 : zV RL 95 yX7_planet := ⟨(wa_in 805 (by decide +kernel) rfl), (wa_in 806 (by decide +kernel) rfl), (wa_in 807 (by decide +kernel) rfl)⟩
theorem zm_L_96 : zSt RL 96 yL_spots := ⟨(wa_in 401 (by decide +kernel) rfl), (wa_in 402 (by decide +kernel) rfl)⟩
theorem zy_X7_spots : zY yX7_spots cX7_spots 5 (some .int) 3 := ⟨(wa_in 816 (by decide +kernel) rfl), (wa_in 33 (by decide +kernel) rfl), by decide +kernel, by decide +kernel, by decide +kernel⟩
theorem zm_L_99 : zV RL 99 yX7_spots := ⟨(wa_in 813 (by decide +kernel) rfl), (wa_in 814 (by decide +kernel) rfl), (wa_in 815 (by decide +kernel) rfl)⟩
theorem zm_L_100 : zSt RL 100 yL_blend := ⟨(wa_in 408 (by decide +kernel) rfl), (wa_in 409 (by decide +kernel) rfl)⟩
theorem zy_X7_blend : zY yX7_blend cX7_blend 4 (some .int) 2 := ⟨(wa_in 820 (by decide +kernel) rfl), (wa_in 33 (by decide +kernel) rfl), by decide +kernel, by decide +kernel, by decide +kernel⟩
theorem zm_L_103 : zV RL 103 yX7_blend := ⟨(wa_in 817 (by decide +kernel) rfl), (wa_in 818 (by decide +kernel) rfl), (wa_in 819 (by decide +kernel) rfl)⟩
theorem zm_L_104 : zSt RL 104 yL_light := ⟨(wa_in 415 (by decide +kernel) rfl), (wa_in 416 (by decide +kernel) rfl)⟩
theorem zy_X7_light : zY yX7_light cX7_light 3 (some .long) 2 := ⟨(wa_in 824 (by decide +kernel) rfl), (wa_in 33 (by decide +kernel) rfl), by decide +kernel, by decide +kernel, by decide +kernel⟩
theorem zm_L_106 : zV RL 106 yX7_light := ⟨(wa_in 821 (by decide +kernel) rfl), (wa_in 822 (by decide +kernel) rfl), (wa_in 823 (by decide +kernel) rfl)⟩
theorem zm_L_107 : zSt RL 107 yL_cloud := ⟨(wa_in 452 (by decide +kernel) rfl), (wa_in 453 (by decide +kernel) rfl)⟩
theorem zy_X7_cloud : zY yX7_cloud cX7_cloud 5 (some .int) 2 := ⟨(wa_in 849 (by decide +kernel) rfl), (wa_in 33 (by decide +kernel) rfl), by decide +kernel, by decide +kernel, by decide +kernel⟩
theorem zm_L_109 : zV RL 109 yX7_cloud := ⟨(wa_in 846 (by decide +kernel) rfl), (wa_in 847 (by decide +kernel) rfl), (wa_in 848 (by decide +kernel) rfl)⟩
theorem zm_L_110 : zSt RL 110 yL_observe := ⟨(wa_in 471 (by decide +kernel) rfl), (wa_in 472 (by decide +kernel) rfl)⟩
theorem zy_X7_observe : zY yX7_observe cX7_observe 7 (some .int) 3 := ⟨(wa_in 853 (by decide +kernel) rfl), (wa_in 33 (by decide +kernel) rfl), by decide +kernel, by decide +kernel, by decide +kernel⟩
theorem zm_L_112 : zV RL 112 yX7_observe := ⟨(wa_in 850 (by decide +kernel) rfl), (wa_in 851 (by decide +kernel) rfl), (wa_in 852 (by decide +kernel) rfl)⟩
theorem zm_L_113 : zSt RL 113 yL_kept := ⟨(wa_in 490 (by decide +kernel) rfl), (wa_in 491 (by decide +kernel) rfl)⟩
theorem zy_X7_kept : zY yX7_kept cX7_kept 3 (some .long) 2 := ⟨(wa_in 857 (by decide +kernel) rfl), (wa_in 33 (by decide +kernel) rfl), by decide +kernel, by decide +kernel, by decide +kernel⟩
theorem zm_L_115 : zV RL 115 yX7_kept := ⟨(wa_in 854 (by decide +kernel) rfl), (wa_in 855 (by decide +kernel) rfl), (wa_in 856 (by decide +kernel) rfl)⟩
theorem zm_L_116 : zSt RL 116 yL_score := ⟨(wa_in 499 (by decide +kernel) rfl), (wa_in 500 (by decide +kernel) rfl)⟩
theorem zy_X7_score : zY yX7_score cX7_score 3 (some .long) 2 := ⟨(wa_in 862 (by decide +kernel) rfl), (wa_in 33 (by decide +kernel) rfl), by decide +kernel, by decide +kernel, by decide +kernel⟩
theorem zm_L_118 : zV RL 118 yX7_score := ⟨(wa_in 859 (by decide +kernel) rfl), (wa_in 860 (by decide +kernel) rfl), (wa_in 861 (by decide +kernel) rfl)⟩
theorem zm_L_119 : zSt RL 119 yL_phase := ⟨(wa_in 538 (by decide +kernel) rfl), (wa_in 539 (by decide +kernel) rfl)⟩
theorem zy_X7_phase : zY yX7_phase cX7_phase 3 (some .int) 2 := ⟨(wa_in 886 (by decide +kernel) rfl), (wa_in 33 (by decide +kernel) rfl), by decide +kernel, by decide +kernel, by decide +kernel⟩
theorem zm_L_121 : zV RL 121 yX7_phase := ⟨(wa_in 883 (by decide +kernel) rfl), (wa_in 884 (by decide +kernel) rfl), (wa_in 885 (by decide +kernel) rfl)⟩
theorem zm_L_122 : zSt RL 122 yL_period := ⟨(wa_in 545 (by decide +kernel) rfl), (wa_in 546 (by decide +kernel) rfl)⟩
theorem zy_X7_period : zY yX7_period cX7_period 4 (some .int) 2 := ⟨(wa_in 890 (by decide +kernel) rfl), (wa_in 33 (by decide +kernel) rfl), by decide +kernel, by decide +kernel, by decide +kernel⟩
theorem zm_L_124 : zV RL 124 yX7_period := ⟨(wa_in 887 (by decide +kernel) rfl), (wa_in 888 (by decide +kernel) rfl), (wa_in 889 (by decide +kernel) rfl)⟩
theorem zm_L_125 : zSt RL 125 yL_whyNot := ⟨(wa_in 565 (by decide +kernel) rfl), (wa_in 566 (by decide +kernel) rfl)⟩
theorem zy_X7_whyNot : zY yX7_whyNot cX7_whyNot 3 (some .int) 2 := ⟨(wa_in 901 (by decide +kernel) rfl), (wa_in 33 (by decide +kernel) rfl), by decide +kernel, by decide +kernel, by decide +kernel⟩
theorem zm_L_127 : zV RL 127 yX7_whyNot := ⟨(wa_in 898 (by decide +kernel) rfl), (wa_in 899 (by decide +kernel) rfl), (wa_in 900 (by decide +kernel) rfl)⟩
theorem zm_L_128 : zSt RL 128 yL_oddEven := ⟨(wa_in 572 (by decide +kernel) rfl), (wa_in 573 (by decide +kernel) rfl)⟩
theorem zy_X7_oddEven : zY yX7_oddEven cX7_oddEven 7 (some .long) 2 := ⟨(wa_in 905 (by decide +kernel) rfl), (wa_in 33 (by decide +kernel) rfl), by decide +kernel, by decide +kernel, by decide +kernel⟩
theorem zm_L_130 : zV RL 130 yX7_oddEven := ⟨(wa_in 902 (by decide +kernel) rfl), (wa_in 903 (by decide +kernel) rfl), (wa_in 904 (by decide +kernel) rfl)⟩
theorem zm_L_131 : zSt RL 131 yL_world := ⟨(wa_in 581 (by decide +kernel) rfl), (wa_in 582 (by decide +kernel) rfl)⟩
theorem zy_X7_world : zY yX7_world cX7_world 4 (some .int) 2 := ⟨(wa_in 909 (by decide +kernel) rfl), (wa_in 33 (by decide +kernel) rfl), by decide +kernel, by decide +kernel, by decide +kernel⟩
theorem zm_L_133 : zV RL 133 yX7_world := ⟨(wa_in 906 (by decide +kernel) rfl), (wa_in 907 (by decide +kernel) rfl), (wa_in 908 (by decide +kernel) rfl)⟩
theorem zm_L_134 : zSt RL 134 yL_about := ⟨(wa_in 632 (by decide +kernel) rfl), (wa_in 633 (by decide +kernel) rfl)⟩
theorem zy_X7_about : zY yX7_about cX7_about 3 (some .int) 2 := ⟨(wa_in 913 (by decide +kernel) rfl), (wa_in 33 (by decide +kernel) rfl), by decide +kernel, by decide +kernel, by decide +kernel⟩
theorem zm_L_136 : zV RL 136 yX7_about := ⟨(wa_in 910 (by decide +kernel) rfl), (wa_in 911 (by decide +kernel) rfl), (wa_in 912 (by decide +kernel) rfl)⟩
theorem zm_L_137 : zSt RL 137 yL_periodAnew := ⟨(wa_in 644 (by decide +kernel) rfl), (wa_in 645 (by decide +kernel) rfl)⟩
theorem zy_X7_periodAnew : zY yX7_periodAnew cX7_periodAnew 2 (some .int) 1 := ⟨(wa_in 921 (by decide +kernel) rfl), (wa_in 33 (by decide +kernel) rfl), by decide +kernel, by decide +kernel, by decide +kernel⟩
theorem zm_L_139 : zV RL 139 yX7_periodAnew := ⟨(wa_in 918 (by decide +kernel) rfl), (wa_in 919 (by decide +kernel) rfl), (wa_in 920 (by decide +kernel) rfl)⟩
theorem zm_L_140 : zSt RL 140 yL_paper := ⟨(wa_in 651 (by decide +kernel) rfl), (wa_in 652 (by decide +kernel) rfl)⟩
theorem zy_X7_paper : zY yX7_paper cX7_paper 5 (some .int) 2 := ⟨(wa_in 925 (by decide +kernel) rfl), (wa_in 33 (by decide +kernel) rfl), by decide +kernel, by decide +kernel, by decide +kernel⟩
theorem zm_L_142 : zV RL 142 yX7_paper := ⟨(wa_in 922 (by decide +kernel) rfl), (wa_in 923 (by decide +kernel) rfl), (wa_in 924 (by decide +kernel) rfl)⟩
theorem zm_L_143 : zSt RL 143 yL_withdraw := ⟨(wa_in 686 (by decide +kernel) rfl), (wa_in 687 (by decide +kernel) rfl)⟩
theorem zy_X7_withdraw : zY yX7_withdraw cX7_withdraw 3 (some .int) 1 := ⟨(wa_in 937 (by decide +kernel) rfl), (wa_in 33 (by decide +kernel) rfl), by decide +kernel, by decide +kernel, by decide +kernel⟩
theorem zm_L_145 : zV RL 145 yX7_withdraw := ⟨(wa_in 934 (by decide +kernel) rfl), (wa_in 935 (by decide +kernel) rfl), (wa_in 936 (by decide +kernel) rfl)⟩
theorem zm_L_146 : zSt RL 146 yL_hasFallen := ⟨(wa_in 698 (by decide +kernel) rfl), (wa_in 699 (by decide +kernel) rfl)⟩
theorem zy_X7_hasFallen : zY yX7_hasFallen cX7_hasFallen 2 (some .boolean) 1 := ⟨(wa_in 945 (by decide +kernel) rfl), (wa_in 33 (by decide +kernel) rfl), by decide +kernel, by decide +kernel, by decide +kernel⟩
theorem zm_L_148 : zV RL 148 yX7_hasFallen := ⟨(wa_in 942 (by decide +kernel) rfl), (wa_in 943 (by decide +kernel) rfl), (wa_in 944 (by decide +kernel) rfl)⟩
theorem zy_Jxe99ae_isNaN_b9ae7 : zY yJxe99ae_isNaN_b9ae7 cJxe99ae_isNaN_b9ae7 2 (some .boolean) 1 := ⟨(wa_in 841 (by decide +kernel) rfl), (wa_in 50 (by decide +kernel) rfl), by decide +kernel, by decide +kernel, by decide +kernel⟩
theorem zm_Jxe99ae_122 : zSt RJxe99ae 122 yJxe99ae_isNaN_b9ae7 := ⟨(wa_in 839 (by decide +kernel) rfl), (wa_in 840 (by decide +kernel) rfl)⟩
theorem zm_Jxe99ae_134 : Cond.methodLink RJxe99ae 134 ⟨"java/lang/Double", "doubleToRawLongBits", "(D)J"⟩ ∈ WA := (wa_in 842 (by decide +kernel) rfl)
theorem zk_Jxe99ae_137 : Cond.constantLong RJxe99ae 137 (9221120237041090560) ∈ WA := (wa_in 845 (by decide +kernel) rfl)
theorem zm_Jxa1e45_1 : Cond.methodLink RJxa1e45 1 objectInit ∈ WA := (wa_in 72 (by decide +kernel) rfl)
theorem zy_Jxa1e45_init_da8c8 : zY yJxa1e45_init_da8c8 cJxa1e45_init_da8c8 1 (none) 0 := ⟨(wa_in 71 (by decide +kernel) rfl), (wa_in 29 (by decide +kernel) rfl), by decide +kernel, by decide +kernel, by decide +kernel⟩
theorem zm_Jxc12de_1 : zI RJxc12de 1 yJxa1e45_init_da8c8 := ⟨(wa_in 69 (by decide +kernel) rfl), (wa_in 70 (by decide +kernel) rfl), rfl⟩
theorem zl_Jxc12de_7 : zL RJxc12de 7 RJxc12de TJx4a65c 0 := ⟨(wa_in 77 (by decide +kernel) rfl), Or.inl rfl⟩
theorem zy_Jxc12de_init_da8c8 : zY yJxc12de_init_da8c8 cJxc12de_init_da8c8 1 (none) 0 := ⟨(wa_in 68 (by decide +kernel) rfl), (wa_in 30 (by decide +kernel) rfl), by decide +kernel, by decide +kernel, by decide +kernel⟩
theorem zm_Jx4a65c_1 : zI RJx4a65c 1 yJxc12de_init_da8c8 := ⟨(wa_in 66 (by decide +kernel) rfl), (wa_in 67 (by decide +kernel) rfl), rfl⟩
theorem zl_Jx4a65c_39 : Cond.fieldLink RJx4a65c 39 "java/util/ArrayList" "DEFAULTCAPACITY_EMPTY_ELEMENTDATA" "[Ljava/lang/Object;" ∈ WA := (wa_in 73 (by decide +kernel) rfl)
theorem zl_Jx4a65c_9 : zL RJx4a65c 9 RJx4a65c TJx4a65c 1 := ⟨(wa_in 75 (by decide +kernel) rfl), Or.inl rfl⟩
theorem zl_Jx4a65c_63 : zL RJx4a65c 63 RJx4a65c TJx4a65c 0 := ⟨(wa_in 78 (by decide +kernel) rfl), Or.inr (wa_in 79 (by decide +kernel) rfl)⟩
theorem zl_Jx4a65c_48 : zL RJx4a65c 48 RJx4a65c TJx4a65c 2 := ⟨(wa_in 76 (by decide +kernel) rfl), Or.inl rfl⟩
theorem zy_Jx4a65c_add_72be8 : zY yJx4a65c_add_72be8 cJx4a65c_add_72be8 4 (none) 3 := ⟨(wa_in 284 (by decide +kernel) rfl), (wa_in 31 (by decide +kernel) rfl), by decide +kernel, by decide +kernel, by decide +kernel⟩
theorem zm_Jx4a65c_131 : zV RJx4a65c 131 yJx4a65c_add_72be8 := ⟨(wa_in 281 (by decide +kernel) rfl), (wa_in 283 (by decide +kernel) rfl), (wa_in 1 (by decide +kernel) rfl)⟩
theorem zy_Jx4a65c_grow_d5877 : zY yJx4a65c_grow_d5877 cJx4a65c_grow_d5877 1 (some (.array (.object "java/lang/Object"))) 0 := ⟨(wa_in 288 (by decide +kernel) rfl), (wa_in 31 (by decide +kernel) rfl), by decide +kernel, by decide +kernel, by decide +kernel⟩
theorem zm_Jx4a65c_129 : zV RJx4a65c 129 yJx4a65c_grow_d5877 := ⟨(wa_in 285 (by decide +kernel) rfl), (wa_in 287 (by decide +kernel) rfl), (wa_in 2 (by decide +kernel) rfl)⟩
theorem zy_J15_checkIndex_7cf53 : zY yJ15_checkIndex_7cf53 cJ15_checkIndex_7cf53 2 (some .int) 2 := ⟨(wa_in 370 (by decide +kernel) rfl), (wa_in 46 (by decide +kernel) rfl), by decide +kernel, by decide +kernel, by decide +kernel⟩
theorem zm_Jx4a65c_118 : zSt RJx4a65c 118 yJ15_checkIndex_7cf53 := ⟨(wa_in 368 (by decide +kernel) rfl), (wa_in 369 (by decide +kernel) rfl)⟩
theorem zy_Jx4a65c_elementData_915e3 : zY yJx4a65c_elementData_915e3 cJx4a65c_elementData_915e3 2 (some (.object "java/lang/Object")) 1 := ⟨(wa_in 377 (by decide +kernel) rfl), (wa_in 31 (by decide +kernel) rfl), by decide +kernel, by decide +kernel, by decide +kernel⟩
theorem zm_Jx4a65c_123 : zV RJx4a65c 123 yJx4a65c_elementData_915e3 := ⟨(wa_in 374 (by decide +kernel) rfl), (wa_in 375 (by decide +kernel) rfl), (wa_in 376 (by decide +kernel) rfl)⟩
theorem zy_Jx4a65c_grow_92f84 : zY yJx4a65c_grow_92f84 cJx4a65c_grow_92f84 4 (some (.array (.object "java/lang/Object"))) 1 := ⟨(wa_in 292 (by decide +kernel) rfl), (wa_in 31 (by decide +kernel) rfl), by decide +kernel, by decide +kernel, by decide +kernel⟩
theorem zm_Jx4a65c_69 : zV RJx4a65c 69 yJx4a65c_grow_92f84 := ⟨(wa_in 289 (by decide +kernel) rfl), (wa_in 291 (by decide +kernel) rfl), (wa_in 3 (by decide +kernel) rfl)⟩
theorem zy_J8_newLength_cabcc : zY yJ8_newLength_cabcc cJ8_newLength_cabcc 4 (some .int) 3 := ⟨(wa_in 295 (by decide +kernel) rfl), (wa_in 41 (by decide +kernel) rfl), by decide +kernel, by decide +kernel, by decide +kernel⟩
theorem zm_Jx4a65c_73 : zSt RJx4a65c 73 yJ8_newLength_cabcc := ⟨(wa_in 293 (by decide +kernel) rfl), (wa_in 294 (by decide +kernel) rfl)⟩
theorem zy_J7_copyOf_1904c : zY yJ7_copyOf_1904c cJ7_copyOf_1904c 2 (some (.array (.object "java/lang/Object"))) 2 := ⟨(wa_in 305 (by decide +kernel) rfl), (wa_in 43 (by decide +kernel) rfl), by decide +kernel, by decide +kernel, by decide +kernel⟩
theorem zm_Jx4a65c_66 : zSt RJx4a65c 66 yJ7_copyOf_1904c := ⟨(wa_in 303 (by decide +kernel) rfl), (wa_in 304 (by decide +kernel) rfl)⟩
theorem zy_J9_max_7cf53 : zY yJ9_max_7cf53 cJ9_max_7cf53 2 (some .int) 2 := ⟨(wa_in 298 (by decide +kernel) rfl), (wa_in 42 (by decide +kernel) rfl), by decide +kernel, by decide +kernel, by decide +kernel⟩
theorem zm_Jx4a65c_79 : zSt RJx4a65c 79 yJ9_max_7cf53 := ⟨(wa_in 334 (by decide +kernel) rfl), (wa_in 297 (by decide +kernel) rfl)⟩
theorem zc_Jx4a65c_7 : Cond.classLink RJx4a65c 7 "java/lang/Object" ∈ WA := (wa_in 335 (by decide +kernel) rfl)
theorem zm_J7_86 : Cond.methodLink RJ7 86 ⟨"java/lang/Object", "getClass", "()Ljava/lang/Class;"⟩ ∈ WA := (wa_in 306 (by decide +kernel) rfl)
theorem zy_J7_copyOf_6403c : zY yJ7_copyOf_6403c cJ7_copyOf_6403c 4 (some (.array (.object "java/lang/Object"))) 3 := ⟨(wa_in 324 (by decide +kernel) rfl), (wa_in 43 (by decide +kernel) rfl), by decide +kernel, by decide +kernel, by decide +kernel⟩
theorem zm_J7_300 : zSt RJ7 300 yJ7_copyOf_6403c := ⟨(wa_in 322 (by decide +kernel) rfl), (wa_in 323 (by decide +kernel) rfl)⟩
theorem zc_J7_2 : Cond.classLink RJ7 2 "java/lang/Object" ∈ WA := (wa_in 327 (by decide +kernel) rfl)
theorem zc_J7_110 : Cond.classLink RJ7 110 "[Ljava/lang/Object;" ∈ WA := (wa_in 325 (by decide +kernel) rfl)
theorem zm_J7_304 : zSt RJ7 304 yJ9_min_7cf53 := ⟨(wa_in 328 (by decide +kernel) rfl), (wa_in 329 (by decide +kernel) rfl)⟩
theorem zm_J7_150 : Cond.methodLink RJ7 150 ⟨"java/lang/System", "arraycopy", "(Ljava/lang/Object;ILjava/lang/Object;II)V"⟩ ∈ WA := (wa_in 331 (by decide +kernel) rfl)
theorem zy_J3_checkIndex_8e157 : zY yJ3_checkIndex_8e157 cJ3_checkIndex_8e157 3 (some .int) 3 := ⟨(wa_in 373 (by decide +kernel) rfl), (wa_in 47 (by decide +kernel) rfl), by decide +kernel, by decide +kernel, by decide +kernel⟩
theorem zm_J15_105 : zSt RJ15 105 yJ3_checkIndex_8e157 := ⟨(wa_in 371 (by decide +kernel) rfl), (wa_in 372 (by decide +kernel) rfl)⟩
theorem zk_J8_200 : Cond.constant RJ8 200 (2147483639) ∈ WA := (wa_in 299 (by decide +kernel) rfl)
theorem zm_J8_194 : zSt RJ8 194 yJ9_max_7cf53 := ⟨(wa_in 296 (by decide +kernel) rfl), (wa_in 297 (by decide +kernel) rfl)⟩
theorem zy_J8_hugeLength_7cf53 : zY yJ8_hugeLength_7cf53 cJ8_hugeLength_7cf53 3 (some .int) 2 := ⟨(wa_in 302 (by decide +kernel) rfl), (wa_in 41 (by decide +kernel) rfl), by decide +kernel, by decide +kernel, by decide +kernel⟩
theorem zm_J8_201 : zSt RJ8 201 yJ8_hugeLength_7cf53 := ⟨(wa_in 300 (by decide +kernel) rfl), (wa_in 301 (by decide +kernel) rfl)⟩
theorem znat_fillInStackTraceI : Cond.native ⟨"java/lang/Throwable", "fillInStackTrace", "(I)Ljava/lang/Throwable;"⟩ ∈ WA := (wa_in 181 (by decide +kernel) rfl)
theorem znat_getClass : Cond.native ⟨"java/lang/Object", "getClass", "()Ljava/lang/Class;"⟩ ∈ WA := (wa_in 321 (by decide +kernel) rfl)
theorem znat_arraycopy : Cond.native ⟨"java/lang/System", "arraycopy", "(Ljava/lang/Object;ILjava/lang/Object;II)V"⟩ ∈ WA := (wa_in 333 (by decide +kernel) rfl)
theorem znat_clone : Cond.native ⟨"java/lang/Object", "clone", "()Ljava/lang/Object;"⟩ ∈ WA := (wa_in 597 (by decide +kernel) rfl)
theorem znat_doubleToRawLongBits : Cond.native ⟨"java/lang/Double", "doubleToRawLongBits", "(D)J"⟩ ∈ WA := (wa_in 844 (by decide +kernel) rfl)
theorem zarr_boolean : Cond.arrayClass .boolean ∈ WA := (wa_in 106 (by decide +kernel) rfl)
theorem zarr_double : Cond.arrayClass .double ∈ WA := (wa_in 107 (by decide +kernel) rfl)
theorem zarr_int : Cond.arrayClass .int ∈ WA := (wa_in 108 (by decide +kernel) rfl)
theorem zarr_long : Cond.arrayClass .long ∈ WA := (wa_in 946 (by decide +kernel) rfl)
theorem zobj1 : Cond.instanceMethod objectInit ∈ WA := (wa_in 59 (by decide +kernel) rfl)
theorem zobj2 : Cond.code objectInit ⟨#[0xb1]⟩ 1 none ∈ WA := (wa_in 60 (by decide +kernel) rfl)
end
section
/-! THE FRAME, second part: contracts over the whole world, calls, ends, arrays -/
/-- a body: from the entry to the end -/
theorem z_met {l : Launch} {y : MethodName} {bytes : ByteArray} {maxL : Nat} {ret : Option FieldType} {rm : Room} {base : Nat} {K : zK} {L : List Nat} {f : Nat → va_E} {av : List Value} {Qc : Array Value → State → Outcome → State → Prop}
    (hy : plainName y.cls = true) (hlen : (lg_sl av).length ≤ maxL)
    (body : ∀ p e s m below meth c ls, zC p s av.toArray m c bytes maxL y.cls base K → zM base K L f s s.heap [] → meth.sig.returnType = ret → meth.locks = false → meth.name = y.name → lv_has ls maxL (lv_args 0 av) →
      W p l e rm s m av.toArray below meth c s.heap [] 0 0 (MQ below Qc av.toArray s rm.cells rm.slots (base ≤ ·)) (F0 m 0 ls [])) :
    Met l y (wz y bytes maxL ret) rm (va_Pc av (zPre base K L f)) Qc rm.cells rm.slots (base ≤ ·) := by
  refine Met.ofW (cc := bytes) (maxL := maxL) (ret := ret) hy rfl ?_
  intro p e s m args below meth c s₁ B hml hv
  obtain ⟨rfl, hpre⟩ := hv
  have hts := atoms_spec (ws := wz y bytes maxL ret) B.pre
  have hown : s.vm.findClass y.cls = some m.cls := findClass_of_methodNamed B.named
  have hl := lv_entry av (n := maxL) hlen
  rw [lg_entry_eq]
  generalize (lg_sl av ++ List.replicate (maxL - (lg_sl av).length) Slot.unset).toArray = ls at hl ⊢
  exact body p e s m below meth c ls ⟨B.exec, B.bytes, hml, hown, fun w hw => hts w (List.mem_cons_of_mem _ hw), hpre.1⟩ (zM.start hpre) B.returns B.notSynchronized (name_of_methodNamed B.named B.method).1 hl
/-- a body that may throw -/
theorem z_xmet {l : Launch} {y : MethodName} {bytes : ByteArray} {maxL : Nat} {ret : Option FieldType} {rm : Room} {base : Nat} {K : zK} {L : List Nat} {f : Nat → va_E} {av : List Value} {Qc : Array Value → State → Outcome → State → Prop} {XC : String → State → State → Prop}
    (hy : plainName y.cls = true) (hlen : (lg_sl av).length ≤ maxL)
    (body : ∀ p e s m below meth c ls, zC p s av.toArray m c bytes maxL y.cls base K → zM base K L f s s.heap [] → meth.sig.returnType = ret → meth.locks = false → (∀ x ∈ c.exceptionTable.toList, False) → lv_has ls maxL (lv_args 0 av) →
      W p l e rm s m av.toArray below meth c s.heap [] 0 0 (vx_MQ below Qc XC av.toArray s rm.cells rm.slots (base ≤ ·)) (F0 m 0 ls [])) :
    vx_Met l y (wz y bytes maxL ret) rm (va_Pc av (zPre base K L f)) Qc XC rm.cells rm.slots (base ≤ ·) := by
  refine vx_ofW (cc := bytes) (maxL := maxL) (ret := ret) hy rfl ?_
  intro p e s m args below meth c s₁ B hml hx hv
  obtain ⟨rfl, hpre⟩ := hv
  have hts := atoms_spec (ws := wz y bytes maxL ret) B.pre
  have hown : s.vm.findClass y.cls = some m.cls := findClass_of_methodNamed B.named
  have hl := lv_entry av (n := maxL) hlen
  rw [lg_entry_eq]
  generalize (lg_sl av ++ List.replicate (maxL - (lg_sl av).length) Slot.unset).toArray = ls at hl ⊢
  exact body p e s m below meth c ls ⟨B.exec, B.bytes, hml, hown, fun w hw => hts w (List.mem_cons_of_mem _ hw), hpre.1⟩ (zM.start hpre) B.returns B.notSynchronized hx hl
abbrev zQi (base : Nat) (K : zK) (post : Int32 → List Nat → (Nat → va_E) → Prop) := va_Qi (fun (r : Int32) (u : zW) => post r u.1 u.2) (zB base K) (base ≤ ·)
abbrev zQl (base : Nat) (K : zK) (post : Int64 → List Nat → (Nat → va_E) → Prop) := va_Ql (fun (r : Int64) (u : zW) => post r u.1 u.2) (zB base K) (base ≤ ·)
abbrev zQd (base : Nat) (K : zK) (post : UInt64 → List Nat → (Nat → va_E) → Prop) := va_Qd (fun (r : UInt64) (u : zW) => post r u.1 u.2) (zB base K) (base ≤ ·)
abbrev zQv (base : Nat) (K : zK) (post : List Nat → (Nat → va_E) → Prop) := va_Qv (fun (u : zW) => post u.1 u.2) (zB base K) (base ≤ ·)
abbrev zQq (base : Nat) (K : zK) (post : Option Nat → List Nat → (Nat → va_E) → Prop) := va_Qq (fun (r : Option Nat) (u : zW) => post r u.1 u.2) (zB base K) (base ≤ ·)
section ZS
variable {p : Program} {l : Launch} {e : Env} {R : Room} {s : State} {m : MethodId} {args : Array Value} {below : List Frame} {meth : Method} {c : Code} {H : Heap} {locs : List Loc} {cells slots : Nat} {Q : State → Prop}
variable {cc : ByteArray} {nL pc : Nat} {own : String} {base : Nat} {K : zK} {L : List Nat} {f : Nat → va_E} {ls : Array Slot} {rest st0 : List Value} {a : Nat} {mc ms : Nat} {XC : String → State → State → Prop}
theorem zM.F (hM : zM base K L f s H locs) {t : State} (ht : t.heap = H) : va_F (base ≤ ·) s t := hM.2.2.F ht
theorem zM.B (hM : zM base K L f s H locs) {t : State} (ht : t.heap = H) : zB base K (L, f) t := ⟨by rw [ht]; exact hM.1, hM.2.1⟩
theorem z_iret {ty : FieldType} {v : Int32} {post : Int32 → List Nat → (Nat → va_E) → Prop} (hC : zC p s args m c cc nL own base K) (hM : zM base K L f s H locs) (hr : meth.sig.returnType = some ty) (hlk : meth.locks = false) (hn : narrow ty (.int v) = .int v) (hc : cells ≤ mc) (hs : slots ≤ ms) (hp : post v L f) (hdg : decode cc pc = .ok (.ireturn, 1)) :
    W p l e R s m args below meth c H locs cells slots (MQ below (zQi base K post) args s mc ms (base ≤ ·)) (F0 m pc ls [.int v]) := by
  refine W.widen (k := mc) (n := ms) hc hs ?_
  exact W.zret (v := v) hC.1 hC.2.1 hr hn (fun t ht hW => ⟨⟨v, (L, f), rfl, hp, hM.B ht⟩, hM.F ht⟩) hM.2.2.2.2 hdg hlk
theorem z_lret {v : Int64} {post : Int64 → List Nat → (Nat → va_E) → Prop} (hC : zC p s args m c cc nL own base K) (hM : zM base K L f s H locs) (hr : meth.sig.returnType = some .long) (hlk : meth.locks = false) (hc : cells ≤ mc) (hs : slots ≤ ms) (hp : post v L f) (hdg : decode cc pc = .ok (.lreturn, 1)) :
    W p l e R s m args below meth c H locs cells slots (MQ below (zQl base K post) args s mc ms (base ≤ ·)) (F0 m pc ls [.long v]) := by
  refine W.widen (k := mc) (n := ms) hc hs ?_
  exact W.lret (v := v) hC.1 hC.2.1 hr (fun t ht hW => ⟨⟨v, (L, f), rfl, hp, hM.B ht⟩, hM.F ht⟩) hM.2.2.2.2 hdg hlk
theorem z_dret {v : UInt64} {post : UInt64 → List Nat → (Nat → va_E) → Prop} (hC : zC p s args m c cc nL own base K) (hM : zM base K L f s H locs) (hr : meth.sig.returnType = some .double) (hlk : meth.locks = false) (hc : cells ≤ mc) (hs : slots ≤ ms) (hp : post v L f) (hdg : decode cc pc = .ok (.dreturn, 1)) :
    W p l e R s m args below meth c H locs cells slots (MQ below (zQd base K post) args s mc ms (base ≤ ·)) (F0 m pc ls [.double v]) := by
  refine W.widen (k := mc) (n := ms) hc hs ?_
  exact W.dret (v := v) hC.1 hC.2.1 hr (fun t ht hW => ⟨⟨v, (L, f), rfl, hp, hM.B ht⟩, hM.F ht⟩) hM.2.2.2.2 hdg hlk
theorem z_vret {post : List Nat → (Nat → va_E) → Prop} (hC : zC p s args m c cc nL own base K) (hM : zM base K L f s H locs) (hr : meth.sig.returnType = none) (hlk : meth.locks = false) (hc : cells ≤ mc) (hs : slots ≤ ms) (hp : post L f) (hdg : decode cc pc = .ok (.return_, 1)) :
    W p l e R s m args below meth c H locs cells slots (MQ below (zQv base K post) args s mc ms (base ≤ ·)) (F0 m pc ls []) := by
  refine W.widen (k := mc) (n := ms) hc hs ?_
  exact W.vret hC.1 hC.2.1 hr (fun t ht hW => ⟨⟨(L, f), rfl, hp, hM.B ht⟩, hM.F ht⟩) hM.2.2.2.2 hdg hlk
theorem z_qret {rt : FieldType} {v : Option Nat} {post : Option Nat → List Nat → (Nat → va_E) → Prop} (hC : zC p s args m c cc nL own base K) (hM : zM base K L f s H locs) (hr : meth.sig.returnType = some rt) (hrt : (∃ n, rt = .object n) ∨ ∃ t, rt = .array t) (hlk : meth.locks = false) (hc : cells ≤ mc) (hs : slots ≤ ms) (hp : post v L f) (hdg : decode cc pc = .ok (.areturn, 1)) :
    W p l e R s m args below meth c H locs cells slots (MQ below (zQq base K post) args s mc ms (base ≤ ·)) (F0 m pc ls [va_rf v]) := by
  refine W.widen (k := mc) (n := ms) hc hs ?_
  exact W.aret (v := va_rf v) hC.1 hC.2.1 hr hrt (va_rf_or v) (fun t ht hW => ⟨⟨v, (L, f), rfl, hp, hM.B ht⟩, hM.F ht⟩) hM.2.2.2.2 hdg hlk
/-- calls -/
theorem z_pre {av : List Value} (hC : zC p s args m c cc nL own base K) (hM : zM base K L f s H locs) : ∀ U : State, U.heap = H → s.WarmedH U.vm → va_Pc av (zPre base K L f) av.toArray U := fun U hU hW => ⟨rfl, by rw [hU]; exact zS.warm hW (zS.kept hM.2.2 hC.2.2.2.2.2), by rw [hU]; exact hM.1, hM.2.1⟩
theorem z_callB {y : MethodName} {bytes : ByteArray} {maxL n index : Nat} {ret : Option FieldType} {rm : Room} (hC : zC p s args m c cc nL own base K) (zy : zY y bytes maxL ret n) (hl : Cond.methodLink own index y ∈ WA) (hR : rm.frames + 1 ≤ R.frames ∧ 8 + (maxL + 11) + rm.locals ≤ R.locals) : CallB R s args own index y bytes maxL ret (wz y bytes maxL ret) rm rm.cells rm.slots n :=
  callB_of n hC.2.2.2.2.1 (wz_in zy.1) rfl rfl rfl (hC.2.2.2.2.1 _ zy.2.1) (hC.2.2.2.2.1 _ hl) zy.2.2 hR
theorem z_fix (hC : zC p s args m c cc nL own base K) : CallFix p m c cc nL s args WA own := ⟨hC.1, hC.2.1, hC.2.2.1, hC.2.2.2.1, hC.2.2.2.2.1⟩
theorem z_recv {ci N : Nat} {C : String} {T : u_T} {ty : Nat → FieldType} {fs : List Value} (hC : zC p s args m c cc nL own base K) (hM : zM base K L f s H locs) (ha : a ∈ L) (hf : f a = eS ci fs) (hcl : zCl ci C T N ty) : ∃ cellB : Cell, H[a]? = some cellB ∧ cellB.vm.isStatics = false ∧ s.vm.findClass C = some cellB.cls := by
  obtain ⟨q, hq⟩ := pl_at (f := f) ha
  rw [hf] at hq
  exact va_recv hC.2.2.2.2.2.1 hM.1 hcl.1 hq
theorem z_runV {y : MethodName} {bytes : ByteArray} {maxL n index ci N : Nat} {C : String} {T : u_T} {ty : Nat → FieldType} {fs : List Value} {ret : Option FieldType} {rm : Room} {Qc : Array Value → State → Outcome → State → Prop} {free : Addr → Prop} {As : List Value}
    (hC : zC p s args m c cc nL own base K) (hM : zM base K L f s H locs) (ct : Met l y (wz y bytes maxL ret) rm (va_Pc (.ref a :: As) (zPre base K L f)) Qc rm.cells rm.slots free) (zy : zY y bytes maxL ret n) (zv : zV own index y) (ha : a ∈ L) (hf : f a = eS ci fs) (hcl : zCl ci C T N ty) (hyc : y.cls = C)
    (hst : st0 = As.reverse ++ .ref a :: rest) (hn : As.length = n) (hsz : ls.size = nL) (hcat : (rest.map fun v => v.category).sum ≤ 8) (hR : rm.frames + 1 ≤ R.frames ∧ 8 + (maxL + 11) + rm.locals ≤ R.locals) (hcs : cells + rm.cells ≤ R.cells ∧ slots + rm.slots ≤ R.slots) (hdg : decode cc pc = .ok (.invokevirtual index, 3)) :
    va_Run p l e R s m args below meth c H locs cells slots rm.cells rm.slots (F0 m pc ls st0) rest (Qc (Value.ref a :: As).toArray) free := by
  subst hyc
  exact va_runV (z_fix hC) ct ⟨z_callB hC zy zv.1 hR, hC.2.2.2.2.1 _ zv.2.1, hC.2.2.2.2.1 _ zv.2.2⟩ ⟨zPre.blind, z_recv hC hM ha hf hcl, z_pre hC hM⟩ rfl hn hsz hst (lv_room hcat) hdg hcs
theorem z_runS {y : MethodName} {bytes : ByteArray} {maxL n index : Nat} {ret : Option FieldType} {rm : Room} {Qc : Array Value → State → Outcome → State → Prop} {free : Addr → Prop} {As : List Value}
    (hC : zC p s args m c cc nL own base K) (hM : zM base K L f s H locs) (ct : Met l y (wz y bytes maxL ret) rm (va_Pc As (zPre base K L f)) Qc rm.cells rm.slots free) (zy : zY y bytes maxL ret n) (zv : zSt own index y)
    (hst : st0 = As.reverse ++ rest) (hn : As.length = n) (hsz : ls.size = nL) (hcat : (rest.map fun v => v.category).sum ≤ 8) (hR : rm.frames + 1 ≤ R.frames ∧ 8 + (maxL + 11) + rm.locals ≤ R.locals) (hcs : cells + rm.cells ≤ R.cells ∧ slots + rm.slots ≤ R.slots) (hdg : decode cc pc = .ok (.invokestatic index, 3)) :
    va_Run p l e R s m args below meth c H locs cells slots rm.cells rm.slots (F0 m pc ls st0) rest (Qc As.toArray) free :=
  va_runS (z_fix hC) ct ⟨z_callB hC zy zv.1 hR, hC.2.2.2.2.1 _ zv.2⟩ ⟨zPre.blind, z_pre hC hM⟩ rfl hn hsz hst (lv_room hcat) hdg hcs
theorem z_runI {y : MethodName} {bytes : ByteArray} {maxL n index : Nat} {rm : Room} {Qc : Array Value → State → Outcome → State → Prop} {free : Addr → Prop} {As : List Value}
    (hC : zC p s args m c cc nL own base K) (hM : zM base K L f s H locs) (ct : Met l y (wz y bytes maxL none) rm (va_Pc (.ref a :: As) (zPre base K L f)) Qc rm.cells rm.slots free) (zy : zY y bytes maxL none n) (zv : zI own index y)
    (hst : st0 = As.reverse ++ .ref a :: rest) (hn : As.length = n) (hsz : ls.size = nL) (hcat : (rest.map fun v => v.category).sum ≤ 8) (hR : rm.frames + 1 ≤ R.frames ∧ 8 + (maxL + 11) + rm.locals ≤ R.locals) (hcs : cells + rm.cells ≤ R.cells ∧ slots + rm.slots ≤ R.slots) (hdg : decode cc pc = .ok (.invokespecial index, 3)) :
    va_Run p l e R s m args below meth c H locs cells slots rm.cells rm.slots (F0 m pc ls st0) rest (Qc (Value.ref a :: As).toArray) free :=
  va_runI (z_fix hC) ct ⟨z_callB hC zy zv.1 hR, zv.2.2, hC.2.2.2.2.1 _ zv.2.1⟩ ⟨zPre.blind, z_pre hC hM⟩ rfl hn hsz hst (lv_room hcat) hdg hcs
theorem z_calli {mc1 ms1 : Nat} {av : Array Value} {post : Int32 → List Nat → (Nat → va_E) → Prop} (hr : va_Run p l e R s m args below meth c H locs cells slots mc1 ms1 (F0 m pc ls st0) rest (zQi base K post av) (base ≤ ·)) (hM : zM base K L f s H locs)
    (kk : ∀ (r : Int32) (L1 : List Nat) (f1 : Nat → va_E) (H1 : Heap) (locs1 : List Loc), post r L1 f1 → zM base K L1 f1 s H1 locs1 → W p l e R s m args below meth c H1 locs1 (cells + mc1) (slots + ms1) Q (F0 m (pc + 3) ls (.int r :: rest))) : W p l e R s m args below meth c H locs cells slots Q (F0 m pc ls st0) :=
  va_calli hr hM.2.2 (fun _ _ h => h) (fun _ h => h) (fun r u t H1 locs1 ht hvm hp hB _ _ hS => kk r u.1 u.2 H1 locs1 hp ⟨by rw [← ht]; exact hB.1, hB.2, hS⟩)
theorem z_calll {mc1 ms1 : Nat} {av : Array Value} {post : Int64 → List Nat → (Nat → va_E) → Prop} (hr : va_Run p l e R s m args below meth c H locs cells slots mc1 ms1 (F0 m pc ls st0) rest (zQl base K post av) (base ≤ ·)) (hM : zM base K L f s H locs)
    (kk : ∀ (r : Int64) (L1 : List Nat) (f1 : Nat → va_E) (H1 : Heap) (locs1 : List Loc), post r L1 f1 → zM base K L1 f1 s H1 locs1 → W p l e R s m args below meth c H1 locs1 (cells + mc1) (slots + ms1) Q (F0 m (pc + 3) ls (.long r :: rest))) : W p l e R s m args below meth c H locs cells slots Q (F0 m pc ls st0) :=
  va_calll hr hM.2.2 (fun _ _ h => h) (fun _ h => h) (fun r u t H1 locs1 ht hvm hp hB _ _ hS => kk r u.1 u.2 H1 locs1 hp ⟨by rw [← ht]; exact hB.1, hB.2, hS⟩)
theorem z_calld {mc1 ms1 : Nat} {av : Array Value} {post : UInt64 → List Nat → (Nat → va_E) → Prop} (hr : va_Run p l e R s m args below meth c H locs cells slots mc1 ms1 (F0 m pc ls st0) rest (zQd base K post av) (base ≤ ·)) (hM : zM base K L f s H locs)
    (kk : ∀ (r : UInt64) (L1 : List Nat) (f1 : Nat → va_E) (H1 : Heap) (locs1 : List Loc), post r L1 f1 → zM base K L1 f1 s H1 locs1 → W p l e R s m args below meth c H1 locs1 (cells + mc1) (slots + ms1) Q (F0 m (pc + 3) ls (.double r :: rest))) : W p l e R s m args below meth c H locs cells slots Q (F0 m pc ls st0) :=
  va_calld hr hM.2.2 (fun _ _ h => h) (fun _ h => h) (fun r u t H1 locs1 ht hvm hp hB _ _ hS => kk r u.1 u.2 H1 locs1 hp ⟨by rw [← ht]; exact hB.1, hB.2, hS⟩)
theorem z_callv {mc1 ms1 : Nat} {av : Array Value} {post : List Nat → (Nat → va_E) → Prop} (hr : va_Run p l e R s m args below meth c H locs cells slots mc1 ms1 (F0 m pc ls st0) rest (zQv base K post av) (base ≤ ·)) (hM : zM base K L f s H locs)
    (kk : ∀ (L1 : List Nat) (f1 : Nat → va_E) (H1 : Heap) (locs1 : List Loc), post L1 f1 → zM base K L1 f1 s H1 locs1 → W p l e R s m args below meth c H1 locs1 (cells + mc1) (slots + ms1) Q (F0 m (pc + 3) ls rest)) : W p l e R s m args below meth c H locs cells slots Q (F0 m pc ls st0) :=
  va_callv hr hM.2.2 (fun _ _ h => h) (fun _ h => h) (fun u t H1 locs1 ht hvm hp hB _ _ hS => kk u.1 u.2 H1 locs1 hp ⟨by rw [← ht]; exact hB.1, hB.2, hS⟩)
theorem z_callq {mc1 ms1 : Nat} {av : Array Value} {post : Option Nat → List Nat → (Nat → va_E) → Prop} (hr : va_Run p l e R s m args below meth c H locs cells slots mc1 ms1 (F0 m pc ls st0) rest (zQq base K post av) (base ≤ ·)) (hM : zM base K L f s H locs)
    (kk : ∀ (r : Option Nat) (L1 : List Nat) (f1 : Nat → va_E) (H1 : Heap) (locs1 : List Loc), post r L1 f1 → zM base K L1 f1 s H1 locs1 → W p l e R s m args below meth c H1 locs1 (cells + mc1) (slots + ms1) Q (F0 m (pc + 3) ls (va_rf r :: rest))) : W p l e R s m args below meth c H locs cells slots Q (F0 m pc ls st0) :=
  va_callq hr hM.2.2 (fun _ _ h => h) (fun _ h => h) (fun r u t H1 locs1 ht hvm hp hB _ _ hS => kk r u.1 u.2 H1 locs1 hp ⟨by rw [← ht]; exact hB.1, hB.2, hS⟩)
/-- arrays, by whole numbers -/
theorem z_dald {n i : Nat} {g : Nat → UInt64} (hC : zC p s args m c cc nL own base K) (hM : zM base K L f s H locs) (ha : a ∈ L) (hf : f a = eD K n g) (hi : i < n) (hn : n < 2 ^ 31) (hdg : decode cc pc = .ok (.daload, 1))
    (kk : W p l e R s m args below meth c H locs cells slots Q (F0 m (pc + 1) ls (.double (g i) :: rest))) : W p l e R s m args below meth c H locs cells slots Q (F0 m pc ls (.int (nI i) :: .ref a :: rest)) := by
  obtain ⟨q, hq⟩ := pl_at (f := f) ha
  rw [hf] at hq
  refine va_dald hC.1 hC.2.1 hC.2.2.2.2.2.1 hM.1 q 0 hq rfl (vp_in_nI hi hn) hdg ?_
  rw [nI_clamp (by omega)]
  exact kk
theorem z_iald {n i : Nat} {g : Nat → Int32} (hC : zC p s args m c cc nL own base K) (hM : zM base K L f s H locs) (ha : a ∈ L) (hf : f a = eI K n g) (hi : i < n) (hn : n < 2 ^ 31) (hdg : decode cc pc = .ok (.iaload, 1))
    (kk : W p l e R s m args below meth c H locs cells slots Q (F0 m (pc + 1) ls (.int (g i) :: rest))) : W p l e R s m args below meth c H locs cells slots Q (F0 m pc ls (.int (nI i) :: .ref a :: rest)) := by
  obtain ⟨q, hq⟩ := pl_at (f := f) ha
  rw [hf] at hq
  refine va_iald hC.1 hC.2.1 hC.2.2.2.2.2.1 hM.1 q 1 hq rfl (vp_in_nI hi hn) hdg ?_
  rw [nI_clamp (by omega)]
  exact kk
theorem z_zald {n i : Nat} {g : Nat → Int32} (hC : zC p s args m c cc nL own base K) (hM : zM base K L f s H locs) (ha : a ∈ L) (hf : f a = eZ K n g) (hi : i < n) (hn : n < 2 ^ 31) (hdg : decode cc pc = .ok (.baload, 1))
    (kk : W p l e R s m args below meth c H locs cells slots Q (F0 m (pc + 1) ls (.int (g i) :: rest))) : W p l e R s m args below meth c H locs cells slots Q (F0 m pc ls (.int (nI i) :: .ref a :: rest)) := by
  obtain ⟨q, hq⟩ := pl_at (f := f) ha
  rw [hf] at hq
  refine va_zald hC.1 hC.2.1 hC.2.2.2.2.2.1 hM.1 q 2 hq rfl (vp_in_nI hi hn) hdg ?_
  rw [nI_clamp (by omega)]
  exact kk
theorem z_lald {n i : Nat} {g : Nat → Int64} (hC : zC p s args m c cc nL own base K) (hM : zM base K L f s H locs) (ha : a ∈ L) (hf : f a = eJ K n g) (hi : i < n) (hn : n < 2 ^ 31) (hdg : decode cc pc = .ok (.laload, 1))
    (kk : W p l e R s m args below meth c H locs cells slots Q (F0 m (pc + 1) ls (.long (g i) :: rest))) : W p l e R s m args below meth c H locs cells slots Q (F0 m pc ls (.int (nI i) :: .ref a :: rest)) := by
  obtain ⟨q, hq⟩ := pl_at (f := f) ha
  rw [hf] at hq
  refine va_lald hC.1 hC.2.1 hC.2.2.2.2.2.1 hM.1 q 4 hq rfl (vp_in_nI hi hn) hdg ?_
  rw [nI_clamp (by omega)]
  exact kk
theorem z_aald {n i : Nat} {g : Nat → Option Nat} (hC : zC p s args m c cc nL own base K) (hM : zM base K L f s H locs) (ha : a ∈ L) (hf : f a = eO K n g) (hi : i < n) (hn : n < 2 ^ 31) (hdg : decode cc pc = .ok (.aaload, 1))
    (kk : W p l e R s m args below meth c H locs cells slots Q (F0 m (pc + 1) ls (va_rf (g i) :: rest))) : W p l e R s m args below meth c H locs cells slots Q (F0 m pc ls (.int (nI i) :: .ref a :: rest)) := by
  obtain ⟨q, hq⟩ := pl_at (f := f) ha
  rw [hf] at hq
  refine va_aldq hC.1 hC.2.1 hC.2.2.2.2.2.1 hM.1 q 3 hq rfl (vp_in_nI hi hn) hdg ?_
  rw [nI_clamp (by omega)]
  exact kk
theorem z_dast {n i : Nat} {g : Nat → UInt64} {x : UInt64} (hC : zC p s args m c cc nL own base K) (hM : zM base K L f s H locs) (ha : a ∈ L) (hf : f a = eD K n g) (hi : i < n) (hn : n < 2 ^ 31) (hdg : decode cc pc = .ok (.dastore, 1))
    (kk : ∀ (H1 : Heap) (locs1 : List Loc), zM base K L (va_up f a (eD K n (va_up g i x))) s H1 locs1 → W p l e R s m args below meth c H1 locs1 cells slots Q (F0 m (pc + 1) ls rest)) : W p l e R s m args below meth c H locs cells slots Q (F0 m pc ls (.double x :: .int (nI i) :: .ref a :: rest)) := by
  obtain ⟨q, hq⟩ := pl_at (f := f) ha
  have hq' := hq
  rw [hf] at hq
  refine va_dast hC.1 hC.2.1 hC.2.2.2.2.2.1 hM.1 hM.2.1 hM.2.2 q 0 hq rfl (vp_in_nI hi hn) hdg (fun H1 locs1 hP hD hS => ?_)
  rw [nI_clamp (by omega), show vf_upd g i x = va_up g i x from rfl, pl_set hM.2.1 ha hq'] at hP hD
  exact kk H1 locs1 ⟨hP, hD, hS⟩
theorem z_iast {n i : Nat} {g : Nat → Int32} {x : Int32} (hC : zC p s args m c cc nL own base K) (hM : zM base K L f s H locs) (ha : a ∈ L) (hf : f a = eI K n g) (hi : i < n) (hn : n < 2 ^ 31) (hdg : decode cc pc = .ok (.iastore, 1))
    (kk : ∀ (H1 : Heap) (locs1 : List Loc), zM base K L (va_up f a (eI K n (va_up g i x))) s H1 locs1 → W p l e R s m args below meth c H1 locs1 cells slots Q (F0 m (pc + 1) ls rest)) : W p l e R s m args below meth c H locs cells slots Q (F0 m pc ls (.int x :: .int (nI i) :: .ref a :: rest)) := by
  obtain ⟨q, hq⟩ := pl_at (f := f) ha
  have hq' := hq
  rw [hf] at hq
  refine va_iast hC.1 hC.2.1 hC.2.2.2.2.2.1 hM.1 hM.2.1 hM.2.2 q 1 hq rfl (vp_in_nI hi hn) hdg (fun H1 locs1 hP hD hS => ?_)
  rw [nI_clamp (by omega), show upd g i x = va_up g i x from rfl, pl_set hM.2.1 ha hq'] at hP hD
  exact kk H1 locs1 ⟨hP, hD, hS⟩
theorem z_zast {n i : Nat} {g : Nat → Int32} {x : Int32} (hC : zC p s args m c cc nL own base K) (hM : zM base K L f s H locs) (ha : a ∈ L) (hf : f a = eZ K n g) (hi : i < n) (hn : n < 2 ^ 31) (hx : vp_nar .boolean x = x) (hdg : decode cc pc = .ok (.bastore, 1))
    (kk : ∀ (H1 : Heap) (locs1 : List Loc), zM base K L (va_up f a (eZ K n (va_up g i x))) s H1 locs1 → W p l e R s m args below meth c H1 locs1 cells slots Q (F0 m (pc + 1) ls rest)) : W p l e R s m args below meth c H locs cells slots Q (F0 m pc ls (.int x :: .int (nI i) :: .ref a :: rest)) := by
  obtain ⟨q, hq⟩ := pl_at (f := f) ha
  have hq' := hq
  rw [hf] at hq
  refine va_zast hC.1 hC.2.1 hC.2.2.2.2.2.1 hM.1 hM.2.1 hM.2.2 q 2 hq rfl (vp_in_nI hi hn) hdg (fun H1 locs1 hP hD hS => ?_)
  rw [nI_clamp (by omega), hx, show upd g i x = va_up g i x from rfl, pl_set hM.2.1 ha hq'] at hP hD
  exact kk H1 locs1 ⟨hP, hD, hS⟩
theorem z_alen {x : vp_A} {cA : ClassId} {ty : FieldType} {n : Nat} (t0 : Nat) (hC : zC p s args m c cc nL own base K) (hM : zM base K L f s H locs) (ha : a ∈ L) (hf : f a = .inl (cA, x)) (ht : (ztys K)[t0]? = some (cA, ty)) (hn : x.1 = n) (hdg : decode cc pc = .ok (.arraylength, 1))
    (kk : W p l e R s m args below meth c H locs cells slots Q (F0 m (pc + 1) ls (.int (nI n) :: rest))) : W p l e R s m args below meth c H locs cells slots Q (F0 m pc ls (.ref a :: rest)) := by
  obtain ⟨q, hq⟩ := pl_at (f := f) ha
  rw [hf] at hq
  subst hn
  exact va_alen hC.1 hC.2.1 hC.2.2.2.2.2.1 hM.1 q t0 hq ht rfl hdg kk
theorem z_new {C : String} {T : u_T} {N ci index : Nat} {ty : Nat → FieldType} {fs : List Value} (hC : zC p s args m c cc nL own base K) (hM : zM base K L f s H locs) (hcl : zCl ci C T N ty) (zn : zNewW own index C N) (hfs : ∀ j, j < N → defaultValue (ty j) = vp_V fs j) (hcells : cells + 1 ≤ R.cells) (hslots : slots + N ≤ R.slots) (hdg : decode cc pc = .ok (.new index, 3))
    (kk : ∀ (q : Nat) (H1 : Heap), q ∉ L → zM base K (L ++ [q]) (va_up f q (eS ci fs)) s H1 locs → W p l e R s m args below meth c H1 locs (cells + 1) (slots + N) Q (F0 m (pc + 3) ls (.ref q :: rest))) : W p l e R s m args below meth c H locs cells slots Q (F0 m pc ls rest) := by
  have hb : base ≤ s.heap.size := hC.2.2.2.2.2.2.2.2.2.2.2.2.2.2.2.2
  refine va_new hC.1 hC.2.1 hC.2.2.2.2.1 hcl.2.1 ty hcl.2.2.1 hC.2.2.2.1 (hC.2.2.2.2.1 _ zn.1) (hC.2.2.2.2.1 _ zn.2.1) (hC.2.2.2.2.1 _ zn.2.2) hC.2.2.2.2.2.1 hM.1 hM.2.1 hM.2.2 (fun q h => Nat.le_trans hb h) hcl.1 hfs hcells hslots hdg (fun q H1 hP hD hS => ?_)
  have hq : q ∉ L := by
    intro h
    obtain ⟨k, hk⟩ := pl_at (f := f) h
    have hkl : k < (va_pl L f).length := (List.getElem?_eq_some_iff.mp hk).1
    have := hD.1 k (va_pl L f).length (q, f q) (q, eS ci fs) (by rw [List.getElem?_append_left hkl]; exact hk) (by rw [List.getElem?_append_right (Nat.le_refl _)]; simp) rfl
    omega
  rw [va_pl_push hq] at hP hD
  exact kk q H1 hq ⟨hP, hD, hS⟩
end ZS
end
section
/-! THE FRAME, third part: throwing, and calls of methods that may throw -/
abbrev zX (base : Nat) (K : zK) (px : String → List Nat → (Nat → va_E) → Prop) := vx_X (fun _ : zW => True) (fun E (u : zW) t => px E u.1 u.2 ∧ zB base K u t) (base ≤ ·)
def zxn : List String := ["java/lang/RuntimeException", "java/lang/Exception"]
def zTh (ik ic : Nat) (cls : String) : Prop := (∀ w ∈ vx_atS RX6 ic cls zxn, w ∈ lw_tbl ∧ (goodWord w || zk w) = true) ∧ (∀ w ∈ Cond.classLink RX6 ik cls :: Cond.initialized cls :: vx_atS RX6 ic cls zxn, vx_ot w = true) ∧ Cond.classLink RX6 ik cls ∈ WA ∧ Cond.initialized cls ∈ WA ∧ Bundle.fit cls = true
section ZT
variable {p : Program} {l : Launch} {e : Env} {R : Room} {s : State} {m : MethodId} {args : Array Value} {below : List Frame} {meth : Method} {c : Code} {H : Heap} {locs : List Loc} {cells slots : Nat} {Q : State → Prop}
variable {cc : ByteArray} {nL pc : Nat} {own : String} {base : Nat} {K : zK} {L : List Nat} {f : Nat → va_E} {ls : Array Slot} {rest st0 : List Value} {a : Nat} {mc ms : Nat} {Qc : Array Value → State → Outcome → State → Prop} {px : String → List Nat → (Nat → va_E) → Prop}
/-- some of the world's cells, as they are or will be said of -/
theorem zM.part {L' : List Nat} {f' : Nat → va_E} (h : zM base K L f s H locs) (hL : ∀ a ∈ L', a ∈ L ∧ f a = f' a) (hn : L'.Nodup) : zM base K L' f' s H locs := by
  obtain ⟨hP, hD, hS⟩ := h
  have at' : ∀ (k : Nat) (q : Nat × va_E), (va_pl L' f')[k]? = some q → ∃ k' : Nat, (va_pl L f)[k']? = some q := by
    intro k q hk
    obtain ⟨b, hb, rfl⟩ := List.mem_map.mp (List.mem_of_getElem? hk)
    obtain ⟨h1, h2⟩ := hL b hb
    obtain ⟨k', hk'⟩ := pl_at (f := f) h1
    exact ⟨k', by rw [hk', h2]⟩
  refine ⟨fun k q hk => let ⟨k', hk'⟩ := at' k q hk; hP k' q hk', ⟨fun i j p q hi hj hpq => ?_, fun k q hk => let ⟨k', hk'⟩ := at' k q hk; hD.2 k' q hk'⟩, hS⟩
  unfold va_pl at hi hj
  rw [List.getElem?_map] at hi hj
  cases h1 : L'[i]? with
  | none => rw [h1] at hi; cases hi
  | some x =>
    cases h2 : L'[j]? with
    | none => rw [h2] at hj; cases hj
    | some y =>
      rw [h1] at hi; rw [h2] at hj
      cases hi; cases hj
      have hxy : x = y := hpq
      subst hxy
      have li := (List.getElem?_eq_some_iff.mp h1)
      have lj := (List.getElem?_eq_some_iff.mp h2)
      obtain ⟨li1, li2⟩ := li
      obtain ⟨lj1, lj2⟩ := lj
      exact (List.getElem_inj hn).mp (li2.trans lj2.symm)
theorem zM.nodup (h : zM base K L f s H locs) : L.Nodup := by
  refine List.pairwise_iff_getElem.mpr (fun i j hi hj hij hE => ?_)
  have e1 : L[i]? = some L[i] := List.getElem?_eq_getElem hi
  have e2 : L[j]? = some L[i] := by rw [hE]; exact List.getElem?_eq_getElem hj
  have := h.2.1.1 i j (L[i], f L[i]) (L[i], f L[i]) (by unfold va_pl; rw [List.getElem?_map, e1]; rfl) (by unfold va_pl; rw [List.getElem?_map, e2]; rfl) rfl
  omega
theorem z_throw {cls text : String} {ik is ic : Nat} (hC : zC p s args m c cc nL RX6 base K) (hM : zM base K L f s H locs) (hst : l.stackTraces = false) (hlk : meth.locks = false) (hxt : ∀ x ∈ c.exceptionTable.toList, False) (hsz : ls.size = nL) (zt : zTh ik ic cls) (hstr : (is, text) ∈ zstr)
    (d0 : decode cc pc = .ok (.new ik, 3)) (d3 : decode cc (pc + 3) = .ok (.dup, 1)) (d4 : decode cc (pc + 4) = .ok (.ldc is, 2)) (d6 : decode cc (pc + 6) = .ok (.invokespecial ic, 3)) (d9 : decode cc (pc + 9) = .ok (.athrow, 1))
    (hR : 5 < R.frames ∧ (rest.map fun v => v.category).sum + 82 ≤ R.locals ∧ cells + 1 ≤ R.cells ∧ slots + 6 ≤ R.slots) (hc : cells + 1 ≤ mc) (hs : slots + 6 ≤ ms) (hp : px cls L f) :
    W p l e R s m args below meth c H locs cells slots (vx_MQ below Qc (zX base K px) args s mc ms (base ≤ ·)) (F0 m pc ls rest) := by
  obtain ⟨h1, hU, hN, h4, h5, h6, h7, h8⟩ := hC.2.2.2.2.2
  obtain ⟨sa, hsa⟩ := h6 _ hstr
  refine vx_throwS (A := (base ≤ ·)) (names := zxn) (text := text) hC.1 hC.2.1 hst hC.2.2.2.1 zt.2.2.2.2 (by decide +kernel) (hC.2.2.2.2.1 _ zt.2.2.1) (hC.2.2.2.2.1 _ zt.2.2.2.1) hsa (fun w hw => ?_) zt.2.1 hU hN hM.2.2 (hsz.trans hC.2.2.1.symm) d0 d3 d4 d6 d9 (fun x hx => (hxt x hx).elim) hR.1 hR.2.1 hR.2.2.1 hR.2.2.2 hlk (fun t ht hz hk => ?_) hM.2.2.2.2 hc hs
  · obtain ⟨g1, g2⟩ := zt.1 w hw
    rcases Bool.or_eq_true _ _ ▸ g2 with g | g
    · exact hC.2.2.2.2.1 w (List.mem_filter.mpr ⟨g1, g⟩)
    · exact (h7 w (List.mem_filter.mpr ⟨g1, g⟩)).use (zk_tab g)
  · refine ⟨(L, f), trivial, ⟨hp, ?_, hM.2.1⟩, ?_⟩
    · exact hM.1.kept (fun k q hq => hk q.1 (hM.1 k q hq).lt)
    · exact ⟨Nat.le_trans hM.2.2.1 hz, fun q h1 h2 => (hk q (Nat.lt_of_lt_of_le h1 hM.2.2.1)).trans (hM.2.2.2.1 q h1 h2)⟩
/-- calls of methods that may throw -/
theorem z_xrunV {y : MethodName} {bytes : ByteArray} {maxL n index ci N : Nat} {C : String} {T : u_T} {ty : Nat → FieldType} {fs : List Value} {ret : Option FieldType} {rm : Room} {Qc : Array Value → State → Outcome → State → Prop} {XC : String → State → State → Prop} {free : Addr → Prop} {As : List Value}
    (hC : zC p s args m c cc nL own base K) (hM : zM base K L f s H locs) (ct : vx_Met l y (wz y bytes maxL ret) rm (va_Pc (.ref a :: As) (zPre base K L f)) Qc XC rm.cells rm.slots free) (zy : zY y bytes maxL ret n) (zv : zV own index y) (ha : a ∈ L) (hf : f a = eS ci fs) (hcl : zCl ci C T N ty) (hyc : y.cls = C)
    (hst : st0 = As.reverse ++ .ref a :: rest) (hn : As.length = n) (hsz : ls.size = nL) (hcat : (rest.map fun v => v.category).sum ≤ 8) (hR : rm.frames + 1 ≤ R.frames ∧ 8 + (maxL + 11) + rm.locals ≤ R.locals) (hcs : cells + rm.cells ≤ R.cells ∧ slots + rm.slots ≤ R.slots) (hdg : decode cc pc = .ok (.invokevirtual index, 3)) :
    vx_Run p l e R s m args below meth c H locs cells slots rm.cells rm.slots (F0 m pc ls st0) rest (Qc (Value.ref a :: As).toArray) XC free := by
  subst hyc
  exact vx_runV (z_fix hC) ct ⟨z_callB hC zy zv.1 hR, hC.2.2.2.2.1 _ zv.2.1, hC.2.2.2.2.1 _ zv.2.2⟩ ⟨zPre.blind, z_recv hC hM ha hf hcl, z_pre hC hM⟩ rfl hn hsz hst (lv_room hcat) hdg hcs
theorem z_xrunS {y : MethodName} {bytes : ByteArray} {maxL n index : Nat} {ret : Option FieldType} {rm : Room} {Qc : Array Value → State → Outcome → State → Prop} {XC : String → State → State → Prop} {free : Addr → Prop} {As : List Value}
    (hC : zC p s args m c cc nL own base K) (hM : zM base K L f s H locs) (ct : vx_Met l y (wz y bytes maxL ret) rm (va_Pc As (zPre base K L f)) Qc XC rm.cells rm.slots free) (zy : zY y bytes maxL ret n) (zv : zSt own index y)
    (hst : st0 = As.reverse ++ rest) (hn : As.length = n) (hsz : ls.size = nL) (hcat : (rest.map fun v => v.category).sum ≤ 8) (hR : rm.frames + 1 ≤ R.frames ∧ 8 + (maxL + 11) + rm.locals ≤ R.locals) (hcs : cells + rm.cells ≤ R.cells ∧ slots + rm.slots ≤ R.slots) (hdg : decode cc pc = .ok (.invokestatic index, 3)) :
    vx_Run p l e R s m args below meth c H locs cells slots rm.cells rm.slots (F0 m pc ls st0) rest (Qc As.toArray) XC free :=
  vx_runS (z_fix hC) ct ⟨z_callB hC zy zv.1 hR, hC.2.2.2.2.1 _ zv.2⟩ ⟨zPre.blind, z_pre hC hM⟩ rfl hn hsz hst (lv_room hcat) hdg hcs
/-- a call that may throw: what is thrown is handed over as it comes -/
theorem z_xq {S : Type} {mc1 ms1 : Nat} {av : Array Value} {px1 : String → List Nat → (Nat → va_E) → Prop} {Qa : State → Outcome → State → Prop} {val : S → Option Value} {post : S → zW → Prop} (hr : vx_Run p l e R s m args below meth c H locs cells slots mc1 ms1 (F0 m pc ls st0) rest Qa (zX base K px1) (base ≤ ·)) (hQ : ∀ st o t, Qa st o t → ∃ r u, o = .returned (val r) ∧ post r u ∧ zB base K u t ∧ va_F (base ≤ ·) st t) (hM : zM base K L f s H locs)
    (kx : ∀ (E : String) (ce : Cell) (q9 : Addr) (L1 : List Nat) (f1 : Nat → va_E) (H1 : Heap) (locs1 : List Loc), px1 E L1 f1 → zM base K L1 f1 s H1 locs1 → H1[q9]? = some ce → ce.vm = .none → s.vm.findClass E = some ce.cls → vx_W p l e R s m args below meth c H1 locs1 (cells + mc1) (slots + ms1) Q (F0 m pc ls rest) q9)
    (kk : ∀ (r : S) (L1 : List Nat) (f1 : Nat → va_E) (H1 : Heap) (locs1 : List Loc), post r (L1, f1) → zM base K L1 f1 s H1 locs1 → W p l e R s m args below meth c H1 locs1 (cells + mc1) (slots + ms1) Q (F0 m (pc + 3) ls ((val r).toList ++ rest))) : W p l e R s m args below meth c H locs cells slots Q (F0 m pc ls st0) := by
  intro T hT X
  rcases hr T hT X with ⟨v, st₀, t, T', LL, h0, X', hL, e1, e2, hq, st⟩ | ⟨q, st₀, t, T', LL, E, ce, h0, X', hL, e1, e2, ⟨u, -, hb, hF⟩, hce, hcv, hcl, st⟩
  · obtain ⟨r, u, hv, hp, hb, hF⟩ := hQ _ _ _ hq
    have hv : v = val r := by cases hv; rfl
    subst hv
    obtain ⟨k1, k2, k3⟩ := vx_keep h0 e1 hM.2.2 (fun _ _ h => h) (fun _ h => h) hL hF
    obtain ⟨t2, a1, b1⟩ := kk r u.1 u.2 T'.heap (locs ++ LL) hp ⟨by rw [e1]; exact hb.1, hb.2, k3⟩ T' rfl X'
    exact ⟨t2, st t2 a1, b1⟩
  · obtain ⟨k1, k2, k3⟩ := vx_keep h0 e1 hM.2.2 (fun _ _ h => h) (fun _ h => h) hL hF
    obtain ⟨t2, a1, b1⟩ := kx E ce q u.1 u.2 T'.heap (locs ++ LL) hb.1 ⟨by rw [e1]; exact hb.2.1, hb.2.2, k3⟩ (by rw [e1]; exact hce) hcv hcl T' rfl X'
    exact ⟨t2, st.trans a1, b1⟩
/-- not caught here -/
theorem z_xout {E : String} {ce : Cell} {q : Addr} (hM : zM base K L f s H locs) (hxt : ∀ x ∈ c.exceptionTable.toList, False) (hlk : meth.locks = false) (hcell : H[q]? = some ce) (hv : ce.vm = .none) (hcl : s.vm.findClass E = some ce.cls) (hp : px E L f) (hc : cells ≤ mc) (hs : slots ≤ ms) :
    vx_W p l e R s m args below meth c H locs cells slots (vx_MQ below Qc (zX base K px) args s mc ms (base ≤ ·)) (F0 m pc ls rest) q :=
  vx_out (fun x hx => (hxt x hx).elim) hlk hcell hv hcl (fun t ht _ => ⟨(L, f), trivial, ⟨hp, hM.B ht⟩, hM.F ht⟩) hM.2.2.2.2 hc hs
theorem z_xcalli {mc1 ms1 : Nat} {av : Array Value} {px1 : String → List Nat → (Nat → va_E) → Prop} {post : Int32 → List Nat → (Nat → va_E) → Prop} (hr : vx_Run p l e R s m args below meth c H locs cells slots mc1 ms1 (F0 m pc ls st0) rest (zQi base K post av) (zX base K px1) (base ≤ ·)) (hM : zM base K L f s H locs) (hxt : ∀ x ∈ c.exceptionTable.toList, False) (hlk : meth.locks = false) (hc : cells + mc1 ≤ mc) (hs : slots + ms1 ≤ ms) (hpx : ∀ E L1 f1, px1 E L1 f1 → px E L1 f1)
    (kk : ∀ (r : Int32) (L1 : List Nat) (f1 : Nat → va_E) (H1 : Heap) (locs1 : List Loc), post r L1 f1 → zM base K L1 f1 s H1 locs1 → W p l e R s m args below meth c H1 locs1 (cells + mc1) (slots + ms1) (vx_MQ below Qc (zX base K px) args s mc ms (base ≤ ·)) (F0 m (pc + 3) ls (.int r :: rest))) : W p l e R s m args below meth c H locs cells slots (vx_MQ below Qc (zX base K px) args s mc ms (base ≤ ·)) (F0 m pc ls st0) :=
  z_xq (av := av) (val := fun r : Int32 => some (.int r)) (post := fun r u => post r u.1 u.2) hr (fun st o t ⟨⟨r, u, h1, h2, h3⟩, h4⟩ => ⟨r, u, h1, h2, h3, h4⟩) hM (fun E ce q9 L1 f1 H1 locs1 hp hM1 h1 h2 h3 => z_xout hM1 hxt hlk h1 h2 h3 (hpx _ _ _ hp) hc hs) kk
theorem z_xcalll {mc1 ms1 : Nat} {av : Array Value} {px1 : String → List Nat → (Nat → va_E) → Prop} {post : Int64 → List Nat → (Nat → va_E) → Prop} (hr : vx_Run p l e R s m args below meth c H locs cells slots mc1 ms1 (F0 m pc ls st0) rest (zQl base K post av) (zX base K px1) (base ≤ ·)) (hM : zM base K L f s H locs) (hxt : ∀ x ∈ c.exceptionTable.toList, False) (hlk : meth.locks = false) (hc : cells + mc1 ≤ mc) (hs : slots + ms1 ≤ ms) (hpx : ∀ E L1 f1, px1 E L1 f1 → px E L1 f1)
    (kk : ∀ (r : Int64) (L1 : List Nat) (f1 : Nat → va_E) (H1 : Heap) (locs1 : List Loc), post r L1 f1 → zM base K L1 f1 s H1 locs1 → W p l e R s m args below meth c H1 locs1 (cells + mc1) (slots + ms1) (vx_MQ below Qc (zX base K px) args s mc ms (base ≤ ·)) (F0 m (pc + 3) ls (.long r :: rest))) : W p l e R s m args below meth c H locs cells slots (vx_MQ below Qc (zX base K px) args s mc ms (base ≤ ·)) (F0 m pc ls st0) :=
  z_xq (av := av) (val := fun r : Int64 => some (.long r)) (post := fun r u => post r u.1 u.2) hr (fun st o t ⟨⟨r, u, h1, h2, h3⟩, h4⟩ => ⟨r, u, h1, h2, h3, h4⟩) hM (fun E ce q9 L1 f1 H1 locs1 hp hM1 h1 h2 h3 => z_xout hM1 hxt hlk h1 h2 h3 (hpx _ _ _ hp) hc hs) kk
theorem z_xcallv {mc1 ms1 : Nat} {av : Array Value} {px1 : String → List Nat → (Nat → va_E) → Prop} {post : List Nat → (Nat → va_E) → Prop} (hr : vx_Run p l e R s m args below meth c H locs cells slots mc1 ms1 (F0 m pc ls st0) rest (zQv base K post av) (zX base K px1) (base ≤ ·)) (hM : zM base K L f s H locs) (hxt : ∀ x ∈ c.exceptionTable.toList, False) (hlk : meth.locks = false) (hc : cells + mc1 ≤ mc) (hs : slots + ms1 ≤ ms) (hpx : ∀ E L1 f1, px1 E L1 f1 → px E L1 f1)
    (kk : ∀ (L1 : List Nat) (f1 : Nat → va_E) (H1 : Heap) (locs1 : List Loc), post L1 f1 → zM base K L1 f1 s H1 locs1 → W p l e R s m args below meth c H1 locs1 (cells + mc1) (slots + ms1) (vx_MQ below Qc (zX base K px) args s mc ms (base ≤ ·)) (F0 m (pc + 3) ls rest)) : W p l e R s m args below meth c H locs cells slots (vx_MQ below Qc (zX base K px) args s mc ms (base ≤ ·)) (F0 m pc ls st0) :=
  z_xq (av := av) (val := fun _ : Unit => none) (post := fun _ u => post u.1 u.2) hr (fun st o t ⟨⟨u, h1, h2, h3⟩, h4⟩ => ⟨(), u, h1, h2, h3, h4⟩) hM (fun E ce q9 L1 f1 H1 locs1 hp hM1 h1 h2 h3 => z_xout hM1 hxt hlk h1 h2 h3 (hpx _ _ _ hp) hc hs) (fun _ => kk)
theorem z_xcallq {mc1 ms1 : Nat} {av : Array Value} {px1 : String → List Nat → (Nat → va_E) → Prop} {post : Option Nat → List Nat → (Nat → va_E) → Prop} (hr : vx_Run p l e R s m args below meth c H locs cells slots mc1 ms1 (F0 m pc ls st0) rest (zQq base K post av) (zX base K px1) (base ≤ ·)) (hM : zM base K L f s H locs) (hxt : ∀ x ∈ c.exceptionTable.toList, False) (hlk : meth.locks = false) (hc : cells + mc1 ≤ mc) (hs : slots + ms1 ≤ ms) (hpx : ∀ E L1 f1, px1 E L1 f1 → px E L1 f1)
    (kk : ∀ (r : Option Nat) (L1 : List Nat) (f1 : Nat → va_E) (H1 : Heap) (locs1 : List Loc), post r L1 f1 → zM base K L1 f1 s H1 locs1 → W p l e R s m args below meth c H1 locs1 (cells + mc1) (slots + ms1) (vx_MQ below Qc (zX base K px) args s mc ms (base ≤ ·)) (F0 m (pc + 3) ls (va_rf r :: rest))) : W p l e R s m args below meth c H locs cells slots (vx_MQ below Qc (zX base K px) args s mc ms (base ≤ ·)) (F0 m pc ls st0) :=
  z_xq (av := av) (val := fun r : Option Nat => some (va_rf r)) (post := fun r u => post r u.1 u.2) hr (fun st o t ⟨⟨r, u, h1, h2, h3⟩, h4⟩ => ⟨r, u, h1, h2, h3, h4⟩) hM (fun E ce q9 L1 f1 H1 locs1 hp hM1 h1 h2 h3 => z_xout hM1 hxt hlk h1 h2 h3 (hpx _ _ _ hp) hc hs) kk
end ZT
theorem zth_IA : zTh 235 239 xIA := ⟨by decide +kernel, by decide +kernel, wa_in 141 (by decide +kernel) rfl, wa_in 37 (by decide +kernel) rfl, by decide +kernel⟩
theorem zth_IO : zTh 220 224 xIO := ⟨by decide +kernel, by decide +kernel, wa_in 348 (by decide +kernel) rfl, wa_in 45 (by decide +kernel) rfl, by decide +kernel⟩
theorem zth_IS : zTh 46 50 xIS := ⟨by decide +kernel, by decide +kernel, wa_in 213 (by decide +kernel) rfl, wa_in 38 (by decide +kernel) rfl, by decide +kernel⟩
end
section
/-! THE FRAME, fourth part: whole numbers on the stack, comparisons by their whole values -/
def dc (x y : UInt64) : Int := match FP.dcmp x y with
  | none => -1
  | some .lt => -1
  | some .eq => 0
  | some .gt => 1
theorem i32_lt {x y : Int32} : x < y ↔ x.toInt < y.toInt := Int32.lt_iff_toInt_lt
theorem i32_le {x y : Int32} : x ≤ y ↔ x.toInt ≤ y.toInt := Int32.le_iff_toInt_le
theorem i32_eq {x y : Int32} : x = y ↔ x.toInt = y.toInt := ⟨fun h => by rw [h], fun h => Int32.toInt.inj h⟩
theorem nI_of_int {x : Int32} (h : 0 ≤ x.toInt) : x = nI x.toInt.toNat := by
  have h1 : x.toInt < 2 ^ 31 := Int32.toInt_lt x
  have h2 : x.toInt.toNat < 2 ^ 31 := by omega
  apply Int32.toInt.inj
  rw [nI_toInt h2]
  omega
theorem nI_of_range {x : Int32} {a b : Int} (h0 : 0 ≤ a) (h : a ≤ x.toInt) (h2 : x.toInt ≤ b) : ∃ j : Nat, a ≤ (j : Int) ∧ (j : Int) ≤ b ∧ x = nI j := ⟨x.toInt.toNat, by omega, by omega, nI_of_int (by omega)⟩
section ZI
variable {p : Program} {l : Launch} {e : Env} {R : Room} {s : State} {m : MethodId} {args : Array Value} {below : List Frame} {meth : Method} {c : Code} {H : Heap} {locs : List Loc} {cells slots : Nat} {Q : State → Prop}
variable {cc : ByteArray} {pc : Nat} {ls : Array Slot} {rest : List Value}
theorem z_iadd (hx : p.tables.exec = Jvm.exec) (hb : c.code = cc) {a b : Nat} (hdg : decode cc pc = .ok (.iadd, 1)) (k : W p l e R s m args below meth c H locs cells slots Q (F0 m (pc + 1) ls (.int (nI (a + b)) :: rest))) : W p l e R s m args below meth c H locs cells slots Q (F0 m pc ls (.int (nI b) :: .int (nI a) :: rest)) := by
  refine lv_iadd hx hb hdg ?_
  rw [nI_add]
  exact k
theorem z_isub (hx : p.tables.exec = Jvm.exec) (hb : c.code = cc) {a b : Nat} (h : b ≤ a) (hdg : decode cc pc = .ok (.isub, 1)) (k : W p l e R s m args below meth c H locs cells slots Q (F0 m (pc + 1) ls (.int (nI (a - b)) :: rest))) : W p l e R s m args below meth c H locs cells slots Q (F0 m pc ls (.int (nI b) :: .int (nI a) :: rest)) := by
  refine lv_isub hx hb hdg ?_
  rw [pk_sub h]
  exact k
theorem z_imul (hx : p.tables.exec = Jvm.exec) (hb : c.code = cc) {a b : Nat} (hdg : decode cc pc = .ok (.imul, 1)) (k : W p l e R s m args below meth c H locs cells slots Q (F0 m (pc + 1) ls (.int (nI (a * b)) :: rest))) : W p l e R s m args below meth c H locs cells slots Q (F0 m pc ls (.int (nI b) :: .int (nI a) :: rest)) := by
  refine lv_imul hx hb hdg ?_
  rw [pk_mul]
  exact k
theorem z_irem (hx : p.tables.exec = Jvm.exec) (hb : c.code = cc) {a b : Nat} (ha : a < 2 ^ 31) (h0 : 0 < b) (hb2 : b < 2 ^ 31) (hdg : decode cc pc = .ok (.irem, 1)) (k : W p l e R s m args below meth c H locs cells slots Q (F0 m (pc + 1) ls (.int (nI (a % b)) :: rest))) : W p l e R s m args below meth c H locs cells slots Q (F0 m pc ls (.int (nI b) :: .int (nI a) :: rest)) := by
  refine lv_irem hx hb hdg (nI_ne0 h0 hb2) ?_
  rw [pk_rem ha h0 hb2]
  exact k
theorem z_idiv (hx : p.tables.exec = Jvm.exec) (hb : c.code = cc) {a b : Nat} (ha : a < 2 ^ 31) (h0 : 0 < b) (hb2 : b < 2 ^ 31) (hdg : decode cc pc = .ok (.idiv, 1)) (k : W p l e R s m args below meth c H locs cells slots Q (F0 m (pc + 1) ls (.int (nI (a / b)) :: rest))) : W p l e R s m args below meth c H locs cells slots Q (F0 m pc ls (.int (nI b) :: .int (nI a) :: rest)) := by
  refine lv_idiv hx hb hdg (nI_ne0 h0 hb2) ?_
  rw [pk_div ha h0 hb2]
  exact k
theorem z_if_eq (hexec : p.tables.exec = Jvm.exec) (hb : c.code = cc) {x : Int32} {ex : Int} (hx : x.toInt = ex) {off : Int} {tgt : Nat} (hdg : decode cc pc = .ok (.ifCond .eq off, 3)) (ht : (pc : Int) + off = (tgt : Int))
    (kt : ex = 0 → W p l e R s m args below meth c H locs cells slots Q (F0 m tgt ls rest)) (kf : ex ≠ 0 → W p l e R s m args below meth c H locs cells slots Q (F0 m (pc + 3) ls rest)) : W p l e R s m args below meth c H locs cells slots Q (F0 m pc ls (.int x :: rest)) :=
  lv_if_eq hexec hb hdg ht (fun h => kt (by rw [← hx, h]; rfl)) (fun h => kf (fun h2 => h (i32_eq.mpr (by rw [hx, h2]; rfl))))
theorem z_if_ne (hexec : p.tables.exec = Jvm.exec) (hb : c.code = cc) {x : Int32} {ex : Int} (hx : x.toInt = ex) {off : Int} {tgt : Nat} (hdg : decode cc pc = .ok (.ifCond .ne off, 3)) (ht : (pc : Int) + off = (tgt : Int))
    (kt : ex ≠ 0 → W p l e R s m args below meth c H locs cells slots Q (F0 m tgt ls rest)) (kf : ex = 0 → W p l e R s m args below meth c H locs cells slots Q (F0 m (pc + 3) ls rest)) : W p l e R s m args below meth c H locs cells slots Q (F0 m pc ls (.int x :: rest)) :=
  lv_if_ne hexec hb hdg ht (fun h => kt (fun h2 => h (i32_eq.mpr (by rw [hx, h2]; rfl)))) (fun h => kf (by rw [← hx, h]; rfl))
theorem z_if_lt (hexec : p.tables.exec = Jvm.exec) (hb : c.code = cc) {x : Int32} {ex : Int} (hx : x.toInt = ex) {off : Int} {tgt : Nat} (hdg : decode cc pc = .ok (.ifCond .lt off, 3)) (ht : (pc : Int) + off = (tgt : Int))
    (kt : ex < 0 → W p l e R s m args below meth c H locs cells slots Q (F0 m tgt ls rest)) (kf : 0 ≤ ex → W p l e R s m args below meth c H locs cells slots Q (F0 m (pc + 3) ls rest)) : W p l e R s m args below meth c H locs cells slots Q (F0 m pc ls (.int x :: rest)) :=
  lv_if_lt hexec hb hdg ht (fun h => kt (by have := i32_lt.mp h; rw [hx] at this; exact this)) (fun h => kf (by have := mt i32_lt.mpr h; rw [hx] at this; exact Int.not_lt.mp this))
theorem z_if_ge (hexec : p.tables.exec = Jvm.exec) (hb : c.code = cc) {x : Int32} {ex : Int} (hx : x.toInt = ex) {off : Int} {tgt : Nat} (hdg : decode cc pc = .ok (.ifCond .ge off, 3)) (ht : (pc : Int) + off = (tgt : Int))
    (kt : 0 ≤ ex → W p l e R s m args below meth c H locs cells slots Q (F0 m tgt ls rest)) (kf : ex < 0 → W p l e R s m args below meth c H locs cells slots Q (F0 m (pc + 3) ls rest)) : W p l e R s m args below meth c H locs cells slots Q (F0 m pc ls (.int x :: rest)) :=
  lv_if_ge hexec hb hdg ht (fun h => kt (by have := i32_le.mp h; rw [hx] at this; exact this)) (fun h => kf (by have := mt i32_le.mpr h; rw [hx] at this; exact Int.not_le.mp this))
theorem z_if_gt (hexec : p.tables.exec = Jvm.exec) (hb : c.code = cc) {x : Int32} {ex : Int} (hx : x.toInt = ex) {off : Int} {tgt : Nat} (hdg : decode cc pc = .ok (.ifCond .gt off, 3)) (ht : (pc : Int) + off = (tgt : Int))
    (kt : 0 < ex → W p l e R s m args below meth c H locs cells slots Q (F0 m tgt ls rest)) (kf : ex ≤ 0 → W p l e R s m args below meth c H locs cells slots Q (F0 m (pc + 3) ls rest)) : W p l e R s m args below meth c H locs cells slots Q (F0 m pc ls (.int x :: rest)) :=
  lv_if_gt hexec hb hdg ht (fun h => kt (by have := i32_lt.mp h; rw [hx] at this; exact this)) (fun h => kf (by have := mt i32_lt.mpr h; rw [hx] at this; exact Int.not_lt.mp this))
theorem z_if_le (hexec : p.tables.exec = Jvm.exec) (hb : c.code = cc) {x : Int32} {ex : Int} (hx : x.toInt = ex) {off : Int} {tgt : Nat} (hdg : decode cc pc = .ok (.ifCond .le off, 3)) (ht : (pc : Int) + off = (tgt : Int))
    (kt : ex ≤ 0 → W p l e R s m args below meth c H locs cells slots Q (F0 m tgt ls rest)) (kf : 0 < ex → W p l e R s m args below meth c H locs cells slots Q (F0 m (pc + 3) ls rest)) : W p l e R s m args below meth c H locs cells slots Q (F0 m pc ls (.int x :: rest)) :=
  lv_if_le hexec hb hdg ht (fun h => kt (by have := i32_le.mp h; rw [hx] at this; exact this)) (fun h => kf (by have := mt i32_le.mpr h; rw [hx] at this; exact Int.not_le.mp this))
theorem z_icmp_eq (hexec : p.tables.exec = Jvm.exec) (hb : c.code = cc) {x y : Int32} {ex ey : Int} (hx : x.toInt = ex) (hy : y.toInt = ey) {off : Int} {tgt : Nat} (hdg : decode cc pc = .ok (.if_icmp .eq off, 3)) (ht : (pc : Int) + off = (tgt : Int))
    (kt : ex = ey → W p l e R s m args below meth c H locs cells slots Q (F0 m tgt ls rest)) (kf : ex ≠ ey → W p l e R s m args below meth c H locs cells slots Q (F0 m (pc + 3) ls rest)) : W p l e R s m args below meth c H locs cells slots Q (F0 m pc ls (.int y :: .int x :: rest)) :=
  lv_icmp_eq hexec hb hdg ht (fun h => kt (by rw [← hx, ← hy, h])) (fun h => kf (fun h2 => h (i32_eq.mpr (by rw [hx, hy, h2]))))
theorem z_icmp_ne (hexec : p.tables.exec = Jvm.exec) (hb : c.code = cc) {x y : Int32} {ex ey : Int} (hx : x.toInt = ex) (hy : y.toInt = ey) {off : Int} {tgt : Nat} (hdg : decode cc pc = .ok (.if_icmp .ne off, 3)) (ht : (pc : Int) + off = (tgt : Int))
    (kt : ex ≠ ey → W p l e R s m args below meth c H locs cells slots Q (F0 m tgt ls rest)) (kf : ex = ey → W p l e R s m args below meth c H locs cells slots Q (F0 m (pc + 3) ls rest)) : W p l e R s m args below meth c H locs cells slots Q (F0 m pc ls (.int y :: .int x :: rest)) :=
  lv_icmp_ne hexec hb hdg ht (fun h => kt (fun h2 => h (i32_eq.mpr (by rw [hx, hy, h2])))) (fun h => kf (by rw [← hx, ← hy, h]))
theorem z_icmp_lt (hexec : p.tables.exec = Jvm.exec) (hb : c.code = cc) {x y : Int32} {ex ey : Int} (hx : x.toInt = ex) (hy : y.toInt = ey) {off : Int} {tgt : Nat} (hdg : decode cc pc = .ok (.if_icmp .lt off, 3)) (ht : (pc : Int) + off = (tgt : Int))
    (kt : ex < ey → W p l e R s m args below meth c H locs cells slots Q (F0 m tgt ls rest)) (kf : ey ≤ ex → W p l e R s m args below meth c H locs cells slots Q (F0 m (pc + 3) ls rest)) : W p l e R s m args below meth c H locs cells slots Q (F0 m pc ls (.int y :: .int x :: rest)) :=
  lv_icmp_lt hexec hb hdg ht (fun h => kt (by have := i32_lt.mp h; rw [hx, hy] at this; exact this)) (fun h => kf (by have := mt i32_lt.mpr h; rw [hx, hy] at this; exact Int.not_lt.mp this))
theorem z_icmp_ge (hexec : p.tables.exec = Jvm.exec) (hb : c.code = cc) {x y : Int32} {ex ey : Int} (hx : x.toInt = ex) (hy : y.toInt = ey) {off : Int} {tgt : Nat} (hdg : decode cc pc = .ok (.if_icmp .ge off, 3)) (ht : (pc : Int) + off = (tgt : Int))
    (kt : ey ≤ ex → W p l e R s m args below meth c H locs cells slots Q (F0 m tgt ls rest)) (kf : ex < ey → W p l e R s m args below meth c H locs cells slots Q (F0 m (pc + 3) ls rest)) : W p l e R s m args below meth c H locs cells slots Q (F0 m pc ls (.int y :: .int x :: rest)) :=
  lv_icmp_ge hexec hb hdg ht (fun h => kt (by have := i32_le.mp h; rw [hx, hy] at this; exact this)) (fun h => kf (by have := mt i32_le.mpr h; rw [hx, hy] at this; exact Int.not_le.mp this))
theorem z_icmp_gt (hexec : p.tables.exec = Jvm.exec) (hb : c.code = cc) {x y : Int32} {ex ey : Int} (hx : x.toInt = ex) (hy : y.toInt = ey) {off : Int} {tgt : Nat} (hdg : decode cc pc = .ok (.if_icmp .gt off, 3)) (ht : (pc : Int) + off = (tgt : Int))
    (kt : ey < ex → W p l e R s m args below meth c H locs cells slots Q (F0 m tgt ls rest)) (kf : ex ≤ ey → W p l e R s m args below meth c H locs cells slots Q (F0 m (pc + 3) ls rest)) : W p l e R s m args below meth c H locs cells slots Q (F0 m pc ls (.int y :: .int x :: rest)) :=
  lv_icmp_gt hexec hb hdg ht (fun h => kt (by have := i32_lt.mp h; rw [hx, hy] at this; exact this)) (fun h => kf (by have := mt i32_lt.mpr h; rw [hx, hy] at this; exact Int.not_lt.mp this))
theorem z_icmp_le (hexec : p.tables.exec = Jvm.exec) (hb : c.code = cc) {x y : Int32} {ex ey : Int} (hx : x.toInt = ex) (hy : y.toInt = ey) {off : Int} {tgt : Nat} (hdg : decode cc pc = .ok (.if_icmp .le off, 3)) (ht : (pc : Int) + off = (tgt : Int))
    (kt : ex ≤ ey → W p l e R s m args below meth c H locs cells slots Q (F0 m tgt ls rest)) (kf : ey < ex → W p l e R s m args below meth c H locs cells slots Q (F0 m (pc + 3) ls rest)) : W p l e R s m args below meth c H locs cells slots Q (F0 m pc ls (.int y :: .int x :: rest)) :=
  lv_icmp_le hexec hb hdg ht (fun h => kt (by have := i32_le.mp h; rw [hx, hy] at this; exact this)) (fun h => kf (by have := mt i32_le.mpr h; rw [hx, hy] at this; exact Int.not_le.mp this))
theorem dc_l (x y : UInt64) : (Op.cmpValue (FP.dcmp x y) .l).toInt = dc x y := by
  unfold dc
  cases FP.dcmp x y with
  | none => decide
  | some o => cases o <;> decide
theorem dc_g {x y : UInt64} (h : FP.dcmp x y ≠ none) : (Op.cmpValue (FP.dcmp x y) .g).toInt = dc x y := by
  unfold dc
  cases h2 : FP.dcmp x y with
  | none => exact absurd h2 h
  | some o => cases o <;> decide
/-- downward: what holds at the end holds from any beginning -/
theorem z_down {P : Nat → Prop} (e : Nat) (he : P e) (hs : ∀ i, i < e → P (i + 1) → P i) : ∀ i, i ≤ e → P i := by
  have key : ∀ d i, i + d = e → P i := by
    intro d
    induction d with
    | zero => intro i h; have : i = e := by omega
              subst this; exact he
    | succ d ih => intro i h; exact hs i (by omega) (ih (i + 1) (by omega))
  exact fun i h => key (e - i) i (by omega)
end ZI
end
section
/-! THE FRAME, fifth part: exact contracts (a value and the world behind it), truth values on the stack -/
def zb (C : Prop) [Decidable C] : Int32 := if C then 1 else 0
theorem zb_t {C : Prop} [Decidable C] (h : C) : nI 1 = zb C := by unfold zb; rw [if_pos h]; rfl
theorem zb_f {C : Prop} [Decidable C] (h : ¬ C) : nI 0 = zb C := by unfold zb; rw [if_neg h]; rfl
theorem zb_c {C D : Prop} [Decidable C] [Decidable D] (h : C ↔ D) : zb C = zb D := by
  unfold zb
  by_cases c : C
  · rw [if_pos c, if_pos (h.mp c)]
  · rw [if_neg c, if_neg (fun d => c (h.mpr d))]
theorem zb_1 {C : Prop} [Decidable C] (h : ¬ zb C = 0) : C := by
  by_cases c : C
  · exact c
  · exact absurd (if_neg c) h
theorem zb_0 {C : Prop} [Decidable C] (h : zb C = 0) : ¬ C := by
  intro c
  unfold zb at h
  rw [if_pos c] at h
  exact absurd h (by decide)
theorem zb_nar {C : Prop} [Decidable C] : narrow .boolean (.int (zb C)) = .int (zb C) := by
  unfold zb; by_cases c : C
  · rw [if_pos c]; rfl
  · rw [if_neg c]; rfl
abbrev zr (fr ce sl lo : Nat) : Room := { frames := fr, cells := ce, slots := sl, locals := lo }
abbrev zMet (l : Launch) (y : MethodName) (b : ByteArray) (n : Nat) (r : Option FieldType) (rm : Room) (base : Nat) (K : zK) (L : List Nat) (f : Nat → va_E) (av : List Value) (Qc : Array Value → State → Outcome → State → Prop) : Prop := Met l y (wz y b n r) rm (va_Pc av (zPre base K L f)) Qc rm.cells rm.slots (base ≤ ·)
abbrev zXMet (l : Launch) (y : MethodName) (b : ByteArray) (n : Nat) (r : Option FieldType) (rm : Room) (base : Nat) (K : zK) (L : List Nat) (f : Nat → va_E) (av : List Value) (Qc : Array Value → State → Outcome → State → Prop) (px : String → List Nat → (Nat → va_E) → Prop) : Prop := vx_Met l y (wz y b n r) rm (va_Pc av (zPre base K L f)) Qc (zX base K px) rm.cells rm.slots (base ≤ ·)
abbrev zFi (base : Nat) (K : zK) (v : Int32) (L : List Nat) (f : Nat → va_E) := zQi base K (fun r L1 f1 => r = v ∧ L1 = L ∧ f1 = f)
abbrev zFl (base : Nat) (K : zK) (v : Int64) (L : List Nat) (f : Nat → va_E) := zQl base K (fun r L1 f1 => r = v ∧ L1 = L ∧ f1 = f)
abbrev zFd (base : Nat) (K : zK) (v : UInt64) (L : List Nat) (f : Nat → va_E) := zQd base K (fun r L1 f1 => r = v ∧ L1 = L ∧ f1 = f)
abbrev zFq (base : Nat) (K : zK) (v : Option Nat) (L : List Nat) (f : Nat → va_E) := zQq base K (fun r L1 f1 => r = v ∧ L1 = L ∧ f1 = f)
abbrev zFv (base : Nat) (K : zK) (L : List Nat) (f : Nat → va_E) := zQv base K (fun L1 f1 => L1 = L ∧ f1 = f)
section ZE
variable {p : Program} {l : Launch} {e : Env} {R : Room} {s : State} {m : MethodId} {args : Array Value} {below : List Frame} {meth : Method} {c : Code} {H : Heap} {locs : List Loc} {cells slots : Nat} {Q : State → Prop}
variable {cc : ByteArray} {nL pc : Nat} {own : String} {base : Nat} {K : zK} {L L' : List Nat} {f f' : Nat → va_E} {ls : Array Slot} {rest st0 : List Value} {a : Nat} {mc ms : Nat} {Qc : Array Value → State → Outcome → State → Prop} {px : String → List Nat → (Nat → va_E) → Prop}
theorem z_fcalli {mc1 ms1 : Nat} {av : Array Value} {v : Int32} (hr : va_Run p l e R s m args below meth c H locs cells slots mc1 ms1 (F0 m pc ls st0) rest (zFi base K v L' f' av) (base ≤ ·)) (hM : zM base K L f s H locs)
    (kk : ∀ (H1 : Heap) (locs1 : List Loc), zM base K L' f' s H1 locs1 → W p l e R s m args below meth c H1 locs1 (cells + mc1) (slots + ms1) Q (F0 m (pc + 3) ls (.int v :: rest))) : W p l e R s m args below meth c H locs cells slots Q (F0 m pc ls st0) :=
  z_calli hr hM (fun r L1 f1 H1 locs1 ⟨h1, h2, h3⟩ hM1 => by subst h1 h2 h3; exact kk H1 locs1 hM1)
theorem z_fcalll {mc1 ms1 : Nat} {av : Array Value} {v : Int64} (hr : va_Run p l e R s m args below meth c H locs cells slots mc1 ms1 (F0 m pc ls st0) rest (zFl base K v L' f' av) (base ≤ ·)) (hM : zM base K L f s H locs)
    (kk : ∀ (H1 : Heap) (locs1 : List Loc), zM base K L' f' s H1 locs1 → W p l e R s m args below meth c H1 locs1 (cells + mc1) (slots + ms1) Q (F0 m (pc + 3) ls (.long v :: rest))) : W p l e R s m args below meth c H locs cells slots Q (F0 m pc ls st0) :=
  z_calll hr hM (fun r L1 f1 H1 locs1 ⟨h1, h2, h3⟩ hM1 => by subst h1 h2 h3; exact kk H1 locs1 hM1)
theorem z_fcalld {mc1 ms1 : Nat} {av : Array Value} {v : UInt64} (hr : va_Run p l e R s m args below meth c H locs cells slots mc1 ms1 (F0 m pc ls st0) rest (zFd base K v L' f' av) (base ≤ ·)) (hM : zM base K L f s H locs)
    (kk : ∀ (H1 : Heap) (locs1 : List Loc), zM base K L' f' s H1 locs1 → W p l e R s m args below meth c H1 locs1 (cells + mc1) (slots + ms1) Q (F0 m (pc + 3) ls (.double v :: rest))) : W p l e R s m args below meth c H locs cells slots Q (F0 m pc ls st0) :=
  z_calld hr hM (fun r L1 f1 H1 locs1 ⟨h1, h2, h3⟩ hM1 => by subst h1 h2 h3; exact kk H1 locs1 hM1)
theorem z_fcallq {mc1 ms1 : Nat} {av : Array Value} {v : Option Nat} (hr : va_Run p l e R s m args below meth c H locs cells slots mc1 ms1 (F0 m pc ls st0) rest (zFq base K v L' f' av) (base ≤ ·)) (hM : zM base K L f s H locs)
    (kk : ∀ (H1 : Heap) (locs1 : List Loc), zM base K L' f' s H1 locs1 → W p l e R s m args below meth c H1 locs1 (cells + mc1) (slots + ms1) Q (F0 m (pc + 3) ls (va_rf v :: rest))) : W p l e R s m args below meth c H locs cells slots Q (F0 m pc ls st0) :=
  z_callq hr hM (fun r L1 f1 H1 locs1 ⟨h1, h2, h3⟩ hM1 => by subst h1 h2 h3; exact kk H1 locs1 hM1)
theorem z_fcallv {mc1 ms1 : Nat} {av : Array Value} (hr : va_Run p l e R s m args below meth c H locs cells slots mc1 ms1 (F0 m pc ls st0) rest (zFv base K L' f' av) (base ≤ ·)) (hM : zM base K L f s H locs)
    (kk : ∀ (H1 : Heap) (locs1 : List Loc), zM base K L' f' s H1 locs1 → W p l e R s m args below meth c H1 locs1 (cells + mc1) (slots + ms1) Q (F0 m (pc + 3) ls rest)) : W p l e R s m args below meth c H locs cells slots Q (F0 m pc ls st0) :=
  z_callv hr hM (fun L1 f1 H1 locs1 ⟨h2, h3⟩ hM1 => by subst h2 h3; exact kk H1 locs1 hM1)
theorem z_if_eqB (hexec : p.tables.exec = Jvm.exec) (hb : c.code = cc) {C : Prop} [Decidable C] {off : Int} {tgt : Nat} (hdg : decode cc pc = .ok (.ifCond .eq off, 3)) (ht : (pc : Int) + off = (tgt : Int))
    (kt : ¬ C → W p l e R s m args below meth c H locs cells slots Q (F0 m tgt ls rest)) (kf : C → W p l e R s m args below meth c H locs cells slots Q (F0 m (pc + 3) ls rest)) : W p l e R s m args below meth c H locs cells slots Q (F0 m pc ls (.int (zb C) :: rest)) :=
  lv_if_eq hexec hb hdg ht (fun h => kt (zb_0 h)) (fun h => kf (zb_1 h))
theorem z_if_neB (hexec : p.tables.exec = Jvm.exec) (hb : c.code = cc) {C : Prop} [Decidable C] {off : Int} {tgt : Nat} (hdg : decode cc pc = .ok (.ifCond .ne off, 3)) (ht : (pc : Int) + off = (tgt : Int))
    (kt : C → W p l e R s m args below meth c H locs cells slots Q (F0 m tgt ls rest)) (kf : ¬ C → W p l e R s m args below meth c H locs cells slots Q (F0 m (pc + 3) ls rest)) : W p l e R s m args below meth c H locs cells slots Q (F0 m pc ls (.int (zb C) :: rest)) :=
  lv_if_ne hexec hb hdg ht (fun h => kt (zb_1 h)) (fun h => kf (zb_0 h))
end ZE
end
section
/-! THE FRAME, sixth part: making arrays, private constructors, references that may be null -/
theorem za_uniq {K : zK} {s : State} {cl : List vw_C} {D : va_G} {cA c0 : ClassId} {ty : FieldType} (h : va_K D cl (ztys K ++ [(cA, ty)]) s) (t0 : Nat) (ht : (ztys K)[t0]? = some (c0, ty)) : cA = c0 := by
  have h1 := (h.2 5 (cA, ty) rfl).2
  have hl : t0 < (ztys K).length := (List.getElem?_eq_some_iff.mp ht).1
  have h2 := (h.2 t0 (c0, ty) (by rw [List.getElem?_append_left hl]; exact ht)).2
  cases ty with
  | object C =>
    obtain ⟨-, -, -, -, -, e1⟩ := h1
    obtain ⟨-, -, -, -, -, e2⟩ := h2
    exact Option.some.inj (e1.symm.trans e2)
  | _ => exact Option.some.inj (Eq.trans (Eq.symm h1) h2)
theorem z_notin {A : Nat → Prop} {L : List Nat} {f : Nat → va_E} {q : Nat} {x : va_E} (hD : va_D A (va_pl L f ++ [(q, x)])) : q ∉ L := by
  intro h
  obtain ⟨k, hk⟩ := pl_at (f := f) h
  have hkl : k < (va_pl L f).length := (List.getElem?_eq_some_iff.mp hk).1
  have := hD.1 k (va_pl L f).length (q, f q) (q, x) (by rw [List.getElem?_append_left hkl]; exact hk) (by rw [List.getElem?_append_right (Nat.le_refl _)]; simp) rfl
  omega
theorem cb_int {n B : Nat} (h : n * 8 ≤ B) : n * componentBytes .int ≤ B := by
  have e : componentBytes FieldType.int = 4 := by decide
  rw [e]
  omega
theorem cb_boolean {n B : Nat} (h : n * 8 ≤ B) : n * componentBytes .boolean ≤ B := by
  have e : componentBytes FieldType.boolean = 1 := by decide
  rw [e]
  omega
theorem cb_double {n B : Nat} (h : n * 8 ≤ B) : n * componentBytes .double ≤ B := by
  have e : componentBytes FieldType.double = 8 := by decide
  rw [e]
  omega
theorem cb_long {n B : Nat} (h : n * 8 ≤ B) : n * componentBytes .long ≤ B := by
  have e : componentBytes FieldType.long = 8 := by decide
  rw [e]
  omega
section ZA
variable {p : Program} {l : Launch} {e : Env} {R : Room} {s : State} {m : MethodId} {args : Array Value} {below : List Frame} {meth : Method} {c : Code} {H : Heap} {locs : List Loc} {cells slots : Nat} {Q : State → Prop}
variable {cc : ByteArray} {nL pc : Nat} {own : String} {base : Nat} {K : zK} {L : List Nat} {f : Nat → va_E} {ls : Array Slot} {rest st0 : List Value} {a : Nat} {mc ms : Nat} {Qc : Array Value → State → Outcome → State → Prop}
theorem z_newa {atype : ArrayType} {ty : FieldType} {x : vp_A} {c0 : ClassId} (t0 : Nat) (ht : (ztys K)[t0]? = some (c0, ty)) (hty : newarray.typeOf atype = ty) {n : Nat} (ha : ∀ cA : ClassId, vp_cell cA x = arrV cA n (fun _ => defaultValue ty)) (hC : zC p s args m c cc nL own base K) (hM : zM base K L f s H locs) (harr : Cond.arrayClass ty ∈ WA) (hn : n * 8 ≤ 536870912) (hbytes : n * componentBytes ty ≤ 536870912) (hcells : cells + 1 ≤ R.cells) (hslots : slots + n ≤ R.slots) (hdg : decode cc pc = .ok (.newarray atype, 2))
    (kk : ∀ (q : Nat) (H1 : Heap), q ∉ L → zM base K (L ++ [q]) (va_up f q (.inl (c0, x))) s H1 locs → W p l e R s m args below meth c H1 locs (cells + 1) (slots + n) Q (F0 m (pc + 2) ls (.ref q :: rest))) : W p l e R s m args below meth c H locs cells slots Q (F0 m pc ls (.int (nI n) :: rest)) := by
  have hb : base ≤ s.heap.size := hC.2.2.2.2.2.2.2.2.2.2.2.2.2.2.2.2
  refine va_newa hC.1 hC.2.1 (atype := atype) (by rw [hty]; exact hC.2.2.2.2.1 _ harr) hty hC.2.2.2.2.2.1 hM.1 hM.2.1 hM.2.2 (fun q h => Nat.le_trans hb h) ha (nI_pos (by omega)) (nI_clamp (by omega)) hbytes hcells hslots hdg (fun q cA H1 hK hP hD hS => ?_)
  have := za_uniq hK t0 ht
  subst this
  have hq := z_notin hD
  rw [va_pl_push hq] at hP hD
  exact kk q H1 hq ⟨hP, hD, hS⟩
theorem z_newI {n : Nat} (hC : zC p s args m c cc nL own base K) (hM : zM base K L f s H locs) (harr : Cond.arrayClass .int ∈ WA) (hn : n * 8 ≤ 536870912) (hcells : cells + 1 ≤ R.cells) (hslots : slots + n ≤ R.slots) (hdg : decode cc pc = .ok (.newarray .int, 2))
    (kk : ∀ (q : Nat) (H1 : Heap), q ∉ L → zM base K (L ++ [q]) (va_up f q (eI K n (fun _ => 0))) s H1 locs → W p l e R s m args below meth c H1 locs (cells + 1) (slots + n) Q (F0 m (pc + 2) ls (.ref q :: rest))) : W p l e R s m args below meth c H locs cells slots Q (F0 m pc ls (.int (nI n) :: rest)) :=
  z_newa (n := n) (x := (n, .inl (fun _ => 0))) 1 rfl rfl (fun _ => rfl) hC hM harr hn (cb_int hn) hcells hslots hdg kk
theorem z_newZ {n : Nat} (hC : zC p s args m c cc nL own base K) (hM : zM base K L f s H locs) (harr : Cond.arrayClass .boolean ∈ WA) (hn : n * 8 ≤ 536870912) (hcells : cells + 1 ≤ R.cells) (hslots : slots + n ≤ R.slots) (hdg : decode cc pc = .ok (.newarray .boolean, 2))
    (kk : ∀ (q : Nat) (H1 : Heap), q ∉ L → zM base K (L ++ [q]) (va_up f q (eZ K n (fun _ => 0))) s H1 locs → W p l e R s m args below meth c H1 locs (cells + 1) (slots + n) Q (F0 m (pc + 2) ls (.ref q :: rest))) : W p l e R s m args below meth c H locs cells slots Q (F0 m pc ls (.int (nI n) :: rest)) :=
  z_newa (n := n) (x := (n, .inl (fun _ => 0))) 2 rfl rfl (fun _ => rfl) hC hM harr hn (cb_boolean hn) hcells hslots hdg kk
theorem z_newD {n : Nat} (hC : zC p s args m c cc nL own base K) (hM : zM base K L f s H locs) (harr : Cond.arrayClass .double ∈ WA) (hn : n * 8 ≤ 536870912) (hcells : cells + 1 ≤ R.cells) (hslots : slots + n ≤ R.slots) (hdg : decode cc pc = .ok (.newarray .double, 2))
    (kk : ∀ (q : Nat) (H1 : Heap), q ∉ L → zM base K (L ++ [q]) (va_up f q (eD K n (fun _ => 0))) s H1 locs → W p l e R s m args below meth c H1 locs (cells + 1) (slots + n) Q (F0 m (pc + 2) ls (.ref q :: rest))) : W p l e R s m args below meth c H locs cells slots Q (F0 m pc ls (.int (nI n) :: rest)) :=
  z_newa (n := n) (x := (n, .inr (.inr (.inr (.inl (fun _ => 0)))))) 0 rfl rfl (fun _ => rfl) hC hM harr hn (cb_double hn) hcells hslots hdg kk
theorem z_newJ {n : Nat} (hC : zC p s args m c cc nL own base K) (hM : zM base K L f s H locs) (harr : Cond.arrayClass .long ∈ WA) (hn : n * 8 ≤ 536870912) (hcells : cells + 1 ≤ R.cells) (hslots : slots + n ≤ R.slots) (hdg : decode cc pc = .ok (.newarray .long, 2))
    (kk : ∀ (q : Nat) (H1 : Heap), q ∉ L → zM base K (L ++ [q]) (va_up f q (eJ K n (fun _ => 0))) s H1 locs → W p l e R s m args below meth c H1 locs (cells + 1) (slots + n) Q (F0 m (pc + 2) ls (.ref q :: rest))) : W p l e R s m args below meth c H locs cells slots Q (F0 m pc ls (.int (nI n) :: rest)) :=
  z_newa (n := n) (x := (n, .inr (.inl (fun _ => 0)))) 4 rfl rfl (fun _ => rfl) hC hM harr hn (cb_long hn) hcells hslots hdg kk
theorem z_newO {n : Nat} {index : Nat} (hC : zC p s args m c cc nL own base K) (hM : zM base K L f s H locs) (hlk : Cond.classLink own index "java/lang/Object" ∈ WA) (hn : n * 8 ≤ 536870912) (hcells : cells + 1 ≤ R.cells) (hslots : slots + n ≤ R.slots) (hdg : decode cc pc = .ok (.anewarray index, 3))
    (kk : ∀ (q : Nat) (H1 : Heap), q ∉ L → zM base K (L ++ [q]) (va_up f q (eO K n (fun _ => none))) s H1 locs → W p l e R s m args below meth c H1 locs (cells + 1) (slots + n) Q (F0 m (pc + 3) ls (.ref q :: rest))) : W p l e R s m args below meth c H locs cells slots Q (F0 m pc ls (.int (nI n) :: rest)) := by
  have hb : base ≤ s.heap.size := hC.2.2.2.2.2.2.2.2.2.2.2.2.2.2.2.2
  refine va_newq hC.1 hC.2.1 hC.2.2.2.1 (hC.2.2.2.2.1 _ hlk) hC.2.2.2.2.2.2.2.2.2.2.2.2.2.1 hC.2.2.2.2.2.1 hM.1 hM.2.1 hM.2.2 (fun q h => Nat.le_trans hb h) (nI_pos (by omega)) (nI_clamp (by omega)) (by omega) hcells hslots hdg (fun q cA H1 hK hP hD hS => ?_)
  have := za_uniq hK 3 rfl
  subst this
  have hq := z_notin hD
  rw [va_pl_push hq] at hP hD
  exact kk q H1 hq ⟨hP, hD, hS⟩
/-- a private constructor of a nest mate -/
theorem z_runIN {y : MethodName} {bytes : ByteArray} {maxL n index : Nat} {host : String} {rm : Room} {Qc : Array Value → State → Outcome → State → Prop} {free : Addr → Prop} {As : List Value}
    (hC : zC p s args m c cc nL own base K) (hM : zM base K L f s H locs) (ct : Met l y (wz y bytes maxL none) rm (va_Pc (.ref a :: As) (zPre base K L f)) Qc rm.cells rm.slots free) (zy : zY y bytes maxL none n) (zv : Cond.methodLinkNest own index y host ∈ zN ∧ Cond.instanceMethod y ∈ WA) (hy1 : y.name = "<init>")
    (hst : st0 = As.reverse ++ .ref a :: rest) (hn : As.length = n) (hsz : ls.size = nL) (hcat : (rest.map fun v => v.category).sum ≤ 8) (hR : rm.frames + 1 ≤ R.frames ∧ 8 + (maxL + 11) + rm.locals ≤ R.locals) (hcs : cells + rm.cells ≤ R.cells ∧ slots + rm.slots ≤ R.slots) (hdg : decode cc pc = .ok (.invokespecial index, 3)) :
    va_Run p l e R s m args below meth c H locs cells slots rm.cells rm.slots (F0 m pc ls st0) rest (Qc (Value.ref a :: As).toArray) free :=
  va_runIN (z_fix hC) ct ⟨va_cnB n hC.2.2.2.2.1 (wz_in zy.1) rfl rfl rfl (hC.2.2.2.2.2.2.2.2.2.2.2.1 _ zv.1) (hC.2.2.2.2.1 _ zy.2.1) zy.2.2 hR, hy1, hC.2.2.2.2.1 _ zv.2⟩ ⟨zPre.blind, z_pre hC hM⟩ rfl hn hsz hst (lv_room hcat) hdg hcs
theorem z_narq (C : String) (v : Option Nat) : narrow (.object C) (va_rf v) = va_rf v := by cases v <;> rfl
theorem z_fitq (C : String) (v : Option Nat) : fits (.object C) (va_rf v) = true := by cases v <;> rfl
/-- a cast to the class that the cell is of -/
theorem z_cast {ci N index : Nat} {C : String} {T : u_T} {ty : Nat → FieldType} {fs : List Value} (hC : zC p s args m c cc nL own base K) (hM : zM base K L f s H locs) (ha : a ∈ L) (hf : f a = eS ci fs) (hcl : zCl ci C T N ty) (hlk : Cond.classLink own index C ∈ WA) (hdg : decode cc pc = .ok (.checkcast index, 3))
    (k : W p l e R s m args below meth c H locs cells slots Q (F0 m (pc + 3) ls (.ref a :: rest))) : W p l e R s m args below meth c H locs cells slots Q (F0 m pc ls (.ref a :: rest)) := by
  have hat : ClassAt s C (K.1.1 ci) := by
    obtain ⟨-, h⟩ := hC.2.2.2.2.2.1.1 ci _ hcl.1
    exact h
  exact va_castS hC.1 hC.2.1 hC.2.2.2.1 (hC.2.2.2.2.1 _ hlk) hat (z_recv hC hM ha hf hcl) hdg k
end ZA
end
section
/-! THE FRAME, seventh part: rows for the JDK's lists -/
/-- an object of ours that any list may hold -/
def zAny (L : List Nat) (f : Nat → va_E) (y : Nat) : Prop := y ∈ L ∧ ∃ (ci : Nat) (fs : List Value) (C : String) (T : u_T) (N : Nat) (ty : Nat → FieldType), f y = eS ci fs ∧ ci ≠ 0 ∧ zCl ci C T N ty ∧ Cond.castable C "java/lang/Object" ∈ zN
section ZJ
variable {p : Program} {l : Launch} {e : Env} {R : Room} {s : State} {m : MethodId} {args : Array Value} {below : List Frame} {meth : Method} {c : Code} {H : Heap} {locs : List Loc} {cells slots : Nat} {Q : State → Prop}
variable {cc : ByteArray} {nL pc : Nat} {own : String} {base : Nat} {K : zK} {L : List Nat} {f : Nat → va_E} {ls : Array Slot} {rest st0 : List Value} {a : Nat} {mc ms : Nat} {Qc : Array Value → State → Outcome → State → Prop}
theorem z_any (hC : zC p s args m c cc nL own base K) (hM : zM base K L f s H locs) {y : Nat} (h : zAny L f y) : va_Any "java/lang/Object" s H y := by
  obtain ⟨hy, ci, fs, C, T, N, ty, hf, -, hcl, hca⟩ := h
  obtain ⟨q, hq⟩ := pl_at (f := f) hy
  rw [hf] at hq
  exact va_rAny hC.2.2.2.2.2.1 hM.1 hq hcl.1 (vb_asgC (hC.2.2.2.2.2.2.2.2.2.2.2.1 _ hca))
theorem z_aast {n i v : Nat} {g : Nat → Option Nat} (hC : zC p s args m c cc nL own base K) (hM : zM base K L f s H locs) (ha : a ∈ L) (hf : f a = eO K n g) (hv : zAny L f v) (hi : i < n) (hn : n < 2 ^ 31) (hdg : decode cc pc = .ok (.aastore, 1))
    (kk : ∀ (H1 : Heap) (locs1 : List Loc), zM base K L (va_up f a (eO K n (va_up g i (some v)))) s H1 locs1 → W p l e R s m args below meth c H1 locs1 cells slots Q (F0 m (pc + 1) ls rest)) : W p l e R s m args below meth c H locs cells slots Q (F0 m pc ls (.ref v :: .int (nI i) :: .ref a :: rest)) := by
  obtain ⟨q, hq⟩ := pl_at (f := f) ha
  have hq' := hq
  rw [hf] at hq
  refine va_astqM hC.1 hC.2.1 hC.2.2.2.2.2.1 hM.1 hM.2.1 hM.2.2 q 3 hq rfl (z_any hC hM hv) (vp_in_nI hi hn) hdg (fun H1 locs1 hP hD hS => ?_)
  rw [nI_clamp (by omega), pl_set hM.2.1 ha hq'] at hP hD
  exact kk H1 locs1 ⟨hP, hD, hS⟩
theorem z_acopy {index n0 n1 n b : Nat} {g h : Nat → Option Nat} (hC : zC p s args m c cc nL own base K) (hM : zM base K L f s H locs) (hsz : ls.size = nL) (hlk : Cond.methodLink own index arraycopyName ∈ WA) (hb : b ∈ L) (hfb : f b = eO K n0 g) (ha : a ∈ L) (hf : f a = eO K n1 h) (h0 : n ≤ n0) (h1 : n ≤ n1) (hn : n < 2 ^ 31) (hel : ∀ i, i < n → ∀ y, g i = some y → zAny L f y) (w1 : Cond.native arraycopyName ∈ WA) (w2 : Cond.static arraycopyName ∈ WA) (w3 : Cond.initialized "java/lang/System" ∈ WA)
    (hframes : 1 ≤ R.frames) (hlocals : (rest.map fun v => v.category).sum + (nativeFrameWords "java/lang/System" "arraycopy" 5 + 11) ≤ R.locals) (hdg : decode cc pc = .ok (.invokestatic index, 3))
    (kk : ∀ (H1 : Heap) (locs1 : List Loc), zM base K L (va_up f a (eO K n1 (va_cpy g h 0 0 n))) s H1 locs1 → W p l e R s m args below meth c H1 locs1 cells slots Q (F0 m (pc + 3) ls rest)) : W p l e R s m args below meth c H locs cells slots Q (F0 m pc ls (.int (nI n) :: .int (nI 0) :: .ref a :: .int (nI 0) :: .ref b :: rest)) := by
  obtain ⟨q, hq⟩ := pl_at (f := f) ha
  obtain ⟨q2, hq2⟩ := pl_at (f := f) hb
  have hq' := hq
  rw [hf] at hq
  rw [hfb] at hq2
  have z0 : (nI 0).toNatClampNeg = 0 := by decide
  have zn : (nI n).toNatClampNeg = n := nI_clamp hn
  refine va_copyM hC.1 hC.2.1 (hC.2.2.1.trans hsz.symm) hC.2.2.2.1 (hC.2.2.2.2.1 _ hlk) (hC.2.2.2.2.1 _ w1) (hC.2.2.2.2.1 _ w2) (hC.2.2.2.2.1 _ w3) hC.2.2.2.2.2.1 hM.1 hM.2.1 hM.2.2 q2 q 3 3 hq2 hq rfl rfl (by decide) (by decide) (nI_pos hn) (by rw [z0, zn]; omega) (by rw [z0, zn]; omega) (fun i hi y hy => ?_) hframes hlocals hdg (fun H1 locs1 hP hD hS => ?_)
  · rw [zn] at hi
    rw [z0, Nat.zero_add] at hy
    exact z_any hC hM (hel i hi y hy)
  · rw [z0, zn, pl_set hM.2.1 ha hq'] at hP hD
    exact kk H1 locs1 ⟨hP, hD, hS⟩
theorem z_getC {index n : Nat} {g : Nat → Option Nat} (hC : zC p s args m c cc nL own base K) (hM : zM base K L f s H locs) (hsz : ls.size = nL) (hlk : Cond.methodLink own index ⟨"java/lang/Object", "getClass", "()Ljava/lang/Class;"⟩ ∈ WA) (w1 : Cond.declares ⟨"java/lang/Object", "getClass", "()Ljava/lang/Class;"⟩ ∈ zN) (w2 : Cond.selects "[Ljava/lang/Object;" ⟨"java/lang/Object", "getClass", "()Ljava/lang/Class;"⟩ ⟨"java/lang/Object", "getClass", "()Ljava/lang/Class;"⟩ ∈ WA) (w3 : Cond.instanceMethod ⟨"java/lang/Object", "getClass", "()Ljava/lang/Class;"⟩ ∈ WA) (w4 : Cond.native ⟨"java/lang/Object", "getClass", "()Ljava/lang/Class;"⟩ ∈ WA) (ha : a ∈ L) (hf : f a = eO K n g)
    (hframes : 1 ≤ R.frames) (hlocals : (rest.map fun v => v.category).sum + 14 ≤ R.locals) (hdg : decode cc pc = .ok (.invokevirtual index, 3))
    (k : W p l e R s m args below meth c H locs cells slots Q (F0 m (pc + 3) ls (.ref K.2.2.2 :: rest))) : W p l e R s m args below meth c H locs cells slots Q (F0 m pc ls (.ref a :: rest)) := by
  obtain ⟨q, hq⟩ := pl_at (f := f) ha
  rw [hf] at hq
  have hra := (hC.2.2.2.2.2.1.2 3 _ rfl).2
  refine va_getC hC.1 hC.2.1 (hC.2.2.1.trans hsz.symm) hC.2.2.2.1 (hC.2.2.2.2.1 _ hlk) ((hC.2.2.2.2.2.2.2.2.2.2.2.1 _ w1).use rfl) (hC.2.2.2.2.1 _ w2) (hC.2.2.2.2.1 _ w3) (hC.2.2.2.2.1 _ w4) hC.2.2.2.2.2.2.2.2.2.2.2.2.1 ⟨_, hM.1 q _ hq, rfl, va_nmO hra (by decide)⟩ hframes hlocals hdg k
theorem z_ldcM {index : Nat} (hC : zC p s args m c cc nL own base K) (hlk : Cond.classLink own index "[Ljava/lang/Object;" ∈ WA) (hdg : decode cc pc = .ok (.ldc index, 2))
    (k : W p l e R s m args below meth c H locs cells slots Q (F0 m (pc + 2) ls (.ref K.2.2.2 :: rest))) : W p l e R s m args below meth c H locs cells slots Q (F0 m pc ls rest) :=
  va_ldcM hC.1 hC.2.1 hC.2.2.2.1 (hC.2.2.2.2.1 _ hlk) hC.2.2.2.2.2.2.2.2.2.2.2.2.1 hdg k
theorem z_acmp_ne {x y : Option Nat} {vx vy : Value} (hx : vx = va_rf x) (hy : vy = va_rf y) (hexec : p.tables.exec = Jvm.exec) (hb : c.code = cc) {off : Int} {tgt : Nat} (hdg : decode cc pc = .ok (.if_acmp .ne off, 3)) (ht : (pc : Int) + off = (tgt : Int))
    (kt : x ≠ y → W p l e R s m args below meth c H locs cells slots Q (F0 m tgt ls rest)) (kf : x = y → W p l e R s m args below meth c H locs cells slots Q (F0 m (pc + 3) ls rest)) : W p l e R s m args below meth c H locs cells slots Q (F0 m pc ls (vy :: vx :: rest)) := by
  subst hx hy
  exact lv_acmp_ne hexec hb hdg ht kt kf
theorem z_acmp_eq {x y : Option Nat} {vx vy : Value} (hx : vx = va_rf x) (hy : vy = va_rf y) (hexec : p.tables.exec = Jvm.exec) (hb : c.code = cc) {off : Int} {tgt : Nat} (hdg : decode cc pc = .ok (.if_acmp .eq off, 3)) (ht : (pc : Int) + off = (tgt : Int))
    (kt : x = y → W p l e R s m args below meth c H locs cells slots Q (F0 m tgt ls rest)) (kf : x ≠ y → W p l e R s m args below meth c H locs cells slots Q (F0 m (pc + 3) ls rest)) : W p l e R s m args below meth c H locs cells slots Q (F0 m pc ls (vy :: vx :: rest)) := by
  subst hx hy
  exact lv_acmp_eq hexec hb hdg ht kt kf
/-- the empty array of new lists -/
theorem z_gets {index : Nat} (hC : zC p s args m c cc nL own base K) (hM : zM base K L f s H locs) (hlk : Cond.fieldLink own index "java/util/ArrayList" "DEFAULTCAPACITY_EMPTY_ELEMENTDATA" "[Ljava/lang/Object;" ∈ WA) (hdg : decode cc pc = .ok (.getstatic index, 3))
    (k : W p l e R s m args below meth c H locs cells slots Q (F0 m (pc + 3) ls (.ref K.2.2.1 :: rest))) : W p l e R s m args below meth c H locs cells slots Q (F0 m pc ls rest) :=
  va_gets hC.1 hC.2.1 hC.2.2.2.2.2.2.2.2.1 hM.2.2 hC.2.2.2.1 (hC.2.2.2.2.1 _ hlk) (fun _ h => h) hdg k
theorem z_alen0 (hC : zC p s args m c cc nL own base K) (hM : zM base K L f s H locs) (hdg : decode cc pc = .ok (.arraylength, 1))
    (k : W p l e R s m args below meth c H locs cells slots Q (F0 m (pc + 1) ls (.int (nI 0) :: rest))) : W p l e R s m args below meth c H locs cells slots Q (F0 m pc ls (.ref K.2.2.1 :: rest)) := by
  obtain ⟨cell, h1, h2, h3, h4, h5, h6, h7⟩ := hC.2.2.2.2.2.2.2.2.2.1
  have hlt := (Array.getElem?_eq_some_iff.mp h1).1
  refine W.alen (n := nI 0) hC.1 hC.2.1 (by rw [hM.2.2.2.1 _ hlt h7]; exact h1) h2 h5 rfl rfl hdg k
theorem z_zero (hC : zC p s args m c cc nL own base K) (hM : zM base K L f s H locs) : K.2.2.1 ∉ L := by
  intro h
  obtain ⟨k, hk⟩ := pl_at (f := f) h
  have h1 := hM.2.1.2 k _ hk
  have h2 := hC.2.2.2.2.2.2.2.2.2.2.2.2.2.2.2.1
  exact absurd h1 (Nat.not_le.mpr h2)
end ZJ
theorem zj_decl : Cond.declares ⟨"java/lang/Object", "getClass", "()Ljava/lang/Class;"⟩ ∈ zN := zn_in 964 (by decide +kernel) rfl
theorem zj_sel : Cond.selects "[Ljava/lang/Object;" ⟨"java/lang/Object", "getClass", "()Ljava/lang/Class;"⟩ ⟨"java/lang/Object", "getClass", "()Ljava/lang/Class;"⟩ ∈ WA := wa_in 963 (by decide +kernel) rfl
theorem zj_inst : Cond.instanceMethod ⟨"java/lang/Object", "getClass", "()Ljava/lang/Class;"⟩ ∈ WA := wa_in 307 (by decide +kernel) rfl
theorem zj_acs : Cond.static arraycopyName ∈ WA := wa_in 332 (by decide +kernel) rfl
theorem zj_ini : Cond.initialized "java/lang/System" ∈ WA := wa_in 44 (by decide +kernel) rfl
theorem zca_X2 : Cond.castable RX2 "java/lang/Object" ∈ zN := zn_in 959 (by decide +kernel) rfl
theorem zca_X3 : Cond.castable RX3 "java/lang/Object" ∈ zN := zn_in 957 (by decide +kernel) rfl
theorem zca_X4 : Cond.castable RX4 "java/lang/Object" ∈ zN := zn_in 954 (by decide +kernel) rfl
theorem zca_X5 : Cond.castable RX5 "java/lang/Object" ∈ zN := zn_in 958 (by decide +kernel) rfl
theorem zca_D : Cond.castable "[D" "java/lang/Cloneable" ∈ zN := zn_in 600 (by decide +kernel) rfl
theorem z_ishr1 {p : Program} {l : Launch} {e : Env} {R : Room} {s : State} {m : MethodId} {args : Array Value} {below : List Frame} {meth : Method} {c : Code} {H : Heap} {locs : List Loc} {cells slots : Nat} {Q : State → Prop} {cc : ByteArray} {pc : Nat} {ls : Array Slot} {rest : List Value} (hx : p.tables.exec = Jvm.exec) (hb : c.code = cc) {a : Nat} (ha : a < 2 ^ 31) (hdg : decode cc pc = .ok (.ishr, 1)) (k : W p l e R s m args below meth c H locs cells slots Q (F0 m (pc + 1) ls (.int (nI (a / 2)) :: rest))) : W p l e R s m args below meth c H locs cells slots Q (F0 m pc ls (.int (nI 1) :: .int (nI a) :: rest)) := by
  refine lv_ishr hx hb hdg ?_
  have h := pk_shrN (n := a) ha (nI 1 &&& 31) 1 (by decide)
  rw [Nat.pow_one] at h
  rw [h]
  exact k
theorem z_anyUp {L : List Nat} {f f1 : Nat → va_E} {q y : Nat} {e : va_E} (hq : q ∉ L) (h : zAny L f y) (ef : f1 = va_up f q e) : zAny (L ++ [q]) f1 y := by
  obtain ⟨h1, ci, fs, C, T, N, ty, h2, h3⟩ := h
  refine ⟨List.mem_append_left _ h1, ci, fs, C, T, N, ty, ?_, h3⟩
  have hy : y ≠ q := fun z => hq (by rw [← z]; exact h1)
  rw [ef, va_up_ne _ _ hy, h2]
theorem z_anyArr {L : List Nat} {f f1 : Nat → va_E} {a y : Nat} {e : va_E} {x : ClassId × vp_A} (h : zAny L f y) (ha : f a = .inl x) (ef : f1 = va_up f a e) : zAny L f1 y := by
  obtain ⟨h1, ci, fs, C, T, N, ty, h2, h3⟩ := h
  refine ⟨h1, ci, fs, C, T, N, ty, ?_, h3⟩
  rw [ef, va_up_ne _ _ (fun z => by rw [z, ha] at h2; cases h2), h2]
theorem z_anyObj {L : List Nat} {f f1 : Nat → va_E} {a y : Nat} {e : va_E} {fs0 : List Value} (h : zAny L f y) (ha : f a = eS 0 fs0) (ef : f1 = va_up f a e) : zAny L f1 y := by
  obtain ⟨h1, ci, fs, C, T, N, ty, h2, h0, h3⟩ := h
  refine ⟨h1, ci, fs, C, T, N, ty, ?_, h0, h3⟩
  rw [ef, va_up_ne _ _ (fun z => by rw [z, ha] at h2; exact h0 (Prod.mk.inj (Sum.inr.inj h2)).1.symm), h2]
theorem zmx1 : Cond.static Lib.Math.max.name ∈ WA := wa_in 297 (by decide +kernel) rfl
theorem zmx2 : Cond.code Lib.Math.max.name Lib.Math.max.code 2 (some .int) ∈ WA := wa_in 298 (by decide +kernel) rfl
theorem zmn1 : Cond.static Lib.Math.min.name ∈ WA := wa_in 329 (by decide +kernel) rfl
theorem zmn2 : Cond.code Lib.Math.min.name Lib.Math.min.code 2 (some .int) ∈ WA := wa_in 330 (by decide +kernel) rfl
theorem zmi : Cond.initialized "java/lang/Math" ∈ WA := wa_in 42 (by decide +kernel) rfl
section ZMM
variable {p : Program} {l : Launch} {e : Env} {R : Room} {s : State} {m : MethodId} {args : Array Value} {below : List Frame} {meth : Method} {c : Code} {H : Heap} {locs : List Loc} {cells slots : Nat} {Q : State → Prop}
variable {cc : ByteArray} {nL pc : Nat} {own : String} {base : Nat} {K : zK} {ls : Array Slot} {rest : List Value}
theorem z_max {index a b : Nat} (hC : zC p s args m c cc nL own base K) (hsz : ls.size = nL) (hlk : Cond.methodLink own index Lib.Math.max.name ∈ WA) (ha : a < 2 ^ 31) (hb : b < 2 ^ 31) (hf : 1 ≤ R.frames) (hlo : (rest.map fun v => v.category).sum + 13 ≤ R.locals) (hcs : cells ≤ R.cells ∧ slots ≤ R.slots) (hdg : decode cc pc = .ok (.invokestatic index, 3))
    (k : W p l e R s m args below meth c H locs cells slots Q (F0 m (pc + 3) ls (.int (nI (max a b)) :: rest))) : W p l e R s m args below meth c H locs cells slots Q (F0 m pc ls (.int (nI b) :: .int (nI a) :: rest)) := by
  refine va_mmax hC.1 hC.2.1 (hC.2.2.1.trans hsz.symm) hC.2.2.2.1 (hC.2.2.2.2.1 _ hlk) (hC.2.2.2.2.1 _ zmx1) (hC.2.2.2.2.1 _ zmi) (hC.2.2.2.2.1 _ zmx2) hf hlo hcs.1 hcs.2 hdg ?_
  by_cases h : a < b
  · rw [if_pos (nI_lt h hb)]
    rw [Nat.max_eq_right (Nat.le_of_lt h)] at k
    exact k
  · rw [if_neg (nI_nlt (by omega) ha)]
    rw [Nat.max_eq_left (by omega)] at k
    exact k
theorem z_min {index a b : Nat} (hC : zC p s args m c cc nL own base K) (hsz : ls.size = nL) (hlk : Cond.methodLink own index Lib.Math.min.name ∈ WA) (ha : a < 2 ^ 31) (hb : b < 2 ^ 31) (hf : 1 ≤ R.frames) (hlo : (rest.map fun v => v.category).sum + 13 ≤ R.locals) (hcs : cells ≤ R.cells ∧ slots ≤ R.slots) (hdg : decode cc pc = .ok (.invokestatic index, 3))
    (k : W p l e R s m args below meth c H locs cells slots Q (F0 m (pc + 3) ls (.int (nI (min a b)) :: rest))) : W p l e R s m args below meth c H locs cells slots Q (F0 m pc ls (.int (nI b) :: .int (nI a) :: rest)) := by
  refine va_mmin hC.1 hC.2.1 (hC.2.2.1.trans hsz.symm) hC.2.2.2.1 (hC.2.2.2.2.1 _ hlk) (hC.2.2.2.2.1 _ zmn1) (hC.2.2.2.2.1 _ zmi) (hC.2.2.2.2.1 _ zmn2) hf hlo hcs.1 hcs.2 hdg ?_
  by_cases h : b < a
  · rw [if_pos (nI_lt h ha)]
    rw [Nat.min_eq_right (Nat.le_of_lt h)] at k
    exact k
  · rw [if_neg (nI_nlt (by omega) hb)]
    rw [Nat.min_eq_left (by omega)] at k
    exact k
end ZMM
theorem z_objInit {p : Program} {l : Launch} {e : Env} {R : Room} {s : State} {m : MethodId} {args : Array Value} {below : List Frame} {meth : Method} {c : Code} {H : Heap} {locs : List Loc} {cells slots : Nat} {Q : State → Prop} {cc : ByteArray} {nL pc index a : Nat} {own : String} {base : Nat} {K : zK} {ls : Array Slot} {rest : List Value} (hC : zC p s args m c cc nL own base K) (hlk : Cond.methodLink own index objectInit ∈ WA) (hsz : ls.size = nL) (hf : 1 ≤ R.frames) (hlo : (rest.map fun v => v.category).sum + 12 ≤ R.locals) (hdg : decode cc pc = .ok (.invokespecial index, 3))
    (k : W p l e R s m args below meth c H locs cells slots Q (F0 m (pc + 3) ls rest)) : W p l e R s m args below meth c H locs cells slots Q (F0 m pc ls (.ref a :: rest)) :=
  W.objInit (g := F0 m pc ls (.ref a :: rest)) (rest := rest) hC.1 hC.2.1 hC.2.2.2.1 (hC.2.2.2.2.1 _ hlk) (hC.2.2.2.2.1 _ zobj1) (hC.2.2.2.2.1 _ zobj2) rfl (hsz.trans hC.2.2.1.symm) rfl hdg hf (by show 2 * 0 + _ + 12 ≤ _; omega) k
/-- a body of a class that has natives too (Math) -/
theorem z_metF {l : Launch} {y : MethodName} {bytes : ByteArray} {maxL : Nat} {ret : Option FieldType} {rm : Room} {base : Nat} {K : zK} {L : List Nat} {f : Nat → va_E} {av : List Value} {Qc : Array Value → State → Outcome → State → Prop}
    (hy : plainFor y = true) (hlen : (lg_sl av).length ≤ maxL)
    (body : ∀ p e s m below meth c ls, zC p s av.toArray m c bytes maxL y.cls base K → zM base K L f s s.heap [] → meth.sig.returnType = ret → meth.locks = false → meth.name = y.name → lv_has ls maxL (lv_args 0 av) →
      W p l e rm s m av.toArray below meth c s.heap [] 0 0 (MQ below Qc av.toArray s rm.cells rm.slots (base ≤ ·)) (F0 m 0 ls [])) :
    Met l y (wz y bytes maxL ret) rm (va_Pc av (zPre base K L f)) Qc rm.cells rm.slots (base ≤ ·) := by
  refine va_MetF (cc := bytes) (maxL := maxL) (ret := ret) hy rfl ?_
  intro p e s m args below meth c s₁ B hml hv
  obtain ⟨rfl, hpre⟩ := hv
  have hts := atoms_spec (ws := wz y bytes maxL ret) B.pre
  have hown : s.vm.findClass y.cls = some m.cls := findClass_of_methodNamed B.named
  have hl := lv_entry av (n := maxL) hlen
  rw [lg_entry_eq]
  generalize (lg_sl av ++ List.replicate (maxL - (lg_sl av).length) Slot.unset).toArray = ls at hl ⊢
  exact body p e s m below meth c ls ⟨B.exec, B.bytes, hml, hown, fun w hw => hts w (List.mem_cons_of_mem _ hw), hpre.1⟩ (zM.start hpre) B.returns B.notSynchronized (name_of_methodNamed B.named B.method).1 hl
theorem zcl1 : Cond.methodLink RX1 19 ⟨"[D", "clone", "()Ljava/lang/Object;"⟩ ∈ WA := wa_in 595 (by decide +kernel) rfl
theorem zcl2 : Cond.sameMethod "[D" "java/lang/Object" "clone" "()Ljava/lang/Object;" ∈ WA := wa_in 596 (by decide +kernel) rfl
theorem zcl3 : Cond.instanceMethod ⟨"java/lang/Object", "clone", "()Ljava/lang/Object;"⟩ ∈ WA := wa_in 598 (by decide +kernel) rfl
theorem zcl4 : Cond.selects "[D" ⟨"[D", "clone", "()Ljava/lang/Object;"⟩ ⟨"java/lang/Object", "clone", "()Ljava/lang/Object;"⟩ ∈ WA := wa_in 599 (by decide +kernel) rfl
section ZCL
variable {p : Program} {l : Launch} {e : Env} {R : Room} {s : State} {m : MethodId} {args : Array Value} {below : List Frame} {meth : Method} {c : Code} {H : Heap} {locs : List Loc} {cells slots : Nat} {Q : State → Prop}
variable {cc : ByteArray} {nL pc : Nat} {own : String} {base : Nat} {K : zK} {L : List Nat} {f : Nat → va_E} {ls : Array Slot} {rest st0 : List Value} {a : Nat}
theorem z_nmD (hC : zC p s args m c cc nL own base K) : s.vm.findClass "[D" = some (K.2.1 0) := (hC.2.2.2.2.2.1.2 0 _ rfl).2
theorem z_cloneD {n index : Nat} {g : Nat → UInt64} (hC : zC p s args m c cc nL own base K) (hM : zM base K L f s H locs) (hsz : ls.size = nL) (ha : a ∈ L) (hf : f a = eD K n g) (hlk : Cond.methodLink own index ⟨"[D", "clone", "()Ljava/lang/Object;"⟩ ∈ WA)
    (hframes : 1 ≤ R.frames) (hlocals : (rest.map fun v => v.category).sum + 14 ≤ R.locals) (hcells : cells + 1 ≤ R.cells) (hslots : slots + n ≤ R.slots) (hdg : decode cc pc = .ok (.invokevirtual index, 3))
    (kk : ∀ (q : Nat) (H1 : Heap), q ∉ L → zM base K (L ++ [q]) (va_up f q (eD K n g)) s H1 locs → W p l e R s m args below meth c H1 locs (cells + 1) (slots + n) Q (F0 m (pc + 3) ls (.ref q :: rest))) : W p l e R s m args below meth c H locs cells slots Q (F0 m pc ls (.ref a :: rest)) := by
  have hb : base ≤ s.heap.size := hC.2.2.2.2.2.2.2.2.2.2.2.2.2.2.2.2
  obtain ⟨k, hk⟩ := pl_at (f := f) ha
  rw [hf] at hk
  refine va_clone hC.1 hC.2.1 (hC.2.2.1.trans hsz.symm) hC.2.2.2.1 (hC.2.2.2.2.1 _ hlk) (hC.2.2.2.2.1 _ zcl2) (hC.2.2.2.2.1 _ znat_clone) (hC.2.2.2.2.1 _ zcl3) (hC.2.2.2.2.1 _ zcl4) (hC.2.2.2.2.2.2.2.2.2.2.2.1 _ zca_D) hC.2.2.2.2.2.1 hM.1 hM.2.1 hM.2.2 (fun q h => Nat.le_trans hb h) k 0 hk rfl (z_nmD hC) (fun i v hv => ?_) hframes hlocals hcells hslots hdg (fun q H1 hK hP hD hS => ?_)
  · by_cases hi : i < n
    · have := arrV_read (K.2.1 0) (fun j => Value.double (g j)) hi
      rw [vp_cell_d] at hv
      rw [this] at hv
      cases hv
      rfl
    · rw [vp_cell_d, Array.getElem?_eq_none (by rw [arrV_size]; omega)] at hv
      cases hv
  · have hq := z_notin hD
    rw [va_pl_push hq] at hP hD
    exact kk q H1 hq ⟨hP, hD, hS⟩
theorem z_castD {n index : Nat} {g : Nat → UInt64} (hC : zC p s args m c cc nL own base K) (hM : zM base K L f s H locs) (ha : a ∈ L) (hf : f a = eD K n g) (hlk : Cond.classLink own index "[D" ∈ WA) (hdg : decode cc pc = .ok (.checkcast index, 3))
    (k : W p l e R s m args below meth c H locs cells slots Q (F0 m (pc + 3) ls (.ref a :: rest))) : W p l e R s m args below meth c H locs cells slots Q (F0 m pc ls (.ref a :: rest)) := by
  obtain ⟨q, hq⟩ := pl_at (f := f) ha
  rw [hf] at hq
  exact va_castA hC.1 hC.2.1 hC.2.2.2.1 (hC.2.2.2.2.1 _ hlk) hM.1 q hq (z_nmD hC) hdg k
end ZCL
end
section
/-! WHAT THE FOLDS ARE: one mathematical value for class and reference. g: the light by hours, 0 where none was kept -/
def fS (g : Nat → UInt64) (p : Nat) : Nat → Nat → UInt64
  | 0, _ => 0
  | h + 1, j => if g h ≠ 0 ∧ h % p = j then FP.dadd (fS g p h j) (g h) else fS g p h j
def fC (g : Nat → UInt64) (p : Nat) : Nat → Nat → Nat
  | 0, _ => 0
  | h + 1, j => if g h ≠ 0 ∧ h % p = j then fC g p h j + 1 else fC g p h j
def fT (g : Nat → UInt64) : Nat → UInt64
  | 0 => 0
  | h + 1 => if g h ≠ 0 then FP.dadd (fT g h) (g h) else fT g h
/-- how many hours of the first h were kept -/
def fN (g : Nat → UInt64) : Nat → Nat
  | 0 => 0
  | h + 1 => if g h ≠ 0 then fN g h + 1 else fN g h
def nD (n : Nat) : UInt64 := FP.i2d (nI n)
def mnT (g : Nat → UInt64) : UInt64 := if 0 < fN g 1000 then FP.ddiv (fT g 1000) (nD (fN g 1000)) else 0
/-- of any sums, counts and mean: a fold's mean, its score, the best fold of the first k -/
def mf (sg : Nat → UInt64) (cg : Nat → Nat) (j : Nat) : UInt64 := if 0 < cg j then FP.ddiv (sg j) (nD (cg j)) else 0
def sf (mn : UInt64) (sg : Nat → UInt64) (cg : Nat → Nat) (j : Nat) : UInt64 := if 0 < cg j then FP.dmul (FP.dsub mn (mf sg cg j)) (nD (cg j)) else 0
def bfG (mn : UInt64) (sg : Nat → UInt64) (cg : Nat → Nat) : Nat → Option Nat
  | 0 => none
  | k + 1 => if 0 < cg k then (match bfG mn sg cg k with
      | none => some k
      | some b => if 0 < dc (sf mn sg cg k) (sf mn sg cg b) then some k else some b) else bfG mn sg cg k
/-- the score at the best fold -/
def grG (mn : UInt64) (sg : Nat → UInt64) (cg : Nat → Nat) (r : Option Nat) : UInt64 := match r with
  | none => 0
  | some b => sf mn sg cg b
def mnF (g : Nat → UInt64) (p j : Nat) : UInt64 := mf (fS g p 1000) (fC g p 1000) j
def scF (g : Nat → UInt64) (p j : Nat) : UInt64 := sf (mnT g) (fS g p 1000) (fC g p 1000) j
def bfS (g : Nat → UInt64) (p k : Nat) : Option Nat := bfG (mnT g) (fS g p 1000) (fC g p 1000) k
def bFo (g : Nat → UInt64) (p : Nat) : Option Nat := bfS g p p
/-- none as the class and the reference write it -/
def oN (r : Option Nat) : Int32 := match r with
  | none => -1
  | some k => nI k
def scB (g : Nat → UInt64) (p : Nat) : UInt64 := grG (mnT g) (fS g p 1000) (fC g p 1000) (bFo g p)
/-- the reference's search: periods 2 .. k+2 -/
def pdS (g : Nat → UInt64) : Nat → Nat × UInt64
  | 0 => (2, scB g 2)
  | k + 1 => if 0 < dc (scB g (k + 3)) (pdS g k).2 then (k + 3, scB g (k + 3)) else pdS g k
/-- the period by a threshold, 0 if there is none -/
def pdT (g : Nat → UInt64) (t : Int32) : Nat := if fN g 1000 < 20 then 0 else if 0 < dc (pdS g 58).2 (FP.i2d t) then (pdS g 58).1 else 0
def oeF (g : Nat → UInt64) (p : Nat) : UInt64 := match bFo g p with
  | none => 0
  | some b => if 0 < fC g (2 * p) 1000 b ∧ 0 < fC g (2 * p) 1000 (b + p) then FP.dsub (mnF g (2 * p) b) (mnF g (2 * p) (b + p)) else 0
/-- what the rows ask of the doubles: no NaN is made, and kept light is above 0 -/
def FPok (g : Nat → UInt64) : Prop :=
  (∀ h, h < 1000 → (0 < dc (g h) FP.dconst0 ↔ g h ≠ 0)) ∧
  (∀ p h j, h < 1000 → g h ≠ 0 → vf_n64 (FP.dadd (fS g p h j) (g h))) ∧
  (∀ h, h < 1000 → g h ≠ 0 → vf_n64 (FP.dadd (fT g h) (g h))) ∧
  (∀ h, h < 1000 → FP.dadd (fT g h) FP.dconst0 = fT g h ∧ vf_n64 (FP.dadd (fT g h) FP.dconst0)) ∧
  (0 < fN g 1000 → vf_n64 (FP.ddiv (fT g 1000) (nD (fN g 1000)))) ∧
  (∀ p j, 0 < p → 0 < fC g p 1000 j → vf_n64 (FP.ddiv (fS g p 1000 j) (nD (fC g p 1000 j))) ∧ vf_n64 (FP.dsub (mnT g) (mnF g p j)) ∧ vf_n64 (FP.dmul (FP.dsub (mnT g) (mnF g p j)) (nD (fC g p 1000 j)))) ∧
  (∀ p i j, 0 < p → 0 < fC g p 1000 i → 0 < fC g p 1000 j → vf_n64 (FP.dsub (mnF g p i) (mnF g p j)))
theorem fS_up {g : Nat → UInt64} {p h : Nat} (hk : g h ≠ 0) : va_up (fS g p h) (h % p) (FP.dadd (fS g p h (h % p)) (g h)) = fS g p (h + 1) := by
  funext j
  by_cases e : j = h % p
  · subst e; simp [va_up, fS, hk]
  · have e' : ¬ h % p = j := fun q => e q.symm
    simp [va_up, fS, e, e']
theorem fS_no {g : Nat → UInt64} {p h : Nat} (hk : ¬ g h ≠ 0) : fS g p h = fS g p (h + 1) := by
  funext j
  simp only [fS, hk, false_and, if_false]
theorem fC_up {g : Nat → UInt64} {p h : Nat} (hk : g h ≠ 0) : va_up (fun j => nI (fC g p h j)) (h % p) (nI (fC g p h (h % p) + 1)) = fun j => nI (fC g p (h + 1) j) := by
  funext j
  by_cases e : j = h % p
  · subst e; simp [va_up, fC, hk]
  · have e' : ¬ h % p = j := fun q => e q.symm
    simp [va_up, fC, e, e']
theorem fC_no {g : Nat → UInt64} {p h : Nat} (hk : ¬ g h ≠ 0) : (fun j => nI (fC g p h j)) = fun j => nI (fC g p (h + 1) j) := by
  funext j
  simp only [fC, hk, false_and, if_false]
theorem fT_up {g : Nat → UInt64} {h : Nat} (hk : g h ≠ 0) : FP.dadd (fT g h) (g h) = fT g (h + 1) := by simp [fT, hk]
theorem fT_no {g : Nat → UInt64} {h : Nat} (hk : ¬ g h ≠ 0) : fT g h = fT g (h + 1) := by simp only [fT, hk, if_false]
theorem fC_le (g : Nat → UInt64) (p : Nat) : ∀ h j, fC g p h j ≤ h
  | 0, _ => Nat.le_refl 0
  | h + 1, j => by
    have := fC_le g p h j
    unfold fC
    split <;> omega
theorem fN_le (g : Nat → UInt64) : ∀ h, fN g h ≤ h
  | 0 => Nat.le_refl 0
  | h + 1 => by
    have := fN_le g h
    unfold fN
    split <;> omega
theorem bfG_lt {mn : UInt64} {sg : Nat → UInt64} {cg : Nat → Nat} : ∀ k b, bfG mn sg cg k = some b → b < k ∧ 0 < cg b
  | 0, b, h => by cases h
  | k + 1, b, h => by
    have ih := bfG_lt (mn := mn) (sg := sg) (cg := cg) k
    unfold bfG at h
    split at h
    · rename_i hc
      split at h
      · cases h; exact ⟨by omega, hc⟩
      · rename_i b' hb'
        have i2 := ih b' hb'
        split at h
        · cases h; exact ⟨by omega, hc⟩
        · cases h; exact ⟨by omega, i2.2⟩
    · have i2 := ih b h
      exact ⟨by omega, i2.2⟩
theorem bfG_no {mn : UInt64} {sg : Nat → UInt64} {cg : Nat → Nat} {k : Nat} (h : ¬ 0 < cg k) : bfG mn sg cg (k + 1) = bfG mn sg cg k := by
  rw [bfG, if_neg h]
theorem bfG_1 {mn : UInt64} {sg : Nat → UInt64} {cg : Nat → Nat} {k : Nat} (h : 0 < cg k) (hn : bfG mn sg cg k = none) : bfG mn sg cg (k + 1) = some k := by
  rw [bfG, if_pos h, hn]
theorem bfG_2 {mn : UInt64} {sg : Nat → UInt64} {cg : Nat → Nat} {k b : Nat} (h : 0 < cg k) (hn : bfG mn sg cg k = some b) (hd : 0 < dc (sf mn sg cg k) (sf mn sg cg b)) : bfG mn sg cg (k + 1) = some k := by
  rw [bfG, if_pos h, hn]; exact if_pos hd
theorem bfG_3 {mn : UInt64} {sg : Nat → UInt64} {cg : Nat → Nat} {k b : Nat} (h : 0 < cg k) (hn : bfG mn sg cg k = some b) (hd : dc (sf mn sg cg k) (sf mn sg cg b) ≤ 0) : bfG mn sg cg (k + 1) = some b := by
  rw [bfG, if_pos h, hn]; exact if_neg (by omega)
/-- two places written, the rest as it was -/
theorem up2_ext {α : Type} {f f1 : Nat → α} {a b : Nat} {x y : α} (hab : a ≠ b) (ha : f1 a = x) (hb : f1 b = y) (h : ∀ q, q ≠ a → q ≠ b → f1 q = f q) : f1 = va_up (va_up f a x) b y := by
  funext j; unfold va_up
  by_cases h1 : j = b
  · subst h1; simp [hb]
  · by_cases h2 : j = a
    · subst h2; simp [ha, h1]
    · simp [h1, h2, h j h2 h1]
theorem up1_ext {α : Type} {f f1 : Nat → α} {a : Nat} {x : α} (ha : f1 a = x) (h : ∀ q, q ≠ a → f1 q = f q) : f1 = va_up f a x := by
  funext j; unfold va_up
  by_cases h2 : j = a
  · subst h2; simp [ha]
  · simp [h2, h j h2]
theorem up3_ext {α : Type} {f f1 : Nat → α} {a b c : Nat} {x y z : α} (hac : a ≠ c) (hbc : b ≠ c) (hab : a ≠ b) (ha : f1 a = x) (hb : f1 b = y) (hc : f1 c = z) (h : ∀ q, q ≠ a → q ≠ b → q ≠ c → f1 q = f q) : f1 = va_up (va_up (va_up f a x) b y) c z := by
  funext j; unfold va_up
  by_cases h0 : j = c
  · subst h0; simp [hc]
  · by_cases h1 : j = b
    · subst h1; simp [hb, h0]
    · by_cases h2 : j = a
      · subst h2; simp [ha, h1, h0]
      · simp [h0, h1, h2, h j h2 h1 h0]
theorem m1_toInt : (-1 : Int32).toInt = -1 := by decide
/-- two writes at one place, writes at two places -/
theorem up_up {α : Type} (f : Nat → α) (k : Nat) (v w : α) : va_up (va_up f k v) k w = va_up f k w := by
  funext j; unfold va_up; by_cases h : j = k <;> simp [h]
theorem up_com {α : Type} (f : Nat → α) {a b : Nat} (h : a ≠ b) (v w : α) : va_up (va_up f a v) b w = va_up (va_up f b w) a v := by
  funext j; unfold va_up
  by_cases h1 : j = a
  · subst h1; simp [h]
  · simp [h1]
theorem up_id {α : Type} (f : Nat → α) (a : Nat) {v : α} (h : f a = v) : va_up f a v = f := by
  funext j; unfold va_up
  by_cases h1 : j = a
  · subst h1; simp [h]
  · simp [h1]
end
section
/-! PURE FACTS: remainders, light, lists -/
theorem xor_neg {x y : Int32} (hy : 0 ≤ y.toInt) : (x ^^^ y).toInt < 0 ↔ x.toInt < 0 := by
  have e1 : ∀ z : Int32, decide (z.toInt < 0) = z.toBitVec.msb := fun z => (BitVec.msb_eq_toInt (x := z.toBitVec)).symm
  have h1 := e1 (x ^^^ y)
  have h2 := e1 x
  have h3 := e1 y
  rw [show (x ^^^ y).toBitVec = x.toBitVec ^^^ y.toBitVec from rfl, BitVec.msb_xor, ← h2, ← h3] at h1
  have h4 : decide (y.toInt < 0) = false := decide_eq_false (by omega)
  rw [h4, Bool.xor_false] at h1
  exact decide_eq_decide.mp h1
theorem rm_int {h ph per : Nat} (hh : h < 1000) (hp : ph < per) (hp2 : per ≤ 60) : (nI h - nI ph - (nI h - nI ph) / nI per * nI per).toInt = ((h : Int) - ph).tmod per := by
  rw [rem_toInt, pk_sub_toInt (by omega) (by omega), nI_toInt (by omega)]
theorem rm_pos {h ph per : Nat} (hh : h < 1000) (hp : ph < per) (hp2 : per ≤ 60) (h0 : ph ≤ h) : nI h - nI ph - (nI h - nI ph) / nI per * nI per = nI ((h + per - ph) % per) := by
  apply Int32.toInt.inj
  have e : (h + per - ph) % per = (h - ph) % per := by
    rw [show h + per - ph = (h - ph) + per by omega, Nat.add_mod_right]
  rw [rm_int hh hp hp2, nI_toInt (by have := Nat.mod_lt (h + per - ph) (by omega : 0 < per); omega), e, show (h : Int) - ph = ((h - ph : Nat) : Int) by omega]
  exact (Int.ofNat_tmod _ _).symm
theorem rm_neg {h ph per : Nat} (hh : h < 1000) (hp : ph < per) (hp2 : per ≤ 60) (h0 : h < ph) : (nI h - nI ph - (nI h - nI ph) / nI per * nI per).toInt = (h : Int) - ph ∧ nI h - nI ph - (nI h - nI ph) / nI per * nI per + nI per = nI ((h + per - ph) % per) := by
  have e1 : (nI h - nI ph - (nI h - nI ph) / nI per * nI per).toInt = (h : Int) - ph := by
    rw [rm_int hh hp hp2, show (h : Int) - ph = -((ph - h : Nat) : Int) by omega, Int.neg_tmod, ← Int.ofNat_tmod, Nat.mod_eq_of_lt (by omega)]
  refine ⟨e1, ?_⟩
  have e2 : nI h - nI ph - (nI h - nI ph) / nI per * nI per = nI h - nI ph := by
    apply Int32.toInt.inj
    rw [e1, pk_sub_toInt (by omega) (by omega)]
  rw [e2]
  apply Int32.toInt.inj
  have e3 : (h + per - ph) % per = h + per - ph := Nat.mod_eq_of_lt (by omega)
  rw [e3, nI_toInt (by omega), Int32.toInt_add, pk_sub_toInt (by omega) (by omega), nI_toInt (by omega)]
  have e4 : ((h : Int) - ph + per).bmod (2 ^ 32) = (h : Int) - ph + per := by
    apply Int.bmod_eq_of_le <;> omega
  rw [e4]
  omega
theorem sub_xor {h ph per : Nat} (hh : h < 1000) (hp : ph < per) (hp2 : per ≤ 60) : ((nI h - nI ph) ^^^ nI per).toInt < 0 ↔ h < ph := by
  rw [xor_neg (by rw [nI_toInt (by omega)]; omega), pk_sub_toInt (by omega) (by omega)]
  omega
/-- the quotient of a depth -/
def quo (d : Nat) : UInt64 := FP.ddiv (FP.i2d (nI (1000 - d))) 4652007308841189376
def dips (h per ph len : Nat) : Prop := (h + per - ph) % per < len
/-- the light behind the first k planets -/
def lF (own h : Nat) (per ph len dep : Nat → Nat) : Nat → UInt64
  | 0 => nD own
  | k + 1 => if (h + per k - ph k) % per k < len k then FP.dmul (lF own h per ph len dep k) (quo (dep k)) else lF own h per ph len dep k
def lS (own h np spin sd : Nat) (per ph len dep : Nat → Nat) : UInt64 := if 0 < spin ∧ h % spin < spin / 4 then FP.dmul (lF own h per ph len dep np) (quo sd) else lF own h per ph len dep np
def lV (own h np spin sd bl : Nat) (per ph len dep : Nat → Nat) : UInt64 := FP.dadd (lS own h np spin sd per ph len dep) (nD bl)
/-- no NaN on the way to a light -/
def LTok (own h np spin sd bl : Nat) (per ph len dep : Nat → Nat) : Prop :=
  (∀ k, k < np → vf_n64 (quo (dep k)) ∧ vf_n64 (FP.dmul (lF own h per ph len dep k) (quo (dep k)))) ∧ vf_n64 (quo sd) ∧ vf_n64 (FP.dmul (lF own h per ph len dep np) (quo sd)) ∧ vf_n64 (FP.dadd (lS own h np spin sd per ph len dep) (nD bl))
/-- a list of n objects, es their addresses, e its array -/
def LI (K : zK) (L : List Nat) (f : Nat → va_E) (a e n : Nat) (es : Nat → Nat) : Prop :=
  a ∈ L ∧ (∃ mc : Int32, f a = eS 0 [.int mc, .ref e, .int (nI n)]) ∧ ((n = 0 ∧ e = K.2.2.1) ∨ (e ∈ L ∧ ∃ (cap : Nat) (arr : Nat → Option Nat), f e = eO K cap arr ∧ 10 ≤ cap ∧ cap ≤ 60 ∧ n ≤ cap ∧ (∀ k, k < n → arr k = some (es k)) ∧ ∀ k, n ≤ k → arr k = none))
end
section
/-! CONTRACTS of Transitry$Folding (rows laid by wip/whole/fold.py) -/
set_option maxHeartbeats 400000 in
set_option maxRecDepth 100000 in
theorem c_hasHours {l : Launch} {base : Nat} {K : zK} {L : List Nat} {f : Nat → va_E} {o so co fl : Nat} {mn : UInt64} {sg : Nat → UInt64} {cg : Nat → Nat} (ho : o ∈ L) (hfo : f o = eS 1 [.ref so, .ref co, .int (nI fl), .double mn]) (hso : so ∈ L) (hfs : f so = eD K 120 sg) (hco : co ∈ L) (hfc : f co = eI K 120 (fun j => nI (cg j))) (hcg : ∀ j, cg j < 2 ^ 31) (x : Nat) (hx2 : x < 2 ^ 31) : zMet l yX0_hasHours cX0_hasHours 2 (some .boolean) (zr 0 0 0 0) base K L f [.ref o, .int (nI x)] (zFi base K (zb (x < 120 ∧ 0 < cg x)) L f) := by
  have hcx := hcg x
  refine z_met (by decide) (Nat.le_of_ble_eq_true rfl) (fun p e s m below meth c ls hC hM hr hlk hnm hl => ?_)
  have hx := hC.1
  have hb := hC.2.1
  have hml := hC.2.2.1
  have hown := hC.2.2.2.1
  have hts := hC.2.2.2.2.1
  generalize hA : ([.ref o, .int (nI x)] : List Value).toArray = args at hC ⊢
  generalize hQ : MQ _ _ _ _ _ _ _ = Q
  obtain ⟨locs, hlocs⟩ : ∃ z : List Loc, z = [] := ⟨_, rfl⟩
  obtain ⟨H, hH⟩ : ∃ z : Heap, z = s.heap := ⟨_, rfl⟩
  rw [← hlocs, ← hH] at hM ⊢
  have hl : lv_has ls 2 [(0, .ref o), (1, .int (nI x))] := hl
  refine lv_iload_n hx hb dX0_hasHours_0 rfl (lv_at hl 1 rfl) ?_
  refine z_if_lt (tgt := 26) hx hb (nI_toInt (by omega)) dX0_hasHours_1 (by decide) (fun c_1 => ?_) (fun c_1 => ?_)
  · exact absurd c_1 (by omega)
  · refine lv_iload_n hx hb dX0_hasHours_4 rfl (lv_at hl 1 rfl) ?_
    refine lv_aload_n hx hb dX0_hasHours_5 rfl (lv_at hl 0 rfl) ?_
    refine z_get hC hM ho hfo zcl_X0 (by decide) zl_X0_15 rfl dX0_hasHours_6 ?_
    refine z_alen (n := 120) 1 hC hM hco hfc rfl rfl dX0_hasHours_9 ?_
    refine z_icmp_ge (tgt := 26) hx hb (nI_toInt (by omega)) (nI_toInt (by decide)) dX0_hasHours_10 (by decide) (fun c_10 => ?_) (fun c_10 => ?_)
    · refine lv_iconst (v := nI 0) hx hb dX0_hasHours_26 (by decide) ?_
      rw [← hQ]
      exact z_iret hC hM hr hlk rfl (by decide) (by decide) ⟨(zb_f (fun h => by omega)), rfl, rfl⟩ dX0_hasHours_27
    · refine lv_aload_n hx hb dX0_hasHours_13 rfl (lv_at hl 0 rfl) ?_
      refine z_get hC hM ho hfo zcl_X0 (by decide) zl_X0_15 rfl dX0_hasHours_14 ?_
      refine lv_iload_n hx hb dX0_hasHours_17 rfl (lv_at hl 1 rfl) ?_
      refine z_iald hC hM hco hfc (by omega) (by omega) dX0_hasHours_18 ?_
      refine z_if_le (tgt := 26) hx hb (nI_toInt (by omega)) dX0_hasHours_19 (by decide) (fun c_19 => ?_) (fun c_19 => ?_)
      · refine lv_iconst (v := nI 0) hx hb dX0_hasHours_26 (by decide) ?_
        rw [← hQ]
        exact z_iret hC hM hr hlk rfl (by decide) (by decide) ⟨(zb_f (fun h => by omega)), rfl, rfl⟩ dX0_hasHours_27
      · refine lv_iconst (v := nI 1) hx hb dX0_hasHours_22 (by decide) ?_
        refine lv_goto (tgt := 27) hx hb dX0_hasHours_23 (by decide) ?_
        rw [← hQ]
        exact z_iret hC hM hr hlk rfl (by decide) (by decide) ⟨(zb_t ⟨by omega, by omega⟩), rfl, rfl⟩ dX0_hasHours_27
set_option maxHeartbeats 400000 in
set_option maxRecDepth 100000 in
theorem c_meanOf {l : Launch} {base : Nat} {K : zK} {L : List Nat} {f : Nat → va_E} {o so co fl : Nat} {mn : UInt64} {sg : Nat → UInt64} {cg : Nat → Nat} (ho : o ∈ L) (hfo : f o = eS 1 [.ref so, .ref co, .int (nI fl), .double mn]) (hso : so ∈ L) (hfs : f so = eD K 120 sg) (hco : co ∈ L) (hfc : f co = eI K 120 (fun j => nI (cg j))) (hcg : ∀ j, cg j < 2 ^ 31) (x : Nat) (hx1 : x < 120) (hd : 0 < cg x → vf_n64 (FP.ddiv (sg x) (nD (cg x)))) : zMet l yX0_meanOf cX0_meanOf 2 (some .double) (zr 1 0 0 21) base K L f [.ref o, .int (nI x)] (zFd base K (mf sg cg x) L f) := by
  refine z_met (by decide) (Nat.le_of_ble_eq_true rfl) (fun p e s m below meth c ls hC hM hr hlk hnm hl => ?_)
  have hx := hC.1
  have hb := hC.2.1
  have hml := hC.2.2.1
  have hown := hC.2.2.2.1
  have hts := hC.2.2.2.2.1
  generalize hA : ([.ref o, .int (nI x)] : List Value).toArray = args at hC ⊢
  generalize hQ : MQ _ _ _ _ _ _ _ = Q
  obtain ⟨locs, hlocs⟩ : ∃ z : List Loc, z = [] := ⟨_, rfl⟩
  obtain ⟨H, hH⟩ : ∃ z : Heap, z = s.heap := ⟨_, rfl⟩
  rw [← hlocs, ← hH] at hM ⊢
  have hl : lv_has ls 2 [(0, .ref o), (1, .int (nI x))] := hl
  refine lv_aload_n hx hb dX0_meanOf_0 rfl (lv_at hl 0 rfl) ?_
  refine lv_iload_n hx hb dX0_meanOf_1 rfl (lv_at hl 1 rfl) ?_
  refine z_fcalli (z_runV hC hM (c_hasHours ho hfo hso hfs hco hfc hcg x (by omega)) zy_X0_hasHours zm_X0_44 ho hfo zcl_X0 rfl rfl rfl hl.1 (Nat.le_of_ble_eq_true rfl) ⟨by decide, by decide⟩ ⟨by decide, by decide⟩ dX0_meanOf_2) hM (fun H locs hM => ?_)
  refine z_if_eqB (tgt := 34) hx hb dX0_meanOf_5 (by decide) (fun c_5 => ?_) (fun c_5 => ?_)
  · refine lv_dconst0 hx hb dX0_meanOf_34 ?_
    rw [← hQ]
    exact z_dret hC hM hr hlk (by decide) (by decide) ⟨by rw [mf, if_neg (fun h => c_5 ⟨hx1, h⟩)]; rfl, rfl, rfl⟩ dX0_meanOf_35
  · refine lv_iload_n hx hb dX0_meanOf_8 rfl (lv_at hl 1 rfl) ?_
    refine lv_aload_n hx hb dX0_meanOf_9 rfl (lv_at hl 0 rfl) ?_
    refine z_get hC hM ho hfo zcl_X0 (by decide) zl_X0_9 rfl dX0_meanOf_10 ?_
    refine z_alen (n := 120) 0 hC hM hso hfs rfl rfl dX0_meanOf_13 ?_
    refine z_icmp_ge (tgt := 34) hx hb (nI_toInt (by omega)) (nI_toInt (by decide)) dX0_meanOf_14 (by decide) (fun c_14 => ?_) (fun c_14 => ?_)
    · exact absurd c_14 (by omega)
    · refine lv_aload_n hx hb dX0_meanOf_17 rfl (lv_at hl 0 rfl) ?_
      refine z_get hC hM ho hfo zcl_X0 (by decide) zl_X0_9 rfl dX0_meanOf_18 ?_
      refine lv_iload_n hx hb dX0_meanOf_21 rfl (lv_at hl 1 rfl) ?_
      refine z_dald hC hM hso hfs (by omega) (by omega) dX0_meanOf_22 ?_
      refine lv_aload_n hx hb dX0_meanOf_23 rfl (lv_at hl 0 rfl) ?_
      refine z_get hC hM ho hfo zcl_X0 (by decide) zl_X0_15 rfl dX0_meanOf_24 ?_
      refine lv_iload_n hx hb dX0_meanOf_27 rfl (lv_at hl 1 rfl) ?_
      refine z_iald hC hM hco hfc (by omega) (by omega) dX0_meanOf_28 ?_
      refine lv_i2d hx hb dX0_meanOf_29 ?_
      refine lv_ddiv hx hb dX0_meanOf_30 (hd c_5.2) ?_
      refine lv_goto (tgt := 35) hx hb dX0_meanOf_31 (by decide) ?_
      rw [← hQ]
      exact z_dret hC hM hr hlk (by decide) (by decide) ⟨by rw [mf, if_pos c_5.2]; rfl, rfl, rfl⟩ dX0_meanOf_35
set_option maxHeartbeats 400000 in
set_option maxRecDepth 100000 in
theorem c_scoreOf {l : Launch} {base : Nat} {K : zK} {L : List Nat} {f : Nat → va_E} {o so co fl : Nat} {mn : UInt64} {sg : Nat → UInt64} {cg : Nat → Nat} (ho : o ∈ L) (hfo : f o = eS 1 [.ref so, .ref co, .int (nI fl), .double mn]) (hso : so ∈ L) (hfs : f so = eD K 120 sg) (hco : co ∈ L) (hfc : f co = eI K 120 (fun j => nI (cg j))) (hcg : ∀ j, cg j < 2 ^ 31) (x : Nat) (hx1 : x < 120) (hd : 0 < cg x → vf_n64 (FP.ddiv (sg x) (nD (cg x))) ∧ vf_n64 (FP.dsub mn (mf sg cg x)) ∧ vf_n64 (FP.dmul (FP.dsub mn (mf sg cg x)) (nD (cg x)))) : zMet l yX0_scoreOf cX0_scoreOf 2 (some .double) (zr 2 0 0 42) base K L f [.ref o, .int (nI x)] (zFd base K (sf mn sg cg x) L f) := by
  refine z_met (by decide) (Nat.le_of_ble_eq_true rfl) (fun p e s m below meth c ls hC hM hr hlk hnm hl => ?_)
  have hx := hC.1
  have hb := hC.2.1
  have hml := hC.2.2.1
  have hown := hC.2.2.2.1
  have hts := hC.2.2.2.2.1
  generalize hA : ([.ref o, .int (nI x)] : List Value).toArray = args at hC ⊢
  generalize hQ : MQ _ _ _ _ _ _ _ = Q
  obtain ⟨locs, hlocs⟩ : ∃ z : List Loc, z = [] := ⟨_, rfl⟩
  obtain ⟨H, hH⟩ : ∃ z : Heap, z = s.heap := ⟨_, rfl⟩
  rw [← hlocs, ← hH] at hM ⊢
  have hl : lv_has ls 2 [(0, .ref o), (1, .int (nI x))] := hl
  refine lv_aload_n hx hb dX0_scoreOf_0 rfl (lv_at hl 0 rfl) ?_
  refine lv_iload_n hx hb dX0_scoreOf_1 rfl (lv_at hl 1 rfl) ?_
  refine z_fcalli (z_runV hC hM (c_hasHours ho hfo hso hfs hco hfc hcg x (by omega)) zy_X0_hasHours zm_X0_44 ho hfo zcl_X0 rfl rfl rfl hl.1 (Nat.le_of_ble_eq_true rfl) ⟨by decide, by decide⟩ ⟨by decide, by decide⟩ dX0_scoreOf_2) hM (fun H locs hM => ?_)
  refine z_if_eqB (tgt := 29) hx hb dX0_scoreOf_5 (by decide) (fun c_5 => ?_) (fun c_5 => ?_)
  · refine lv_dconst0 hx hb dX0_scoreOf_29 ?_
    rw [← hQ]
    exact z_dret hC hM hr hlk (by decide) (by decide) ⟨by rw [sf, if_neg (fun h => c_5 ⟨hx1, h⟩)]; rfl, rfl, rfl⟩ dX0_scoreOf_30
  · refine lv_aload_n hx hb dX0_scoreOf_8 rfl (lv_at hl 0 rfl) ?_
    refine z_get hC hM ho hfo zcl_X0 (by decide) zl_X0_23 rfl dX0_scoreOf_9 ?_
    refine lv_aload_n hx hb dX0_scoreOf_12 rfl (lv_at hl 0 rfl) ?_
    refine lv_iload_n hx hb dX0_scoreOf_13 rfl (lv_at hl 1 rfl) ?_
    refine z_fcalld (z_runV hC hM (c_meanOf ho hfo hso hfs hco hfc hcg x hx1 (fun h => (hd h).1)) zy_X0_meanOf zm_X0_48 ho hfo zcl_X0 rfl rfl rfl hl.1 (Nat.le_of_ble_eq_true rfl) ⟨by decide, by decide⟩ ⟨by decide, by decide⟩ dX0_scoreOf_14) hM (fun H locs hM => ?_)
    refine lv_dsub hx hb dX0_scoreOf_17 (hd c_5.2).2.1 ?_
    refine lv_aload_n hx hb dX0_scoreOf_18 rfl (lv_at hl 0 rfl) ?_
    refine z_get hC hM ho hfo zcl_X0 (by decide) zl_X0_15 rfl dX0_scoreOf_19 ?_
    refine lv_iload_n hx hb dX0_scoreOf_22 rfl (lv_at hl 1 rfl) ?_
    refine z_iald hC hM hco hfc (by omega) (by omega) dX0_scoreOf_23 ?_
    refine lv_i2d hx hb dX0_scoreOf_24 ?_
    refine lv_dmul hx hb dX0_scoreOf_25 (hd c_5.2).2.2 ?_
    refine lv_goto (tgt := 30) hx hb dX0_scoreOf_26 (by decide) ?_
    rw [← hQ]
    exact z_dret hC hM hr hlk (by decide) (by decide) ⟨by rw [sf, if_pos c_5.2]; rfl, rfl, rfl⟩ dX0_scoreOf_30
set_option maxHeartbeats 400000 in
set_option maxRecDepth 100000 in
theorem c_bestFold {l : Launch} {base : Nat} {K : zK} {L : List Nat} {f : Nat → va_E} {o so co fl : Nat} {mn : UInt64} {sg : Nat → UInt64} {cg : Nat → Nat} (ho : o ∈ L) (hfo : f o = eS 1 [.ref so, .ref co, .int (nI fl), .double mn]) (hso : so ∈ L) (hfs : f so = eD K 120 sg) (hco : co ∈ L) (hfc : f co = eI K 120 (fun j => nI (cg j))) (hcg : ∀ j, cg j < 2 ^ 31) (hfl : fl ≤ 120) (hd : ∀ x, x < fl → 0 < cg x → vf_n64 (FP.ddiv (sg x) (nD (cg x))) ∧ vf_n64 (FP.dsub mn (mf sg cg x)) ∧ vf_n64 (FP.dmul (FP.dsub mn (mf sg cg x)) (nD (cg x)))) : zMet l yX0_bestFold cX0_bestFold 7 (some .int) (zr 3 0 0 63) base K L f [.ref o] (zFi base K (oN (bfG mn sg cg fl)) L f) := by
  refine z_met (by decide) (Nat.le_of_ble_eq_true rfl) (fun p e s m below meth c ls hC hM hr hlk hnm hl => ?_)
  have hx := hC.1
  have hb := hC.2.1
  have hml := hC.2.2.1
  have hown := hC.2.2.2.1
  have hts := hC.2.2.2.2.1
  generalize hA : ([.ref o] : List Value).toArray = args at hC ⊢
  generalize hQ : MQ _ _ _ _ _ _ _ = Q
  obtain ⟨locs, hlocs⟩ : ∃ z : List Loc, z = [] := ⟨_, rfl⟩
  obtain ⟨H, hH⟩ : ∃ z : Heap, z = s.heap := ⟨_, rfl⟩
  rw [← hlocs, ← hH] at hM ⊢
  have hl : lv_has ls 7 [(0, .ref o)] := hl
  refine lv_iconst (v := (-1)) hx hb dX0_bestFold_0 (by decide) ?_
  refine lv_istore_n (lv' := [(1, .int ((-1))), (0, .ref o)]) hx hb dX0_bestFold_1 rfl hl (by decide) rfl (fun ls hl => ?_)
  refine lv_dconst0 hx hb dX0_bestFold_2 ?_
  refine lv_dstore_n (lv' := [(2, .double FP.dconst0), (1, .int ((-1))), (0, .ref o)]) hx hb dX0_bestFold_3 rfl hl (by decide) rfl (fun ls hl => ?_)
  refine lv_iconst (v := nI 0) hx hb dX0_bestFold_4 (by decide) ?_
  refine lv_istore (lv' := [(4, .int (nI 0)), (2, .double FP.dconst0), (1, .int ((-1))), (0, .ref o)]) hx hb dX0_bestFold_5 hl (by decide) rfl (fun ls hl => ?_)
  have LOOP7 : ∀ i, i ≤ fl → ∀ (ls : Array Slot) (H : Heap) (locs : List Loc), lv_has ls 7 [(4, .int (nI i)), (2, .double (grG mn sg cg (bfG mn sg cg i))), (1, .int (oN (bfG mn sg cg i))), (0, .ref o)] → zM base K L f s H locs → W p l e (zr 3 0 0 63) s m args below meth c H locs 0 0 Q (F0 m 7 ls []) := by
    refine z_down fl ?_ ?_
    · intro ls H locs hl hM
      cases hbf : bfG mn sg cg fl with
      | none =>
        rw [hbf] at hl
        have hl : lv_has ls 7 [(4, .int (nI fl)), (2, .double 0), (1, .int ((-1))), (0, .ref o)] := hl
        refine lv_iload hx hb dX0_bestFold_7 (lv_at hl 0 rfl) ?_
        refine lv_aload_n hx hb dX0_bestFold_9 rfl (lv_at hl 3 rfl) ?_
        refine z_get hC hM ho hfo zcl_X0 (by decide) zl_X0_19 rfl dX0_bestFold_10 ?_
        refine z_icmp_ge (tgt := 57) hx hb (nI_toInt (by omega)) (nI_toInt (by omega)) dX0_bestFold_13 (by decide) (fun c_13 => ?_) (fun c_13 => ?_)
        · refine lv_iload_n hx hb dX0_bestFold_57 rfl (lv_at hl 2 rfl) ?_
          rw [← hQ]
          exact z_iret hC hM hr hlk rfl (by decide) (by decide) ⟨by rw [hbf]; rfl, rfl, rfl⟩ dX0_bestFold_58
        · exact absurd c_13 (by omega)
      | some b =>
        rw [hbf] at hl
        have hl : lv_has ls 7 [(4, .int (nI fl)), (2, .double (sf mn sg cg b)), (1, .int (nI b)), (0, .ref o)] := hl
        have hblt := (bfG_lt _ _ hbf).1
        refine lv_iload hx hb dX0_bestFold_7 (lv_at hl 0 rfl) ?_
        refine lv_aload_n hx hb dX0_bestFold_9 rfl (lv_at hl 3 rfl) ?_
        refine z_get hC hM ho hfo zcl_X0 (by decide) zl_X0_19 rfl dX0_bestFold_10 ?_
        refine z_icmp_ge (tgt := 57) hx hb (nI_toInt (by omega)) (nI_toInt (by omega)) dX0_bestFold_13 (by decide) (fun c_13 => ?_) (fun c_13 => ?_)
        · refine lv_iload_n hx hb dX0_bestFold_57 rfl (lv_at hl 2 rfl) ?_
          rw [← hQ]
          exact z_iret hC hM hr hlk rfl (by decide) (by decide) ⟨by rw [hbf]; rfl, rfl, rfl⟩ dX0_bestFold_58
        · exact absurd c_13 (by omega)
    · intro i hi ih ls H locs hl hM
      cases hbf : bfG mn sg cg i with
      | none =>
        rw [hbf] at hl
        have hl : lv_has ls 7 [(4, .int (nI i)), (2, .double 0), (1, .int ((-1))), (0, .ref o)] := hl
        refine lv_iload hx hb dX0_bestFold_7 (lv_at hl 0 rfl) ?_
        refine lv_aload_n hx hb dX0_bestFold_9 rfl (lv_at hl 3 rfl) ?_
        refine z_get hC hM ho hfo zcl_X0 (by decide) zl_X0_19 rfl dX0_bestFold_10 ?_
        refine z_icmp_ge (tgt := 57) hx hb (nI_toInt (by omega)) (nI_toInt (by omega)) dX0_bestFold_13 (by decide) (fun c_13 => ?_) (fun c_13 => ?_)
        · exact absurd c_13 (by omega)
        · refine lv_aload_n hx hb dX0_bestFold_16 rfl (lv_at hl 3 rfl) ?_
          refine lv_iload hx hb dX0_bestFold_17 (lv_at hl 0 rfl) ?_
          refine z_fcalli (z_runV hC hM (c_hasHours ho hfo hso hfs hco hfc hcg i (by omega)) zy_X0_hasHours zm_X0_44 ho hfo zcl_X0 rfl rfl rfl hl.1 (Nat.le_of_ble_eq_true rfl) ⟨by decide, by decide⟩ ⟨by decide, by decide⟩ dX0_bestFold_19) hM (fun H locs hM => ?_)
          refine z_if_eqB (tgt := 51) hx hb dX0_bestFold_22 (by decide) (fun c_22 => ?_) (fun c_22 => ?_)
          · refine lv_iinc (v := nI (i + 1)) (lv' := [(4, .int (nI (i + 1))), (2, .double 0), (1, .int ((-1))), (0, .ref o)]) hx hb dX0_bestFold_51 hl (k := 0) rfl (nI_add i 1) (by decide) rfl (fun ls hl => ?_)
            refine lv_goto (tgt := 7) hx hb dX0_bestFold_54 (by decide) ?_
            have e9 := (bfG_no (fun h => c_22 ⟨by omega, h⟩)).trans hbf
            exact ih ls H locs (by rw [e9]; exact lv_sub hl [0, 1, 2, 3] rfl) hM
          · refine lv_aload_n hx hb dX0_bestFold_25 rfl (lv_at hl 3 rfl) ?_
            refine lv_iload hx hb dX0_bestFold_26 (lv_at hl 0 rfl) ?_
            refine z_fcalld (z_runV hC hM (c_scoreOf ho hfo hso hfs hco hfc hcg i (by omega) (hd i hi)) zy_X0_scoreOf zm_X0_52 ho hfo zcl_X0 rfl rfl rfl hl.1 (Nat.le_of_ble_eq_true rfl) ⟨by decide, by decide⟩ ⟨by decide, by decide⟩ dX0_bestFold_28) hM (fun H locs hM => ?_)
            refine lv_dstore (lv' := [(5, .double (sf mn sg cg i)), (4, .int (nI i)), (2, .double 0), (1, .int ((-1))), (0, .ref o)]) hx hb dX0_bestFold_31 hl (by decide) rfl (fun ls hl => ?_)
            refine lv_iload_n hx hb dX0_bestFold_33 rfl (lv_at hl 3 rfl) ?_
            refine lv_iconst (v := (-1)) hx hb dX0_bestFold_34 (by decide) ?_
            refine z_icmp_eq (tgt := 45) hx hb m1_toInt m1_toInt dX0_bestFold_35 (by decide) (fun c_35 => ?_) (fun c_35 => ?_)
            · refine lv_dload hx hb dX0_bestFold_45 (lv_at hl 0 rfl) ?_
              refine lv_dstore_n (lv' := [(2, .double (sf mn sg cg i)), (5, .double (sf mn sg cg i)), (4, .int (nI i)), (1, .int ((-1))), (0, .ref o)]) hx hb dX0_bestFold_47 rfl hl (by decide) rfl (fun ls hl => ?_)
              refine lv_iload hx hb dX0_bestFold_48 (lv_at hl 2 rfl) ?_
              refine lv_istore_n (lv' := [(1, .int (nI i)), (2, .double (sf mn sg cg i)), (5, .double (sf mn sg cg i)), (4, .int (nI i)), (0, .ref o)]) hx hb dX0_bestFold_50 rfl hl (by decide) rfl (fun ls hl => ?_)
              refine lv_iinc (v := nI (i + 1)) (lv' := [(4, .int (nI (i + 1))), (1, .int (nI i)), (2, .double (sf mn sg cg i)), (5, .double (sf mn sg cg i)), (0, .ref o)]) hx hb dX0_bestFold_51 hl (k := 3) rfl (nI_add i 1) (by decide) rfl (fun ls hl => ?_)
              refine lv_goto (tgt := 7) hx hb dX0_bestFold_54 (by decide) ?_
              have e9 := bfG_1 c_22.2 hbf
              exact ih ls H locs (by rw [e9]; exact lv_sub hl [0, 2, 1, 4] rfl) hM
            · exact absurd rfl c_35
      | some b =>
        rw [hbf] at hl
        have hl : lv_has ls 7 [(4, .int (nI i)), (2, .double (sf mn sg cg b)), (1, .int (nI b)), (0, .ref o)] := hl
        have hblt := (bfG_lt _ _ hbf).1
        refine lv_iload hx hb dX0_bestFold_7 (lv_at hl 0 rfl) ?_
        refine lv_aload_n hx hb dX0_bestFold_9 rfl (lv_at hl 3 rfl) ?_
        refine z_get hC hM ho hfo zcl_X0 (by decide) zl_X0_19 rfl dX0_bestFold_10 ?_
        refine z_icmp_ge (tgt := 57) hx hb (nI_toInt (by omega)) (nI_toInt (by omega)) dX0_bestFold_13 (by decide) (fun c_13 => ?_) (fun c_13 => ?_)
        · exact absurd c_13 (by omega)
        · refine lv_aload_n hx hb dX0_bestFold_16 rfl (lv_at hl 3 rfl) ?_
          refine lv_iload hx hb dX0_bestFold_17 (lv_at hl 0 rfl) ?_
          refine z_fcalli (z_runV hC hM (c_hasHours ho hfo hso hfs hco hfc hcg i (by omega)) zy_X0_hasHours zm_X0_44 ho hfo zcl_X0 rfl rfl rfl hl.1 (Nat.le_of_ble_eq_true rfl) ⟨by decide, by decide⟩ ⟨by decide, by decide⟩ dX0_bestFold_19) hM (fun H locs hM => ?_)
          refine z_if_eqB (tgt := 51) hx hb dX0_bestFold_22 (by decide) (fun c_22 => ?_) (fun c_22 => ?_)
          · refine lv_iinc (v := nI (i + 1)) (lv' := [(4, .int (nI (i + 1))), (2, .double (sf mn sg cg b)), (1, .int (nI b)), (0, .ref o)]) hx hb dX0_bestFold_51 hl (k := 0) rfl (nI_add i 1) (by decide) rfl (fun ls hl => ?_)
            refine lv_goto (tgt := 7) hx hb dX0_bestFold_54 (by decide) ?_
            have e9 := (bfG_no (fun h => c_22 ⟨by omega, h⟩)).trans hbf
            exact ih ls H locs (by rw [e9]; exact lv_sub hl [0, 1, 2, 3] rfl) hM
          · refine lv_aload_n hx hb dX0_bestFold_25 rfl (lv_at hl 3 rfl) ?_
            refine lv_iload hx hb dX0_bestFold_26 (lv_at hl 0 rfl) ?_
            refine z_fcalld (z_runV hC hM (c_scoreOf ho hfo hso hfs hco hfc hcg i (by omega) (hd i hi)) zy_X0_scoreOf zm_X0_52 ho hfo zcl_X0 rfl rfl rfl hl.1 (Nat.le_of_ble_eq_true rfl) ⟨by decide, by decide⟩ ⟨by decide, by decide⟩ dX0_bestFold_28) hM (fun H locs hM => ?_)
            refine lv_dstore (lv' := [(5, .double (sf mn sg cg i)), (4, .int (nI i)), (2, .double (sf mn sg cg b)), (1, .int (nI b)), (0, .ref o)]) hx hb dX0_bestFold_31 hl (by decide) rfl (fun ls hl => ?_)
            refine lv_iload_n hx hb dX0_bestFold_33 rfl (lv_at hl 3 rfl) ?_
            refine lv_iconst (v := (-1)) hx hb dX0_bestFold_34 (by decide) ?_
            refine z_icmp_eq (tgt := 45) hx hb (nI_toInt (by omega)) m1_toInt dX0_bestFold_35 (by decide) (fun c_35 => ?_) (fun c_35 => ?_)
            · exact absurd c_35 (by omega)
            · refine lv_dload hx hb dX0_bestFold_38 (lv_at hl 0 rfl) ?_
              refine lv_dload_n hx hb dX0_bestFold_40 rfl (lv_at hl 2 rfl) ?_
              refine lv_dcmp hx hb dX0_bestFold_41 ?_
              refine z_if_le (tgt := 51) hx hb (dc_l _ _) dX0_bestFold_42 (by decide) (fun c_42 => ?_) (fun c_42 => ?_)
              · refine lv_iinc (v := nI (i + 1)) (lv' := [(4, .int (nI (i + 1))), (5, .double (sf mn sg cg i)), (2, .double (sf mn sg cg b)), (1, .int (nI b)), (0, .ref o)]) hx hb dX0_bestFold_51 hl (k := 1) rfl (nI_add i 1) (by decide) rfl (fun ls hl => ?_)
                refine lv_goto (tgt := 7) hx hb dX0_bestFold_54 (by decide) ?_
                have e9 := bfG_3 c_22.2 hbf c_42
                exact ih ls H locs (by rw [e9]; exact lv_sub hl [0, 2, 3, 4] rfl) hM
              · refine lv_dload hx hb dX0_bestFold_45 (lv_at hl 0 rfl) ?_
                refine lv_dstore_n (lv' := [(2, .double (sf mn sg cg i)), (5, .double (sf mn sg cg i)), (4, .int (nI i)), (1, .int (nI b)), (0, .ref o)]) hx hb dX0_bestFold_47 rfl hl (by decide) rfl (fun ls hl => ?_)
                refine lv_iload hx hb dX0_bestFold_48 (lv_at hl 2 rfl) ?_
                refine lv_istore_n (lv' := [(1, .int (nI i)), (2, .double (sf mn sg cg i)), (5, .double (sf mn sg cg i)), (4, .int (nI i)), (0, .ref o)]) hx hb dX0_bestFold_50 rfl hl (by decide) rfl (fun ls hl => ?_)
                refine lv_iinc (v := nI (i + 1)) (lv' := [(4, .int (nI (i + 1))), (1, .int (nI i)), (2, .double (sf mn sg cg i)), (5, .double (sf mn sg cg i)), (0, .ref o)]) hx hb dX0_bestFold_51 hl (k := 3) rfl (nI_add i 1) (by decide) rfl (fun ls hl => ?_)
                refine lv_goto (tgt := 7) hx hb dX0_bestFold_54 (by decide) ?_
                have e9 := bfG_2 c_22.2 hbf c_42
                exact ih ls H locs (by rw [e9]; exact lv_sub hl [0, 2, 1, 4] rfl) hM
  exact LOOP7 0 (Nat.zero_le _) ls H locs (lv_sub hl [0, 1, 2, 3] rfl) hM
theorem fill_0 {α : Type} (z : Nat → α) (v : α) : (fun j => if j < 0 then v else z j) = z := by funext j; simp
theorem fill_n {α : Type} {z : Nat → α} {v : α} (h : ∀ j, 120 ≤ j → z j = v) : (fun j => if j < 120 then v else z j) = fun _ => v := by
  funext j
  by_cases c : j < 120
  · simp [c]
  · simp [c, h j (by omega)]
theorem fill_up {α : Type} (z : Nat → α) (v : α) (i : Nat) : va_up (fun j => if j < i then v else z j) i v = (fun j => if j < i + 1 then v else z j) := by
  funext j
  unfold va_up
  by_cases h : j = i
  · subst h; simp
  · by_cases h2 : j < i
    · simp [h, h2, Nat.lt_succ_of_lt h2]
    · have h3 : ¬ j < i + 1 := by omega
      simp [h, h2, h3]
set_option maxHeartbeats 400000 in
set_option maxRecDepth 100000 in
theorem c_fillD {l : Launch} {base : Nat} {K : zK} {L : List Nat} {f : Nat → va_E} {a : Nat} {z : Nat → UInt64} (ha : a ∈ L) (hfa : f a = eD K 120 z) (hz : ∀ j, 120 ≤ j → z j = FP.dconst0) : zMet l yJ7_fill_7f8df cJ7_fill_7f8df 5 (none) (zr 0 0 0 0) base K L f [.ref a, .double FP.dconst0] (zFv base K L (va_up f a (eD K 120 (fun _ => FP.dconst0)))) := by
  refine z_met (by decide) (Nat.le_of_ble_eq_true rfl) (fun p e s m below meth c ls hC hM hr hlk hnm hl => ?_)
  have hx := hC.1
  have hb := hC.2.1
  have hml := hC.2.2.1
  have hown := hC.2.2.2.1
  have hts := hC.2.2.2.2.1
  generalize hA : ([.ref a, .double FP.dconst0] : List Value).toArray = args at hC ⊢
  generalize hQ : MQ _ _ _ _ _ _ _ = Q
  obtain ⟨locs, hlocs⟩ : ∃ z : List Loc, z = [] := ⟨_, rfl⟩
  obtain ⟨H, hH⟩ : ∃ z : Heap, z = s.heap := ⟨_, rfl⟩
  rw [← hlocs, ← hH] at hM ⊢
  have hl : lv_has ls 5 [(0, .ref a), (1, .double FP.dconst0)] := hl
  refine lv_iconst (v := nI 0) hx hb dJ7_fill_7f8df_0 (by decide) ?_
  refine lv_istore_n (lv' := [(3, .int (nI 0)), (0, .ref a), (1, .double FP.dconst0)]) hx hb dJ7_fill_7f8df_1 rfl hl (by decide) rfl (fun ls hl => ?_)
  refine lv_aload_n hx hb dJ7_fill_7f8df_2 rfl (lv_at hl 1 rfl) ?_
  refine z_alen (n := 120) 0 hC hM ha hfa rfl rfl dJ7_fill_7f8df_3 ?_
  refine lv_istore (lv' := [(4, .int (nI 120)), (3, .int (nI 0)), (0, .ref a), (1, .double FP.dconst0)]) hx hb dJ7_fill_7f8df_4 hl (by decide) rfl (fun ls hl => ?_)
  have LOOP6 : ∀ i, i ≤ 120 → ∀ (ls : Array Slot) (H : Heap) (locs : List Loc) (f1 : Nat → va_E), lv_has ls 5 [(4, .int (nI 120)), (3, .int (nI i)), (0, .ref a), (1, .double FP.dconst0)] → zM base K L f1 s H locs → f1 a = eD K 120 (fun j => if j < i then FP.dconst0 else z j) → (∀ q, q ≠ a → f1 q = f q) → W p l e (zr 0 0 0 0) s m args below meth c H locs 0 0 Q (F0 m 6 ls []) := by
    refine z_down 120 ?_ ?_
    · intro ls H locs f1 hl hM hG0 hfr
      refine lv_iload_n hx hb dJ7_fill_7f8df_6 rfl (lv_at hl 1 rfl) ?_
      refine lv_iload hx hb dJ7_fill_7f8df_7 (lv_at hl 0 rfl) ?_
      refine z_icmp_ge (tgt := 22) hx hb (nI_toInt (by decide)) (nI_toInt (by decide)) dJ7_fill_7f8df_9 (by decide) (fun c_9 => ?_) (fun c_9 => ?_)
      · rw [← hQ]
        exact z_vret hC hM hr hlk (by decide) (by decide) ⟨rfl, up1_ext (by rw [hG0, fill_n hz]) hfr⟩ dJ7_fill_7f8df_22
      · exact absurd c_9 (by omega)
    · intro i hi ih ls H locs f1 hl hM hG0 hfr
      refine lv_iload_n hx hb dJ7_fill_7f8df_6 rfl (lv_at hl 1 rfl) ?_
      refine lv_iload hx hb dJ7_fill_7f8df_7 (lv_at hl 0 rfl) ?_
      refine z_icmp_ge (tgt := 22) hx hb (nI_toInt (by omega)) (nI_toInt (by decide)) dJ7_fill_7f8df_9 (by decide) (fun c_9 => ?_) (fun c_9 => ?_)
      · exact absurd c_9 (by omega)
      · refine lv_aload_n hx hb dJ7_fill_7f8df_12 rfl (lv_at hl 2 rfl) ?_
        refine lv_iload_n hx hb dJ7_fill_7f8df_13 rfl (lv_at hl 1 rfl) ?_
        refine lv_dload_n hx hb dJ7_fill_7f8df_14 rfl (lv_at hl 3 rfl) ?_
        refine z_dast hC hM ha hG0 (by omega) (by omega) dJ7_fill_7f8df_15 (fun H locs hM => ?_)
        obtain ⟨f_1, ef_1⟩ : ∃ z9, z9 = va_up f1 a (eD K 120 (va_up (fun j => if j < i then FP.dconst0 else z j) i FP.dconst0)) := ⟨_, rfl⟩
        rw [← ef_1] at hM
        have hF_2 : f_1 a = eD K 120 (va_up (fun j => if j < i then FP.dconst0 else z j) i FP.dconst0) := by rw [ef_1]; exact va_up_self _ _ _
        refine lv_iinc (v := nI (i + 1)) (lv' := [(3, .int (nI (i + 1))), (4, .int (nI 120)), (0, .ref a), (1, .double FP.dconst0)]) hx hb dJ7_fill_7f8df_16 hl (k := 1) rfl (nI_add i 1) (by decide) rfl (fun ls hl => ?_)
        refine lv_goto (tgt := 6) hx hb dJ7_fill_7f8df_19 (by decide) ?_
        have e9 : f_1 a = eD K 120 (fun j => if j < i + 1 then FP.dconst0 else z j) := by
          rw [hF_2]
          rw [fill_up]
        have hfr : ∀ q, q ≠ a → f_1 q = f q := fun q hq0 => by
          rw [ef_1]
          simp only [va_up, hq0, if_false]
          exact hfr q hq0
        exact ih ls H locs f_1 (lv_sub hl [1, 0, 2, 3] rfl) hM e9 hfr
  exact LOOP6 0 (Nat.zero_le _) ls H locs f (lv_sub hl [0, 1, 2, 3] rfl) hM (by rw [hfa, fill_0]) (fun _ _ => rfl)
set_option maxHeartbeats 400000 in
set_option maxRecDepth 100000 in
theorem c_fillI {l : Launch} {base : Nat} {K : zK} {L : List Nat} {f : Nat → va_E} {a : Nat} {z : Nat → Int32} (ha : a ∈ L) (hfa : f a = eI K 120 z) (hz : ∀ j, 120 ≤ j → z j = nI 0) : zMet l yJ7_fill_53178 cJ7_fill_53178 4 (none) (zr 0 0 0 0) base K L f [.ref a, .int (nI 0)] (zFv base K L (va_up f a (eI K 120 (fun _ => nI 0)))) := by
  refine z_met (by decide) (Nat.le_of_ble_eq_true rfl) (fun p e s m below meth c ls hC hM hr hlk hnm hl => ?_)
  have hx := hC.1
  have hb := hC.2.1
  have hml := hC.2.2.1
  have hown := hC.2.2.2.1
  have hts := hC.2.2.2.2.1
  generalize hA : ([.ref a, .int (nI 0)] : List Value).toArray = args at hC ⊢
  generalize hQ : MQ _ _ _ _ _ _ _ = Q
  obtain ⟨locs, hlocs⟩ : ∃ z : List Loc, z = [] := ⟨_, rfl⟩
  obtain ⟨H, hH⟩ : ∃ z : Heap, z = s.heap := ⟨_, rfl⟩
  rw [← hlocs, ← hH] at hM ⊢
  have hl : lv_has ls 4 [(0, .ref a), (1, .int (nI 0))] := hl
  refine lv_iconst (v := nI 0) hx hb dJ7_fill_53178_0 (by decide) ?_
  refine lv_istore_n (lv' := [(2, .int (nI 0)), (0, .ref a), (1, .int (nI 0))]) hx hb dJ7_fill_53178_1 rfl hl (by decide) rfl (fun ls hl => ?_)
  refine lv_aload_n hx hb dJ7_fill_53178_2 rfl (lv_at hl 1 rfl) ?_
  refine z_alen (n := 120) 1 hC hM ha hfa rfl rfl dJ7_fill_53178_3 ?_
  refine lv_istore_n (lv' := [(3, .int (nI 120)), (2, .int (nI 0)), (0, .ref a), (1, .int (nI 0))]) hx hb dJ7_fill_53178_4 rfl hl (by decide) rfl (fun ls hl => ?_)
  have LOOP5 : ∀ i, i ≤ 120 → ∀ (ls : Array Slot) (H : Heap) (locs : List Loc) (f1 : Nat → va_E), lv_has ls 4 [(3, .int (nI 120)), (2, .int (nI i)), (0, .ref a), (1, .int (nI 0))] → zM base K L f1 s H locs → f1 a = eI K 120 (fun j => if j < i then nI 0 else z j) → (∀ q, q ≠ a → f1 q = f q) → W p l e (zr 0 0 0 0) s m args below meth c H locs 0 0 Q (F0 m 5 ls []) := by
    refine z_down 120 ?_ ?_
    · intro ls H locs f1 hl hM hG0 hfr
      refine lv_iload_n hx hb dJ7_fill_53178_5 rfl (lv_at hl 1 rfl) ?_
      refine lv_iload_n hx hb dJ7_fill_53178_6 rfl (lv_at hl 0 rfl) ?_
      refine z_icmp_ge (tgt := 20) hx hb (nI_toInt (by decide)) (nI_toInt (by decide)) dJ7_fill_53178_7 (by decide) (fun c_7 => ?_) (fun c_7 => ?_)
      · rw [← hQ]
        exact z_vret hC hM hr hlk (by decide) (by decide) ⟨rfl, up1_ext (by rw [hG0, fill_n hz]) hfr⟩ dJ7_fill_53178_20
      · exact absurd c_7 (by omega)
    · intro i hi ih ls H locs f1 hl hM hG0 hfr
      refine lv_iload_n hx hb dJ7_fill_53178_5 rfl (lv_at hl 1 rfl) ?_
      refine lv_iload_n hx hb dJ7_fill_53178_6 rfl (lv_at hl 0 rfl) ?_
      refine z_icmp_ge (tgt := 20) hx hb (nI_toInt (by omega)) (nI_toInt (by decide)) dJ7_fill_53178_7 (by decide) (fun c_7 => ?_) (fun c_7 => ?_)
      · exact absurd c_7 (by omega)
      · refine lv_aload_n hx hb dJ7_fill_53178_10 rfl (lv_at hl 2 rfl) ?_
        refine lv_iload_n hx hb dJ7_fill_53178_11 rfl (lv_at hl 1 rfl) ?_
        refine lv_iload_n hx hb dJ7_fill_53178_12 rfl (lv_at hl 3 rfl) ?_
        refine z_iast hC hM ha hG0 (by omega) (by omega) dJ7_fill_53178_13 (fun H locs hM => ?_)
        obtain ⟨f_1, ef_1⟩ : ∃ z9, z9 = va_up f1 a (eI K 120 (va_up (fun j => if j < i then nI 0 else z j) i (nI 0))) := ⟨_, rfl⟩
        rw [← ef_1] at hM
        have hF_2 : f_1 a = eI K 120 (va_up (fun j => if j < i then nI 0 else z j) i (nI 0)) := by rw [ef_1]; exact va_up_self _ _ _
        refine lv_iinc (v := nI (i + 1)) (lv' := [(2, .int (nI (i + 1))), (3, .int (nI 120)), (0, .ref a), (1, .int (nI 0))]) hx hb dJ7_fill_53178_14 hl (k := 1) rfl (nI_add i 1) (by decide) rfl (fun ls hl => ?_)
        refine lv_goto (tgt := 5) hx hb dJ7_fill_53178_17 (by decide) ?_
        have e9 : f_1 a = eI K 120 (fun j => if j < i + 1 then nI 0 else z j) := by
          rw [hF_2]
          rw [fill_up]
        have hfr : ∀ q, q ≠ a → f_1 q = f q := fun q hq0 => by
          rw [ef_1]
          simp only [va_up, hq0, if_false]
          exact hfr q hq0
        exact ih ls H locs f_1 (lv_sub hl [1, 0, 2, 3] rfl) hM e9 hfr
  exact LOOP5 0 (Nat.zero_le _) ls H locs f (lv_sub hl [0, 1, 2, 3] rfl) hM (by rw [hfa, fill_0]) (fun _ _ => rfl)
theorem fS_0 (g : Nat → UInt64) (p : Nat) : (fun _ : Nat => FP.dconst0) = fS g p 0 := by funext j; rfl
theorem fC_0 (g : Nat → UInt64) (p : Nat) : (fun _ : Nat => nI 0) = fun j => nI (fC g p 0 j) := by funext j; rfl
theorem fS_out {g : Nat → UInt64} {p : Nat} (hp : 0 < p) : ∀ h j, p ≤ j → fS g p h j = 0
  | 0, _, _ => rfl
  | h + 1, j, hj => by
    have := Nat.mod_lt h hp
    rw [fS, if_neg (fun q => by omega)]
    exact fS_out hp h j hj
theorem fC_out {g : Nat → UInt64} {p : Nat} (hp : 0 < p) : ∀ h j, p ≤ j → fC g p h j = 0
  | 0, _, _ => rfl
  | h + 1, j, hj => by
    have := Nat.mod_lt h hp
    rw [fC, if_neg (fun q => by omega)]
    exact fC_out hp h j hj
set_option maxHeartbeats 400000 in
set_option maxRecDepth 100000 in
theorem c_foldBy {l : Launch} {base : Nat} {K : zK} {L : List Nat} {f : Nat → va_E} {o so co fl nn lo kc : Nat} {mn : UInt64} {sg : Nat → UInt64} {cg : Nat → Nat} {g : Nat → UInt64} (ho : o ∈ L) (hfo : f o = eS 1 [.ref so, .ref co, .int (nI fl), .double mn]) (hso : so ∈ L) (hfs : f so = eD K 120 sg) (hco : co ∈ L) (hfc : f co = eI K 120 (fun j => nI (cg j))) (hz1 : ∀ j, 120 ≤ j → sg j = FP.dconst0) (hz2 : ∀ j, 120 ≤ j → nI (cg j) = nI 0) (hnn : nn ∈ L) (hfn : f nn = eS 2 [.ref lo, .int (nI kc)]) (hlo : lo ∈ L) (hfl : f lo = eD K 1000 g) (hkc : kc = fN g 1000) (hFP : FPok g) (n_o_so : o ≠ so) (n_o_co : o ≠ co) (n_o_nn : o ≠ nn) (n_o_lo : o ≠ lo) (n_so_co : so ≠ co) (n_so_nn : so ≠ nn) (n_so_lo : so ≠ lo) (n_co_nn : co ≠ nn) (n_co_lo : co ≠ lo) (n_nn_lo : nn ≠ lo) {pr : Nat} (hp : 0 < pr) (hp2 : pr ≤ 120) : zMet l yX0_foldBy cX0_foldBy 8 (none) (zr 1 0 0 24) base K L f [.ref o, .int (nI pr), .ref nn] (zFv base K L (va_up (va_up (va_up f so (eD K 120 (fS g pr 1000))) co (eI K 120 (fun j => nI (fC g pr 1000 j)))) o (eS 1 [.ref so, .ref co, .int (nI pr), .double (mnT g)]))) := by
  have hkl := fN_le g 1000
  refine z_met (by decide) (Nat.le_of_ble_eq_true rfl) (fun p e s m below meth c ls hC hM hr hlk hnm hl => ?_)
  have hx := hC.1
  have hb := hC.2.1
  have hml := hC.2.2.1
  have hown := hC.2.2.2.1
  have hts := hC.2.2.2.2.1
  generalize hA : ([.ref o, .int (nI pr), .ref nn] : List Value).toArray = args at hC ⊢
  generalize hQ : MQ _ _ _ _ _ _ _ = Q
  obtain ⟨locs, hlocs⟩ : ∃ z : List Loc, z = [] := ⟨_, rfl⟩
  obtain ⟨H, hH⟩ : ∃ z : Heap, z = s.heap := ⟨_, rfl⟩
  rw [← hlocs, ← hH] at hM ⊢
  have hl : lv_has ls 8 [(0, .ref o), (1, .int (nI pr)), (2, .ref nn)] := hl
  refine lv_aload_n hx hb dX0_foldBy_0 rfl (lv_at hl 0 rfl) ?_
  refine z_get hC hM ho hfo zcl_X0 (by decide) zl_X0_9 rfl dX0_foldBy_1 ?_
  refine lv_dconst0 hx hb dX0_foldBy_4 ?_
  refine z_fcallv (z_runS hC hM (c_fillD hso hfs hz1) zy_J7_fill_7f8df zm_X0_27 rfl rfl hl.1 (Nat.le_of_ble_eq_true rfl) ⟨by decide, by decide⟩ ⟨by decide, by decide⟩ dX0_foldBy_5) hM (fun H locs hM => ?_)
  obtain ⟨f_1, ef_1⟩ : ∃ z9, z9 = va_up f so (eD K 120 (fun _ => FP.dconst0)) := ⟨_, rfl⟩
  rw [← ef_1] at hM
  have hF_2 : f_1 o = eS 1 [.ref so, .ref co, .int (nI fl), .double mn] := by rw [ef_1]; exact (va_up_ne _ _ n_o_so).trans hfo
  have hF_3 : f_1 so = eD K 120 (fun _ => FP.dconst0) := by rw [ef_1]; exact va_up_self _ _ _
  have hF_4 : f_1 co = eI K 120 (fun j => nI (cg j)) := by rw [ef_1]; exact (va_up_ne _ _ (Ne.symm n_so_co)).trans hfc
  have hF_5 : f_1 nn = eS 2 [.ref lo, .int (nI kc)] := by rw [ef_1]; exact (va_up_ne _ _ (Ne.symm n_so_nn)).trans hfn
  have hF_6 : f_1 lo = eD K 1000 g := by rw [ef_1]; exact (va_up_ne _ _ (Ne.symm n_so_lo)).trans hfl
  refine lv_aload_n hx hb dX0_foldBy_8 rfl (lv_at hl 0 rfl) ?_
  refine z_get hC hM ho hF_2 zcl_X0 (by decide) zl_X0_15 rfl dX0_foldBy_9 ?_
  refine lv_iconst (v := nI 0) hx hb dX0_foldBy_12 (by decide) ?_
  refine z_fcallv (z_runS hC hM (c_fillI hco hF_4 hz2) zy_J7_fill_53178 zm_X0_33 rfl rfl hl.1 (Nat.le_of_ble_eq_true rfl) ⟨by decide, by decide⟩ ⟨by decide, by decide⟩ dX0_foldBy_13) hM (fun H locs hM => ?_)
  obtain ⟨f_7, ef_7⟩ : ∃ z9, z9 = va_up f_1 co (eI K 120 (fun _ => nI 0)) := ⟨_, rfl⟩
  rw [← ef_7] at hM
  have hF_8 : f_7 o = eS 1 [.ref so, .ref co, .int (nI fl), .double mn] := by rw [ef_7]; exact (va_up_ne _ _ n_o_co).trans hF_2
  have hF_9 : f_7 so = eD K 120 (fun _ => FP.dconst0) := by rw [ef_7]; exact (va_up_ne _ _ n_so_co).trans hF_3
  have hF_10 : f_7 co = eI K 120 (fun _ => nI 0) := by rw [ef_7]; exact va_up_self _ _ _
  have hF_11 : f_7 nn = eS 2 [.ref lo, .int (nI kc)] := by rw [ef_7]; exact (va_up_ne _ _ (Ne.symm n_co_nn)).trans hF_5
  have hF_12 : f_7 lo = eD K 1000 g := by rw [ef_7]; exact (va_up_ne _ _ (Ne.symm n_co_lo)).trans hF_6
  refine lv_aload_n hx hb dX0_foldBy_16 rfl (lv_at hl 0 rfl) ?_
  refine lv_iconst (v := nI 0) hx hb dX0_foldBy_17 (by decide) ?_
  refine z_put (fs' := [.ref so, .ref co, .int (nI 0), .double mn]) hC hM ho hF_8 zcl_X0 (by decide) zl_X0_19 rfl rfl (by rfl) (Nat.le_of_ble_eq_true rfl) rfl dX0_foldBy_18 (fun H locs hM => ?_)
  obtain ⟨f_13, ef_13⟩ : ∃ z9, z9 = va_up f_7 o (eS 1 [.ref so, .ref co, .int (nI 0), .double mn]) := ⟨_, rfl⟩
  rw [← ef_13] at hM
  have hF_14 : f_13 o = eS 1 [.ref so, .ref co, .int (nI 0), .double mn] := by rw [ef_13]; exact va_up_self _ _ _
  have hF_15 : f_13 so = eD K 120 (fun _ => FP.dconst0) := by rw [ef_13]; exact (va_up_ne _ _ (Ne.symm n_o_so)).trans hF_9
  have hF_16 : f_13 co = eI K 120 (fun _ => nI 0) := by rw [ef_13]; exact (va_up_ne _ _ (Ne.symm n_o_co)).trans hF_10
  have hF_17 : f_13 nn = eS 2 [.ref lo, .int (nI kc)] := by rw [ef_13]; exact (va_up_ne _ _ (Ne.symm n_o_nn)).trans hF_11
  have hF_18 : f_13 lo = eD K 1000 g := by rw [ef_13]; exact (va_up_ne _ _ (Ne.symm n_o_lo)).trans hF_12
  refine lv_aload_n hx hb dX0_foldBy_21 rfl (lv_at hl 0 rfl) ?_
  refine lv_dconst0 hx hb dX0_foldBy_22 ?_
  refine z_put (fs' := [.ref so, .ref co, .int (nI 0), .double FP.dconst0]) hC hM ho hF_14 zcl_X0 (by decide) zl_X0_23 rfl rfl (by rfl) (Nat.le_of_ble_eq_true rfl) rfl dX0_foldBy_23 (fun H locs hM => ?_)
  obtain ⟨f_19, ef_19⟩ : ∃ z9, z9 = va_up f_13 o (eS 1 [.ref so, .ref co, .int (nI 0), .double FP.dconst0]) := ⟨_, rfl⟩
  rw [← ef_19] at hM
  have hF_20 : f_19 o = eS 1 [.ref so, .ref co, .int (nI 0), .double FP.dconst0] := by rw [ef_19]; exact va_up_self _ _ _
  have hF_21 : f_19 so = eD K 120 (fun _ => FP.dconst0) := by rw [ef_19]; exact (va_up_ne _ _ (Ne.symm n_o_so)).trans hF_15
  have hF_22 : f_19 co = eI K 120 (fun _ => nI 0) := by rw [ef_19]; exact (va_up_ne _ _ (Ne.symm n_o_co)).trans hF_16
  have hF_23 : f_19 nn = eS 2 [.ref lo, .int (nI kc)] := by rw [ef_19]; exact (va_up_ne _ _ (Ne.symm n_o_nn)).trans hF_17
  have hF_24 : f_19 lo = eD K 1000 g := by rw [ef_19]; exact (va_up_ne _ _ (Ne.symm n_o_lo)).trans hF_18
  refine lv_iload_n hx hb dX0_foldBy_26 rfl (lv_at hl 1 rfl) ?_
  refine lv_iconst (v := nI 1) hx hb dX0_foldBy_27 (by decide) ?_
  refine z_icmp_lt (tgt := 49) hx hb (nI_toInt (by omega)) (nI_toInt (by decide)) dX0_foldBy_28 (by decide) (fun c_28 => ?_) (fun c_28 => ?_)
  · exact absurd c_28 (by omega)
  · refine lv_iload_n hx hb dX0_foldBy_31 rfl (lv_at hl 1 rfl) ?_
    refine lv_aload_n hx hb dX0_foldBy_32 rfl (lv_at hl 0 rfl) ?_
    refine z_get hC hM ho hF_20 zcl_X0 (by decide) zl_X0_9 rfl dX0_foldBy_33 ?_
    refine z_alen (n := 120) 0 hC hM hso hF_21 rfl rfl dX0_foldBy_36 ?_
    refine z_icmp_gt (tgt := 49) hx hb (nI_toInt (by omega)) (nI_toInt (by decide)) dX0_foldBy_37 (by decide) (fun c_37 => ?_) (fun c_37 => ?_)
    · exact absurd c_37 (by omega)
    · refine lv_iload_n hx hb dX0_foldBy_40 rfl (lv_at hl 1 rfl) ?_
      refine lv_aload_n hx hb dX0_foldBy_41 rfl (lv_at hl 0 rfl) ?_
      refine z_get hC hM ho hF_20 zcl_X0 (by decide) zl_X0_15 rfl dX0_foldBy_42 ?_
      refine z_alen (n := 120) 1 hC hM hco hF_22 rfl rfl dX0_foldBy_45 ?_
      refine z_icmp_le (tgt := 50) hx hb (nI_toInt (by omega)) (nI_toInt (by decide)) dX0_foldBy_46 (by decide) (fun c_46 => ?_) (fun c_46 => ?_)
      · refine lv_aload_n hx hb dX0_foldBy_50 rfl (lv_at hl 0 rfl) ?_
        refine lv_iload_n hx hb dX0_foldBy_51 rfl (lv_at hl 1 rfl) ?_
        refine z_put (fs' := [.ref so, .ref co, .int (nI pr), .double FP.dconst0]) hC hM ho hF_20 zcl_X0 (by decide) zl_X0_19 rfl rfl (by rfl) (Nat.le_of_ble_eq_true rfl) rfl dX0_foldBy_52 (fun H locs hM => ?_)
        obtain ⟨f_25, ef_25⟩ : ∃ z9, z9 = va_up f_19 o (eS 1 [.ref so, .ref co, .int (nI pr), .double FP.dconst0]) := ⟨_, rfl⟩
        rw [← ef_25] at hM
        have hF_26 : f_25 o = eS 1 [.ref so, .ref co, .int (nI pr), .double FP.dconst0] := by rw [ef_25]; exact va_up_self _ _ _
        have hF_27 : f_25 so = eD K 120 (fun _ => FP.dconst0) := by rw [ef_25]; exact (va_up_ne _ _ (Ne.symm n_o_so)).trans hF_21
        have hF_28 : f_25 co = eI K 120 (fun _ => nI 0) := by rw [ef_25]; exact (va_up_ne _ _ (Ne.symm n_o_co)).trans hF_22
        have hF_29 : f_25 nn = eS 2 [.ref lo, .int (nI kc)] := by rw [ef_25]; exact (va_up_ne _ _ (Ne.symm n_o_nn)).trans hF_23
        have hF_30 : f_25 lo = eD K 1000 g := by rw [ef_25]; exact (va_up_ne _ _ (Ne.symm n_o_lo)).trans hF_24
        refine lv_aload_n hx hb dX0_foldBy_55 rfl (lv_at hl 2 rfl) ?_
        refine z_getN hC hM hnn hF_29 zcl_X1 (by decide) zl_X0_36 rfl dX0_foldBy_56 ?_
        refine lv_astore_n (lv' := [(3, .ref lo), (0, .ref o), (1, .int (nI pr)), (2, .ref nn)]) hx hb dX0_foldBy_59 rfl hl (by decide) rfl (fun ls hl => ?_)
        refine lv_dconst0 hx hb dX0_foldBy_60 ?_
        refine lv_dstore (lv' := [(4, .double FP.dconst0), (3, .ref lo), (0, .ref o), (1, .int (nI pr)), (2, .ref nn)]) hx hb dX0_foldBy_61 hl (by decide) rfl (fun ls hl => ?_)
        refine lv_iconst (v := nI 0) hx hb dX0_foldBy_63 (by decide) ?_
        refine lv_istore (lv' := [(6, .int (nI 0)), (4, .double FP.dconst0), (3, .ref lo), (0, .ref o), (1, .int (nI pr)), (2, .ref nn)]) hx hb dX0_foldBy_64 hl (by decide) rfl (fun ls hl => ?_)
        have LOOP66 : ∀ i, i ≤ 1000 → ∀ (ls : Array Slot) (H : Heap) (locs : List Loc) (f1 : Nat → va_E), lv_has ls 8 [(6, .int (nI i)), (4, .double (fT g i)), (3, .ref lo), (0, .ref o), (1, .int (nI pr)), (2, .ref nn)] → zM base K L f1 s H locs → f1 o = eS 1 [.ref so, .ref co, .int (nI pr), .double FP.dconst0] → f1 so = eD K 120 (fS g pr i) → f1 co = eI K 120 (fun j => nI ((fC g pr i) j)) → f1 nn = eS 2 [.ref lo, .int (nI kc)] → f1 lo = eD K 1000 g → (∀ q, q ≠ so → q ≠ co → f1 q = f_25 q) → W p l e (zr 1 0 0 24) s m args below meth c H locs 0 0 Q (F0 m 66 ls []) := by
          refine z_down 1000 ?_ ?_
          · intro ls H locs f1 hl hM hG0 hG1 hG2 hG3 hG4 hfr
            refine lv_iload hx hb dX0_foldBy_66 (lv_at hl 0 rfl) ?_
            refine lv_aload_n hx hb dX0_foldBy_68 rfl (lv_at hl 2 rfl) ?_
            refine z_alen (n := 1000) 0 hC hM hlo hG4 rfl rfl dX0_foldBy_69 ?_
            refine z_icmp_ge (tgt := 133) hx hb (nI_toInt (by decide)) (nI_toInt (by decide)) dX0_foldBy_70 (by decide) (fun c_70 => ?_) (fun c_70 => ?_)
            · refine lv_aload_n hx hb dX0_foldBy_133 rfl (lv_at hl 5 rfl) ?_
              refine z_getN hC hM hnn hG3 zcl_X1 (by decide) zl_X0_41 rfl dX0_foldBy_134 ?_
              refine z_if_le (tgt := 152) hx hb (nI_toInt (by omega)) dX0_foldBy_137 (by decide) (fun c_137 => ?_) (fun c_137 => ?_)
              · skip
                have hmn : mnT g = FP.dconst0 := by rw [mnT, if_neg (by omega)]; exact rfl
                rw [← hQ]
                exact z_vret hC hM hr hlk (by decide) (by decide) ⟨rfl, up3_ext (Ne.symm n_o_so) (Ne.symm n_o_co) n_so_co hG1 hG2 (by rw [hG0, hmn]) (fun q h1 h2 h3 => by rw [hfr q h1 h2, ef_25, ef_19, ef_13, ef_7, ef_1]; simp only [va_up, h1, h2, h3, if_false])⟩ dX0_foldBy_152
              · skip
                have hmn : mnT g = FP.ddiv (fT g 1000) (FP.i2d (nI kc)) := by rw [mnT, if_pos (by omega), ← hkc]; exact rfl
                refine lv_aload_n hx hb dX0_foldBy_140 rfl (lv_at hl 3 rfl) ?_
                refine lv_dload hx hb dX0_foldBy_141 (lv_at hl 1 rfl) ?_
                refine lv_aload_n hx hb dX0_foldBy_143 rfl (lv_at hl 5 rfl) ?_
                refine z_getN hC hM hnn hG3 zcl_X1 (by decide) zl_X0_41 rfl dX0_foldBy_144 ?_
                refine lv_i2d hx hb dX0_foldBy_147 ?_
                refine lv_ddiv hx hb dX0_foldBy_148 (by rw [hkc]; exact hFP.2.2.2.2.1 (by omega)) ?_
                refine z_put (fs' := [.ref so, .ref co, .int (nI pr), .double (FP.ddiv (fT g 1000) (FP.i2d (nI kc)))]) hC hM ho hG0 zcl_X0 (by decide) zl_X0_23 rfl rfl (by rfl) (Nat.le_of_ble_eq_true rfl) rfl dX0_foldBy_149 (fun H locs hM => ?_)
                obtain ⟨f_31, ef_31⟩ : ∃ z9, z9 = va_up f1 o (eS 1 [.ref so, .ref co, .int (nI pr), .double (FP.ddiv (fT g 1000) (FP.i2d (nI kc)))]) := ⟨_, rfl⟩
                rw [← ef_31] at hM
                have hF_32 : f_31 o = eS 1 [.ref so, .ref co, .int (nI pr), .double (FP.ddiv (fT g 1000) (FP.i2d (nI kc)))] := by rw [ef_31]; exact va_up_self _ _ _
                have hF_33 : f_31 so = eD K 120 (fS g pr 1000) := by rw [ef_31]; exact (va_up_ne _ _ (Ne.symm n_o_so)).trans hG1
                have hF_34 : f_31 co = eI K 120 (fun j => nI ((fC g pr 1000) j)) := by rw [ef_31]; exact (va_up_ne _ _ (Ne.symm n_o_co)).trans hG2
                have hF_35 : f_31 nn = eS 2 [.ref lo, .int (nI kc)] := by rw [ef_31]; exact (va_up_ne _ _ (Ne.symm n_o_nn)).trans hG3
                have hF_36 : f_31 lo = eD K 1000 g := by rw [ef_31]; exact (va_up_ne _ _ (Ne.symm n_o_lo)).trans hG4
                rw [← hQ]
                exact z_vret hC hM hr hlk (by decide) (by decide) ⟨rfl, up3_ext (Ne.symm n_o_so) (Ne.symm n_o_co) n_so_co hF_33 hF_34 (by rw [hF_32, hmn]) (fun q h1 h2 h3 => by rw [ef_31]; simp only [va_up, h1, h2, h3, if_false]; rw [hfr q h1 h2, ef_25, ef_19, ef_13, ef_7, ef_1]; simp only [va_up, h1, h2, h3, if_false])⟩ dX0_foldBy_152
            · exact absurd c_70 (by omega)
          · intro i hi ih ls H locs f1 hl hM hG0 hG1 hG2 hG3 hG4 hfr
            refine lv_iload hx hb dX0_foldBy_66 (lv_at hl 0 rfl) ?_
            refine lv_aload_n hx hb dX0_foldBy_68 rfl (lv_at hl 2 rfl) ?_
            refine z_alen (n := 1000) 0 hC hM hlo hG4 rfl rfl dX0_foldBy_69 ?_
            refine z_icmp_ge (tgt := 133) hx hb (nI_toInt (by omega)) (nI_toInt (by decide)) dX0_foldBy_70 (by decide) (fun c_70 => ?_) (fun c_70 => ?_)
            · exact absurd c_70 (by omega)
            · refine lv_aload_n hx hb dX0_foldBy_73 rfl (lv_at hl 2 rfl) ?_
              refine lv_iload hx hb dX0_foldBy_74 (lv_at hl 0 rfl) ?_
              refine z_dald hC hM hlo hG4 (by omega) (by omega) dX0_foldBy_76 ?_
              refine lv_dconst0 hx hb dX0_foldBy_77 ?_
              refine lv_dcmp hx hb dX0_foldBy_78 ?_
              refine z_if_le (tgt := 127) hx hb (dc_l _ _) dX0_foldBy_79 (by decide) (fun c_79 => ?_) (fun c_79 => ?_)
              · skip
                have hk : ¬ g i ≠ 0 := fun q => absurd ((hFP.1 i hi).mpr q) (by omega)
                refine lv_iinc (v := nI (i + 1)) (lv' := [(6, .int (nI (i + 1))), (4, .double (fT g i)), (3, .ref lo), (0, .ref o), (1, .int (nI pr)), (2, .ref nn)]) hx hb dX0_foldBy_127 hl (k := 0) rfl (nI_add i 1) (by decide) rfl (fun ls hl => ?_)
                refine lv_goto (tgt := 66) hx hb dX0_foldBy_130 (by decide) ?_
                have e1 : f1 so = eD K 120 (fS g pr (i + 1)) := by rw [hG1, ← fS_no hk]
                have e2 : f1 co = eI K 120 (fun j => nI (fC g pr (i + 1) j)) := by rw [hG2, ← fC_no hk]
                rw [fT_no hk] at hl
                exact ih ls H locs f1 (lv_sub hl [0, 1, 2, 3, 4, 5] rfl) hM hG0 e1 e2 hG3 hG4 hfr
              · skip
                have hk : g i ≠ 0 := (hFP.1 i hi).mp c_79
                have hmod : i % pr < pr := Nat.mod_lt _ hp
                refine lv_iload hx hb dX0_foldBy_82 (lv_at hl 0 rfl) ?_
                refine lv_iload_n hx hb dX0_foldBy_84 rfl (lv_at hl 4 rfl) ?_
                refine z_irem hx hb (by omega) (by omega) (by omega) dX0_foldBy_85 ?_
                refine lv_istore (lv' := [(7, .int (nI (i % pr))), (6, .int (nI i)), (4, .double (fT g i)), (3, .ref lo), (0, .ref o), (1, .int (nI pr)), (2, .ref nn)]) hx hb dX0_foldBy_86 hl (by decide) rfl (fun ls hl => ?_)
                refine lv_aload_n hx hb dX0_foldBy_88 rfl (lv_at hl 4 rfl) ?_
                refine z_get hC hM ho hG0 zcl_X0 (by decide) zl_X0_9 rfl dX0_foldBy_89 ?_
                refine lv_iload hx hb dX0_foldBy_92 (lv_at hl 0 rfl) ?_
                refine lv_aload_n hx hb dX0_foldBy_94 rfl (lv_at hl 4 rfl) ?_
                refine z_get hC hM ho hG0 zcl_X0 (by decide) zl_X0_9 rfl dX0_foldBy_95 ?_
                refine lv_iload hx hb dX0_foldBy_98 (lv_at hl 0 rfl) ?_
                refine z_dald hC hM hso hG1 (by omega) (by omega) dX0_foldBy_100 ?_
                refine lv_aload_n hx hb dX0_foldBy_101 rfl (lv_at hl 3 rfl) ?_
                refine lv_iload hx hb dX0_foldBy_102 (lv_at hl 1 rfl) ?_
                refine z_dald hC hM hlo hG4 (by omega) (by omega) dX0_foldBy_104 ?_
                refine lv_dadd hx hb dX0_foldBy_105 (hFP.2.1 pr i (i % pr) hi hk) ?_
                refine z_dast hC hM hso hG1 (by omega) (by omega) dX0_foldBy_106 (fun H locs hM => ?_)
                obtain ⟨f_37, ef_37⟩ : ∃ z9, z9 = va_up f1 so (eD K 120 (va_up (fS g pr i) (i % pr) (FP.dadd ((fS g pr i) (i % pr)) (g i)))) := ⟨_, rfl⟩
                rw [← ef_37] at hM
                have hF_38 : f_37 o = eS 1 [.ref so, .ref co, .int (nI pr), .double FP.dconst0] := by rw [ef_37]; exact (va_up_ne _ _ n_o_so).trans hG0
                have hF_39 : f_37 so = eD K 120 (va_up (fS g pr i) (i % pr) (FP.dadd ((fS g pr i) (i % pr)) (g i))) := by rw [ef_37]; exact va_up_self _ _ _
                have hF_40 : f_37 co = eI K 120 (fun j => nI ((fC g pr i) j)) := by rw [ef_37]; exact (va_up_ne _ _ (Ne.symm n_so_co)).trans hG2
                have hF_41 : f_37 nn = eS 2 [.ref lo, .int (nI kc)] := by rw [ef_37]; exact (va_up_ne _ _ (Ne.symm n_so_nn)).trans hG3
                have hF_42 : f_37 lo = eD K 1000 g := by rw [ef_37]; exact (va_up_ne _ _ (Ne.symm n_so_lo)).trans hG4
                refine lv_aload_n hx hb dX0_foldBy_107 rfl (lv_at hl 4 rfl) ?_
                refine z_get hC hM ho hF_38 zcl_X0 (by decide) zl_X0_15 rfl dX0_foldBy_108 ?_
                refine lv_iload hx hb dX0_foldBy_111 (lv_at hl 0 rfl) ?_
                refine lv_dup2_11 hx hb dX0_foldBy_113 rfl rfl ?_
                refine z_iald hC hM hco hF_40 (by omega) (by omega) dX0_foldBy_114 ?_
                refine lv_iconst (v := nI 1) hx hb dX0_foldBy_115 (by decide) ?_
                refine z_iadd hx hb dX0_foldBy_116 ?_
                refine z_iast hC hM hco hF_40 (by omega) (by omega) dX0_foldBy_117 (fun H locs hM => ?_)
                obtain ⟨f_43, ef_43⟩ : ∃ z9, z9 = va_up f_37 co (eI K 120 (va_up (fun j => nI ((fC g pr i) j)) (i % pr) (nI (((fC g pr i) (i % pr)) + 1)))) := ⟨_, rfl⟩
                rw [← ef_43] at hM
                have hF_44 : f_43 o = eS 1 [.ref so, .ref co, .int (nI pr), .double FP.dconst0] := by rw [ef_43]; exact (va_up_ne _ _ n_o_co).trans hF_38
                have hF_45 : f_43 so = eD K 120 (va_up (fS g pr i) (i % pr) (FP.dadd ((fS g pr i) (i % pr)) (g i))) := by rw [ef_43]; exact (va_up_ne _ _ n_so_co).trans hF_39
                have hF_46 : f_43 co = eI K 120 (va_up (fun j => nI ((fC g pr i) j)) (i % pr) (nI (((fC g pr i) (i % pr)) + 1))) := by rw [ef_43]; exact va_up_self _ _ _
                have hF_47 : f_43 nn = eS 2 [.ref lo, .int (nI kc)] := by rw [ef_43]; exact (va_up_ne _ _ (Ne.symm n_co_nn)).trans hF_41
                have hF_48 : f_43 lo = eD K 1000 g := by rw [ef_43]; exact (va_up_ne _ _ (Ne.symm n_co_lo)).trans hF_42
                refine lv_dload hx hb dX0_foldBy_118 (lv_at hl 2 rfl) ?_
                refine lv_aload_n hx hb dX0_foldBy_120 rfl (lv_at hl 3 rfl) ?_
                refine lv_iload hx hb dX0_foldBy_121 (lv_at hl 1 rfl) ?_
                refine z_dald hC hM hlo hF_48 (by omega) (by omega) dX0_foldBy_123 ?_
                refine lv_dadd hx hb dX0_foldBy_124 (hFP.2.2.1 i hi hk) ?_
                refine lv_dstore (lv' := [(4, .double (FP.dadd (fT g i) (g i))), (7, .int (nI (i % pr))), (6, .int (nI i)), (3, .ref lo), (0, .ref o), (1, .int (nI pr)), (2, .ref nn)]) hx hb dX0_foldBy_125 hl (by decide) rfl (fun ls hl => ?_)
                refine lv_iinc (v := nI (i + 1)) (lv' := [(6, .int (nI (i + 1))), (4, .double (FP.dadd (fT g i) (g i))), (7, .int (nI (i % pr))), (3, .ref lo), (0, .ref o), (1, .int (nI pr)), (2, .ref nn)]) hx hb dX0_foldBy_127 hl (k := 2) rfl (nI_add i 1) (by decide) rfl (fun ls hl => ?_)
                refine lv_goto (tgt := 66) hx hb dX0_foldBy_130 (by decide) ?_
                have e1 : f_43 so = eD K 120 (fS g pr (i + 1)) := by rw [hF_45, fS_up hk]
                have e2 : f_43 co = eI K 120 (fun j => nI (fC g pr (i + 1) j)) := by rw [hF_46, fC_up hk]
                have e3 : FP.dadd (fT g i) (g i) = fT g (i + 1) := fT_up hk
                rw [e3] at hl
                have hfr : ∀ q, q ≠ so → q ≠ co → f_43 q = f_25 q := fun q hq0 hq1 => by
                  rw [ef_43, ef_37]
                  simp only [va_up, hq0, hq1, if_false]
                  exact hfr q hq0 hq1
                exact ih ls H locs f_43 (lv_sub hl [0, 1, 3, 4, 5, 6] rfl) hM hF_44 e1 e2 hF_47 hF_48 hfr
        exact LOOP66 0 (Nat.zero_le _) ls H locs f_25 (lv_sub hl [0, 1, 2, 3, 4, 5] rfl) hM hF_26 (by rw [hF_27, fS_0]) (by rw [hF_28, fC_0 g pr]) hF_29 hF_30 (fun _ _ _ => rfl)
      · exact absurd c_46 (by omega)
end
section
/-! CONTRACTS of the JDK: lists, checks, numbers (rows laid by wip/whole/lists.py) -/
theorem up_4 {α : Type} (f : Nat → α) {a x : Nat} (h : a ≠ x) (u v w z : α) : va_up (va_up (va_up (va_up f x u) a v) x w) a z = va_up (va_up f x w) a z := by
  funext j; unfold va_up
  by_cases h1 : j = a
  · subst h1; simp
  · by_cases h2 : j = x
    · subst h2; simp [h1]
    · simp [h1, h2]
theorem up_3 {α : Type} (f : Nat → α) {a x : Nat} (h : a ≠ x) (u v w : α) : va_up (va_up (va_up f a u) x v) a w = va_up (va_up f x v) a w := by
  funext j; unfold va_up
  by_cases h1 : j = a
  · subst h1; simp
  · simp [h1]
set_option maxHeartbeats 400000 in
set_option maxRecDepth 100000 in
theorem c_pcheck {l : Launch} {base : Nat} {K : zK} {L : List Nat} {f : Nat → va_E} {i n : Nat} (hi : i < n) (hn : n < 2 ^ 31) : zMet l yJ3_checkIndex_8e157 cJ3_checkIndex_8e157 3 (some .int) (zr 0 0 0 0) base K L f [.int (nI i), .int (nI n), .null] (zFi base K (nI i) L f) := by
  refine z_met (by decide) (Nat.le_of_ble_eq_true rfl) (fun p e s m below meth c ls hC hM hr hlk hnm hl => ?_)
  have hx := hC.1
  have hb := hC.2.1
  have hml := hC.2.2.1
  have hown := hC.2.2.2.1
  have hts := hC.2.2.2.2.1
  generalize hA : ([.int (nI i), .int (nI n), .null] : List Value).toArray = args at hC ⊢
  generalize hQ : MQ _ _ _ _ _ _ _ = Q
  obtain ⟨locs, hlocs⟩ : ∃ z : List Loc, z = [] := ⟨_, rfl⟩
  obtain ⟨H, hH⟩ : ∃ z : Heap, z = s.heap := ⟨_, rfl⟩
  rw [← hlocs, ← hH] at hM ⊢
  have hl : lv_has ls 3 [(0, .int (nI i)), (1, .int (nI n)), (2, .null)] := hl
  refine lv_iload_n hx hb dJ3_checkIndex_8e157_0 rfl (lv_at hl 0 rfl) ?_
  refine z_if_lt (tgt := 9) hx hb (nI_toInt (by omega)) dJ3_checkIndex_8e157_1 (by decide) (fun c_1 => ?_) (fun c_1 => ?_)
  · exact absurd c_1 (by omega)
  · refine lv_iload_n hx hb dJ3_checkIndex_8e157_4 rfl (lv_at hl 0 rfl) ?_
    refine lv_iload_n hx hb dJ3_checkIndex_8e157_5 rfl (lv_at hl 1 rfl) ?_
    refine z_icmp_lt (tgt := 16) hx hb (nI_toInt (by omega)) (nI_toInt (by omega)) dJ3_checkIndex_8e157_6 (by decide) (fun c_6 => ?_) (fun c_6 => ?_)
    · refine lv_iload_n hx hb dJ3_checkIndex_8e157_16 rfl (lv_at hl 0 rfl) ?_
      rw [← hQ]
      exact z_iret hC hM hr hlk rfl (by decide) (by decide) ⟨rfl, rfl, rfl⟩ dJ3_checkIndex_8e157_17
    · exact absurd c_6 (by omega)
set_option maxHeartbeats 400000 in
set_option maxRecDepth 100000 in
theorem c_check {l : Launch} {base : Nat} {K : zK} {L : List Nat} {f : Nat → va_E} {i n : Nat} (hi : i < n) (hn : n < 2 ^ 31) : zMet l yJ15_checkIndex_7cf53 cJ15_checkIndex_7cf53 2 (some .int) (zr 1 0 0 22) base K L f [.int (nI i), .int (nI n)] (zFi base K (nI i) L f) := by
  refine z_met (by decide) (Nat.le_of_ble_eq_true rfl) (fun p e s m below meth c ls hC hM hr hlk hnm hl => ?_)
  have hx := hC.1
  have hb := hC.2.1
  have hml := hC.2.2.1
  have hown := hC.2.2.2.1
  have hts := hC.2.2.2.2.1
  generalize hA : ([.int (nI i), .int (nI n)] : List Value).toArray = args at hC ⊢
  generalize hQ : MQ _ _ _ _ _ _ _ = Q
  obtain ⟨locs, hlocs⟩ : ∃ z : List Loc, z = [] := ⟨_, rfl⟩
  obtain ⟨H, hH⟩ : ∃ z : Heap, z = s.heap := ⟨_, rfl⟩
  rw [← hlocs, ← hH] at hM ⊢
  have hl : lv_has ls 2 [(0, .int (nI i)), (1, .int (nI n))] := hl
  refine lv_iload_n hx hb dJ15_checkIndex_7cf53_0 rfl (lv_at hl 0 rfl) ?_
  refine lv_iload_n hx hb dJ15_checkIndex_7cf53_1 rfl (lv_at hl 1 rfl) ?_
  refine lv_null hx hb dJ15_checkIndex_7cf53_2 ?_
  refine z_fcalli (z_runS hC hM (c_pcheck hi hn) zy_J3_checkIndex_8e157 zm_J15_105 rfl rfl hl.1 (Nat.le_of_ble_eq_true rfl) ⟨by decide, by decide⟩ ⟨by decide, by decide⟩ dJ15_checkIndex_7cf53_3) hM (fun H locs hM => ?_)
  rw [← hQ]
  exact z_iret hC hM hr hlk rfl (by decide) (by decide) ⟨rfl, rfl, rfl⟩ dJ15_checkIndex_7cf53_6
set_option maxHeartbeats 400000 in
set_option maxRecDepth 100000 in
theorem c_size {l : Launch} {base : Nat} {K : zK} {L : List Nat} {f : Nat → va_E} {a ee n : Nat} {mc : Int32} (ha : a ∈ L) (hfa : f a = eS 0 [.int mc, .ref ee, .int (nI n)]) : zMet l yJx4a65c_size_8abf5 cJx4a65c_size_8abf5 1 (some .int) (zr 0 0 0 0) base K L f [.ref a] (zFi base K (nI n) L f) := by
  refine z_met (by decide) (Nat.le_of_ble_eq_true rfl) (fun p e s m below meth c ls hC hM hr hlk hnm hl => ?_)
  have hx := hC.1
  have hb := hC.2.1
  have hml := hC.2.2.1
  have hown := hC.2.2.2.1
  have hts := hC.2.2.2.2.1
  generalize hA : ([.ref a] : List Value).toArray = args at hC ⊢
  generalize hQ : MQ _ _ _ _ _ _ _ = Q
  obtain ⟨locs, hlocs⟩ : ∃ z : List Loc, z = [] := ⟨_, rfl⟩
  obtain ⟨H, hH⟩ : ∃ z : Heap, z = s.heap := ⟨_, rfl⟩
  rw [← hlocs, ← hH] at hM ⊢
  have hl : lv_has ls 1 [(0, .ref a)] := hl
  refine lv_aload_n hx hb dJx4a65c_size_8abf5_0 rfl (lv_at hl 0 rfl) ?_
  refine z_get hC hM ha hfa zcl_Jx4a65c (by decide) zl_Jx4a65c_48 rfl dJx4a65c_size_8abf5_1 ?_
  rw [← hQ]
  exact z_iret hC hM hr hlk rfl (by decide) (by decide) ⟨rfl, rfl, rfl⟩ dJx4a65c_size_8abf5_4
set_option maxHeartbeats 400000 in
set_option maxRecDepth 100000 in
theorem c_elem {l : Launch} {base : Nat} {K : zK} {L : List Nat} {f : Nat → va_E} {a ee n cap : Nat} {mc : Int32} {arr : Nat → Option Nat} (ha : a ∈ L) (hfa : f a = eS 0 [.int mc, .ref ee, .int (nI n)]) (he : ee ∈ L) (hfe : f ee = eO K cap arr) {i y : Nat} (hi : i < cap) (hcap : cap < 2 ^ 31) (hy : arr i = some y) : zMet l yJx4a65c_elementData_915e3 cJx4a65c_elementData_915e3 2 (some (.object "java/lang/Object")) (zr 0 0 0 0) base K L f [.ref a, .int (nI i)] (zFq base K (some y) L f) := by
  refine z_met (by decide) (Nat.le_of_ble_eq_true rfl) (fun p e s m below meth c ls hC hM hr hlk hnm hl => ?_)
  have hx := hC.1
  have hb := hC.2.1
  have hml := hC.2.2.1
  have hown := hC.2.2.2.1
  have hts := hC.2.2.2.2.1
  generalize hA : ([.ref a, .int (nI i)] : List Value).toArray = args at hC ⊢
  generalize hQ : MQ _ _ _ _ _ _ _ = Q
  obtain ⟨locs, hlocs⟩ : ∃ z : List Loc, z = [] := ⟨_, rfl⟩
  obtain ⟨H, hH⟩ : ∃ z : Heap, z = s.heap := ⟨_, rfl⟩
  rw [← hlocs, ← hH] at hM ⊢
  have hl : lv_has ls 2 [(0, .ref a), (1, .int (nI i))] := hl
  refine lv_aload_n hx hb dJx4a65c_elementData_915e3_0 rfl (lv_at hl 0 rfl) ?_
  refine z_get hC hM ha hfa zcl_Jx4a65c (by decide) zl_Jx4a65c_9 rfl dJx4a65c_elementData_915e3_1 ?_
  refine lv_iload_n hx hb dJx4a65c_elementData_915e3_4 rfl (lv_at hl 1 rfl) ?_
  refine z_aald hC hM he hfe (by omega) (by omega) dJx4a65c_elementData_915e3_5 ?_
  rw [← hQ]
  exact z_qret hC hM hr (Or.inl ⟨_, rfl⟩) hlk (by decide) (by decide) ⟨hy, rfl, rfl⟩ dJx4a65c_elementData_915e3_6
set_option maxHeartbeats 400000 in
set_option maxRecDepth 100000 in
theorem c_get {l : Launch} {base : Nat} {K : zK} {L : List Nat} {f : Nat → va_E} {a ee n cap : Nat} {mc : Int32} {arr : Nat → Option Nat} (ha : a ∈ L) (hfa : f a = eS 0 [.int mc, .ref ee, .int (nI n)]) (he : ee ∈ L) (hfe : f ee = eO K cap arr) {i y : Nat} (hi : i < n) (hn : n ≤ cap) (hcap : cap < 2 ^ 31) (hy : arr i = some y) : zMet l yJx4a65c_get_915e3 cJx4a65c_get_915e3 2 (some (.object "java/lang/Object")) (zr 2 0 0 43) base K L f [.ref a, .int (nI i)] (zFq base K (some y) L f) := by
  refine z_met (by decide) (Nat.le_of_ble_eq_true rfl) (fun p e s m below meth c ls hC hM hr hlk hnm hl => ?_)
  have hx := hC.1
  have hb := hC.2.1
  have hml := hC.2.2.1
  have hown := hC.2.2.2.1
  have hts := hC.2.2.2.2.1
  generalize hA : ([.ref a, .int (nI i)] : List Value).toArray = args at hC ⊢
  generalize hQ : MQ _ _ _ _ _ _ _ = Q
  obtain ⟨locs, hlocs⟩ : ∃ z : List Loc, z = [] := ⟨_, rfl⟩
  obtain ⟨H, hH⟩ : ∃ z : Heap, z = s.heap := ⟨_, rfl⟩
  rw [← hlocs, ← hH] at hM ⊢
  have hl : lv_has ls 2 [(0, .ref a), (1, .int (nI i))] := hl
  refine lv_iload_n hx hb dJx4a65c_get_915e3_0 rfl (lv_at hl 1 rfl) ?_
  refine lv_aload_n hx hb dJx4a65c_get_915e3_1 rfl (lv_at hl 0 rfl) ?_
  refine z_get hC hM ha hfa zcl_Jx4a65c (by decide) zl_Jx4a65c_48 rfl dJx4a65c_get_915e3_2 ?_
  refine z_fcalli (z_runS hC hM (c_check hi (by omega)) zy_J15_checkIndex_7cf53 zm_Jx4a65c_118 rfl rfl hl.1 (Nat.le_of_ble_eq_true rfl) ⟨by decide, by decide⟩ ⟨by decide, by decide⟩ dJx4a65c_get_915e3_5) hM (fun H locs hM => ?_)
  refine lv_pop hx hb dJx4a65c_get_915e3_8 rfl ?_
  refine lv_aload_n hx hb dJx4a65c_get_915e3_9 rfl (lv_at hl 0 rfl) ?_
  refine lv_iload_n hx hb dJx4a65c_get_915e3_10 rfl (lv_at hl 1 rfl) ?_
  refine z_fcallq (z_runV hC hM (c_elem ha hfa he hfe (by omega) hcap hy) zy_Jx4a65c_elementData_915e3 zm_Jx4a65c_123 ha hfa zcl_Jx4a65c rfl rfl rfl hl.1 (Nat.le_of_ble_eq_true rfl) ⟨by decide, by decide⟩ ⟨by decide, by decide⟩ dJx4a65c_get_915e3_11) hM (fun H locs hM => ?_)
  rw [← hQ]
  exact z_qret (v := (some y)) hC hM hr (Or.inl ⟨_, rfl⟩) hlk (by decide) (by decide) ⟨rfl, rfl, rfl⟩ dJx4a65c_get_915e3_14
set_option maxHeartbeats 400000 in
set_option maxRecDepth 100000 in
theorem c_newLen {l : Launch} {base : Nat} {K : zK} {L : List Nat} {f : Nat → va_E} {a b d : Nat} (ha : a ≤ 1000) (hb : b ≤ 1000) (hd : d ≤ 1000) (h1 : 0 < a + max b d) : zMet l yJ8_newLength_cabcc cJ8_newLength_cabcc 4 (some .int) (zr 1 0 0 21) base K L f [.int (nI a), .int (nI b), .int (nI d)] (zFi base K (nI (a + max b d)) L f) := by
  refine z_met (by decide) (Nat.le_of_ble_eq_true rfl) (fun p e s m below meth c ls hC hM hr hlk hnm hl => ?_)
  have hx := hC.1
  have hb := hC.2.1
  have hml := hC.2.2.1
  have hown := hC.2.2.2.1
  have hts := hC.2.2.2.2.1
  generalize hA : ([.int (nI a), .int (nI b), .int (nI d)] : List Value).toArray = args at hC ⊢
  generalize hQ : MQ _ _ _ _ _ _ _ = Q
  obtain ⟨locs, hlocs⟩ : ∃ z : List Loc, z = [] := ⟨_, rfl⟩
  obtain ⟨H, hH⟩ : ∃ z : Heap, z = s.heap := ⟨_, rfl⟩
  rw [← hlocs, ← hH] at hM ⊢
  have hl : lv_has ls 4 [(0, .int (nI a)), (1, .int (nI b)), (2, .int (nI d))] := hl
  refine lv_iload_n hx hb dJ8_newLength_cabcc_0 rfl (lv_at hl 0 rfl) ?_
  refine lv_iload_n hx hb dJ8_newLength_cabcc_1 rfl (lv_at hl 1 rfl) ?_
  refine lv_iload_n hx hb dJ8_newLength_cabcc_2 rfl (lv_at hl 2 rfl) ?_
  refine z_max hC hl.1 zm_J8_194.1 (by omega) (by omega) (by decide) (Nat.le_of_ble_eq_true rfl) ⟨by decide, by decide⟩ dJ8_newLength_cabcc_3 ?_
  refine z_iadd hx hb dJ8_newLength_cabcc_6 ?_
  refine lv_istore_n (lv' := [(3, .int (nI (a + (max b d)))), (0, .int (nI a)), (1, .int (nI b)), (2, .int (nI d))]) hx hb dJ8_newLength_cabcc_7 rfl hl (by decide) rfl (fun ls hl => ?_)
  refine lv_iconst (v := nI 0) hx hb dJ8_newLength_cabcc_8 (by decide) ?_
  refine lv_iload_n hx hb dJ8_newLength_cabcc_9 rfl (lv_at hl 0 rfl) ?_
  refine z_icmp_ge (tgt := 21) hx hb (nI_toInt (by decide)) (nI_toInt (by omega)) dJ8_newLength_cabcc_10 (by decide) (fun c_10 => ?_) (fun c_10 => ?_)
  · exact absurd c_10 (by omega)
  · refine lv_iload_n hx hb dJ8_newLength_cabcc_13 rfl (lv_at hl 0 rfl) ?_
    refine lv_ldc (v := nI 2147483639) hx hb hown (hts _ zk_J8_200) dJ8_newLength_cabcc_14 ?_
    refine z_icmp_gt (tgt := 21) hx hb (nI_toInt (by omega)) (nI_toInt (by decide)) dJ8_newLength_cabcc_16 (by decide) (fun c_16 => ?_) (fun c_16 => ?_)
    · exact absurd c_16 (by omega)
    · refine lv_iload_n hx hb dJ8_newLength_cabcc_19 rfl (lv_at hl 0 rfl) ?_
      rw [← hQ]
      exact z_iret hC hM hr hlk rfl (by decide) (by decide) ⟨rfl, rfl, rfl⟩ dJ8_newLength_cabcc_20
set_option maxHeartbeats 400000 in
set_option maxRecDepth 100000 in
theorem c_copy3 {l : Launch} {base : Nat} {K : zK} {L : List Nat} {f : Nat → va_E} {ee cap k : Nat} {arr : Nat → Option Nat} (he : ee ∈ L) (hfe : f ee = eO K cap arr) (hk : cap ≤ k) (hk2 : k ≤ 60) (hel : ∀ i, i < cap → ∀ y, arr i = some y → zAny L f y) : zMet l yJ7_copyOf_6403c cJ7_copyOf_6403c 4 (some (.array (.object "java/lang/Object"))) (zr 2 1 60 40) base K L f [.ref ee, .int (nI k), .ref K.2.2.2] (zQq base K (fun r L1 f1 => ∃ q, r = some q ∧ q ∉ L ∧ L1 = L ++ [q] ∧ f1 = va_up f q (eO K k (va_cpy arr (fun _ => none) 0 0 cap)))) := by
  refine z_met (by decide) (Nat.le_of_ble_eq_true rfl) (fun p e s m below meth c ls hC hM hr hlk hnm hl => ?_)
  have hx := hC.1
  have hb := hC.2.1
  have hml := hC.2.2.1
  have hown := hC.2.2.2.1
  have hts := hC.2.2.2.2.1
  generalize hA : ([.ref ee, .int (nI k), .ref K.2.2.2] : List Value).toArray = args at hC ⊢
  generalize hQ : MQ _ _ _ _ _ _ _ = Q
  obtain ⟨locs, hlocs⟩ : ∃ z : List Loc, z = [] := ⟨_, rfl⟩
  obtain ⟨H, hH⟩ : ∃ z : Heap, z = s.heap := ⟨_, rfl⟩
  rw [← hlocs, ← hH] at hM ⊢
  have hl : lv_has ls 4 [(0, .ref ee), (1, .int (nI k)), (2, .ref K.2.2.2)] := hl
  refine lv_aload_n hx hb dJ7_copyOf_6403c_0 rfl (lv_at hl 2 rfl) ?_
  refine z_ldcM hC zc_J7_110 dJ7_copyOf_6403c_1 ?_
  refine z_acmp_ne (x := (some K.2.2.2)) (y := (some K.2.2.2)) (tgt := 13) rfl rfl hx hb dJ7_copyOf_6403c_3 (by decide) (fun c_3 => ?_) (fun c_3 => ?_)
  · exact absurd rfl c_3
  · refine lv_iload_n hx hb dJ7_copyOf_6403c_6 rfl (lv_at hl 1 rfl) ?_
    refine z_newO hC hM zc_J7_2 (by omega) (by decide) (by show 0 + k ≤ 60; omega) dJ7_copyOf_6403c_7 (fun q_7 H hq_7 hM => ?_)
    obtain ⟨f_1, ef_1⟩ : ∃ z9, z9 = va_up f q_7 (eO K k (fun _ => none)) := ⟨_, rfl⟩
    rw [← ef_1] at hM
    have hN_4 : ee ≠ q_7 := fun h => hq_7 (h ▸ he)
    have hL_2 : ee ∈ L ++ [q_7] := List.mem_append_left _ he
    have hF_3 : f_1 ee = eO K cap arr := by rw [ef_1]; exact (va_up_ne _ _ hN_4).trans hfe
    have hL_5 : q_7 ∈ L ++ [q_7] := List.mem_append_right _ List.mem_cons_self
    have hF_6 : f_1 q_7 = eO K k (fun _ => none) := by rw [ef_1]; exact va_up_self _ _ _
    refine W.widen (k := 1) (n := 60) (by decide) (by show 0 + k ≤ 60; omega) ?_
    refine lv_goto (tgt := 24) hx hb dJ7_copyOf_6403c_10 (by decide) ?_
    refine lv_astore_n (lv' := [(3, .ref q_7), (0, .ref ee), (1, .int (nI k)), (2, .ref K.2.2.2)]) hx hb dJ7_copyOf_6403c_24 rfl hl (by decide) rfl (fun ls hl => ?_)
    refine lv_aload_n hx hb dJ7_copyOf_6403c_25 rfl (lv_at hl 1 rfl) ?_
    refine lv_iconst (v := nI 0) hx hb dJ7_copyOf_6403c_26 (by decide) ?_
    refine lv_aload_n hx hb dJ7_copyOf_6403c_27 rfl (lv_at hl 0 rfl) ?_
    refine lv_iconst (v := nI 0) hx hb dJ7_copyOf_6403c_28 (by decide) ?_
    refine lv_aload_n hx hb dJ7_copyOf_6403c_29 rfl (lv_at hl 1 rfl) ?_
    refine z_alen (n := cap) 3 hC hM hL_2 hF_3 rfl rfl dJ7_copyOf_6403c_30 ?_
    refine lv_iload_n hx hb dJ7_copyOf_6403c_31 rfl (lv_at hl 2 rfl) ?_
    refine z_min hC hl.1 zm_J7_304.1 (by omega) (by omega) (by decide) (Nat.le_of_ble_eq_true rfl) ⟨by decide, by decide⟩ dJ7_copyOf_6403c_32 ?_
    refine z_acopy hC hM hl.1 zm_J7_150 hL_2 hF_3 hL_5 hF_6 (by omega) (by omega) (by omega) (fun i hi y hy => z_anyUp hq_7 (hel i (by omega) y hy) ef_1) znat_arraycopy zj_acs zj_ini (by decide) (by decide) dJ7_copyOf_6403c_35 (fun H locs hM => ?_)
    obtain ⟨f_7, ef_7⟩ : ∃ z9, z9 = va_up f_1 q_7 (eO K k (va_cpy arr (fun _ => none) 0 0 (min cap k))) := ⟨_, rfl⟩
    rw [← ef_7] at hM
    have hF_8 : f_7 ee = eO K cap arr := by rw [ef_7]; exact (va_up_ne _ _ hN_4).trans hF_3
    have hF_9 : f_7 q_7 = eO K k (va_cpy arr (fun _ => none) 0 0 (min cap k)) := by rw [ef_7]; exact va_up_self _ _ _
    refine lv_aload_n hx hb dJ7_copyOf_6403c_38 rfl (lv_at hl 0 rfl) ?_
    rw [← hQ]
    exact z_qret (v := (some q_7)) hC hM hr (Or.inr ⟨_, rfl⟩) hlk (by decide) (by decide) ⟨q_7, rfl, hq_7, rfl, (by rw [ef_7, ef_1, up_up, Nat.min_eq_left hk])⟩ dJ7_copyOf_6403c_39
set_option maxHeartbeats 400000 in
set_option maxRecDepth 100000 in
theorem c_copy2 {l : Launch} {base : Nat} {K : zK} {L : List Nat} {f : Nat → va_E} {ee cap k : Nat} {arr : Nat → Option Nat} (he : ee ∈ L) (hfe : f ee = eO K cap arr) (hk : cap ≤ k) (hk2 : k ≤ 60) (hel : ∀ i, i < cap → ∀ y, arr i = some y → zAny L f y) : zMet l yJ7_copyOf_1904c cJ7_copyOf_1904c 2 (some (.array (.object "java/lang/Object"))) (zr 3 1 60 70) base K L f [.ref ee, .int (nI k)] (zQq base K (fun r L1 f1 => ∃ q, r = some q ∧ q ∉ L ∧ L1 = L ++ [q] ∧ f1 = va_up f q (eO K k (va_cpy arr (fun _ => none) 0 0 cap)))) := by
  refine z_met (by decide) (Nat.le_of_ble_eq_true rfl) (fun p e s m below meth c ls hC hM hr hlk hnm hl => ?_)
  have hx := hC.1
  have hb := hC.2.1
  have hml := hC.2.2.1
  have hown := hC.2.2.2.1
  have hts := hC.2.2.2.2.1
  generalize hA : ([.ref ee, .int (nI k)] : List Value).toArray = args at hC ⊢
  generalize hQ : MQ _ _ _ _ _ _ _ = Q
  obtain ⟨locs, hlocs⟩ : ∃ z : List Loc, z = [] := ⟨_, rfl⟩
  obtain ⟨H, hH⟩ : ∃ z : Heap, z = s.heap := ⟨_, rfl⟩
  rw [← hlocs, ← hH] at hM ⊢
  have hl : lv_has ls 2 [(0, .ref ee), (1, .int (nI k))] := hl
  refine lv_aload_n hx hb dJ7_copyOf_1904c_0 rfl (lv_at hl 0 rfl) ?_
  refine lv_iload_n hx hb dJ7_copyOf_1904c_1 rfl (lv_at hl 1 rfl) ?_
  refine lv_aload_n hx hb dJ7_copyOf_1904c_2 rfl (lv_at hl 0 rfl) ?_
  refine z_getC hC hM hl.1 zm_J7_86 zj_decl zj_sel zj_inst znat_getClass he hfe (by decide) (Nat.le_of_ble_eq_true rfl) dJ7_copyOf_1904c_3 ?_
  refine z_callq (z_runS hC hM (c_copy3 he hfe hk hk2 hel) zy_J7_copyOf_6403c zm_J7_300 rfl rfl hl.1 (Nat.le_of_ble_eq_true rfl) ⟨by decide, by decide⟩ ⟨by decide, by decide⟩ dJ7_copyOf_1904c_6) hM (fun r L1 f1 H locs hp hM => ?_)
  obtain ⟨q_6, rfl, hq_6, rfl, rfl⟩ := hp
  obtain ⟨f_1, ef_1⟩ : ∃ z9, z9 = va_up f q_6 (eO K k (va_cpy arr (fun _ => none) 0 0 cap)) := ⟨_, rfl⟩
  rw [← ef_1] at hM
  have hN_4 : ee ≠ q_6 := fun h => hq_6 (h ▸ he)
  have hL_2 : ee ∈ L ++ [q_6] := List.mem_append_left _ he
  have hF_3 : f_1 ee = eO K cap arr := by rw [ef_1]; exact (va_up_ne _ _ hN_4).trans hfe
  have hL_5 : q_6 ∈ L ++ [q_6] := List.mem_append_right _ List.mem_cons_self
  have hF_6 : f_1 q_6 = eO K k (va_cpy arr (fun _ => none) 0 0 cap) := by rw [ef_1]; exact va_up_self _ _ _
  rw [← hQ]
  exact z_qret (v := (some q_6)) hC hM hr (Or.inr ⟨_, rfl⟩) hlk (by decide) (by decide) ⟨q_6, rfl, hq_6, rfl, ef_1⟩ dJ7_copyOf_1904c_9
set_option maxHeartbeats 400000 in
set_option maxRecDepth 100000 in
theorem c_growI_1 {l : Launch} {base : Nat} {K : zK} {L : List Nat} {f : Nat → va_E} {a ee n cap : Nat} {mc : Int32} {arr : Nat → Option Nat} (ha : a ∈ L) (hfa : f a = eS 0 [.int mc, .ref ee, .int (nI n)]) (he : ee ∈ L) (hfe : f ee = eO K cap arr) (hae : a ≠ ee) (hc1 : 10 ≤ cap) (hc2 : cap ≤ 40) (hel : ∀ i, i < cap → ∀ y, arr i = some y → zAny L f y) : zMet l yJx4a65c_grow_92f84 cJx4a65c_grow_92f84 4 (some (.array (.object "java/lang/Object"))) (zr 4 1 60 95) base K L f [.ref a, .int (nI ((cap + 1)))] (zQq base K (fun r L1 f1 => ∃ q, r = some q ∧ q ∉ L ∧ L1 = L ++ [q] ∧ f1 = va_up (va_up f q (eO K (cap + cap / 2) (va_cpy arr (fun _ => none) 0 0 cap))) a (eS 0 [.int mc, .ref q, .int (nI n)]))) := by
  refine z_met (by decide) (Nat.le_of_ble_eq_true rfl) (fun p e s m below meth c ls hC hM hr hlk hnm hl => ?_)
  have hx := hC.1
  have hb := hC.2.1
  have hml := hC.2.2.1
  have hown := hC.2.2.2.1
  have hts := hC.2.2.2.2.1
  generalize hA : ([.ref a, .int (nI ((cap + 1)))] : List Value).toArray = args at hC ⊢
  generalize hQ : MQ _ _ _ _ _ _ _ = Q
  obtain ⟨locs, hlocs⟩ : ∃ z : List Loc, z = [] := ⟨_, rfl⟩
  obtain ⟨H, hH⟩ : ∃ z : Heap, z = s.heap := ⟨_, rfl⟩
  rw [← hlocs, ← hH] at hM ⊢
  have hl : lv_has ls 4 [(0, .ref a), (1, .int (nI ((cap + 1))))] := hl
  refine lv_aload_n hx hb dJx4a65c_grow_92f84_0 rfl (lv_at hl 0 rfl) ?_
  refine z_get hC hM ha hfa zcl_Jx4a65c (by decide) zl_Jx4a65c_9 rfl dJx4a65c_grow_92f84_1 ?_
  refine z_alen (n := cap) 3 hC hM he hfe rfl rfl dJx4a65c_grow_92f84_4 ?_
  refine lv_istore_n (lv' := [(2, .int (nI cap)), (0, .ref a), (1, .int (nI ((cap + 1))))]) hx hb dJx4a65c_grow_92f84_5 rfl hl (by decide) rfl (fun ls hl => ?_)
  refine lv_iload_n hx hb dJx4a65c_grow_92f84_6 rfl (lv_at hl 0 rfl) ?_
  refine z_if_gt (tgt := 20) hx hb (nI_toInt (by omega)) dJx4a65c_grow_92f84_7 (by decide) (fun c_7 => ?_) (fun c_7 => ?_)
  · refine lv_iload_n hx hb dJx4a65c_grow_92f84_20 rfl (lv_at hl 0 rfl) ?_
    refine lv_iload_n hx hb dJx4a65c_grow_92f84_21 rfl (lv_at hl 2 rfl) ?_
    refine lv_iload_n hx hb dJx4a65c_grow_92f84_22 rfl (lv_at hl 0 rfl) ?_
    refine z_isub hx hb (by omega) dJx4a65c_grow_92f84_23 ?_
    refine lv_iload_n hx hb dJx4a65c_grow_92f84_24 rfl (lv_at hl 0 rfl) ?_
    refine lv_iconst (v := nI 1) hx hb dJx4a65c_grow_92f84_25 (by decide) ?_
    refine z_ishr1 hx hb (by omega) dJx4a65c_grow_92f84_26 ?_
    refine z_fcalli (z_runS hC hM (c_newLen (by omega) (by omega) (by omega) (by omega)) zy_J8_newLength_cabcc zm_Jx4a65c_73 rfl rfl hl.1 (Nat.le_of_ble_eq_true rfl) ⟨by decide, by decide⟩ ⟨by decide, by decide⟩ dJx4a65c_grow_92f84_27) hM (fun H locs hM => ?_)
    rw [show cap + max (cap + 1 - cap) (cap / 2) = cap + cap / 2 by omega]
    refine lv_istore_n (lv' := [(3, .int (nI (cap + cap / 2))), (2, .int (nI cap)), (0, .ref a), (1, .int (nI ((cap + 1))))]) hx hb dJx4a65c_grow_92f84_30 rfl hl (by decide) rfl (fun ls hl => ?_)
    refine lv_aload_n hx hb dJx4a65c_grow_92f84_31 rfl (lv_at hl 2 rfl) ?_
    refine lv_aload_n hx hb dJx4a65c_grow_92f84_32 rfl (lv_at hl 2 rfl) ?_
    refine z_get hC hM ha hfa zcl_Jx4a65c (by decide) zl_Jx4a65c_9 rfl dJx4a65c_grow_92f84_33 ?_
    refine lv_iload_n hx hb dJx4a65c_grow_92f84_36 rfl (lv_at hl 0 rfl) ?_
    refine z_callq (z_runS hC hM (c_copy2 he hfe (by omega) (by omega) hel) zy_J7_copyOf_1904c zm_Jx4a65c_66 rfl rfl hl.1 (Nat.le_of_ble_eq_true rfl) ⟨by decide, by decide⟩ ⟨by decide, by decide⟩ dJx4a65c_grow_92f84_37) hM (fun r L1 f1 H locs hp hM => ?_)
    obtain ⟨q_37, rfl, hq_37, rfl, rfl⟩ := hp
    obtain ⟨f_1, ef_1⟩ : ∃ z9, z9 = va_up f q_37 (eO K (cap + cap / 2) (va_cpy arr (fun _ => none) 0 0 cap)) := ⟨_, rfl⟩
    rw [← ef_1] at hM
    have hN_4 : a ≠ q_37 := fun h => hq_37 (h ▸ ha)
    have hL_2 : a ∈ L ++ [q_37] := List.mem_append_left _ ha
    have hF_3 : f_1 a = eS 0 [.int mc, .ref ee, .int (nI n)] := by rw [ef_1]; exact (va_up_ne _ _ hN_4).trans hfa
    have hN_7 : ee ≠ q_37 := fun h => hq_37 (h ▸ he)
    have hL_5 : ee ∈ L ++ [q_37] := List.mem_append_left _ he
    have hF_6 : f_1 ee = eO K cap arr := by rw [ef_1]; exact (va_up_ne _ _ hN_7).trans hfe
    have hL_8 : q_37 ∈ L ++ [q_37] := List.mem_append_right _ List.mem_cons_self
    have hF_9 : f_1 q_37 = eO K (cap + cap / 2) (va_cpy arr (fun _ => none) 0 0 cap) := by rw [ef_1]; exact va_up_self _ _ _
    refine lv_dup_x1 hx hb dJx4a65c_grow_92f84_40 rfl rfl ?_
    refine z_put (fs' := [.int mc, .ref q_37, .int (nI n)]) hC hM hL_2 hF_3 zcl_Jx4a65c (by decide) zl_Jx4a65c_9 rfl rfl (by rfl) (Nat.le_of_ble_eq_true rfl) rfl dJx4a65c_grow_92f84_41 (fun H locs hM => ?_)
    obtain ⟨f_10, ef_10⟩ : ∃ z9, z9 = va_up f_1 a (eS 0 [.int mc, .ref q_37, .int (nI n)]) := ⟨_, rfl⟩
    rw [← ef_10] at hM
    have hF_11 : f_10 a = eS 0 [.int mc, .ref q_37, .int (nI n)] := by rw [ef_10]; exact va_up_self _ _ _
    have hF_12 : f_10 ee = eO K cap arr := by rw [ef_10]; exact (va_up_ne _ _ (Ne.symm hae)).trans hF_6
    have hF_13 : f_10 q_37 = eO K (cap + cap / 2) (va_cpy arr (fun _ => none) 0 0 cap) := by rw [ef_10]; exact (va_up_ne _ _ (Ne.symm hN_4)).trans hF_9
    rw [← hQ]
    exact z_qret (v := (some q_37)) hC hM hr (Or.inr ⟨_, rfl⟩) hlk (by decide) (by decide) ⟨q_37, rfl, hq_37, rfl, (by rw [ef_10, ef_1])⟩ dJx4a65c_grow_92f84_44
  · exact absurd c_7 (by omega)
set_option maxHeartbeats 400000 in
set_option maxRecDepth 100000 in
theorem c_growI_0 {l : Launch} {base : Nat} {K : zK} {L : List Nat} {f : Nat → va_E} {a : Nat} {mc : Int32} (ha : a ∈ L) (hfa : f a = eS 0 [.int mc, .ref K.2.2.1, .int (nI 0)]) (hz : K.2.2.1 ∉ L) : zMet l yJx4a65c_grow_92f84 cJx4a65c_grow_92f84 4 (some (.array (.object "java/lang/Object"))) (zr 1 1 60 21) base K L f [.ref a, .int (nI 1)] (zQq base K (fun r L1 f1 => ∃ q, r = some q ∧ q ∉ L ∧ L1 = L ++ [q] ∧ f1 = va_up (va_up f q (eO K 10 (fun _ => none))) a (eS 0 [.int mc, .ref q, .int (nI 0)]))) := by
  refine z_met (by decide) (Nat.le_of_ble_eq_true rfl) (fun p e s m below meth c ls hC hM hr hlk hnm hl => ?_)
  have hx := hC.1
  have hb := hC.2.1
  have hml := hC.2.2.1
  have hown := hC.2.2.2.1
  have hts := hC.2.2.2.2.1
  generalize hA : ([.ref a, .int (nI 1)] : List Value).toArray = args at hC ⊢
  generalize hQ : MQ _ _ _ _ _ _ _ = Q
  obtain ⟨locs, hlocs⟩ : ∃ z : List Loc, z = [] := ⟨_, rfl⟩
  obtain ⟨H, hH⟩ : ∃ z : Heap, z = s.heap := ⟨_, rfl⟩
  rw [← hlocs, ← hH] at hM ⊢
  have hl : lv_has ls 4 [(0, .ref a), (1, .int (nI 1))] := hl
  refine lv_aload_n hx hb dJx4a65c_grow_92f84_0 rfl (lv_at hl 0 rfl) ?_
  refine z_get hC hM ha hfa zcl_Jx4a65c (by decide) zl_Jx4a65c_9 rfl dJx4a65c_grow_92f84_1 ?_
  refine z_alen0 hC hM dJx4a65c_grow_92f84_4 ?_
  refine lv_istore_n (lv' := [(2, .int (nI 0)), (0, .ref a), (1, .int (nI 1))]) hx hb dJx4a65c_grow_92f84_5 rfl hl (by decide) rfl (fun ls hl => ?_)
  refine lv_iload_n hx hb dJx4a65c_grow_92f84_6 rfl (lv_at hl 0 rfl) ?_
  refine z_if_gt (tgt := 20) hx hb (nI_toInt (by decide)) dJx4a65c_grow_92f84_7 (by decide) (fun c_7 => ?_) (fun c_7 => ?_)
  · exact absurd c_7 (by omega)
  · refine lv_aload_n hx hb dJx4a65c_grow_92f84_10 rfl (lv_at hl 1 rfl) ?_
    refine z_get hC hM ha hfa zcl_Jx4a65c (by decide) zl_Jx4a65c_9 rfl dJx4a65c_grow_92f84_11 ?_
    refine z_gets hC hM zl_Jx4a65c_39 dJx4a65c_grow_92f84_14 ?_
    refine z_acmp_eq (x := (some K.2.2.1)) (y := (some K.2.2.1)) (tgt := 45) rfl rfl hx hb dJx4a65c_grow_92f84_17 (by decide) (fun c_17 => ?_) (fun c_17 => ?_)
    · refine lv_aload_n hx hb dJx4a65c_grow_92f84_45 rfl (lv_at hl 1 rfl) ?_
      refine lv_bipush (v := nI 10) hx hb dJx4a65c_grow_92f84_46 (by decide) ?_
      refine lv_iload_n hx hb dJx4a65c_grow_92f84_48 rfl (lv_at hl 2 rfl) ?_
      refine z_max hC hl.1 zm_Jx4a65c_79.1 (by omega) (by omega) (by decide) (Nat.le_of_ble_eq_true rfl) ⟨by decide, by decide⟩ dJx4a65c_grow_92f84_49 ?_
      rw [show max 10 1 = 10 from rfl]
      refine z_newO hC hM zc_Jx4a65c_7 (by decide) (by decide) (by decide) dJx4a65c_grow_92f84_52 (fun q_52 H hq_52 hM => ?_)
      obtain ⟨f_1, ef_1⟩ : ∃ z9, z9 = va_up f q_52 (eO K 10 (fun _ => none)) := ⟨_, rfl⟩
      rw [← ef_1] at hM
      have hN_4 : a ≠ q_52 := fun h => hq_52 (h ▸ ha)
      have hL_2 : a ∈ L ++ [q_52] := List.mem_append_left _ ha
      have hF_3 : f_1 a = eS 0 [.int mc, .ref K.2.2.1, .int (nI 0)] := by rw [ef_1]; exact (va_up_ne _ _ hN_4).trans hfa
      have hL_5 : q_52 ∈ L ++ [q_52] := List.mem_append_right _ List.mem_cons_self
      have hF_6 : f_1 q_52 = eO K 10 (fun _ => none) := by rw [ef_1]; exact va_up_self _ _ _
      refine lv_dup_x1 hx hb dJx4a65c_grow_92f84_55 rfl rfl ?_
      refine z_put (fs' := [.int mc, .ref q_52, .int (nI 0)]) hC hM hL_2 hF_3 zcl_Jx4a65c (by decide) zl_Jx4a65c_9 rfl rfl (by rfl) (Nat.le_of_ble_eq_true rfl) rfl dJx4a65c_grow_92f84_56 (fun H locs hM => ?_)
      obtain ⟨f_7, ef_7⟩ : ∃ z9, z9 = va_up f_1 a (eS 0 [.int mc, .ref q_52, .int (nI 0)]) := ⟨_, rfl⟩
      rw [← ef_7] at hM
      have hF_8 : f_7 a = eS 0 [.int mc, .ref q_52, .int (nI 0)] := by rw [ef_7]; exact va_up_self _ _ _
      have hF_9 : f_7 q_52 = eO K 10 (fun _ => none) := by rw [ef_7]; exact (va_up_ne _ _ (Ne.symm hN_4)).trans hF_6
      rw [← hQ]
      exact z_qret (v := (some q_52)) hC hM hr (Or.inr ⟨_, rfl⟩) hlk (by decide) (by decide) ⟨q_52, rfl, hq_52, rfl, (by rw [ef_7, ef_1])⟩ dJx4a65c_grow_92f84_59
    · exact absurd rfl c_17
set_option maxHeartbeats 400000 in
set_option maxRecDepth 100000 in
theorem c_grow_1 {l : Launch} {base : Nat} {K : zK} {L : List Nat} {f : Nat → va_E} {a ee n cap : Nat} {mc : Int32} {arr : Nat → Option Nat} (ha : a ∈ L) (hfa : f a = eS 0 [.int mc, .ref ee, .int (nI n)]) (he : ee ∈ L) (hfe : f ee = eO K cap arr) (hae : a ≠ ee) (hn : n = cap) (hc1 : 10 ≤ cap) (hc2 : cap ≤ 40) (hel : ∀ i, i < cap → ∀ y, arr i = some y → zAny L f y) : zMet l yJx4a65c_grow_d5877 cJx4a65c_grow_d5877 1 (some (.array (.object "java/lang/Object"))) (zr 5 1 60 125) base K L f [.ref a] (zQq base K (fun r L1 f1 => ∃ q, r = some q ∧ q ∉ L ∧ L1 = L ++ [q] ∧ f1 = va_up (va_up f q (eO K (cap + cap / 2) (va_cpy arr (fun _ => none) 0 0 cap))) a (eS 0 [.int mc, .ref q, .int (nI n)]))) := by
  refine z_met (by decide) (Nat.le_of_ble_eq_true rfl) (fun p e s m below meth c ls hC hM hr hlk hnm hl => ?_)
  have hx := hC.1
  have hb := hC.2.1
  have hml := hC.2.2.1
  have hown := hC.2.2.2.1
  have hts := hC.2.2.2.2.1
  generalize hA : ([.ref a] : List Value).toArray = args at hC ⊢
  generalize hQ : MQ _ _ _ _ _ _ _ = Q
  obtain ⟨locs, hlocs⟩ : ∃ z : List Loc, z = [] := ⟨_, rfl⟩
  obtain ⟨H, hH⟩ : ∃ z : Heap, z = s.heap := ⟨_, rfl⟩
  rw [← hlocs, ← hH] at hM ⊢
  have hl : lv_has ls 1 [(0, .ref a)] := hl
  refine lv_aload_n hx hb dJx4a65c_grow_d5877_0 rfl (lv_at hl 0 rfl) ?_
  refine lv_aload_n hx hb dJx4a65c_grow_d5877_1 rfl (lv_at hl 0 rfl) ?_
  refine z_get hC hM ha hfa zcl_Jx4a65c (by decide) zl_Jx4a65c_48 rfl dJx4a65c_grow_d5877_2 ?_
  refine lv_iconst (v := nI 1) hx hb dJx4a65c_grow_d5877_5 (by decide) ?_
  refine z_iadd hx hb dJx4a65c_grow_d5877_6 ?_
  rw [show n + 1 = cap + 1 by omega]
  refine z_callq (z_runV hC hM (c_growI_1 ha hfa he hfe hae hc1 hc2 hel) zy_Jx4a65c_grow_92f84 zm_Jx4a65c_69 ha hfa zcl_Jx4a65c rfl rfl rfl hl.1 (Nat.le_of_ble_eq_true rfl) ⟨by decide, by decide⟩ ⟨by decide, by decide⟩ dJx4a65c_grow_d5877_7) hM (fun r L1 f1 H locs hp hM => ?_)
  obtain ⟨q_7, rfl, hq_7, rfl, rfl⟩ := hp
  obtain ⟨f_1, ef_1⟩ : ∃ z9, z9 = va_up f q_7 (eO K (cap + cap / 2) (va_cpy arr (fun _ => none) 0 0 cap)) := ⟨_, rfl⟩
  rw [← ef_1] at hM
  have hN_4 : a ≠ q_7 := fun h => hq_7 (h ▸ ha)
  have hL_2 : a ∈ L ++ [q_7] := List.mem_append_left _ ha
  have hF_3 : f_1 a = eS 0 [.int mc, .ref ee, .int (nI n)] := by rw [ef_1]; exact (va_up_ne _ _ hN_4).trans hfa
  have hN_7 : ee ≠ q_7 := fun h => hq_7 (h ▸ he)
  have hL_5 : ee ∈ L ++ [q_7] := List.mem_append_left _ he
  have hF_6 : f_1 ee = eO K cap arr := by rw [ef_1]; exact (va_up_ne _ _ hN_7).trans hfe
  have hL_8 : q_7 ∈ L ++ [q_7] := List.mem_append_right _ List.mem_cons_self
  have hF_9 : f_1 q_7 = eO K (cap + cap / 2) (va_cpy arr (fun _ => none) 0 0 cap) := by rw [ef_1]; exact va_up_self _ _ _
  obtain ⟨f_10, ef_10⟩ : ∃ z9, z9 = va_up f_1 a (eS 0 [.int mc, .ref q_7, .int (nI n)]) := ⟨_, rfl⟩
  rw [← ef_10] at hM
  have hF_11 : f_10 a = eS 0 [.int mc, .ref q_7, .int (nI n)] := by rw [ef_10]; exact va_up_self _ _ _
  have hF_12 : f_10 ee = eO K cap arr := by rw [ef_10]; exact (va_up_ne _ _ (Ne.symm hae)).trans hF_6
  have hF_13 : f_10 q_7 = eO K (cap + cap / 2) (va_cpy arr (fun _ => none) 0 0 cap) := by rw [ef_10]; exact (va_up_ne _ _ (Ne.symm hN_4)).trans hF_9
  rw [← hQ]
  exact z_qret (v := (some q_7)) hC hM hr (Or.inr ⟨_, rfl⟩) hlk (by decide) (by decide) ⟨q_7, rfl, hq_7, rfl, (by rw [ef_10, ef_1])⟩ dJx4a65c_grow_d5877_10
set_option maxHeartbeats 400000 in
set_option maxRecDepth 100000 in
theorem c_grow_0 {l : Launch} {base : Nat} {K : zK} {L : List Nat} {f : Nat → va_E} {a : Nat} {mc : Int32} (ha : a ∈ L) (hfa : f a = eS 0 [.int mc, .ref K.2.2.1, .int (nI 0)]) (hz : K.2.2.1 ∉ L) : zMet l yJx4a65c_grow_d5877 cJx4a65c_grow_d5877 1 (some (.array (.object "java/lang/Object"))) (zr 2 1 60 45) base K L f [.ref a] (zQq base K (fun r L1 f1 => ∃ q, r = some q ∧ q ∉ L ∧ L1 = L ++ [q] ∧ f1 = va_up (va_up f q (eO K 10 (fun _ => none))) a (eS 0 [.int mc, .ref q, .int (nI 0)]))) := by
  refine z_met (by decide) (Nat.le_of_ble_eq_true rfl) (fun p e s m below meth c ls hC hM hr hlk hnm hl => ?_)
  have hx := hC.1
  have hb := hC.2.1
  have hml := hC.2.2.1
  have hown := hC.2.2.2.1
  have hts := hC.2.2.2.2.1
  generalize hA : ([.ref a] : List Value).toArray = args at hC ⊢
  generalize hQ : MQ _ _ _ _ _ _ _ = Q
  obtain ⟨locs, hlocs⟩ : ∃ z : List Loc, z = [] := ⟨_, rfl⟩
  obtain ⟨H, hH⟩ : ∃ z : Heap, z = s.heap := ⟨_, rfl⟩
  rw [← hlocs, ← hH] at hM ⊢
  have hl : lv_has ls 1 [(0, .ref a)] := hl
  refine lv_aload_n hx hb dJx4a65c_grow_d5877_0 rfl (lv_at hl 0 rfl) ?_
  refine lv_aload_n hx hb dJx4a65c_grow_d5877_1 rfl (lv_at hl 0 rfl) ?_
  refine z_get hC hM ha hfa zcl_Jx4a65c (by decide) zl_Jx4a65c_48 rfl dJx4a65c_grow_d5877_2 ?_
  refine lv_iconst (v := nI 1) hx hb dJx4a65c_grow_d5877_5 (by decide) ?_
  refine z_iadd hx hb dJx4a65c_grow_d5877_6 ?_
  refine z_callq (z_runV hC hM (c_growI_0 ha hfa hz) zy_Jx4a65c_grow_92f84 zm_Jx4a65c_69 ha hfa zcl_Jx4a65c rfl rfl rfl hl.1 (Nat.le_of_ble_eq_true rfl) ⟨by decide, by decide⟩ ⟨by decide, by decide⟩ dJx4a65c_grow_d5877_7) hM (fun r L1 f1 H locs hp hM => ?_)
  obtain ⟨q_7, rfl, hq_7, rfl, rfl⟩ := hp
  obtain ⟨f_1, ef_1⟩ : ∃ z9, z9 = va_up f q_7 (eO K 10 (fun _ => none)) := ⟨_, rfl⟩
  rw [← ef_1] at hM
  have hN_4 : a ≠ q_7 := fun h => hq_7 (h ▸ ha)
  have hL_2 : a ∈ L ++ [q_7] := List.mem_append_left _ ha
  have hF_3 : f_1 a = eS 0 [.int mc, .ref K.2.2.1, .int (nI 0)] := by rw [ef_1]; exact (va_up_ne _ _ hN_4).trans hfa
  have hL_5 : q_7 ∈ L ++ [q_7] := List.mem_append_right _ List.mem_cons_self
  have hF_6 : f_1 q_7 = eO K 10 (fun _ => none) := by rw [ef_1]; exact va_up_self _ _ _
  obtain ⟨f_7, ef_7⟩ : ∃ z9, z9 = va_up f_1 a (eS 0 [.int mc, .ref q_7, .int (nI 0)]) := ⟨_, rfl⟩
  rw [← ef_7] at hM
  have hF_8 : f_7 a = eS 0 [.int mc, .ref q_7, .int (nI 0)] := by rw [ef_7]; exact va_up_self _ _ _
  have hF_9 : f_7 q_7 = eO K 10 (fun _ => none) := by rw [ef_7]; exact (va_up_ne _ _ (Ne.symm hN_4)).trans hF_6
  rw [← hQ]
  exact z_qret (v := (some q_7)) hC hM hr (Or.inr ⟨_, rfl⟩) hlk (by decide) (by decide) ⟨q_7, rfl, hq_7, rfl, (by rw [ef_7, ef_1])⟩ dJx4a65c_grow_d5877_10
set_option maxHeartbeats 400000 in
set_option maxRecDepth 100000 in
theorem c_add3_r {l : Launch} {base : Nat} {K : zK} {L : List Nat} {f : Nat → va_E} {a ee n cap q : Nat} {mc : Int32} {arr : Nat → Option Nat} (ha : a ∈ L) (hfa : f a = eS 0 [.int mc, .ref ee, .int (nI n)]) (he : ee ∈ L) (hfe : f ee = eO K cap arr) (hae : a ≠ ee) (hq : zAny L f q) (hn : n < cap) (hc2 : cap ≤ 60) : zMet l yJx4a65c_add_72be8 cJx4a65c_add_72be8 4 (none) (zr 0 0 0 0) base K L f [.ref a, .ref q, .ref ee, .int (nI n)] (zFv base K L (va_up (va_up f ee (eO K cap (va_up arr n (some q)))) a (eS 0 [.int mc, .ref ee, .int (nI (n + 1))]))) := by
  refine z_met (by decide) (Nat.le_of_ble_eq_true rfl) (fun p e s m below meth c ls hC hM hr hlk hnm hl => ?_)
  have hx := hC.1
  have hb := hC.2.1
  have hml := hC.2.2.1
  have hown := hC.2.2.2.1
  have hts := hC.2.2.2.2.1
  generalize hA : ([.ref a, .ref q, .ref ee, .int (nI n)] : List Value).toArray = args at hC ⊢
  generalize hQ : MQ _ _ _ _ _ _ _ = Q
  obtain ⟨locs, hlocs⟩ : ∃ z : List Loc, z = [] := ⟨_, rfl⟩
  obtain ⟨H, hH⟩ : ∃ z : Heap, z = s.heap := ⟨_, rfl⟩
  rw [← hlocs, ← hH] at hM ⊢
  have hl : lv_has ls 4 [(0, .ref a), (1, .ref q), (2, .ref ee), (3, .int (nI n))] := hl
  refine lv_iload_n hx hb dJx4a65c_add_72be8_0 rfl (lv_at hl 3 rfl) ?_
  refine lv_aload_n hx hb dJx4a65c_add_72be8_1 rfl (lv_at hl 2 rfl) ?_
  refine z_alen (n := cap) 3 hC hM he hfe rfl rfl dJx4a65c_add_72be8_2 ?_
  refine z_icmp_ne (tgt := 11) hx hb (nI_toInt (by omega)) (nI_toInt (by omega)) dJx4a65c_add_72be8_3 (by decide) (fun c_3 => ?_) (fun c_3 => ?_)
  · refine lv_aload_n hx hb dJx4a65c_add_72be8_11 rfl (lv_at hl 2 rfl) ?_
    refine lv_iload_n hx hb dJx4a65c_add_72be8_12 rfl (lv_at hl 3 rfl) ?_
    refine lv_aload_n hx hb dJx4a65c_add_72be8_13 rfl (lv_at hl 1 rfl) ?_
    refine z_aast hC hM he hfe hq (by omega) (by omega) dJx4a65c_add_72be8_14 (fun H locs hM => ?_)
    obtain ⟨f_1, ef_1⟩ : ∃ z9, z9 = va_up f ee (eO K cap (va_up arr n (some q))) := ⟨_, rfl⟩
    rw [← ef_1] at hM
    have hF_2 : f_1 a = eS 0 [.int mc, .ref ee, .int (nI n)] := by rw [ef_1]; exact (va_up_ne _ _ hae).trans hfa
    have hF_3 : f_1 ee = eO K cap (va_up arr n (some q)) := by rw [ef_1]; exact va_up_self _ _ _
    refine lv_aload_n hx hb dJx4a65c_add_72be8_15 rfl (lv_at hl 0 rfl) ?_
    refine lv_iload_n hx hb dJx4a65c_add_72be8_16 rfl (lv_at hl 3 rfl) ?_
    refine lv_iconst (v := nI 1) hx hb dJx4a65c_add_72be8_17 (by decide) ?_
    refine z_iadd hx hb dJx4a65c_add_72be8_18 ?_
    refine z_put (fs' := [.int mc, .ref ee, .int (nI (n + 1))]) hC hM ha hF_2 zcl_Jx4a65c (by decide) zl_Jx4a65c_48 rfl rfl (by rfl) (Nat.le_of_ble_eq_true rfl) rfl dJx4a65c_add_72be8_19 (fun H locs hM => ?_)
    obtain ⟨f_4, ef_4⟩ : ∃ z9, z9 = va_up f_1 a (eS 0 [.int mc, .ref ee, .int (nI (n + 1))]) := ⟨_, rfl⟩
    rw [← ef_4] at hM
    have hF_5 : f_4 a = eS 0 [.int mc, .ref ee, .int (nI (n + 1))] := by rw [ef_4]; exact va_up_self _ _ _
    have hF_6 : f_4 ee = eO K cap (va_up arr n (some q)) := by rw [ef_4]; exact (va_up_ne _ _ (Ne.symm hae)).trans hF_3
    rw [← hQ]
    exact z_vret hC hM hr hlk (by decide) (by decide) ⟨rfl, (by rw [ef_4, ef_1])⟩ dJx4a65c_add_72be8_22
  · exact absurd c_3 (by omega)
set_option maxHeartbeats 400000 in
set_option maxRecDepth 100000 in
theorem c_add3_0 {l : Launch} {base : Nat} {K : zK} {L : List Nat} {f : Nat → va_E} {a q : Nat} {mc : Int32} (ha : a ∈ L) (hfa : f a = eS 0 [.int mc, .ref K.2.2.1, .int (nI 0)]) (hz : K.2.2.1 ∉ L) (hq : zAny L f q) : zMet l yJx4a65c_add_72be8 cJx4a65c_add_72be8 4 (none) (zr 3 1 60 70) base K L f [.ref a, .ref q, .ref K.2.2.1, .int (nI 0)] (zQv base K (fun L1 f1 => ∃ x, x ∉ L ∧ L1 = L ++ [x] ∧ f1 = va_up (va_up f x (eO K 10 (va_up (fun _ => none) 0 (some q)))) a (eS 0 [.int mc, .ref x, .int (nI 1)]))) := by
  refine z_met (by decide) (Nat.le_of_ble_eq_true rfl) (fun p e s m below meth c ls hC hM hr hlk hnm hl => ?_)
  have hx := hC.1
  have hb := hC.2.1
  have hml := hC.2.2.1
  have hown := hC.2.2.2.1
  have hts := hC.2.2.2.2.1
  generalize hA : ([.ref a, .ref q, .ref K.2.2.1, .int (nI 0)] : List Value).toArray = args at hC ⊢
  generalize hQ : MQ _ _ _ _ _ _ _ = Q
  obtain ⟨locs, hlocs⟩ : ∃ z : List Loc, z = [] := ⟨_, rfl⟩
  obtain ⟨H, hH⟩ : ∃ z : Heap, z = s.heap := ⟨_, rfl⟩
  rw [← hlocs, ← hH] at hM ⊢
  have hl : lv_has ls 4 [(0, .ref a), (1, .ref q), (2, .ref K.2.2.1), (3, .int (nI 0))] := hl
  refine lv_iload_n hx hb dJx4a65c_add_72be8_0 rfl (lv_at hl 3 rfl) ?_
  refine lv_aload_n hx hb dJx4a65c_add_72be8_1 rfl (lv_at hl 2 rfl) ?_
  refine z_alen0 hC hM dJx4a65c_add_72be8_2 ?_
  refine z_icmp_ne (tgt := 11) hx hb (nI_toInt (by decide)) (nI_toInt (by decide)) dJx4a65c_add_72be8_3 (by decide) (fun c_3 => ?_) (fun c_3 => ?_)
  · exact absurd rfl c_3
  · refine lv_aload_n hx hb dJx4a65c_add_72be8_6 rfl (lv_at hl 0 rfl) ?_
    refine z_callq (z_runV hC hM (c_grow_0 ha hfa hz) zy_Jx4a65c_grow_d5877 zm_Jx4a65c_129 ha hfa zcl_Jx4a65c rfl rfl rfl hl.1 (Nat.le_of_ble_eq_true rfl) ⟨by decide, by decide⟩ ⟨by decide, by decide⟩ dJx4a65c_add_72be8_7) hM (fun r L1 f1 H locs hp hM => ?_)
    obtain ⟨q_7, rfl, hq_7, rfl, rfl⟩ := hp
    obtain ⟨f_1, ef_1⟩ : ∃ z9, z9 = va_up f q_7 (eO K 10 (fun _ => none)) := ⟨_, rfl⟩
    rw [← ef_1] at hM
    have hN_4 : a ≠ q_7 := fun h => hq_7 (h ▸ ha)
    have hL_2 : a ∈ L ++ [q_7] := List.mem_append_left _ ha
    have hF_3 : f_1 a = eS 0 [.int mc, .ref K.2.2.1, .int (nI 0)] := by rw [ef_1]; exact (va_up_ne _ _ hN_4).trans hfa
    have hL_5 : q_7 ∈ L ++ [q_7] := List.mem_append_right _ List.mem_cons_self
    have hF_6 : f_1 q_7 = eO K 10 (fun _ => none) := by rw [ef_1]; exact va_up_self _ _ _
    obtain ⟨f_7, ef_7⟩ : ∃ z9, z9 = va_up f_1 a (eS 0 [.int mc, .ref q_7, .int (nI 0)]) := ⟨_, rfl⟩
    rw [← ef_7] at hM
    have hF_8 : f_7 a = eS 0 [.int mc, .ref q_7, .int (nI 0)] := by rw [ef_7]; exact va_up_self _ _ _
    have hF_9 : f_7 q_7 = eO K 10 (fun _ => none) := by rw [ef_7]; exact (va_up_ne _ _ (Ne.symm hN_4)).trans hF_6
    refine lv_astore_n (lv' := [(2, .ref q_7), (0, .ref a), (1, .ref q), (3, .int (nI 0))]) hx hb dJx4a65c_add_72be8_10 rfl hl (by decide) rfl (fun ls hl => ?_)
    refine lv_aload_n hx hb dJx4a65c_add_72be8_11 rfl (lv_at hl 0 rfl) ?_
    refine lv_iload_n hx hb dJx4a65c_add_72be8_12 rfl (lv_at hl 3 rfl) ?_
    refine lv_aload_n hx hb dJx4a65c_add_72be8_13 rfl (lv_at hl 2 rfl) ?_
    refine z_aast hC hM hL_5 hF_9 (z_anyObj (z_anyUp hq_7 hq ef_1) hF_3 ef_7) (by omega) (by omega) dJx4a65c_add_72be8_14 (fun H locs hM => ?_)
    obtain ⟨f_10, ef_10⟩ : ∃ z9, z9 = va_up f_7 q_7 (eO K 10 (va_up (fun _ => none) 0 (some q))) := ⟨_, rfl⟩
    rw [← ef_10] at hM
    have hF_11 : f_10 a = eS 0 [.int mc, .ref q_7, .int (nI 0)] := by rw [ef_10]; exact (va_up_ne _ _ hN_4).trans hF_8
    have hF_12 : f_10 q_7 = eO K 10 (va_up (fun _ => none) 0 (some q)) := by rw [ef_10]; exact va_up_self _ _ _
    refine lv_aload_n hx hb dJx4a65c_add_72be8_15 rfl (lv_at hl 1 rfl) ?_
    refine lv_iload_n hx hb dJx4a65c_add_72be8_16 rfl (lv_at hl 3 rfl) ?_
    refine lv_iconst (v := nI 1) hx hb dJx4a65c_add_72be8_17 (by decide) ?_
    refine z_iadd hx hb dJx4a65c_add_72be8_18 ?_
    refine z_put (fs' := [.int mc, .ref q_7, .int (nI (0 + 1))]) hC hM hL_2 hF_11 zcl_Jx4a65c (by decide) zl_Jx4a65c_48 rfl rfl (by rfl) (Nat.le_of_ble_eq_true rfl) rfl dJx4a65c_add_72be8_19 (fun H locs hM => ?_)
    obtain ⟨f_13, ef_13⟩ : ∃ z9, z9 = va_up f_10 a (eS 0 [.int mc, .ref q_7, .int (nI (0 + 1))]) := ⟨_, rfl⟩
    rw [← ef_13] at hM
    have hF_14 : f_13 a = eS 0 [.int mc, .ref q_7, .int (nI (0 + 1))] := by rw [ef_13]; exact va_up_self _ _ _
    have hF_15 : f_13 q_7 = eO K 10 (va_up (fun _ => none) 0 (some q)) := by rw [ef_13]; exact (va_up_ne _ _ (Ne.symm hN_4)).trans hF_12
    rw [← hQ]
    exact z_vret hC hM hr hlk (by decide) (by decide) ⟨q_7, hq_7, rfl, (by rw [ef_13, ef_10, ef_7, ef_1, up_4 _ hN_4])⟩ dJx4a65c_add_72be8_22
set_option maxHeartbeats 400000 in
set_option maxRecDepth 100000 in
theorem c_add3_1 {l : Launch} {base : Nat} {K : zK} {L : List Nat} {f : Nat → va_E} {a ee n cap q : Nat} {mc : Int32} {arr : Nat → Option Nat} (ha : a ∈ L) (hfa : f a = eS 0 [.int mc, .ref ee, .int (nI n)]) (he : ee ∈ L) (hfe : f ee = eO K cap arr) (hae : a ≠ ee) (hq : zAny L f q) (hn : n = cap) (hc1 : 10 ≤ cap) (hc2 : cap ≤ 40) (hel : ∀ i, i < cap → ∀ y, arr i = some y → zAny L f y) : zMet l yJx4a65c_add_72be8 cJx4a65c_add_72be8 4 (none) (zr 6 1 60 150) base K L f [.ref a, .ref q, .ref ee, .int (nI n)] (zQv base K (fun L1 f1 => ∃ x, x ∉ L ∧ L1 = L ++ [x] ∧ f1 = va_up (va_up f x (eO K (cap + cap / 2) (va_up (va_cpy arr (fun _ => none) 0 0 cap) n (some q)))) a (eS 0 [.int mc, .ref x, .int (nI (n + 1))]))) := by
  refine z_met (by decide) (Nat.le_of_ble_eq_true rfl) (fun p e s m below meth c ls hC hM hr hlk hnm hl => ?_)
  have hx := hC.1
  have hb := hC.2.1
  have hml := hC.2.2.1
  have hown := hC.2.2.2.1
  have hts := hC.2.2.2.2.1
  generalize hA : ([.ref a, .ref q, .ref ee, .int (nI n)] : List Value).toArray = args at hC ⊢
  generalize hQ : MQ _ _ _ _ _ _ _ = Q
  obtain ⟨locs, hlocs⟩ : ∃ z : List Loc, z = [] := ⟨_, rfl⟩
  obtain ⟨H, hH⟩ : ∃ z : Heap, z = s.heap := ⟨_, rfl⟩
  rw [← hlocs, ← hH] at hM ⊢
  have hl : lv_has ls 4 [(0, .ref a), (1, .ref q), (2, .ref ee), (3, .int (nI n))] := hl
  refine lv_iload_n hx hb dJx4a65c_add_72be8_0 rfl (lv_at hl 3 rfl) ?_
  refine lv_aload_n hx hb dJx4a65c_add_72be8_1 rfl (lv_at hl 2 rfl) ?_
  refine z_alen (n := cap) 3 hC hM he hfe rfl rfl dJx4a65c_add_72be8_2 ?_
  refine z_icmp_ne (tgt := 11) hx hb (nI_toInt (by omega)) (nI_toInt (by omega)) dJx4a65c_add_72be8_3 (by decide) (fun c_3 => ?_) (fun c_3 => ?_)
  · exact absurd (by omega) c_3
  · refine lv_aload_n hx hb dJx4a65c_add_72be8_6 rfl (lv_at hl 0 rfl) ?_
    refine z_callq (z_runV hC hM (c_grow_1 ha hfa he hfe hae hn hc1 hc2 hel) zy_Jx4a65c_grow_d5877 zm_Jx4a65c_129 ha hfa zcl_Jx4a65c rfl rfl rfl hl.1 (Nat.le_of_ble_eq_true rfl) ⟨by decide, by decide⟩ ⟨by decide, by decide⟩ dJx4a65c_add_72be8_7) hM (fun r L1 f1 H locs hp hM => ?_)
    obtain ⟨q_7, rfl, hq_7, rfl, rfl⟩ := hp
    obtain ⟨f_1, ef_1⟩ : ∃ z9, z9 = va_up f q_7 (eO K (cap + cap / 2) (va_cpy arr (fun _ => none) 0 0 cap)) := ⟨_, rfl⟩
    rw [← ef_1] at hM
    have hN_4 : a ≠ q_7 := fun h => hq_7 (h ▸ ha)
    have hL_2 : a ∈ L ++ [q_7] := List.mem_append_left _ ha
    have hF_3 : f_1 a = eS 0 [.int mc, .ref ee, .int (nI n)] := by rw [ef_1]; exact (va_up_ne _ _ hN_4).trans hfa
    have hN_7 : ee ≠ q_7 := fun h => hq_7 (h ▸ he)
    have hL_5 : ee ∈ L ++ [q_7] := List.mem_append_left _ he
    have hF_6 : f_1 ee = eO K cap arr := by rw [ef_1]; exact (va_up_ne _ _ hN_7).trans hfe
    have hL_8 : q_7 ∈ L ++ [q_7] := List.mem_append_right _ List.mem_cons_self
    have hF_9 : f_1 q_7 = eO K (cap + cap / 2) (va_cpy arr (fun _ => none) 0 0 cap) := by rw [ef_1]; exact va_up_self _ _ _
    obtain ⟨f_10, ef_10⟩ : ∃ z9, z9 = va_up f_1 a (eS 0 [.int mc, .ref q_7, .int (nI n)]) := ⟨_, rfl⟩
    rw [← ef_10] at hM
    have hF_11 : f_10 a = eS 0 [.int mc, .ref q_7, .int (nI n)] := by rw [ef_10]; exact va_up_self _ _ _
    have hF_12 : f_10 ee = eO K cap arr := by rw [ef_10]; exact (va_up_ne _ _ (Ne.symm hae)).trans hF_6
    have hF_13 : f_10 q_7 = eO K (cap + cap / 2) (va_cpy arr (fun _ => none) 0 0 cap) := by rw [ef_10]; exact (va_up_ne _ _ (Ne.symm hN_4)).trans hF_9
    refine lv_astore_n (lv' := [(2, .ref q_7), (0, .ref a), (1, .ref q), (3, .int (nI n))]) hx hb dJx4a65c_add_72be8_10 rfl hl (by decide) rfl (fun ls hl => ?_)
    refine lv_aload_n hx hb dJx4a65c_add_72be8_11 rfl (lv_at hl 0 rfl) ?_
    refine lv_iload_n hx hb dJx4a65c_add_72be8_12 rfl (lv_at hl 3 rfl) ?_
    refine lv_aload_n hx hb dJx4a65c_add_72be8_13 rfl (lv_at hl 2 rfl) ?_
    refine z_aast hC hM hL_8 hF_13 (z_anyObj (z_anyUp hq_7 hq ef_1) hF_3 ef_10) (by omega) (by omega) dJx4a65c_add_72be8_14 (fun H locs hM => ?_)
    obtain ⟨f_14, ef_14⟩ : ∃ z9, z9 = va_up f_10 q_7 (eO K (cap + cap / 2) (va_up (va_cpy arr (fun _ => none) 0 0 cap) n (some q))) := ⟨_, rfl⟩
    rw [← ef_14] at hM
    have hF_15 : f_14 a = eS 0 [.int mc, .ref q_7, .int (nI n)] := by rw [ef_14]; exact (va_up_ne _ _ hN_4).trans hF_11
    have hF_16 : f_14 ee = eO K cap arr := by rw [ef_14]; exact (va_up_ne _ _ hN_7).trans hF_12
    have hF_17 : f_14 q_7 = eO K (cap + cap / 2) (va_up (va_cpy arr (fun _ => none) 0 0 cap) n (some q)) := by rw [ef_14]; exact va_up_self _ _ _
    refine lv_aload_n hx hb dJx4a65c_add_72be8_15 rfl (lv_at hl 1 rfl) ?_
    refine lv_iload_n hx hb dJx4a65c_add_72be8_16 rfl (lv_at hl 3 rfl) ?_
    refine lv_iconst (v := nI 1) hx hb dJx4a65c_add_72be8_17 (by decide) ?_
    refine z_iadd hx hb dJx4a65c_add_72be8_18 ?_
    refine z_put (fs' := [.int mc, .ref q_7, .int (nI (n + 1))]) hC hM hL_2 hF_15 zcl_Jx4a65c (by decide) zl_Jx4a65c_48 rfl rfl (by rfl) (Nat.le_of_ble_eq_true rfl) rfl dJx4a65c_add_72be8_19 (fun H locs hM => ?_)
    obtain ⟨f_18, ef_18⟩ : ∃ z9, z9 = va_up f_14 a (eS 0 [.int mc, .ref q_7, .int (nI (n + 1))]) := ⟨_, rfl⟩
    rw [← ef_18] at hM
    have hF_19 : f_18 a = eS 0 [.int mc, .ref q_7, .int (nI (n + 1))] := by rw [ef_18]; exact va_up_self _ _ _
    have hF_20 : f_18 ee = eO K cap arr := by rw [ef_18]; exact (va_up_ne _ _ (Ne.symm hae)).trans hF_16
    have hF_21 : f_18 q_7 = eO K (cap + cap / 2) (va_up (va_cpy arr (fun _ => none) 0 0 cap) n (some q)) := by rw [ef_18]; exact (va_up_ne _ _ (Ne.symm hN_4)).trans hF_17
    rw [← hQ]
    exact z_vret hC hM hr hlk (by decide) (by decide) ⟨q_7, hq_7, rfl, (by rw [ef_18, ef_14, ef_10, ef_1, up_4 _ hN_4])⟩ dJx4a65c_add_72be8_22
set_option maxHeartbeats 400000 in
set_option maxRecDepth 100000 in
theorem c_add_r {l : Launch} {base : Nat} {K : zK} {L : List Nat} {f : Nat → va_E} {a ee n cap q : Nat} {mc : Int32} {arr : Nat → Option Nat} (ha : a ∈ L) (hfa : f a = eS 0 [.int mc, .ref ee, .int (nI n)]) (he : ee ∈ L) (hfe : f ee = eO K cap arr) (hae : a ≠ ee) (hq : zAny L f q) (hn : n < cap) (hc2 : cap ≤ 60) : zMet l yJx4a65c_add_9ea2d cJx4a65c_add_9ea2d 2 (some .boolean) (zr 1 0 0 23) base K L f [.ref a, .ref q] (zFi base K (nI 1) L (va_up (va_up f ee (eO K cap (va_up arr n (some q)))) a (eS 0 [.int (mc + 1), .ref ee, .int (nI (n + 1))]))) := by
  refine z_met (by decide) (Nat.le_of_ble_eq_true rfl) (fun p e s m below meth c ls hC hM hr hlk hnm hl => ?_)
  have hx := hC.1
  have hb := hC.2.1
  have hml := hC.2.2.1
  have hown := hC.2.2.2.1
  have hts := hC.2.2.2.2.1
  generalize hA : ([.ref a, .ref q] : List Value).toArray = args at hC ⊢
  generalize hQ : MQ _ _ _ _ _ _ _ = Q
  obtain ⟨locs, hlocs⟩ : ∃ z : List Loc, z = [] := ⟨_, rfl⟩
  obtain ⟨H, hH⟩ : ∃ z : Heap, z = s.heap := ⟨_, rfl⟩
  rw [← hlocs, ← hH] at hM ⊢
  have hl : lv_has ls 2 [(0, .ref a), (1, .ref q)] := hl
  refine lv_aload_n hx hb dJx4a65c_add_9ea2d_0 rfl (lv_at hl 0 rfl) ?_
  refine lv_dup hx hb dJx4a65c_add_9ea2d_1 rfl ?_
  refine z_get hC hM ha hfa zcl_Jx4a65c (by decide) zl_Jx4a65c_63 rfl dJx4a65c_add_9ea2d_2 ?_
  refine lv_iconst (v := nI 1) hx hb dJx4a65c_add_9ea2d_5 (by decide) ?_
  refine lv_iadd hx hb dJx4a65c_add_9ea2d_6 ?_
  refine z_put (fs' := [.int (mc + (nI 1)), .ref ee, .int (nI n)]) hC hM ha hfa zcl_Jx4a65c (by decide) zl_Jx4a65c_63 rfl rfl (by rfl) (Nat.le_of_ble_eq_true rfl) rfl dJx4a65c_add_9ea2d_7 (fun H locs hM => ?_)
  obtain ⟨f_1, ef_1⟩ : ∃ z9, z9 = va_up f a (eS 0 [.int (mc + (nI 1)), .ref ee, .int (nI n)]) := ⟨_, rfl⟩
  rw [← ef_1] at hM
  have hF_2 : f_1 a = eS 0 [.int (mc + (nI 1)), .ref ee, .int (nI n)] := by rw [ef_1]; exact va_up_self _ _ _
  have hF_3 : f_1 ee = eO K cap arr := by rw [ef_1]; exact (va_up_ne _ _ (Ne.symm hae)).trans hfe
  refine lv_aload_n hx hb dJx4a65c_add_9ea2d_10 rfl (lv_at hl 0 rfl) ?_
  refine lv_aload_n hx hb dJx4a65c_add_9ea2d_11 rfl (lv_at hl 1 rfl) ?_
  refine lv_aload_n hx hb dJx4a65c_add_9ea2d_12 rfl (lv_at hl 0 rfl) ?_
  refine z_get hC hM ha hF_2 zcl_Jx4a65c (by decide) zl_Jx4a65c_9 rfl dJx4a65c_add_9ea2d_13 ?_
  refine lv_aload_n hx hb dJx4a65c_add_9ea2d_16 rfl (lv_at hl 0 rfl) ?_
  refine z_get hC hM ha hF_2 zcl_Jx4a65c (by decide) zl_Jx4a65c_48 rfl dJx4a65c_add_9ea2d_17 ?_
  refine z_fcallv (z_runV hC hM (c_add3_r ha hF_2 he hF_3 hae (z_anyObj hq hfa ef_1) hn hc2) zy_Jx4a65c_add_72be8 zm_Jx4a65c_131 ha hF_2 zcl_Jx4a65c rfl rfl rfl hl.1 (Nat.le_of_ble_eq_true rfl) ⟨by decide, by decide⟩ ⟨by decide, by decide⟩ dJx4a65c_add_9ea2d_20) hM (fun H locs hM => ?_)
  obtain ⟨f_4, ef_4⟩ : ∃ z9, z9 = va_up f_1 ee (eO K cap (va_up arr n (some q))) := ⟨_, rfl⟩
  rw [← ef_4] at hM
  have hF_5 : f_4 a = eS 0 [.int (mc + (nI 1)), .ref ee, .int (nI n)] := by rw [ef_4]; exact (va_up_ne _ _ hae).trans hF_2
  have hF_6 : f_4 ee = eO K cap (va_up arr n (some q)) := by rw [ef_4]; exact va_up_self _ _ _
  obtain ⟨f_7, ef_7⟩ : ∃ z9, z9 = va_up f_4 a (eS 0 [.int (mc + nI 1), .ref ee, .int (nI (n + 1))]) := ⟨_, rfl⟩
  rw [← ef_7] at hM
  have hF_8 : f_7 a = eS 0 [.int (mc + nI 1), .ref ee, .int (nI (n + 1))] := by rw [ef_7]; exact va_up_self _ _ _
  have hF_9 : f_7 ee = eO K cap (va_up arr n (some q)) := by rw [ef_7]; exact (va_up_ne _ _ (Ne.symm hae)).trans hF_6
  refine lv_iconst (v := nI 1) hx hb dJx4a65c_add_9ea2d_23 (by decide) ?_
  rw [← hQ]
  exact z_iret hC hM hr hlk rfl (by decide) (by decide) ⟨rfl, rfl, (by rw [ef_7, ef_4, ef_1, up_3 _ hae]; rfl)⟩ dJx4a65c_add_9ea2d_24
set_option maxHeartbeats 400000 in
set_option maxRecDepth 100000 in
theorem c_add_0 {l : Launch} {base : Nat} {K : zK} {L : List Nat} {f : Nat → va_E} {a q : Nat} {mc : Int32} (ha : a ∈ L) (hfa : f a = eS 0 [.int mc, .ref K.2.2.1, .int (nI 0)]) (hz : K.2.2.1 ∉ L) (hq : zAny L f q) : zMet l yJx4a65c_add_9ea2d cJx4a65c_add_9ea2d 2 (some .boolean) (zr 4 1 60 95) base K L f [.ref a, .ref q] (zQi base K (fun r L1 f1 => r = nI 1 ∧ ∃ x, x ∉ L ∧ L1 = L ++ [x] ∧ f1 = va_up (va_up f x (eO K 10 (va_up (fun _ => none) 0 (some q)))) a (eS 0 [.int (mc + 1), .ref x, .int (nI 1)]))) := by
  refine z_met (by decide) (Nat.le_of_ble_eq_true rfl) (fun p e s m below meth c ls hC hM hr hlk hnm hl => ?_)
  have hx := hC.1
  have hb := hC.2.1
  have hml := hC.2.2.1
  have hown := hC.2.2.2.1
  have hts := hC.2.2.2.2.1
  generalize hA : ([.ref a, .ref q] : List Value).toArray = args at hC ⊢
  generalize hQ : MQ _ _ _ _ _ _ _ = Q
  obtain ⟨locs, hlocs⟩ : ∃ z : List Loc, z = [] := ⟨_, rfl⟩
  obtain ⟨H, hH⟩ : ∃ z : Heap, z = s.heap := ⟨_, rfl⟩
  rw [← hlocs, ← hH] at hM ⊢
  have hl : lv_has ls 2 [(0, .ref a), (1, .ref q)] := hl
  refine lv_aload_n hx hb dJx4a65c_add_9ea2d_0 rfl (lv_at hl 0 rfl) ?_
  refine lv_dup hx hb dJx4a65c_add_9ea2d_1 rfl ?_
  refine z_get hC hM ha hfa zcl_Jx4a65c (by decide) zl_Jx4a65c_63 rfl dJx4a65c_add_9ea2d_2 ?_
  refine lv_iconst (v := nI 1) hx hb dJx4a65c_add_9ea2d_5 (by decide) ?_
  refine lv_iadd hx hb dJx4a65c_add_9ea2d_6 ?_
  refine z_put (fs' := [.int (mc + (nI 1)), .ref K.2.2.1, .int (nI 0)]) hC hM ha hfa zcl_Jx4a65c (by decide) zl_Jx4a65c_63 rfl rfl (by rfl) (Nat.le_of_ble_eq_true rfl) rfl dJx4a65c_add_9ea2d_7 (fun H locs hM => ?_)
  obtain ⟨f_1, ef_1⟩ : ∃ z9, z9 = va_up f a (eS 0 [.int (mc + (nI 1)), .ref K.2.2.1, .int (nI 0)]) := ⟨_, rfl⟩
  rw [← ef_1] at hM
  have hF_2 : f_1 a = eS 0 [.int (mc + (nI 1)), .ref K.2.2.1, .int (nI 0)] := by rw [ef_1]; exact va_up_self _ _ _
  refine lv_aload_n hx hb dJx4a65c_add_9ea2d_10 rfl (lv_at hl 0 rfl) ?_
  refine lv_aload_n hx hb dJx4a65c_add_9ea2d_11 rfl (lv_at hl 1 rfl) ?_
  refine lv_aload_n hx hb dJx4a65c_add_9ea2d_12 rfl (lv_at hl 0 rfl) ?_
  refine z_get hC hM ha hF_2 zcl_Jx4a65c (by decide) zl_Jx4a65c_9 rfl dJx4a65c_add_9ea2d_13 ?_
  refine lv_aload_n hx hb dJx4a65c_add_9ea2d_16 rfl (lv_at hl 0 rfl) ?_
  refine z_get hC hM ha hF_2 zcl_Jx4a65c (by decide) zl_Jx4a65c_48 rfl dJx4a65c_add_9ea2d_17 ?_
  refine z_callv (z_runV hC hM (c_add3_0 ha hF_2 hz (z_anyObj hq hfa ef_1)) zy_Jx4a65c_add_72be8 zm_Jx4a65c_131 ha hF_2 zcl_Jx4a65c rfl rfl rfl hl.1 (Nat.le_of_ble_eq_true rfl) ⟨by decide, by decide⟩ ⟨by decide, by decide⟩ dJx4a65c_add_9ea2d_20) hM (fun L1 f1 H locs hp hM => ?_)
  obtain ⟨q_20, hq_20, rfl, rfl⟩ := hp
  obtain ⟨f_3, ef_3⟩ : ∃ z9, z9 = va_up f_1 q_20 (eO K 10 (va_up (fun _ => none) 0 (some q))) := ⟨_, rfl⟩
  rw [← ef_3] at hM
  have hN_6 : a ≠ q_20 := fun h => hq_20 (h ▸ ha)
  have hL_4 : a ∈ L ++ [q_20] := List.mem_append_left _ ha
  have hF_5 : f_3 a = eS 0 [.int (mc + (nI 1)), .ref K.2.2.1, .int (nI 0)] := by rw [ef_3]; exact (va_up_ne _ _ hN_6).trans hF_2
  have hL_7 : q_20 ∈ L ++ [q_20] := List.mem_append_right _ List.mem_cons_self
  have hF_8 : f_3 q_20 = eO K 10 (va_up (fun _ => none) 0 (some q)) := by rw [ef_3]; exact va_up_self _ _ _
  obtain ⟨f_9, ef_9⟩ : ∃ z9, z9 = va_up f_3 a (eS 0 [.int (mc + nI 1), .ref q_20, .int (nI 1)]) := ⟨_, rfl⟩
  rw [← ef_9] at hM
  have hF_10 : f_9 a = eS 0 [.int (mc + nI 1), .ref q_20, .int (nI 1)] := by rw [ef_9]; exact va_up_self _ _ _
  have hF_11 : f_9 q_20 = eO K 10 (va_up (fun _ => none) 0 (some q)) := by rw [ef_9]; exact (va_up_ne _ _ (Ne.symm hN_6)).trans hF_8
  refine lv_iconst (v := nI 1) hx hb dJx4a65c_add_9ea2d_23 (by decide) ?_
  rw [← hQ]
  exact z_iret hC hM hr hlk rfl (by decide) (by decide) ⟨rfl, q_20, hq_20, rfl, (by rw [ef_9, ef_3, ef_1, up_3 _ hN_6]; rfl)⟩ dJx4a65c_add_9ea2d_24
set_option maxHeartbeats 400000 in
set_option maxRecDepth 100000 in
theorem c_add_1 {l : Launch} {base : Nat} {K : zK} {L : List Nat} {f : Nat → va_E} {a ee n cap q : Nat} {mc : Int32} {arr : Nat → Option Nat} (ha : a ∈ L) (hfa : f a = eS 0 [.int mc, .ref ee, .int (nI n)]) (he : ee ∈ L) (hfe : f ee = eO K cap arr) (hae : a ≠ ee) (hq : zAny L f q) (hn : n = cap) (hc1 : 10 ≤ cap) (hc2 : cap ≤ 40) (hel : ∀ i, i < cap → ∀ y, arr i = some y → zAny L f y) : zMet l yJx4a65c_add_9ea2d cJx4a65c_add_9ea2d 2 (some .boolean) (zr 7 1 60 175) base K L f [.ref a, .ref q] (zQi base K (fun r L1 f1 => r = nI 1 ∧ ∃ x, x ∉ L ∧ L1 = L ++ [x] ∧ f1 = va_up (va_up f x (eO K (cap + cap / 2) (va_up (va_cpy arr (fun _ => none) 0 0 cap) n (some q)))) a (eS 0 [.int (mc + 1), .ref x, .int (nI (n + 1))]))) := by
  refine z_met (by decide) (Nat.le_of_ble_eq_true rfl) (fun p e s m below meth c ls hC hM hr hlk hnm hl => ?_)
  have hx := hC.1
  have hb := hC.2.1
  have hml := hC.2.2.1
  have hown := hC.2.2.2.1
  have hts := hC.2.2.2.2.1
  generalize hA : ([.ref a, .ref q] : List Value).toArray = args at hC ⊢
  generalize hQ : MQ _ _ _ _ _ _ _ = Q
  obtain ⟨locs, hlocs⟩ : ∃ z : List Loc, z = [] := ⟨_, rfl⟩
  obtain ⟨H, hH⟩ : ∃ z : Heap, z = s.heap := ⟨_, rfl⟩
  rw [← hlocs, ← hH] at hM ⊢
  have hl : lv_has ls 2 [(0, .ref a), (1, .ref q)] := hl
  refine lv_aload_n hx hb dJx4a65c_add_9ea2d_0 rfl (lv_at hl 0 rfl) ?_
  refine lv_dup hx hb dJx4a65c_add_9ea2d_1 rfl ?_
  refine z_get hC hM ha hfa zcl_Jx4a65c (by decide) zl_Jx4a65c_63 rfl dJx4a65c_add_9ea2d_2 ?_
  refine lv_iconst (v := nI 1) hx hb dJx4a65c_add_9ea2d_5 (by decide) ?_
  refine lv_iadd hx hb dJx4a65c_add_9ea2d_6 ?_
  refine z_put (fs' := [.int (mc + (nI 1)), .ref ee, .int (nI n)]) hC hM ha hfa zcl_Jx4a65c (by decide) zl_Jx4a65c_63 rfl rfl (by rfl) (Nat.le_of_ble_eq_true rfl) rfl dJx4a65c_add_9ea2d_7 (fun H locs hM => ?_)
  obtain ⟨f_1, ef_1⟩ : ∃ z9, z9 = va_up f a (eS 0 [.int (mc + (nI 1)), .ref ee, .int (nI n)]) := ⟨_, rfl⟩
  rw [← ef_1] at hM
  have hF_2 : f_1 a = eS 0 [.int (mc + (nI 1)), .ref ee, .int (nI n)] := by rw [ef_1]; exact va_up_self _ _ _
  have hF_3 : f_1 ee = eO K cap arr := by rw [ef_1]; exact (va_up_ne _ _ (Ne.symm hae)).trans hfe
  refine lv_aload_n hx hb dJx4a65c_add_9ea2d_10 rfl (lv_at hl 0 rfl) ?_
  refine lv_aload_n hx hb dJx4a65c_add_9ea2d_11 rfl (lv_at hl 1 rfl) ?_
  refine lv_aload_n hx hb dJx4a65c_add_9ea2d_12 rfl (lv_at hl 0 rfl) ?_
  refine z_get hC hM ha hF_2 zcl_Jx4a65c (by decide) zl_Jx4a65c_9 rfl dJx4a65c_add_9ea2d_13 ?_
  refine lv_aload_n hx hb dJx4a65c_add_9ea2d_16 rfl (lv_at hl 0 rfl) ?_
  refine z_get hC hM ha hF_2 zcl_Jx4a65c (by decide) zl_Jx4a65c_48 rfl dJx4a65c_add_9ea2d_17 ?_
  refine z_callv (z_runV hC hM (c_add3_1 ha hF_2 he hF_3 hae (z_anyObj hq hfa ef_1) hn hc1 hc2 (fun i hi y hy => z_anyObj (hel i hi y hy) hfa ef_1)) zy_Jx4a65c_add_72be8 zm_Jx4a65c_131 ha hF_2 zcl_Jx4a65c rfl rfl rfl hl.1 (Nat.le_of_ble_eq_true rfl) ⟨by decide, by decide⟩ ⟨by decide, by decide⟩ dJx4a65c_add_9ea2d_20) hM (fun L1 f1 H locs hp hM => ?_)
  obtain ⟨q_20, hq_20, rfl, rfl⟩ := hp
  obtain ⟨f_4, ef_4⟩ : ∃ z9, z9 = va_up f_1 q_20 (eO K (cap + cap / 2) (va_up (va_cpy arr (fun _ => none) 0 0 cap) n (some q))) := ⟨_, rfl⟩
  rw [← ef_4] at hM
  have hN_7 : a ≠ q_20 := fun h => hq_20 (h ▸ ha)
  have hL_5 : a ∈ L ++ [q_20] := List.mem_append_left _ ha
  have hF_6 : f_4 a = eS 0 [.int (mc + (nI 1)), .ref ee, .int (nI n)] := by rw [ef_4]; exact (va_up_ne _ _ hN_7).trans hF_2
  have hN_10 : ee ≠ q_20 := fun h => hq_20 (h ▸ he)
  have hL_8 : ee ∈ L ++ [q_20] := List.mem_append_left _ he
  have hF_9 : f_4 ee = eO K cap arr := by rw [ef_4]; exact (va_up_ne _ _ hN_10).trans hF_3
  have hL_11 : q_20 ∈ L ++ [q_20] := List.mem_append_right _ List.mem_cons_self
  have hF_12 : f_4 q_20 = eO K (cap + cap / 2) (va_up (va_cpy arr (fun _ => none) 0 0 cap) n (some q)) := by rw [ef_4]; exact va_up_self _ _ _
  obtain ⟨f_13, ef_13⟩ : ∃ z9, z9 = va_up f_4 a (eS 0 [.int (mc + nI 1), .ref q_20, .int (nI (n + 1))]) := ⟨_, rfl⟩
  rw [← ef_13] at hM
  have hF_14 : f_13 a = eS 0 [.int (mc + nI 1), .ref q_20, .int (nI (n + 1))] := by rw [ef_13]; exact va_up_self _ _ _
  have hF_15 : f_13 ee = eO K cap arr := by rw [ef_13]; exact (va_up_ne _ _ (Ne.symm hae)).trans hF_9
  have hF_16 : f_13 q_20 = eO K (cap + cap / 2) (va_up (va_cpy arr (fun _ => none) 0 0 cap) n (some q)) := by rw [ef_13]; exact (va_up_ne _ _ (Ne.symm hN_7)).trans hF_12
  refine lv_iconst (v := nI 1) hx hb dJx4a65c_add_9ea2d_23 (by decide) ?_
  rw [← hQ]
  exact z_iret hC hM hr hlk rfl (by decide) (by decide) ⟨rfl, q_20, hq_20, rfl, (by rw [ef_13, ef_4, ef_1, up_3 _ hN_7]; rfl)⟩ dJx4a65c_add_9ea2d_24
set_option maxHeartbeats 400000 in
set_option maxRecDepth 100000 in
theorem c_acinit {l : Launch} {base : Nat} {K : zK} {L : List Nat} {f : Nat → va_E} {a : Nat} (ha : a ∈ L) : zMet l yJxa1e45_init_da8c8 cJxa1e45_init_da8c8 1 (none) (zr 1 0 0 12) base K L f [.ref a] (zFv base K L f) := by
  refine z_met (by decide) (Nat.le_of_ble_eq_true rfl) (fun p e s m below meth c ls hC hM hr hlk hnm hl => ?_)
  have hx := hC.1
  have hb := hC.2.1
  have hml := hC.2.2.1
  have hown := hC.2.2.2.1
  have hts := hC.2.2.2.2.1
  generalize hA : ([.ref a] : List Value).toArray = args at hC ⊢
  generalize hQ : MQ _ _ _ _ _ _ _ = Q
  obtain ⟨locs, hlocs⟩ : ∃ z : List Loc, z = [] := ⟨_, rfl⟩
  obtain ⟨H, hH⟩ : ∃ z : Heap, z = s.heap := ⟨_, rfl⟩
  rw [← hlocs, ← hH] at hM ⊢
  have hl : lv_has ls 1 [(0, .ref a)] := hl
  refine lv_aload_n hx hb dJxa1e45_init_da8c8_0 rfl (lv_at hl 0 rfl) ?_
  refine z_objInit hC zm_Jxa1e45_1 hl.1 (by decide) (Nat.le_of_ble_eq_true rfl) dJxa1e45_init_da8c8_1 ?_
  rw [← hQ]
  exact z_vret hC hM hr hlk (by decide) (by decide) ⟨rfl, rfl⟩ dJxa1e45_init_da8c8_4
set_option maxHeartbeats 400000 in
set_option maxRecDepth 100000 in
theorem c_alinit {l : Launch} {base : Nat} {K : zK} {L : List Nat} {f : Nat → va_E} {a n : Nat} {mc : Int32} (ha : a ∈ L) (hfa : f a = eS 0 [.int mc, .null, .int (nI n)]) : zMet l yJxc12de_init_da8c8 cJxc12de_init_da8c8 1 (none) (zr 2 0 0 32) base K L f [.ref a] (zFv base K L (va_up f a (eS 0 [.int (nI 0), .null, .int (nI n)]))) := by
  refine z_met (by decide) (Nat.le_of_ble_eq_true rfl) (fun p e s m below meth c ls hC hM hr hlk hnm hl => ?_)
  have hx := hC.1
  have hb := hC.2.1
  have hml := hC.2.2.1
  have hown := hC.2.2.2.1
  have hts := hC.2.2.2.2.1
  generalize hA : ([.ref a] : List Value).toArray = args at hC ⊢
  generalize hQ : MQ _ _ _ _ _ _ _ = Q
  obtain ⟨locs, hlocs⟩ : ∃ z : List Loc, z = [] := ⟨_, rfl⟩
  obtain ⟨H, hH⟩ : ∃ z : Heap, z = s.heap := ⟨_, rfl⟩
  rw [← hlocs, ← hH] at hM ⊢
  have hl : lv_has ls 1 [(0, .ref a)] := hl
  refine lv_aload_n hx hb dJxc12de_init_da8c8_0 rfl (lv_at hl 0 rfl) ?_
  refine z_fcallv (z_runI hC hM (c_acinit ha) zy_Jxa1e45_init_da8c8 zm_Jxc12de_1 rfl rfl hl.1 (Nat.le_of_ble_eq_true rfl) ⟨by decide, by decide⟩ ⟨by decide, by decide⟩ dJxc12de_init_da8c8_1) hM (fun H locs hM => ?_)
  refine lv_aload_n hx hb dJxc12de_init_da8c8_4 rfl (lv_at hl 0 rfl) ?_
  refine lv_iconst (v := nI 0) hx hb dJxc12de_init_da8c8_5 (by decide) ?_
  refine z_put (fs' := [.int (nI 0), .null, .int (nI n)]) hC hM ha hfa zcl_Jx4a65c (by decide) zl_Jxc12de_7 rfl rfl (by rfl) (Nat.le_of_ble_eq_true rfl) rfl dJxc12de_init_da8c8_6 (fun H locs hM => ?_)
  obtain ⟨f_1, ef_1⟩ : ∃ z9, z9 = va_up f a (eS 0 [.int (nI 0), .null, .int (nI n)]) := ⟨_, rfl⟩
  rw [← ef_1] at hM
  have hF_2 : f_1 a = eS 0 [.int (nI 0), .null, .int (nI n)] := by rw [ef_1]; exact va_up_self _ _ _
  rw [← hQ]
  exact z_vret hC hM hr hlk (by decide) (by decide) ⟨rfl, (by rw [ef_1])⟩ dJxc12de_init_da8c8_9
set_option maxHeartbeats 400000 in
set_option maxRecDepth 100000 in
theorem c_linit {l : Launch} {base : Nat} {K : zK} {L : List Nat} {f : Nat → va_E} {a n : Nat} {mc : Int32} (ha : a ∈ L) (hfa : f a = eS 0 [.int mc, .null, .int (nI n)]) : zMet l yJx4a65c_init_da8c8 cJx4a65c_init_da8c8 1 (none) (zr 3 0 0 52) base K L f [.ref a] (zFv base K L (va_up f a (eS 0 [.int (nI 0), .ref K.2.2.1, .int (nI n)]))) := by
  refine z_met (by decide) (Nat.le_of_ble_eq_true rfl) (fun p e s m below meth c ls hC hM hr hlk hnm hl => ?_)
  have hx := hC.1
  have hb := hC.2.1
  have hml := hC.2.2.1
  have hown := hC.2.2.2.1
  have hts := hC.2.2.2.2.1
  generalize hA : ([.ref a] : List Value).toArray = args at hC ⊢
  generalize hQ : MQ _ _ _ _ _ _ _ = Q
  obtain ⟨locs, hlocs⟩ : ∃ z : List Loc, z = [] := ⟨_, rfl⟩
  obtain ⟨H, hH⟩ : ∃ z : Heap, z = s.heap := ⟨_, rfl⟩
  rw [← hlocs, ← hH] at hM ⊢
  have hl : lv_has ls 1 [(0, .ref a)] := hl
  refine lv_aload_n hx hb dJx4a65c_init_da8c8_0 rfl (lv_at hl 0 rfl) ?_
  refine z_fcallv (z_runI hC hM (c_alinit ha hfa) zy_Jxc12de_init_da8c8 zm_Jx4a65c_1 rfl rfl hl.1 (Nat.le_of_ble_eq_true rfl) ⟨by decide, by decide⟩ ⟨by decide, by decide⟩ dJx4a65c_init_da8c8_1) hM (fun H locs hM => ?_)
  obtain ⟨f_1, ef_1⟩ : ∃ z9, z9 = va_up f a (eS 0 [.int (nI 0), .null, .int (nI n)]) := ⟨_, rfl⟩
  rw [← ef_1] at hM
  have hF_2 : f_1 a = eS 0 [.int (nI 0), .null, .int (nI n)] := by rw [ef_1]; exact va_up_self _ _ _
  refine lv_aload_n hx hb dJx4a65c_init_da8c8_4 rfl (lv_at hl 0 rfl) ?_
  refine z_gets hC hM zl_Jx4a65c_39 dJx4a65c_init_da8c8_5 ?_
  refine z_put (fs' := [.int (nI 0), .ref K.2.2.1, .int (nI n)]) hC hM ha hF_2 zcl_Jx4a65c (by decide) zl_Jx4a65c_9 rfl rfl (by rfl) (Nat.le_of_ble_eq_true rfl) rfl dJx4a65c_init_da8c8_8 (fun H locs hM => ?_)
  obtain ⟨f_3, ef_3⟩ : ∃ z9, z9 = va_up f_1 a (eS 0 [.int (nI 0), .ref K.2.2.1, .int (nI n)]) := ⟨_, rfl⟩
  rw [← ef_3] at hM
  have hF_4 : f_3 a = eS 0 [.int (nI 0), .ref K.2.2.1, .int (nI n)] := by rw [ef_3]; exact va_up_self _ _ _
  rw [← hQ]
  exact z_vret hC hM hr hlk (by decide) (by decide) ⟨rfl, (by rw [ef_3, ef_1, up_up])⟩ dJx4a65c_init_da8c8_11
end
section
/-! CONTRACTS of Nights, Planet, Star, World, Paper (rows laid by wip/whole/nights.py) -/
set_option maxHeartbeats 400000 in
set_option maxRecDepth 100000 in
theorem c_fmod {l : Launch} {base : Nat} {K : zK} {L : List Nat} {f : Nat → va_E} {h ph per : Nat} (hh : h < 1000) (hp : ph < per) (hp2 : per ≤ 60) : zMet l yJ9_floorMod_7cf53 cJ9_floorMod_7cf53 3 (some .int) (zr 0 0 0 0) base K L f [.int ((nI h - nI ph)), .int (nI per)] (zFi base K (nI ((h + per - ph) % per)) L f) := by
  refine z_metF (by decide +kernel) (Nat.le_of_ble_eq_true rfl) (fun p e s m below meth c ls hC hM hr hlk hnm hl => ?_)
  have hx := hC.1
  have hb := hC.2.1
  have hml := hC.2.2.1
  have hown := hC.2.2.2.1
  have hts := hC.2.2.2.2.1
  generalize hA : ([.int ((nI h - nI ph)), .int (nI per)] : List Value).toArray = args at hC ⊢
  generalize hQ : MQ _ _ _ _ _ _ _ = Q
  obtain ⟨locs, hlocs⟩ : ∃ z : List Loc, z = [] := ⟨_, rfl⟩
  obtain ⟨H, hH⟩ : ∃ z : Heap, z = s.heap := ⟨_, rfl⟩
  rw [← hlocs, ← hH] at hM ⊢
  have hl : lv_has ls 3 [(0, .int ((nI h - nI ph))), (1, .int (nI per))] := hl
  refine lv_iload_n hx hb dJ9_floorMod_7cf53_0 rfl (lv_at hl 0 rfl) ?_
  refine lv_iload_n hx hb dJ9_floorMod_7cf53_1 rfl (lv_at hl 1 rfl) ?_
  refine lv_irem hx hb dJ9_floorMod_7cf53_2 (nI_ne0 (by omega) (by omega)) ?_
  refine lv_istore_n (lv' := [(2, .int (((nI h - nI ph)) - ((nI h - nI ph)) / (nI per) * (nI per))), (0, .int ((nI h - nI ph))), (1, .int (nI per))]) hx hb dJ9_floorMod_7cf53_3 rfl hl (by decide) rfl (fun ls hl => ?_)
  refine lv_iload_n hx hb dJ9_floorMod_7cf53_4 rfl (lv_at hl 1 rfl) ?_
  refine lv_iload_n hx hb dJ9_floorMod_7cf53_5 rfl (lv_at hl 2 rfl) ?_
  refine lv_ixor hx hb dJ9_floorMod_7cf53_6 ?_
  refine z_if_ge (tgt := 18) hx hb rfl dJ9_floorMod_7cf53_7 (by decide) (fun c_7 => ?_) (fun c_7 => ?_)
  · refine lv_iload_n hx hb dJ9_floorMod_7cf53_18 rfl (lv_at hl 0 rfl) ?_
    rw [← hQ]
    exact z_iret hC hM hr hlk rfl (by decide) (by decide) ⟨rm_pos hh hp hp2 (Nat.not_lt.mp (mt (sub_xor hh hp hp2).mpr (Int.not_lt.mpr c_7))), rfl, rfl⟩ dJ9_floorMod_7cf53_19
  · refine lv_iload_n hx hb dJ9_floorMod_7cf53_10 rfl (lv_at hl 0 rfl) ?_
    refine z_if_eq (tgt := 18) hx hb rfl dJ9_floorMod_7cf53_11 (by decide) (fun c_11 => ?_) (fun c_11 => ?_)
    · exact absurd c_11 (by rw [(rm_neg hh hp hp2 ((sub_xor hh hp hp2).mp c_7)).1]; have := (sub_xor hh hp hp2).mp c_7; omega)
    · refine lv_iload_n hx hb dJ9_floorMod_7cf53_14 rfl (lv_at hl 0 rfl) ?_
      refine lv_iload_n hx hb dJ9_floorMod_7cf53_15 rfl (lv_at hl 2 rfl) ?_
      refine lv_iadd hx hb dJ9_floorMod_7cf53_16 ?_
      rw [← hQ]
      exact z_iret hC hM hr hlk rfl (by decide) (by decide) ⟨(rm_neg hh hp hp2 ((sub_xor hh hp hp2).mp c_7)).2, rfl, rfl⟩ dJ9_floorMod_7cf53_17
set_option maxHeartbeats 400000 in
set_option maxRecDepth 100000 in
theorem c_lightOf {l : Launch} {base : Nat} {K : zK} {L : List Nat} {f : Nat → va_E} {o lo kc : Nat} {g : Nat → UInt64} (ho : o ∈ L) (hfo : f o = eS 2 [.ref lo, .int (nI kc)]) (hlo : lo ∈ L) (hfl : f lo = eD K 1000 g) {h : Nat} (hh : h < 1000) : zMet l yX1_lightOf cX1_lightOf 2 (some .double) (zr 0 0 0 0) base K L f [.ref o, .int (nI h)] (zFd base K (g h) L f) := by
  refine z_met (by decide) (Nat.le_of_ble_eq_true rfl) (fun p e s m below meth c ls hC hM hr hlk hnm hl => ?_)
  have hx := hC.1
  have hb := hC.2.1
  have hml := hC.2.2.1
  have hown := hC.2.2.2.1
  have hts := hC.2.2.2.2.1
  generalize hA : ([.ref o, .int (nI h)] : List Value).toArray = args at hC ⊢
  generalize hQ : MQ _ _ _ _ _ _ _ = Q
  obtain ⟨locs, hlocs⟩ : ∃ z : List Loc, z = [] := ⟨_, rfl⟩
  obtain ⟨H, hH⟩ : ∃ z : Heap, z = s.heap := ⟨_, rfl⟩
  rw [← hlocs, ← hH] at hM ⊢
  have hl : lv_has ls 2 [(0, .ref o), (1, .int (nI h))] := hl
  refine lv_iload_n hx hb dX1_lightOf_0 rfl (lv_at hl 1 rfl) ?_
  refine z_if_lt (tgt := 22) hx hb (nI_toInt (by omega)) dX1_lightOf_1 (by decide) (fun c_1 => ?_) (fun c_1 => ?_)
  · exact absurd c_1 (by omega)
  · refine lv_iload_n hx hb dX1_lightOf_4 rfl (lv_at hl 1 rfl) ?_
    refine lv_aload_n hx hb dX1_lightOf_5 rfl (lv_at hl 0 rfl) ?_
    refine z_get hC hM ho hfo zcl_X1 (by decide) zl_X1_9 rfl dX1_lightOf_6 ?_
    refine z_alen (n := 1000) 0 hC hM hlo hfl rfl rfl dX1_lightOf_9 ?_
    refine z_icmp_ge (tgt := 22) hx hb (nI_toInt (by omega)) (nI_toInt (by decide)) dX1_lightOf_10 (by decide) (fun c_10 => ?_) (fun c_10 => ?_)
    · exact absurd c_10 (by omega)
    · refine lv_aload_n hx hb dX1_lightOf_13 rfl (lv_at hl 0 rfl) ?_
      refine z_get hC hM ho hfo zcl_X1 (by decide) zl_X1_9 rfl dX1_lightOf_14 ?_
      refine lv_iload_n hx hb dX1_lightOf_17 rfl (lv_at hl 1 rfl) ?_
      refine z_dald hC hM hlo hfl (by omega) (by omega) dX1_lightOf_18 ?_
      refine lv_goto (tgt := 23) hx hb dX1_lightOf_19 (by decide) ?_
      rw [← hQ]
      exact z_dret hC hM hr hlk (by decide) (by decide) ⟨rfl, rfl, rfl⟩ dX1_lightOf_23
set_option maxHeartbeats 400000 in
set_option maxRecDepth 100000 in
theorem c_hasLight {l : Launch} {base : Nat} {K : zK} {L : List Nat} {f : Nat → va_E} {o lo kc : Nat} {g : Nat → UInt64} (ho : o ∈ L) (hfo : f o = eS 2 [.ref lo, .int (nI kc)]) (hlo : lo ∈ L) (hfl : f lo = eD K 1000 g) {h : Nat} (hh : h < 1000) (hk : 0 < dc (g h) FP.dconst0 ↔ g h ≠ 0) : zMet l yX1_hasLight cX1_hasLight 2 (some .boolean) (zr 1 0 0 21) base K L f [.ref o, .int (nI h)] (zFi base K (zb (g h ≠ 0)) L f) := by
  refine z_met (by decide) (Nat.le_of_ble_eq_true rfl) (fun p e s m below meth c ls hC hM hr hlk hnm hl => ?_)
  have hx := hC.1
  have hb := hC.2.1
  have hml := hC.2.2.1
  have hown := hC.2.2.2.1
  have hts := hC.2.2.2.2.1
  generalize hA : ([.ref o, .int (nI h)] : List Value).toArray = args at hC ⊢
  generalize hQ : MQ _ _ _ _ _ _ _ = Q
  obtain ⟨locs, hlocs⟩ : ∃ z : List Loc, z = [] := ⟨_, rfl⟩
  obtain ⟨H, hH⟩ : ∃ z : Heap, z = s.heap := ⟨_, rfl⟩
  rw [← hlocs, ← hH] at hM ⊢
  have hl : lv_has ls 2 [(0, .ref o), (1, .int (nI h))] := hl
  refine lv_aload_n hx hb dX1_hasLight_0 rfl (lv_at hl 0 rfl) ?_
  refine lv_iload_n hx hb dX1_hasLight_1 rfl (lv_at hl 1 rfl) ?_
  refine z_fcalld (z_runV hC hM (c_lightOf ho hfo hlo hfl hh) zy_X1_lightOf zm_X1_24 ho hfo zcl_X1 rfl rfl rfl hl.1 (Nat.le_of_ble_eq_true rfl) ⟨by decide, by decide⟩ ⟨by decide, by decide⟩ dX1_hasLight_2) hM (fun H locs hM => ?_)
  refine lv_dconst0 hx hb dX1_hasLight_5 ?_
  refine lv_dcmp hx hb dX1_hasLight_6 ?_
  refine z_if_le (tgt := 14) hx hb (dc_l _ _) dX1_hasLight_7 (by decide) (fun c_7 => ?_) (fun c_7 => ?_)
  · refine lv_iconst (v := nI 0) hx hb dX1_hasLight_14 (by decide) ?_
    rw [← hQ]
    exact z_iret hC hM hr hlk rfl (by decide) (by decide) ⟨(zb_f (fun z => absurd (hk.mpr z) (by omega))), rfl, rfl⟩ dX1_hasLight_15
  · refine lv_iconst (v := nI 1) hx hb dX1_hasLight_10 (by decide) ?_
    refine lv_goto (tgt := 15) hx hb dX1_hasLight_11 (by decide) ?_
    rw [← hQ]
    exact z_iret hC hM hr hlk rfl (by decide) (by decide) ⟨(zb_t (hk.mp c_7)), rfl, rfl⟩ dX1_hasLight_15
set_option maxHeartbeats 400000 in
set_option maxRecDepth 100000 in
theorem c_keep {l : Launch} {base : Nat} {K : zK} {L : List Nat} {f : Nat → va_E} {o lo kc : Nat} {g : Nat → UInt64} (ho : o ∈ L) (hfo : f o = eS 2 [.ref lo, .int (nI kc)]) (hlo : lo ∈ L) (hfl : f lo = eD K 1000 g) (hn : o ≠ lo) {h : Nat} {x : UInt64} (hh : h < 1000) : zMet l yX1_keep cX1_keep 4 (none) (zr 0 0 0 0) base K L f [.ref o, .int (nI h), .double x] (zFv base K L (va_up (va_up f lo (eD K 1000 (va_up g h x))) o (eS 2 [.ref lo, .int (nI (kc + 1))]))) := by
  refine z_met (by decide) (Nat.le_of_ble_eq_true rfl) (fun p e s m below meth c ls hC hM hr hlk hnm hl => ?_)
  have hx := hC.1
  have hb := hC.2.1
  have hml := hC.2.2.1
  have hown := hC.2.2.2.1
  have hts := hC.2.2.2.2.1
  generalize hA : ([.ref o, .int (nI h), .double x] : List Value).toArray = args at hC ⊢
  generalize hQ : MQ _ _ _ _ _ _ _ = Q
  obtain ⟨locs, hlocs⟩ : ∃ z : List Loc, z = [] := ⟨_, rfl⟩
  obtain ⟨H, hH⟩ : ∃ z : Heap, z = s.heap := ⟨_, rfl⟩
  rw [← hlocs, ← hH] at hM ⊢
  have hl : lv_has ls 4 [(0, .ref o), (1, .int (nI h)), (2, .double x)] := hl
  refine lv_iload_n hx hb dX1_keep_0 rfl (lv_at hl 1 rfl) ?_
  refine z_if_lt (tgt := 30) hx hb (nI_toInt (by omega)) dX1_keep_1 (by decide) (fun c_1 => ?_) (fun c_1 => ?_)
  · exact absurd c_1 (by omega)
  · refine lv_iload_n hx hb dX1_keep_4 rfl (lv_at hl 1 rfl) ?_
    refine lv_aload_n hx hb dX1_keep_5 rfl (lv_at hl 0 rfl) ?_
    refine z_get hC hM ho hfo zcl_X1 (by decide) zl_X1_9 rfl dX1_keep_6 ?_
    refine z_alen (n := 1000) 0 hC hM hlo hfl rfl rfl dX1_keep_9 ?_
    refine z_icmp_ge (tgt := 30) hx hb (nI_toInt (by omega)) (nI_toInt (by decide)) dX1_keep_10 (by decide) (fun c_10 => ?_) (fun c_10 => ?_)
    · exact absurd c_10 (by omega)
    · refine lv_aload_n hx hb dX1_keep_13 rfl (lv_at hl 0 rfl) ?_
      refine z_get hC hM ho hfo zcl_X1 (by decide) zl_X1_9 rfl dX1_keep_14 ?_
      refine lv_iload_n hx hb dX1_keep_17 rfl (lv_at hl 1 rfl) ?_
      refine lv_dload_n hx hb dX1_keep_18 rfl (lv_at hl 2 rfl) ?_
      refine z_dast hC hM hlo hfl (by omega) (by omega) dX1_keep_19 (fun H locs hM => ?_)
      obtain ⟨f_1, ef_1⟩ : ∃ z9, z9 = va_up f lo (eD K 1000 (va_up g h x)) := ⟨_, rfl⟩
      rw [← ef_1] at hM
      have hF_2 : f_1 o = eS 2 [.ref lo, .int (nI kc)] := by rw [ef_1]; exact (va_up_ne _ _ hn).trans hfo
      have hF_3 : f_1 lo = eD K 1000 (va_up g h x) := by rw [ef_1]; exact va_up_self _ _ _
      refine lv_aload_n hx hb dX1_keep_20 rfl (lv_at hl 0 rfl) ?_
      refine lv_dup hx hb dX1_keep_21 rfl ?_
      refine z_get hC hM ho hF_2 zcl_X1 (by decide) zl_X1_15 rfl dX1_keep_22 ?_
      refine lv_iconst (v := nI 1) hx hb dX1_keep_25 (by decide) ?_
      refine z_iadd hx hb dX1_keep_26 ?_
      refine z_put (fs' := [.ref lo, .int (nI (kc + 1))]) hC hM ho hF_2 zcl_X1 (by decide) zl_X1_15 rfl rfl (by rfl) (Nat.le_of_ble_eq_true rfl) rfl dX1_keep_27 (fun H locs hM => ?_)
      obtain ⟨f_4, ef_4⟩ : ∃ z9, z9 = va_up f_1 o (eS 2 [.ref lo, .int (nI (kc + 1))]) := ⟨_, rfl⟩
      rw [← ef_4] at hM
      have hF_5 : f_4 o = eS 2 [.ref lo, .int (nI (kc + 1))] := by rw [ef_4]; exact va_up_self _ _ _
      have hF_6 : f_4 lo = eD K 1000 (va_up g h x) := by rw [ef_4]; exact (va_up_ne _ _ (Ne.symm hn)).trans hF_3
      rw [← hQ]
      exact z_vret hC hM hr hlk (by decide) (by decide) ⟨rfl, (by rw [ef_4, ef_1])⟩ dX1_keep_30
set_option maxHeartbeats 400000 in
set_option maxRecDepth 100000 in
theorem c_ninit {l : Launch} {base : Nat} {K : zK} {L : List Nat} {f : Nat → va_E} {o : Nat} (ho : o ∈ L) (hfo : f o = eS 2 [.null, .int (nI 0)]) : zMet l yX1_init cX1_init 1 (none) (zr 1 1 1000 12) base K L f [.ref o] (zQv base K (fun L1 f1 => ∃ q, q ∉ L ∧ L1 = L ++ [q] ∧ f1 = va_up (va_up f q (eD K 1000 (fun _ => 0))) o (eS 2 [.ref q, .int (nI 0)]))) := by
  refine z_met (by decide) (Nat.le_of_ble_eq_true rfl) (fun p e s m below meth c ls hC hM hr hlk hnm hl => ?_)
  have hx := hC.1
  have hb := hC.2.1
  have hml := hC.2.2.1
  have hown := hC.2.2.2.1
  have hts := hC.2.2.2.2.1
  generalize hA : ([.ref o] : List Value).toArray = args at hC ⊢
  generalize hQ : MQ _ _ _ _ _ _ _ = Q
  obtain ⟨locs, hlocs⟩ : ∃ z : List Loc, z = [] := ⟨_, rfl⟩
  obtain ⟨H, hH⟩ : ∃ z : Heap, z = s.heap := ⟨_, rfl⟩
  rw [← hlocs, ← hH] at hM ⊢
  have hl : lv_has ls 1 [(0, .ref o)] := hl
  refine lv_aload_n hx hb dX1_init_0 rfl (lv_at hl 0 rfl) ?_
  refine z_objInit hC zm_X1_3 hl.1 (by decide) (Nat.le_of_ble_eq_true rfl) dX1_init_1 ?_
  refine lv_aload_n hx hb dX1_init_4 rfl (lv_at hl 0 rfl) ?_
  refine lv_sipush (v := nI 1000) hx hb dX1_init_5 (by decide) ?_
  refine z_newD hC hM zarr_double (by decide) (by decide) (by decide) dX1_init_8 (fun q_8 H hq_8 hM => ?_)
  obtain ⟨f_1, ef_1⟩ : ∃ z9, z9 = va_up f q_8 (eD K 1000 (fun _ => 0)) := ⟨_, rfl⟩
  rw [← ef_1] at hM
  have hN_4 : o ≠ q_8 := fun h => hq_8 (h ▸ ho)
  have hL_2 : o ∈ L ++ [q_8] := List.mem_append_left _ ho
  have hF_3 : f_1 o = eS 2 [.null, .int (nI 0)] := by rw [ef_1]; exact (va_up_ne _ _ hN_4).trans hfo
  have hL_5 : q_8 ∈ L ++ [q_8] := List.mem_append_right _ List.mem_cons_self
  have hF_6 : f_1 q_8 = eD K 1000 (fun _ => 0) := by rw [ef_1]; exact va_up_self _ _ _
  refine z_putF (fs' := [.ref q_8, .int (nI 0)]) hC hM hnm hL_2 hF_3 zcl_X1 (by decide) zl_X1_9 rfl rfl rfl (by rfl) (Nat.le_of_ble_eq_true rfl) rfl dX1_init_10 (fun H locs hM => ?_)
  obtain ⟨f_7, ef_7⟩ : ∃ z9, z9 = va_up f_1 o (eS 2 [.ref q_8, .int (nI 0)]) := ⟨_, rfl⟩
  rw [← ef_7] at hM
  have hF_8 : f_7 o = eS 2 [.ref q_8, .int (nI 0)] := by rw [ef_7]; exact va_up_self _ _ _
  have hF_9 : f_7 q_8 = eD K 1000 (fun _ => 0) := by rw [ef_7]; exact (va_up_ne _ _ (Ne.symm hN_4)).trans hF_6
  refine lv_aload_n hx hb dX1_init_13 rfl (lv_at hl 0 rfl) ?_
  refine lv_iconst (v := nI 0) hx hb dX1_init_14 (by decide) ?_
  refine z_put (fs' := [.ref q_8, .int (nI 0)]) hC hM hL_2 hF_8 zcl_X1 (by decide) zl_X1_15 rfl rfl (by rfl) (Nat.le_of_ble_eq_true rfl) rfl dX1_init_15 (fun H locs hM => ?_)
  obtain ⟨f_10, ef_10⟩ : ∃ z9, z9 = va_up f_7 o (eS 2 [.ref q_8, .int (nI 0)]) := ⟨_, rfl⟩
  rw [← ef_10] at hM
  have hF_11 : f_10 o = eS 2 [.ref q_8, .int (nI 0)] := by rw [ef_10]; exact va_up_self _ _ _
  have hF_12 : f_10 q_8 = eD K 1000 (fun _ => 0) := by rw [ef_10]; exact (va_up_ne _ _ (Ne.symm hN_4)).trans hF_9
  rw [← hQ]
  exact z_vret hC hM hr hlk (by decide) (by decide) ⟨q_8, hq_8, rfl, (by rw [ef_10, ef_7, ef_1, up_up])⟩ dX1_init_18
set_option maxHeartbeats 400000 in
set_option maxRecDepth 100000 in
theorem c_pinit {l : Launch} {base : Nat} {K : zK} {L : List Nat} {f : Nat → va_E} {o per ph len dep : Nat} (ho : o ∈ L) (hfo : f o = eS 4 [.int (nI 0), .int (nI 0), .int (nI 0), .double 0]) (hd : dep ≤ 1000) (hq : vf_n64 (quo dep)) : zMet l yX3_init cX3_init 5 (none) (zr 1 0 0 12) base K L f [.ref o, .int (nI per), .int (nI ph), .int (nI len), .int (nI dep)] (zFv base K L (va_up f o (eS 4 [.int (nI per), .int (nI ph), .int (nI len), .double (quo dep)]))) := by
  refine z_met (by decide) (Nat.le_of_ble_eq_true rfl) (fun p e s m below meth c ls hC hM hr hlk hnm hl => ?_)
  have hx := hC.1
  have hb := hC.2.1
  have hml := hC.2.2.1
  have hown := hC.2.2.2.1
  have hts := hC.2.2.2.2.1
  generalize hA : ([.ref o, .int (nI per), .int (nI ph), .int (nI len), .int (nI dep)] : List Value).toArray = args at hC ⊢
  generalize hQ : MQ _ _ _ _ _ _ _ = Q
  obtain ⟨locs, hlocs⟩ : ∃ z : List Loc, z = [] := ⟨_, rfl⟩
  obtain ⟨H, hH⟩ : ∃ z : Heap, z = s.heap := ⟨_, rfl⟩
  rw [← hlocs, ← hH] at hM ⊢
  have hl : lv_has ls 5 [(0, .ref o), (1, .int (nI per)), (2, .int (nI ph)), (3, .int (nI len)), (4, .int (nI dep))] := hl
  refine lv_aload_n hx hb dX3_init_0 rfl (lv_at hl 0 rfl) ?_
  refine z_objInit hC zm_X3_1 hl.1 (by decide) (Nat.le_of_ble_eq_true rfl) dX3_init_1 ?_
  refine lv_aload_n hx hb dX3_init_4 rfl (lv_at hl 0 rfl) ?_
  refine lv_iload_n hx hb dX3_init_5 rfl (lv_at hl 1 rfl) ?_
  refine z_putF (fs' := [.int (nI per), .int (nI 0), .int (nI 0), .double 0]) hC hM hnm ho hfo zcl_X3 (by decide) zl_X3_7 rfl rfl rfl (by rfl) (Nat.le_of_ble_eq_true rfl) rfl dX3_init_6 (fun H locs hM => ?_)
  obtain ⟨f_1, ef_1⟩ : ∃ z9, z9 = va_up f o (eS 4 [.int (nI per), .int (nI 0), .int (nI 0), .double 0]) := ⟨_, rfl⟩
  rw [← ef_1] at hM
  have hF_2 : f_1 o = eS 4 [.int (nI per), .int (nI 0), .int (nI 0), .double 0] := by rw [ef_1]; exact va_up_self _ _ _
  refine lv_aload_n hx hb dX3_init_9 rfl (lv_at hl 0 rfl) ?_
  refine lv_iload_n hx hb dX3_init_10 rfl (lv_at hl 2 rfl) ?_
  refine z_putF (fs' := [.int (nI per), .int (nI ph), .int (nI 0), .double 0]) hC hM hnm ho hF_2 zcl_X3 (by decide) zl_X3_13 rfl rfl rfl (by rfl) (Nat.le_of_ble_eq_true rfl) rfl dX3_init_11 (fun H locs hM => ?_)
  obtain ⟨f_3, ef_3⟩ : ∃ z9, z9 = va_up f_1 o (eS 4 [.int (nI per), .int (nI ph), .int (nI 0), .double 0]) := ⟨_, rfl⟩
  rw [← ef_3] at hM
  have hF_4 : f_3 o = eS 4 [.int (nI per), .int (nI ph), .int (nI 0), .double 0] := by rw [ef_3]; exact va_up_self _ _ _
  refine lv_aload_n hx hb dX3_init_14 rfl (lv_at hl 0 rfl) ?_
  refine lv_iload_n hx hb dX3_init_15 rfl (lv_at hl 3 rfl) ?_
  refine z_putF (fs' := [.int (nI per), .int (nI ph), .int (nI len), .double 0]) hC hM hnm ho hF_4 zcl_X3 (by decide) zl_X3_16 rfl rfl rfl (by rfl) (Nat.le_of_ble_eq_true rfl) rfl dX3_init_16 (fun H locs hM => ?_)
  obtain ⟨f_5, ef_5⟩ : ∃ z9, z9 = va_up f_3 o (eS 4 [.int (nI per), .int (nI ph), .int (nI len), .double 0]) := ⟨_, rfl⟩
  rw [← ef_5] at hM
  have hF_6 : f_5 o = eS 4 [.int (nI per), .int (nI ph), .int (nI len), .double 0] := by rw [ef_5]; exact va_up_self _ _ _
  refine lv_aload_n hx hb dX3_init_19 rfl (lv_at hl 0 rfl) ?_
  refine lv_sipush (v := nI 1000) hx hb dX3_init_20 (by decide) ?_
  refine lv_iload hx hb dX3_init_23 (lv_at hl 4 rfl) ?_
  refine z_isub hx hb (by omega) dX3_init_25 ?_
  refine lv_i2d hx hb dX3_init_26 ?_
  refine lv_ldc2d (v := 4652007308841189376) hx hb hown (hts _ zk_X3_19) dX3_init_27 ?_
  refine lv_ddiv hx hb dX3_init_30 hq ?_
  refine z_putF (fs' := [.int (nI per), .int (nI ph), .int (nI len), .double (FP.ddiv (FP.i2d (nI (1000 - dep))) 4652007308841189376)]) hC hM hnm ho hF_6 zcl_X3 (by decide) zl_X3_21 rfl rfl rfl (by rfl) (Nat.le_of_ble_eq_true rfl) rfl dX3_init_31 (fun H locs hM => ?_)
  obtain ⟨f_7, ef_7⟩ : ∃ z9, z9 = va_up f_5 o (eS 4 [.int (nI per), .int (nI ph), .int (nI len), .double (FP.ddiv (FP.i2d (nI (1000 - dep))) 4652007308841189376)]) := ⟨_, rfl⟩
  rw [← ef_7] at hM
  have hF_8 : f_7 o = eS 4 [.int (nI per), .int (nI ph), .int (nI len), .double (FP.ddiv (FP.i2d (nI (1000 - dep))) 4652007308841189376)] := by rw [ef_7]; exact va_up_self _ _ _
  rw [← hQ]
  exact z_vret hC hM hr hlk (by decide) (by decide) ⟨rfl, (by rw [ef_7, ef_5, ef_3, ef_1, up_up, up_up, up_up]; rfl)⟩ dX3_init_34
set_option maxHeartbeats 400000 in
set_option maxRecDepth 100000 in
theorem c_dips {l : Launch} {base : Nat} {K : zK} {L : List Nat} {f : Nat → va_E} {o per ph len h : Nat} {qq : UInt64} (ho : o ∈ L) (hfo : f o = eS 4 [.int (nI per), .int (nI ph), .int (nI len), .double qq]) (hh : h < 1000) (hp : ph < per) (hp2 : per ≤ 60) (hln : len < 100) : zMet l yX3_dipsIn cX3_dipsIn 2 (some .boolean) (zr 1 0 0 22) base K L f [.ref o, .int (nI h)] (zFi base K (zb ((h + per - ph) % per < len)) L f) := by
  refine z_met (by decide) (Nat.le_of_ble_eq_true rfl) (fun p e s m below meth c ls hC hM hr hlk hnm hl => ?_)
  have hx := hC.1
  have hb := hC.2.1
  have hml := hC.2.2.1
  have hown := hC.2.2.2.1
  have hts := hC.2.2.2.2.1
  generalize hA : ([.ref o, .int (nI h)] : List Value).toArray = args at hC ⊢
  generalize hQ : MQ _ _ _ _ _ _ _ = Q
  obtain ⟨locs, hlocs⟩ : ∃ z : List Loc, z = [] := ⟨_, rfl⟩
  obtain ⟨H, hH⟩ : ∃ z : Heap, z = s.heap := ⟨_, rfl⟩
  rw [← hlocs, ← hH] at hM ⊢
  have hl : lv_has ls 2 [(0, .ref o), (1, .int (nI h))] := hl
  refine lv_aload_n hx hb dX3_dipsIn_0 rfl (lv_at hl 0 rfl) ?_
  refine z_get hC hM ho hfo zcl_X3 (by decide) zl_X3_7 rfl dX3_dipsIn_1 ?_
  refine z_if_le (tgt := 31) hx hb (nI_toInt (by omega)) dX3_dipsIn_4 (by decide) (fun c_4 => ?_) (fun c_4 => ?_)
  · exact absurd c_4 (by omega)
  · refine lv_iload_n hx hb dX3_dipsIn_7 rfl (lv_at hl 1 rfl) ?_
    refine lv_aload_n hx hb dX3_dipsIn_8 rfl (lv_at hl 0 rfl) ?_
    refine z_get hC hM ho hfo zcl_X3 (by decide) zl_X3_13 rfl dX3_dipsIn_9 ?_
    refine lv_isub hx hb dX3_dipsIn_12 ?_
    refine lv_aload_n hx hb dX3_dipsIn_13 rfl (lv_at hl 0 rfl) ?_
    refine z_get hC hM ho hfo zcl_X3 (by decide) zl_X3_7 rfl dX3_dipsIn_14 ?_
    refine z_fcalli (z_runS hC hM (c_fmod hh hp hp2) zy_J9_floorMod_7cf53 zm_X3_25 rfl rfl hl.1 (Nat.le_of_ble_eq_true rfl) ⟨by decide, by decide⟩ ⟨by decide, by decide⟩ dX3_dipsIn_17) hM (fun H locs hM => ?_)
    have hm9 := Nat.mod_lt (h + per - ph) (show 0 < per by omega)
    refine lv_aload_n hx hb dX3_dipsIn_20 rfl (lv_at hl 0 rfl) ?_
    refine z_get hC hM ho hfo zcl_X3 (by decide) zl_X3_16 rfl dX3_dipsIn_21 ?_
    refine z_icmp_ge (tgt := 31) hx hb (nI_toInt (by omega)) (nI_toInt (by omega)) dX3_dipsIn_24 (by decide) (fun c_24 => ?_) (fun c_24 => ?_)
    · refine lv_iconst (v := nI 0) hx hb dX3_dipsIn_31 (by decide) ?_
      rw [← hQ]
      exact z_iret hC hM hr hlk rfl (by decide) (by decide) ⟨(zb_f (by omega)), rfl, rfl⟩ dX3_dipsIn_32
    · refine lv_iconst (v := nI 1) hx hb dX3_dipsIn_27 (by decide) ?_
      refine lv_goto (tgt := 32) hx hb dX3_dipsIn_28 (by decide) ?_
      rw [← hQ]
      exact z_iret hC hM hr hlk rfl (by decide) (by decide) ⟨(zb_t (by omega)), rfl, rfl⟩ dX3_dipsIn_32
set_option maxHeartbeats 400000 in
set_option maxRecDepth 100000 in
theorem c_spots {l : Launch} {base : Nat} {K : zK} {L : List Nat} {f : Nat → va_E} {o own pl spin sd bl nn : Nat} (ho : o ∈ L) (hfo : f o = eS 5 [.int (nI own), .ref pl, .int (nI spin), .int (nI sd), .int (nI bl), .ref nn]) {h : Nat} (hh : h < 1000) (hsp : spin ≤ 60) : zMet l yX4_showsSpots cX4_showsSpots 2 (some .boolean) (zr 0 0 0 0) base K L f [.ref o, .int (nI h)] (zFi base K (zb (0 < spin ∧ h % spin < spin / 4)) L f) := by
  refine z_met (by decide) (Nat.le_of_ble_eq_true rfl) (fun p e s m below meth c ls hC hM hr hlk hnm hl => ?_)
  have hx := hC.1
  have hb := hC.2.1
  have hml := hC.2.2.1
  have hown := hC.2.2.2.1
  have hts := hC.2.2.2.2.1
  generalize hA : ([.ref o, .int (nI h)] : List Value).toArray = args at hC ⊢
  generalize hQ : MQ _ _ _ _ _ _ _ = Q
  obtain ⟨locs, hlocs⟩ : ∃ z : List Loc, z = [] := ⟨_, rfl⟩
  obtain ⟨H, hH⟩ : ∃ z : Heap, z = s.heap := ⟨_, rfl⟩
  rw [← hlocs, ← hH] at hM ⊢
  have hl : lv_has ls 2 [(0, .ref o), (1, .int (nI h))] := hl
  refine lv_aload_n hx hb dX4_showsSpots_0 rfl (lv_at hl 0 rfl) ?_
  refine z_get hC hM ho hfo zcl_X4 (by decide) zl_X4_16 rfl dX4_showsSpots_1 ?_
  refine z_if_le (tgt := 26) hx hb (nI_toInt (by omega)) dX4_showsSpots_4 (by decide) (fun c_4 => ?_) (fun c_4 => ?_)
  · refine lv_iconst (v := nI 0) hx hb dX4_showsSpots_26 (by decide) ?_
    rw [← hQ]
    exact z_iret hC hM hr hlk rfl (by decide) (by decide) ⟨(zb_f (fun z => by omega)), rfl, rfl⟩ dX4_showsSpots_27
  · refine lv_iload_n hx hb dX4_showsSpots_7 rfl (lv_at hl 1 rfl) ?_
    refine lv_aload_n hx hb dX4_showsSpots_8 rfl (lv_at hl 0 rfl) ?_
    refine z_get hC hM ho hfo zcl_X4 (by decide) zl_X4_16 rfl dX4_showsSpots_9 ?_
    refine z_irem hx hb (by omega) (by omega) (by omega) dX4_showsSpots_12 ?_
    have hm9 := Nat.mod_lt h (show 0 < spin by omega)
    refine lv_aload_n hx hb dX4_showsSpots_13 rfl (lv_at hl 0 rfl) ?_
    refine z_get hC hM ho hfo zcl_X4 (by decide) zl_X4_16 rfl dX4_showsSpots_14 ?_
    refine lv_iconst (v := nI 4) hx hb dX4_showsSpots_17 (by decide) ?_
    refine z_idiv hx hb (by omega) (by omega) (by omega) dX4_showsSpots_18 ?_
    refine z_icmp_ge (tgt := 26) hx hb (nI_toInt (by omega)) (nI_toInt (by omega)) dX4_showsSpots_19 (by decide) (fun c_19 => ?_) (fun c_19 => ?_)
    · refine lv_iconst (v := nI 0) hx hb dX4_showsSpots_26 (by decide) ?_
      rw [← hQ]
      exact z_iret hC hM hr hlk rfl (by decide) (by decide) ⟨(zb_f (fun z => by omega)), rfl, rfl⟩ dX4_showsSpots_27
    · refine lv_iconst (v := nI 1) hx hb dX4_showsSpots_22 (by decide) ?_
      refine lv_goto (tgt := 27) hx hb dX4_showsSpots_23 (by decide) ?_
      rw [← hQ]
      exact z_iret hC hM hr hlk rfl (by decide) (by decide) ⟨(zb_t ⟨by omega, by omega⟩), rfl, rfl⟩ dX4_showsSpots_27
theorem lF_1 {own h : Nat} {per ph len dep : Nat → Nat} {k : Nat} (c : (h + per k - ph k) % per k < len k) : FP.dmul (lF own h per ph len dep k) (quo (dep k)) = lF own h per ph len dep (k + 1) := by rw [lF, if_pos c]
theorem lF_0 {own h : Nat} {per ph len dep : Nat → Nat} {k : Nat} (c : ¬ (h + per k - ph k) % per k < len k) : lF own h per ph len dep k = lF own h per ph len dep (k + 1) := by rw [lF, if_neg c]
set_option maxHeartbeats 400000 in
set_option maxRecDepth 100000 in
theorem c_lightIn {l : Launch} {base : Nat} {K : zK} {L : List Nat} {f : Nat → va_E} {o own pl spin sd bl nn : Nat} (ho : o ∈ L) (hfo : f o = eS 5 [.int (nI own), .ref pl, .int (nI spin), .int (nI sd), .int (nI bl), .ref nn]) {ee np h : Nat} {pa per ph len dep : Nat → Nat} (hLI : LI K L f pl ee np pa) (hnp : np ≤ 4) (hh : h < 1000) (hsp : spin ≤ 60) (hsd : sd ≤ 1000) (hpa : ∀ k, k < np → pa k ∈ L ∧ f (pa k) = eS 4 [.int (nI (per k)), .int (nI (ph k)), .int (nI (len k)), .double (quo (dep k))] ∧ ph k < per k ∧ per k ≤ 60 ∧ len k < 100) (hok : LTok own h np spin sd bl per ph len dep) : zMet l yX4_lightIn cX4_lightIn 6 (some .double) (zr 3 0 0 70) base K L f [.ref o, .int (nI h)] (zFd base K (lV own h np spin sd bl per ph len dep) L f) := by
  obtain ⟨hpl, ⟨mc, hfp⟩, hor⟩ := hLI
  refine z_met (by decide) (Nat.le_of_ble_eq_true rfl) (fun p e s m below meth c ls hC hM hr hlk hnm hl => ?_)
  have hx := hC.1
  have hb := hC.2.1
  have hml := hC.2.2.1
  have hown := hC.2.2.2.1
  have hts := hC.2.2.2.2.1
  generalize hA : ([.ref o, .int (nI h)] : List Value).toArray = args at hC ⊢
  generalize hQ : MQ _ _ _ _ _ _ _ = Q
  obtain ⟨locs, hlocs⟩ : ∃ z : List Loc, z = [] := ⟨_, rfl⟩
  obtain ⟨H, hH⟩ : ∃ z : Heap, z = s.heap := ⟨_, rfl⟩
  rw [← hlocs, ← hH] at hM ⊢
  have hl : lv_has ls 6 [(0, .ref o), (1, .int (nI h))] := hl
  refine lv_aload_n hx hb dX4_lightIn_0 rfl (lv_at hl 0 rfl) ?_
  refine z_get hC hM ho hfo zcl_X4 (by decide) zl_X4_33 rfl dX4_lightIn_1 ?_
  refine lv_i2d hx hb dX4_lightIn_4 ?_
  refine lv_dstore_n (lv' := [(2, .double (FP.i2d (nI own))), (0, .ref o), (1, .int (nI h))]) hx hb dX4_lightIn_5 rfl hl (by decide) rfl (fun ls hl => ?_)
  refine lv_iconst (v := nI 0) hx hb dX4_lightIn_6 (by decide) ?_
  refine lv_istore (lv' := [(4, .int (nI 0)), (2, .double (FP.i2d (nI own))), (0, .ref o), (1, .int (nI h))]) hx hb dX4_lightIn_7 hl (by decide) rfl (fun ls hl => ?_)
  have LOOP9 : ∀ i, i ≤ np → ∀ (ls : Array Slot) (H : Heap) (locs : List Loc), lv_has ls 6 [(4, .int (nI i)), (2, .double (lF own h per ph len dep i)), (0, .ref o), (1, .int (nI h))] → zM base K L f s H locs → W p l e (zr 3 0 0 70) s m args below meth c H locs 0 0 Q (F0 m 9 ls []) := by
    refine z_down np ?_ ?_
    · intro ls H locs hl hM
      refine lv_iload hx hb dX4_lightIn_9 (lv_at hl 0 rfl) ?_
      refine lv_aload_n hx hb dX4_lightIn_11 rfl (lv_at hl 2 rfl) ?_
      refine z_get hC hM ho hfo zcl_X4 (by decide) zl_X4_10 rfl dX4_lightIn_12 ?_
      refine z_fcalli (z_runV hC hM (c_size hpl hfp) zy_Jx4a65c_size_8abf5 zm_X4_36 hpl hfp zcl_Jx4a65c rfl rfl rfl hl.1 (Nat.le_of_ble_eq_true rfl) ⟨by decide, by decide⟩ ⟨by decide, by decide⟩ dX4_lightIn_15) hM (fun H locs hM => ?_)
      refine z_icmp_ge (tgt := 58) hx hb (nI_toInt (by omega)) (nI_toInt (by omega)) dX4_lightIn_18 (by decide) (fun c_18 => ?_) (fun c_18 => ?_)
      · refine lv_aload_n hx hb dX4_lightIn_58 rfl (lv_at hl 2 rfl) ?_
        refine lv_iload_n hx hb dX4_lightIn_59 rfl (lv_at hl 3 rfl) ?_
        refine z_fcalli (z_runV hC hM (c_spots ho hfo hh hsp) zy_X4_showsSpots zm_X4_54 ho hfo zcl_X4 rfl rfl rfl hl.1 (Nat.le_of_ble_eq_true rfl) ⟨by decide, by decide⟩ ⟨by decide, by decide⟩ dX4_lightIn_60) hM (fun H locs hM => ?_)
        refine z_if_eqB (tgt := 82) hx hb dX4_lightIn_63 (by decide) (fun c_63 => ?_) (fun c_63 => ?_)
        · refine lv_dload_n hx hb dX4_lightIn_82 rfl (lv_at hl 1 rfl) ?_
          refine lv_aload_n hx hb dX4_lightIn_83 rfl (lv_at hl 2 rfl) ?_
          refine z_get hC hM ho hfo zcl_X4 (by decide) zl_X4_23 rfl dX4_lightIn_84 ?_
          refine lv_i2d hx hb dX4_lightIn_87 ?_
          refine lv_dadd hx hb dX4_lightIn_88 (by have q9 := hok.2.2.2; rw [lS, if_neg c_63] at q9; exact q9) ?_
          rw [← hQ]
          exact z_dret hC hM hr hlk (by decide) (by decide) ⟨(by rw [lV, lS, if_neg c_63]; rfl), rfl, rfl⟩ dX4_lightIn_89
        · refine lv_dload_n hx hb dX4_lightIn_66 rfl (lv_at hl 1 rfl) ?_
          refine lv_sipush (v := nI 1000) hx hb dX4_lightIn_67 (by decide) ?_
          refine lv_aload_n hx hb dX4_lightIn_70 rfl (lv_at hl 2 rfl) ?_
          refine z_get hC hM ho hfo zcl_X4 (by decide) zl_X4_20 rfl dX4_lightIn_71 ?_
          refine z_isub hx hb (by omega) dX4_lightIn_74 ?_
          refine lv_i2d hx hb dX4_lightIn_75 ?_
          refine lv_ldc2d (v := 4652007308841189376) hx hb hown (hts _ zk_X4_57) dX4_lightIn_76 ?_
          refine lv_ddiv hx hb dX4_lightIn_79 hok.2.1 ?_
          refine lv_dmul hx hb dX4_lightIn_80 hok.2.2.1 ?_
          refine lv_dstore_n (lv' := [(2, .double (FP.dmul (lF own h per ph len dep np) (FP.ddiv (FP.i2d (nI (1000 - sd))) 4652007308841189376))), (4, .int (nI np)), (0, .ref o), (1, .int (nI h))]) hx hb dX4_lightIn_81 rfl hl (by decide) rfl (fun ls hl => ?_)
          refine lv_dload_n hx hb dX4_lightIn_82 rfl (lv_at hl 0 rfl) ?_
          refine lv_aload_n hx hb dX4_lightIn_83 rfl (lv_at hl 2 rfl) ?_
          refine z_get hC hM ho hfo zcl_X4 (by decide) zl_X4_23 rfl dX4_lightIn_84 ?_
          refine lv_i2d hx hb dX4_lightIn_87 ?_
          refine lv_dadd hx hb dX4_lightIn_88 (by have q9 := hok.2.2.2; rw [lS, if_pos c_63] at q9; exact q9) ?_
          rw [← hQ]
          exact z_dret hC hM hr hlk (by decide) (by decide) ⟨(by rw [lV, lS, if_pos c_63]; rfl), rfl, rfl⟩ dX4_lightIn_89
      · exact absurd c_18 (by omega)
    · intro i hi ih ls H locs hl hM
      refine lv_iload hx hb dX4_lightIn_9 (lv_at hl 0 rfl) ?_
      refine lv_aload_n hx hb dX4_lightIn_11 rfl (lv_at hl 2 rfl) ?_
      refine z_get hC hM ho hfo zcl_X4 (by decide) zl_X4_10 rfl dX4_lightIn_12 ?_
      refine z_fcalli (z_runV hC hM (c_size hpl hfp) zy_Jx4a65c_size_8abf5 zm_X4_36 hpl hfp zcl_Jx4a65c rfl rfl rfl hl.1 (Nat.le_of_ble_eq_true rfl) ⟨by decide, by decide⟩ ⟨by decide, by decide⟩ dX4_lightIn_15) hM (fun H locs hM => ?_)
      refine z_icmp_ge (tgt := 58) hx hb (nI_toInt (by omega)) (nI_toInt (by omega)) dX4_lightIn_18 (by decide) (fun c_18 => ?_) (fun c_18 => ?_)
      · exact absurd c_18 (by omega)
      · obtain ⟨hle, cap, arr, hfe, hc1, hc2, hnc, harr, -⟩ := hor.resolve_left (fun z => by omega)
        refine lv_aload_n hx hb dX4_lightIn_21 rfl (lv_at hl 2 rfl) ?_
        refine z_get hC hM ho hfo zcl_X4 (by decide) zl_X4_10 rfl dX4_lightIn_22 ?_
        refine lv_iload hx hb dX4_lightIn_25 (lv_at hl 0 rfl) ?_
        refine z_fcallq (z_runV hC hM (c_get hpl hfp hle hfe hi hnc (by omega) (harr i hi)) zy_Jx4a65c_get_915e3 zm_X4_40 hpl hfp zcl_Jx4a65c rfl rfl rfl hl.1 (Nat.le_of_ble_eq_true rfl) ⟨by decide, by decide⟩ ⟨by decide, by decide⟩ dX4_lightIn_27) hM (fun H locs hM => ?_)
        refine z_cast hC hM (hpa i hi).1 (hpa i hi).2.1 zcl_X3 zc_X4_44 dX4_lightIn_30 ?_
        refine lv_astore (lv' := [(5, .ref ((pa i))), (4, .int (nI i)), (2, .double (lF own h per ph len dep i)), (0, .ref o), (1, .int (nI h))]) hx hb dX4_lightIn_33 hl (by decide) rfl (fun ls hl => ?_)
        refine lv_aload hx hb dX4_lightIn_35 (lv_at hl 0 rfl) ?_
        refine lv_iload_n hx hb dX4_lightIn_37 rfl (lv_at hl 4 rfl) ?_
        refine z_fcalli (z_runV hC hM (c_dips (hpa i hi).1 (hpa i hi).2.1 hh (hpa i hi).2.2.1 (hpa i hi).2.2.2.1 (hpa i hi).2.2.2.2) zy_X3_dipsIn zm_X4_46 (hpa i hi).1 (hpa i hi).2.1 zcl_X3 rfl rfl rfl hl.1 (Nat.le_of_ble_eq_true rfl) ⟨by decide, by decide⟩ ⟨by decide, by decide⟩ dX4_lightIn_38) hM (fun H locs hM => ?_)
        refine z_if_eqB (tgt := 52) hx hb dX4_lightIn_41 (by decide) (fun c_41 => ?_) (fun c_41 => ?_)
        · refine lv_iinc (v := nI (i + 1)) (lv' := [(4, .int (nI (i + 1))), (5, .ref ((pa i))), (2, .double (lF own h per ph len dep i)), (0, .ref o), (1, .int (nI h))]) hx hb dX4_lightIn_52 hl (k := 1) rfl (nI_add i 1) (by decide) rfl (fun ls hl => ?_)
          refine lv_goto (tgt := 9) hx hb dX4_lightIn_55 (by decide) ?_
          rw [lF_0 c_41] at hl
          exact ih ls H locs (lv_sub hl [0, 2, 3, 4] rfl) hM
        · refine lv_dload_n hx hb dX4_lightIn_44 rfl (lv_at hl 2 rfl) ?_
          refine lv_aload hx hb dX4_lightIn_45 (lv_at hl 0 rfl) ?_
          refine z_getN hC hM (hpa i hi).1 (hpa i hi).2.1 zcl_X3 (by decide) zl_X4_50 rfl dX4_lightIn_47 ?_
          refine lv_dmul hx hb dX4_lightIn_50 (hok.1 i hi).2 ?_
          refine lv_dstore_n (lv' := [(2, .double (FP.dmul (lF own h per ph len dep i) (quo (dep i)))), (5, .ref ((pa i))), (4, .int (nI i)), (0, .ref o), (1, .int (nI h))]) hx hb dX4_lightIn_51 rfl hl (by decide) rfl (fun ls hl => ?_)
          refine lv_iinc (v := nI (i + 1)) (lv' := [(4, .int (nI (i + 1))), (2, .double (FP.dmul (lF own h per ph len dep i) (quo (dep i)))), (5, .ref ((pa i))), (0, .ref o), (1, .int (nI h))]) hx hb dX4_lightIn_52 hl (k := 2) rfl (nI_add i 1) (by decide) rfl (fun ls hl => ?_)
          refine lv_goto (tgt := 9) hx hb dX4_lightIn_55 (by decide) ?_
          rw [lF_1 c_41] at hl
          exact ih ls H locs (lv_sub hl [0, 1, 3, 4] rfl) hM
  exact LOOP9 0 (Nat.zero_le _) ls H locs (lv_sub hl [0, 1, 2, 3] rfl) hM
set_option maxHeartbeats 400000 in
set_option maxRecDepth 100000 in
theorem c_winit {l : Launch} {base : Nat} {K : zK} {L : List Nat} {f : Nat → va_E} {o a b d k n : Nat} (ho : o ∈ L) (hfo : f o = eS 6 [.int (nI 0), .int (nI 0), .int (nI 0), .int (nI 0), .null, .int (nI 0)]) : zMet l yX5_init cX5_init 6 (none) (zr 1 0 0 12) base K L f [.ref o, .int (nI a), .int (nI b), .int (nI d), .int (nI k), .ref n] (zFv base K L (va_up f o (eS 6 [.int (nI a), .int (nI b), .int (nI d), .int (nI k), .ref n, .int (nI 0)]))) := by
  refine z_met (by decide) (Nat.le_of_ble_eq_true rfl) (fun p e s m below meth c ls hC hM hr hlk hnm hl => ?_)
  have hx := hC.1
  have hb := hC.2.1
  have hml := hC.2.2.1
  have hown := hC.2.2.2.1
  have hts := hC.2.2.2.2.1
  generalize hA : ([.ref o, .int (nI a), .int (nI b), .int (nI d), .int (nI k), .ref n] : List Value).toArray = args at hC ⊢
  generalize hQ : MQ _ _ _ _ _ _ _ = Q
  obtain ⟨locs, hlocs⟩ : ∃ z : List Loc, z = [] := ⟨_, rfl⟩
  obtain ⟨H, hH⟩ : ∃ z : Heap, z = s.heap := ⟨_, rfl⟩
  rw [← hlocs, ← hH] at hM ⊢
  have hl : lv_has ls 6 [(0, .ref o), (1, .int (nI a)), (2, .int (nI b)), (3, .int (nI d)), (4, .int (nI k)), (5, .ref n)] := hl
  refine lv_aload_n hx hb dX5_init_0 rfl (lv_at hl 0 rfl) ?_
  refine z_objInit hC zm_X5_1 hl.1 (by decide) (Nat.le_of_ble_eq_true rfl) dX5_init_1 ?_
  refine lv_aload_n hx hb dX5_init_4 rfl (lv_at hl 0 rfl) ?_
  refine lv_iconst (v := nI 0) hx hb dX5_init_5 (by decide) ?_
  refine z_put (fs' := [.int (nI 0), .int (nI 0), .int (nI 0), .int (nI 0), .null, .int (nI 0)]) hC hM ho hfo zcl_X5 (by decide) zl_X5_7 rfl rfl (by rfl) (Nat.le_of_ble_eq_true rfl) rfl dX5_init_6 (fun H locs hM => ?_)
  obtain ⟨f_1, ef_1⟩ : ∃ z9, z9 = va_up f o (eS 6 [.int (nI 0), .int (nI 0), .int (nI 0), .int (nI 0), .null, .int (nI 0)]) := ⟨_, rfl⟩
  rw [← ef_1] at hM
  have hF_2 : f_1 o = eS 6 [.int (nI 0), .int (nI 0), .int (nI 0), .int (nI 0), .null, .int (nI 0)] := by rw [ef_1]; exact va_up_self _ _ _
  refine lv_aload_n hx hb dX5_init_9 rfl (lv_at hl 0 rfl) ?_
  refine lv_iload_n hx hb dX5_init_10 rfl (lv_at hl 1 rfl) ?_
  refine z_putF (fs' := [.int (nI a), .int (nI 0), .int (nI 0), .int (nI 0), .null, .int (nI 0)]) hC hM hnm ho hF_2 zcl_X5 (by decide) zl_X5_13 rfl rfl rfl (by rfl) (Nat.le_of_ble_eq_true rfl) rfl dX5_init_11 (fun H locs hM => ?_)
  obtain ⟨f_3, ef_3⟩ : ∃ z9, z9 = va_up f_1 o (eS 6 [.int (nI a), .int (nI 0), .int (nI 0), .int (nI 0), .null, .int (nI 0)]) := ⟨_, rfl⟩
  rw [← ef_3] at hM
  have hF_4 : f_3 o = eS 6 [.int (nI a), .int (nI 0), .int (nI 0), .int (nI 0), .null, .int (nI 0)] := by rw [ef_3]; exact va_up_self _ _ _
  refine lv_aload_n hx hb dX5_init_14 rfl (lv_at hl 0 rfl) ?_
  refine lv_iload_n hx hb dX5_init_15 rfl (lv_at hl 2 rfl) ?_
  refine z_putF (fs' := [.int (nI a), .int (nI b), .int (nI 0), .int (nI 0), .null, .int (nI 0)]) hC hM hnm ho hF_4 zcl_X5 (by decide) zl_X5_17 rfl rfl rfl (by rfl) (Nat.le_of_ble_eq_true rfl) rfl dX5_init_16 (fun H locs hM => ?_)
  obtain ⟨f_5, ef_5⟩ : ∃ z9, z9 = va_up f_3 o (eS 6 [.int (nI a), .int (nI b), .int (nI 0), .int (nI 0), .null, .int (nI 0)]) := ⟨_, rfl⟩
  rw [← ef_5] at hM
  have hF_6 : f_5 o = eS 6 [.int (nI a), .int (nI b), .int (nI 0), .int (nI 0), .null, .int (nI 0)] := by rw [ef_5]; exact va_up_self _ _ _
  refine lv_aload_n hx hb dX5_init_19 rfl (lv_at hl 0 rfl) ?_
  refine lv_iload_n hx hb dX5_init_20 rfl (lv_at hl 3 rfl) ?_
  refine z_putF (fs' := [.int (nI a), .int (nI b), .int (nI d), .int (nI 0), .null, .int (nI 0)]) hC hM hnm ho hF_6 zcl_X5 (by decide) zl_X5_20 rfl rfl rfl (by rfl) (Nat.le_of_ble_eq_true rfl) rfl dX5_init_21 (fun H locs hM => ?_)
  obtain ⟨f_7, ef_7⟩ : ∃ z9, z9 = va_up f_5 o (eS 6 [.int (nI a), .int (nI b), .int (nI d), .int (nI 0), .null, .int (nI 0)]) := ⟨_, rfl⟩
  rw [← ef_7] at hM
  have hF_8 : f_7 o = eS 6 [.int (nI a), .int (nI b), .int (nI d), .int (nI 0), .null, .int (nI 0)] := by rw [ef_7]; exact va_up_self _ _ _
  refine lv_aload_n hx hb dX5_init_24 rfl (lv_at hl 0 rfl) ?_
  refine lv_iload hx hb dX5_init_25 (lv_at hl 4 rfl) ?_
  refine z_putF (fs' := [.int (nI a), .int (nI b), .int (nI d), .int (nI k), .null, .int (nI 0)]) hC hM hnm ho hF_8 zcl_X5 (by decide) zl_X5_23 rfl rfl rfl (by rfl) (Nat.le_of_ble_eq_true rfl) rfl dX5_init_27 (fun H locs hM => ?_)
  obtain ⟨f_9, ef_9⟩ : ∃ z9, z9 = va_up f_7 o (eS 6 [.int (nI a), .int (nI b), .int (nI d), .int (nI k), .null, .int (nI 0)]) := ⟨_, rfl⟩
  rw [← ef_9] at hM
  have hF_10 : f_9 o = eS 6 [.int (nI a), .int (nI b), .int (nI d), .int (nI k), .null, .int (nI 0)] := by rw [ef_9]; exact va_up_self _ _ _
  refine lv_aload_n hx hb dX5_init_30 rfl (lv_at hl 0 rfl) ?_
  refine lv_aload hx hb dX5_init_31 (lv_at hl 5 rfl) ?_
  refine z_putF (fs' := [.int (nI a), .int (nI b), .int (nI d), .int (nI k), .ref n, .int (nI 0)]) hC hM hnm ho hF_10 zcl_X5 (by decide) zl_X5_26 rfl rfl rfl (by rfl) (Nat.le_of_ble_eq_true rfl) rfl dX5_init_33 (fun H locs hM => ?_)
  obtain ⟨f_11, ef_11⟩ : ∃ z9, z9 = va_up f_9 o (eS 6 [.int (nI a), .int (nI b), .int (nI d), .int (nI k), .ref n, .int (nI 0)]) := ⟨_, rfl⟩
  rw [← ef_11] at hM
  have hF_12 : f_11 o = eS 6 [.int (nI a), .int (nI b), .int (nI d), .int (nI k), .ref n, .int (nI 0)] := by rw [ef_11]; exact va_up_self _ _ _
  rw [← hQ]
  exact z_vret hC hM hr hlk (by decide) (by decide) ⟨rfl, (by rw [ef_11, ef_9, ef_7, ef_5, ef_3, ef_1, up_up, up_up, up_up, up_up, up_up])⟩ dX5_init_36
set_option maxHeartbeats 400000 in
set_option maxRecDepth 100000 in
theorem c_ppinit0 {l : Launch} {base : Nat} {K : zK} {L : List Nat} {f : Nat → va_E} {o w : Nat} (ho : o ∈ L) (hfo : f o = eS 3 [.null, .null, .int (nI 0)]) : zMet l yX2_init cX2_init 3 (none) (zr 1 0 0 12) base K L f [.ref o, .ref w, .null] (zFv base K L (va_up f o (eS 3 [.ref w, .null, .int (nI 0)]))) := by
  refine z_met (by decide) (Nat.le_of_ble_eq_true rfl) (fun p e s m below meth c ls hC hM hr hlk hnm hl => ?_)
  have hx := hC.1
  have hb := hC.2.1
  have hml := hC.2.2.1
  have hown := hC.2.2.2.1
  have hts := hC.2.2.2.2.1
  generalize hA : ([.ref o, .ref w, .null] : List Value).toArray = args at hC ⊢
  generalize hQ : MQ _ _ _ _ _ _ _ = Q
  obtain ⟨locs, hlocs⟩ : ∃ z : List Loc, z = [] := ⟨_, rfl⟩
  obtain ⟨H, hH⟩ : ∃ z : Heap, z = s.heap := ⟨_, rfl⟩
  rw [← hlocs, ← hH] at hM ⊢
  have hl : lv_has ls 3 [(0, .ref o), (1, .ref w), (2, .null)] := hl
  refine lv_aload_n hx hb dX2_init_0 rfl (lv_at hl 0 rfl) ?_
  refine z_objInit hC zm_X2_1 hl.1 (by decide) (Nat.le_of_ble_eq_true rfl) dX2_init_1 ?_
  refine lv_aload_n hx hb dX2_init_4 rfl (lv_at hl 0 rfl) ?_
  refine lv_iconst (v := nI 0) hx hb dX2_init_5 (by decide) ?_
  refine z_put (fs' := [.null, .null, .int (nI 0)]) hC hM ho hfo zcl_X2 (by decide) zl_X2_7 rfl rfl (by rfl) (Nat.le_of_ble_eq_true rfl) rfl dX2_init_6 (fun H locs hM => ?_)
  obtain ⟨f_1, ef_1⟩ : ∃ z9, z9 = va_up f o (eS 3 [.null, .null, .int (nI 0)]) := ⟨_, rfl⟩
  rw [← ef_1] at hM
  have hF_2 : f_1 o = eS 3 [.null, .null, .int (nI 0)] := by rw [ef_1]; exact va_up_self _ _ _
  refine lv_aload_n hx hb dX2_init_9 rfl (lv_at hl 0 rfl) ?_
  refine lv_aload_n hx hb dX2_init_10 rfl (lv_at hl 1 rfl) ?_
  refine z_putF (fs' := [.ref w, .null, .int (nI 0)]) hC hM hnm ho hF_2 zcl_X2 (by decide) zl_X2_13 rfl rfl rfl (by rfl) (Nat.le_of_ble_eq_true rfl) rfl dX2_init_11 (fun H locs hM => ?_)
  obtain ⟨f_3, ef_3⟩ : ∃ z9, z9 = va_up f_1 o (eS 3 [.ref w, .null, .int (nI 0)]) := ⟨_, rfl⟩
  rw [← ef_3] at hM
  have hF_4 : f_3 o = eS 3 [.ref w, .null, .int (nI 0)] := by rw [ef_3]; exact va_up_self _ _ _
  refine lv_aload_n hx hb dX2_init_14 rfl (lv_at hl 0 rfl) ?_
  refine lv_aload_nN hx hb dX2_init_15 rfl (lv_at hl 2 rfl) ?_
  refine z_putF (fs' := [.ref w, .null, .int (nI 0)]) hC hM hnm ho hF_4 zcl_X2 (by decide) zl_X2_17 rfl rfl rfl (by rfl) (Nat.le_of_ble_eq_true rfl) rfl dX2_init_16 (fun H locs hM => ?_)
  obtain ⟨f_5, ef_5⟩ : ∃ z9, z9 = va_up f_3 o (eS 3 [.ref w, .null, .int (nI 0)]) := ⟨_, rfl⟩
  rw [← ef_5] at hM
  have hF_6 : f_5 o = eS 3 [.ref w, .null, .int (nI 0)] := by rw [ef_5]; exact va_up_self _ _ _
  rw [← hQ]
  exact z_vret hC hM hr hlk (by decide) (by decide) ⟨rfl, (by rw [ef_5, ef_3, ef_1, up_up, up_up])⟩ dX2_init_19
set_option maxHeartbeats 400000 in
set_option maxRecDepth 100000 in
theorem c_ppinit1 {l : Launch} {base : Nat} {K : zK} {L : List Nat} {f : Nat → va_E} {o w k : Nat} (ho : o ∈ L) (hfo : f o = eS 3 [.null, .null, .int (nI 0)]) : zMet l yX2_init cX2_init 3 (none) (zr 1 0 0 12) base K L f [.ref o, .ref w, .ref k] (zFv base K L (va_up f o (eS 3 [.ref w, .ref k, .int (nI 0)]))) := by
  refine z_met (by decide) (Nat.le_of_ble_eq_true rfl) (fun p e s m below meth c ls hC hM hr hlk hnm hl => ?_)
  have hx := hC.1
  have hb := hC.2.1
  have hml := hC.2.2.1
  have hown := hC.2.2.2.1
  have hts := hC.2.2.2.2.1
  generalize hA : ([.ref o, .ref w, .ref k] : List Value).toArray = args at hC ⊢
  generalize hQ : MQ _ _ _ _ _ _ _ = Q
  obtain ⟨locs, hlocs⟩ : ∃ z : List Loc, z = [] := ⟨_, rfl⟩
  obtain ⟨H, hH⟩ : ∃ z : Heap, z = s.heap := ⟨_, rfl⟩
  rw [← hlocs, ← hH] at hM ⊢
  have hl : lv_has ls 3 [(0, .ref o), (1, .ref w), (2, .ref k)] := hl
  refine lv_aload_n hx hb dX2_init_0 rfl (lv_at hl 0 rfl) ?_
  refine z_objInit hC zm_X2_1 hl.1 (by decide) (Nat.le_of_ble_eq_true rfl) dX2_init_1 ?_
  refine lv_aload_n hx hb dX2_init_4 rfl (lv_at hl 0 rfl) ?_
  refine lv_iconst (v := nI 0) hx hb dX2_init_5 (by decide) ?_
  refine z_put (fs' := [.null, .null, .int (nI 0)]) hC hM ho hfo zcl_X2 (by decide) zl_X2_7 rfl rfl (by rfl) (Nat.le_of_ble_eq_true rfl) rfl dX2_init_6 (fun H locs hM => ?_)
  obtain ⟨f_1, ef_1⟩ : ∃ z9, z9 = va_up f o (eS 3 [.null, .null, .int (nI 0)]) := ⟨_, rfl⟩
  rw [← ef_1] at hM
  have hF_2 : f_1 o = eS 3 [.null, .null, .int (nI 0)] := by rw [ef_1]; exact va_up_self _ _ _
  refine lv_aload_n hx hb dX2_init_9 rfl (lv_at hl 0 rfl) ?_
  refine lv_aload_n hx hb dX2_init_10 rfl (lv_at hl 1 rfl) ?_
  refine z_putF (fs' := [.ref w, .null, .int (nI 0)]) hC hM hnm ho hF_2 zcl_X2 (by decide) zl_X2_13 rfl rfl rfl (by rfl) (Nat.le_of_ble_eq_true rfl) rfl dX2_init_11 (fun H locs hM => ?_)
  obtain ⟨f_3, ef_3⟩ : ∃ z9, z9 = va_up f_1 o (eS 3 [.ref w, .null, .int (nI 0)]) := ⟨_, rfl⟩
  rw [← ef_3] at hM
  have hF_4 : f_3 o = eS 3 [.ref w, .null, .int (nI 0)] := by rw [ef_3]; exact va_up_self _ _ _
  refine lv_aload_n hx hb dX2_init_14 rfl (lv_at hl 0 rfl) ?_
  refine lv_aload_n hx hb dX2_init_15 rfl (lv_at hl 2 rfl) ?_
  refine z_putF (fs' := [.ref w, .ref k, .int (nI 0)]) hC hM hnm ho hF_4 zcl_X2 (by decide) zl_X2_17 rfl rfl rfl (by rfl) (Nat.le_of_ble_eq_true rfl) rfl dX2_init_16 (fun H locs hM => ?_)
  obtain ⟨f_5, ef_5⟩ : ∃ z9, z9 = va_up f_3 o (eS 3 [.ref w, .ref k, .int (nI 0)]) := ⟨_, rfl⟩
  rw [← ef_5] at hM
  have hF_6 : f_5 o = eS 3 [.ref w, .ref k, .int (nI 0)] := by rw [ef_5]; exact va_up_self _ _ _
  rw [← hQ]
  exact z_vret hC hM hr hlk (by decide) (by decide) ⟨rfl, (by rw [ef_5, ef_3, ef_1, up_up, up_up])⟩ dX2_init_19
set_option maxHeartbeats 400000 in
set_option maxRecDepth 100000 in
theorem c_must0 {l : Launch} {base : Nat} {K : zK} {L : List Nat} {f : Nat → va_E} {o w fl wd : Nat} {wv0 wv1 wv2 wv3 wv4 : Value} (ho : o ∈ L) (hfo : f o = eS 3 [.ref w, .null, .int (nI fl)]) (hwd : wd < 2) (hw : w ∈ L) (hfw : f w = eS 6 [wv0, wv1, wv2, wv3, wv4, .int (nI wd)]) : zMet l yX2_mustFall cX2_mustFall 1 (some .boolean) (zr 0 0 0 0) base K L f [.ref o] (zFi base K (zb (wd ≠ 0)) L f) := by
  refine z_met (by decide) (Nat.le_of_ble_eq_true rfl) (fun p e s m below meth c ls hC hM hr hlk hnm hl => ?_)
  have hx := hC.1
  have hb := hC.2.1
  have hml := hC.2.2.1
  have hown := hC.2.2.2.1
  have hts := hC.2.2.2.2.1
  generalize hA : ([.ref o] : List Value).toArray = args at hC ⊢
  generalize hQ : MQ _ _ _ _ _ _ _ = Q
  obtain ⟨locs, hlocs⟩ : ∃ z : List Loc, z = [] := ⟨_, rfl⟩
  obtain ⟨H, hH⟩ : ∃ z : Heap, z = s.heap := ⟨_, rfl⟩
  rw [← hlocs, ← hH] at hM ⊢
  have hl : lv_has ls 1 [(0, .ref o)] := hl
  refine lv_aload_n hx hb dX2_mustFall_0 rfl (lv_at hl 0 rfl) ?_
  refine z_get hC hM ho hfo zcl_X2 (by decide) zl_X2_13 rfl dX2_mustFall_1 ?_
  refine z_getN hC hM hw hfw zcl_X5 (by decide) zl_X2_21 rfl dX2_mustFall_4 ?_
  refine z_if_ne (tgt := 27) hx hb (nI_toInt (by omega)) dX2_mustFall_7 (by decide) (fun c_7 => ?_) (fun c_7 => ?_)
  · refine lv_iconst (v := nI 1) hx hb dX2_mustFall_27 (by decide) ?_
    refine lv_goto (tgt := 32) hx hb dX2_mustFall_28 (by decide) ?_
    rw [← hQ]
    exact z_iret hC hM hr hlk rfl (by decide) (by decide) ⟨(zb_t (by omega)), rfl, rfl⟩ dX2_mustFall_32
  · refine lv_aload_n hx hb dX2_mustFall_10 rfl (lv_at hl 0 rfl) ?_
    refine z_get hC hM ho hfo zcl_X2 (by decide) zl_X2_17 rfl dX2_mustFall_11 ?_
    refine lv_ifnullN (tgt := 31) hx hb dX2_mustFall_14 (by decide) ?_
    refine lv_iconst (v := nI 0) hx hb dX2_mustFall_31 (by decide) ?_
    rw [← hQ]
    exact z_iret hC hM hr hlk rfl (by decide) (by decide) ⟨(zb_f (by omega)), rfl, rfl⟩ dX2_mustFall_32
set_option maxHeartbeats 400000 in
set_option maxRecDepth 100000 in
theorem c_must1 {l : Launch} {base : Nat} {K : zK} {L : List Nat} {f : Nat → va_E} {o w k fl wd kf : Nat} {wv0 wv1 wv2 wv3 wv4 kv0 kv1 : Value} (ho : o ∈ L) (hfo : f o = eS 3 [.ref w, .ref k, .int (nI fl)]) (hwd : wd < 2) (hkd : kf < 2) (hk : k ∈ L) (hfk : f k = eS 3 [kv0, kv1, .int (nI kf)]) (hw : w ∈ L) (hfw : f w = eS 6 [wv0, wv1, wv2, wv3, wv4, .int (nI wd)]) : zMet l yX2_mustFall cX2_mustFall 1 (some .boolean) (zr 0 0 0 0) base K L f [.ref o] (zFi base K (zb (wd ≠ 0 ∨ kf ≠ 0)) L f) := by
  refine z_met (by decide) (Nat.le_of_ble_eq_true rfl) (fun p e s m below meth c ls hC hM hr hlk hnm hl => ?_)
  have hx := hC.1
  have hb := hC.2.1
  have hml := hC.2.2.1
  have hown := hC.2.2.2.1
  have hts := hC.2.2.2.2.1
  generalize hA : ([.ref o] : List Value).toArray = args at hC ⊢
  generalize hQ : MQ _ _ _ _ _ _ _ = Q
  obtain ⟨locs, hlocs⟩ : ∃ z : List Loc, z = [] := ⟨_, rfl⟩
  obtain ⟨H, hH⟩ : ∃ z : Heap, z = s.heap := ⟨_, rfl⟩
  rw [← hlocs, ← hH] at hM ⊢
  have hl : lv_has ls 1 [(0, .ref o)] := hl
  refine lv_aload_n hx hb dX2_mustFall_0 rfl (lv_at hl 0 rfl) ?_
  refine z_get hC hM ho hfo zcl_X2 (by decide) zl_X2_13 rfl dX2_mustFall_1 ?_
  refine z_getN hC hM hw hfw zcl_X5 (by decide) zl_X2_21 rfl dX2_mustFall_4 ?_
  refine z_if_ne (tgt := 27) hx hb (nI_toInt (by omega)) dX2_mustFall_7 (by decide) (fun c_7 => ?_) (fun c_7 => ?_)
  · refine lv_iconst (v := nI 1) hx hb dX2_mustFall_27 (by decide) ?_
    refine lv_goto (tgt := 32) hx hb dX2_mustFall_28 (by decide) ?_
    rw [← hQ]
    exact z_iret hC hM hr hlk rfl (by decide) (by decide) ⟨(zb_t (by omega)), rfl, rfl⟩ dX2_mustFall_32
  · refine lv_aload_n hx hb dX2_mustFall_10 rfl (lv_at hl 0 rfl) ?_
    refine z_get hC hM ho hfo zcl_X2 (by decide) zl_X2_17 rfl dX2_mustFall_11 ?_
    refine lv_ifnull hx hb dX2_mustFall_14 ?_
    refine lv_aload_n hx hb dX2_mustFall_17 rfl (lv_at hl 0 rfl) ?_
    refine z_get hC hM ho hfo zcl_X2 (by decide) zl_X2_17 rfl dX2_mustFall_18 ?_
    refine z_get hC hM hk hfk zcl_X2 (by decide) zl_X2_7 rfl dX2_mustFall_21 ?_
    refine z_if_eq (tgt := 31) hx hb (nI_toInt (by omega)) dX2_mustFall_24 (by decide) (fun c_24 => ?_) (fun c_24 => ?_)
    · refine lv_iconst (v := nI 0) hx hb dX2_mustFall_31 (by decide) ?_
      rw [← hQ]
      exact z_iret hC hM hr hlk rfl (by decide) (by decide) ⟨(zb_f (by omega)), rfl, rfl⟩ dX2_mustFall_32
    · refine lv_iconst (v := nI 1) hx hb dX2_mustFall_27 (by decide) ?_
      refine lv_goto (tgt := 32) hx hb dX2_mustFall_28 (by decide) ?_
      rw [← hQ]
      exact z_iret hC hM hr hlk rfl (by decide) (by decide) ⟨(zb_t (by omega)), rfl, rfl⟩ dX2_mustFall_32
set_option maxHeartbeats 400000 in
set_option maxRecDepth 100000 in
theorem c_ncopy {l : Launch} {base : Nat} {K : zK} {L : List Nat} {f : Nat → va_E} {o n lo kc : Nat} {g : Nat → UInt64} (ho : o ∈ L) (hfo : f o = eS 2 [.null, .int (nI 0)]) (hn : n ∈ L) (hfn : f n = eS 2 [.ref lo, .int (nI kc)]) (hlo : lo ∈ L) (hfl : f lo = eD K 1000 g) (hon : o ≠ n) (hnl : n ≠ lo) (hol : o ≠ lo) : zMet l yX1_init_ cX1_init_ 2 (none) (zr 1 1 1000 20) base K L f [.ref o, .ref n] (zQv base K (fun L1 f1 => ∃ q, q ∉ L ∧ L1 = L ++ [q] ∧ f1 = va_up (va_up f q (eD K 1000 g)) o (eS 2 [.ref q, .int (nI kc)]))) := by
  refine z_met (by decide) (Nat.le_of_ble_eq_true rfl) (fun p e s m below meth c ls hC hM hr hlk hnm hl => ?_)
  have hx := hC.1
  have hb := hC.2.1
  have hml := hC.2.2.1
  have hown := hC.2.2.2.1
  have hts := hC.2.2.2.2.1
  generalize hA : ([.ref o, .ref n] : List Value).toArray = args at hC ⊢
  generalize hQ : MQ _ _ _ _ _ _ _ = Q
  obtain ⟨locs, hlocs⟩ : ∃ z : List Loc, z = [] := ⟨_, rfl⟩
  obtain ⟨H, hH⟩ : ∃ z : Heap, z = s.heap := ⟨_, rfl⟩
  rw [← hlocs, ← hH] at hM ⊢
  have hl : lv_has ls 2 [(0, .ref o), (1, .ref n)] := hl
  refine lv_aload_n hx hb dX1_init__0 rfl (lv_at hl 0 rfl) ?_
  refine z_objInit hC zm_X1_3 hl.1 (by decide) (Nat.le_of_ble_eq_true rfl) dX1_init__1 ?_
  refine lv_aload_n hx hb dX1_init__4 rfl (lv_at hl 0 rfl) ?_
  refine lv_aload_n hx hb dX1_init__5 rfl (lv_at hl 1 rfl) ?_
  refine z_get hC hM hn hfn zcl_X1 (by decide) zl_X1_9 rfl dX1_init__6 ?_
  refine z_cloneD hC hM hl.1 hlo hfl zm_X1_19 (by decide) (Nat.le_of_ble_eq_true rfl) (by decide) (by decide) dX1_init__9 (fun q_9 H hq_9 hM => ?_)
  obtain ⟨f_1, ef_1⟩ : ∃ z9, z9 = va_up f q_9 (eD K 1000 g) := ⟨_, rfl⟩
  rw [← ef_1] at hM
  have hN_4 : o ≠ q_9 := fun h => hq_9 (h ▸ ho)
  have hL_2 : o ∈ L ++ [q_9] := List.mem_append_left _ ho
  have hF_3 : f_1 o = eS 2 [.null, .int (nI 0)] := by rw [ef_1]; exact (va_up_ne _ _ hN_4).trans hfo
  have hN_7 : n ≠ q_9 := fun h => hq_9 (h ▸ hn)
  have hL_5 : n ∈ L ++ [q_9] := List.mem_append_left _ hn
  have hF_6 : f_1 n = eS 2 [.ref lo, .int (nI kc)] := by rw [ef_1]; exact (va_up_ne _ _ hN_7).trans hfn
  have hN_10 : lo ≠ q_9 := fun h => hq_9 (h ▸ hlo)
  have hL_8 : lo ∈ L ++ [q_9] := List.mem_append_left _ hlo
  have hF_9 : f_1 lo = eD K 1000 g := by rw [ef_1]; exact (va_up_ne _ _ hN_10).trans hfl
  have hL_11 : q_9 ∈ L ++ [q_9] := List.mem_append_right _ List.mem_cons_self
  have hF_12 : f_1 q_9 = eD K 1000 g := by rw [ef_1]; exact va_up_self _ _ _
  refine z_castD hC hM hL_11 hF_12 zc_X1_20 dX1_init__12 ?_
  refine z_putF (fs' := [.ref q_9, .int (nI 0)]) hC hM hnm hL_2 hF_3 zcl_X1 (by decide) zl_X1_9 rfl rfl rfl (by rfl) (Nat.le_of_ble_eq_true rfl) rfl dX1_init__15 (fun H locs hM => ?_)
  obtain ⟨f_13, ef_13⟩ : ∃ z9, z9 = va_up f_1 o (eS 2 [.ref q_9, .int (nI 0)]) := ⟨_, rfl⟩
  rw [← ef_13] at hM
  have hF_14 : f_13 o = eS 2 [.ref q_9, .int (nI 0)] := by rw [ef_13]; exact va_up_self _ _ _
  have hF_15 : f_13 n = eS 2 [.ref lo, .int (nI kc)] := by rw [ef_13]; exact (va_up_ne _ _ (Ne.symm hon)).trans hF_6
  have hF_16 : f_13 lo = eD K 1000 g := by rw [ef_13]; exact (va_up_ne _ _ (Ne.symm hol)).trans hF_9
  have hF_17 : f_13 q_9 = eD K 1000 g := by rw [ef_13]; exact (va_up_ne _ _ (Ne.symm hN_4)).trans hF_12
  refine lv_aload_n hx hb dX1_init__18 rfl (lv_at hl 0 rfl) ?_
  refine lv_aload_n hx hb dX1_init__19 rfl (lv_at hl 1 rfl) ?_
  refine z_get hC hM hL_5 hF_15 zcl_X1 (by decide) zl_X1_15 rfl dX1_init__20 ?_
  refine z_put (fs' := [.ref q_9, .int (nI kc)]) hC hM hL_2 hF_14 zcl_X1 (by decide) zl_X1_15 rfl rfl (by rfl) (Nat.le_of_ble_eq_true rfl) rfl dX1_init__23 (fun H locs hM => ?_)
  obtain ⟨f_18, ef_18⟩ : ∃ z9, z9 = va_up f_13 o (eS 2 [.ref q_9, .int (nI kc)]) := ⟨_, rfl⟩
  rw [← ef_18] at hM
  have hF_19 : f_18 o = eS 2 [.ref q_9, .int (nI kc)] := by rw [ef_18]; exact va_up_self _ _ _
  have hF_20 : f_18 n = eS 2 [.ref lo, .int (nI kc)] := by rw [ef_18]; exact (va_up_ne _ _ (Ne.symm hon)).trans hF_15
  have hF_21 : f_18 lo = eD K 1000 g := by rw [ef_18]; exact (va_up_ne _ _ (Ne.symm hol)).trans hF_16
  have hF_22 : f_18 q_9 = eD K 1000 g := by rw [ef_18]; exact (va_up_ne _ _ (Ne.symm hN_4)).trans hF_17
  rw [← hQ]
  exact z_vret hC hM hr hlk (by decide) (by decide) ⟨q_9, hq_9, rfl, (by rw [ef_18, ef_13, ef_1, up_up])⟩ dX1_init__26
set_option maxHeartbeats 400000 in
set_option maxRecDepth 100000 in
theorem c_finit {l : Launch} {base : Nat} {K : zK} {L : List Nat} {f : Nat → va_E} {o : Nat} (ho : o ∈ L) (hfo : f o = eS 1 [.null, .null, .int (nI 0), .double 0]) : zMet l yX0_init cX0_init 1 (none) (zr 1 2 240 12) base K L f [.ref o] (zQv base K (fun L1 f1 => ∃ q r, q ∉ L ∧ r ∉ L ++ [q] ∧ L1 = (L ++ [q]) ++ [r] ∧ f1 = va_up (va_up (va_up f q (eD K 120 (fun _ => 0))) r (eI K 120 (fun _ => 0))) o (eS 1 [.ref q, .ref r, .int (nI 0), .double 0]))) := by
  refine z_met (by decide) (Nat.le_of_ble_eq_true rfl) (fun p e s m below meth c ls hC hM hr hlk hnm hl => ?_)
  have hx := hC.1
  have hb := hC.2.1
  have hml := hC.2.2.1
  have hown := hC.2.2.2.1
  have hts := hC.2.2.2.2.1
  generalize hA : ([.ref o] : List Value).toArray = args at hC ⊢
  generalize hQ : MQ _ _ _ _ _ _ _ = Q
  obtain ⟨locs, hlocs⟩ : ∃ z : List Loc, z = [] := ⟨_, rfl⟩
  obtain ⟨H, hH⟩ : ∃ z : Heap, z = s.heap := ⟨_, rfl⟩
  rw [← hlocs, ← hH] at hM ⊢
  have hl : lv_has ls 1 [(0, .ref o)] := hl
  refine lv_aload_n hx hb dX0_init_0 rfl (lv_at hl 0 rfl) ?_
  refine z_objInit hC zm_X0_3 hl.1 (by decide) (Nat.le_of_ble_eq_true rfl) dX0_init_1 ?_
  refine lv_aload_n hx hb dX0_init_4 rfl (lv_at hl 0 rfl) ?_
  refine lv_bipush (v := nI 120) hx hb dX0_init_5 (by decide) ?_
  refine z_newD hC hM zarr_double (by decide) (by decide) (by decide) dX0_init_7 (fun q_7 H hq_7 hM => ?_)
  obtain ⟨f_1, ef_1⟩ : ∃ z9, z9 = va_up f q_7 (eD K 120 (fun _ => 0)) := ⟨_, rfl⟩
  rw [← ef_1] at hM
  have hN_4 : o ≠ q_7 := fun h => hq_7 (h ▸ ho)
  have hL_2 : o ∈ L ++ [q_7] := List.mem_append_left _ ho
  have hF_3 : f_1 o = eS 1 [.null, .null, .int (nI 0), .double 0] := by rw [ef_1]; exact (va_up_ne _ _ hN_4).trans hfo
  have hL_5 : q_7 ∈ L ++ [q_7] := List.mem_append_right _ List.mem_cons_self
  have hF_6 : f_1 q_7 = eD K 120 (fun _ => 0) := by rw [ef_1]; exact va_up_self _ _ _
  refine z_putF (fs' := [.ref q_7, .null, .int (nI 0), .double 0]) hC hM hnm hL_2 hF_3 zcl_X0 (by decide) zl_X0_9 rfl rfl rfl (by rfl) (Nat.le_of_ble_eq_true rfl) rfl dX0_init_9 (fun H locs hM => ?_)
  obtain ⟨f_7, ef_7⟩ : ∃ z9, z9 = va_up f_1 o (eS 1 [.ref q_7, .null, .int (nI 0), .double 0]) := ⟨_, rfl⟩
  rw [← ef_7] at hM
  have hF_8 : f_7 o = eS 1 [.ref q_7, .null, .int (nI 0), .double 0] := by rw [ef_7]; exact va_up_self _ _ _
  have hF_9 : f_7 q_7 = eD K 120 (fun _ => 0) := by rw [ef_7]; exact (va_up_ne _ _ (Ne.symm hN_4)).trans hF_6
  refine lv_aload_n hx hb dX0_init_12 rfl (lv_at hl 0 rfl) ?_
  refine lv_bipush (v := nI 120) hx hb dX0_init_13 (by decide) ?_
  refine z_newI hC hM zarr_int (by decide) (by decide) (by decide) dX0_init_15 (fun q_15 H hq_15 hM => ?_)
  obtain ⟨f_10, ef_10⟩ : ∃ z9, z9 = va_up f_7 q_15 (eI K 120 (fun _ => 0)) := ⟨_, rfl⟩
  rw [← ef_10] at hM
  have hN_13 : o ≠ q_15 := fun h => hq_15 (h ▸ hL_2)
  have hL_11 : o ∈ L ++ [q_7] ++ [q_15] := List.mem_append_left _ hL_2
  have hF_12 : f_10 o = eS 1 [.ref q_7, .null, .int (nI 0), .double 0] := by rw [ef_10]; exact (va_up_ne _ _ hN_13).trans hF_8
  have hN_16 : q_7 ≠ q_15 := fun h => hq_15 (h ▸ hL_5)
  have hL_14 : q_7 ∈ L ++ [q_7] ++ [q_15] := List.mem_append_left _ hL_5
  have hF_15 : f_10 q_7 = eD K 120 (fun _ => 0) := by rw [ef_10]; exact (va_up_ne _ _ hN_16).trans hF_9
  have hL_17 : q_15 ∈ L ++ [q_7] ++ [q_15] := List.mem_append_right _ List.mem_cons_self
  have hF_18 : f_10 q_15 = eI K 120 (fun _ => 0) := by rw [ef_10]; exact va_up_self _ _ _
  refine z_putF (fs' := [.ref q_7, .ref q_15, .int (nI 0), .double 0]) hC hM hnm hL_11 hF_12 zcl_X0 (by decide) zl_X0_15 rfl rfl rfl (by rfl) (Nat.le_of_ble_eq_true rfl) rfl dX0_init_17 (fun H locs hM => ?_)
  obtain ⟨f_19, ef_19⟩ : ∃ z9, z9 = va_up f_10 o (eS 1 [.ref q_7, .ref q_15, .int (nI 0), .double 0]) := ⟨_, rfl⟩
  rw [← ef_19] at hM
  have hF_20 : f_19 o = eS 1 [.ref q_7, .ref q_15, .int (nI 0), .double 0] := by rw [ef_19]; exact va_up_self _ _ _
  have hF_21 : f_19 q_7 = eD K 120 (fun _ => 0) := by rw [ef_19]; exact (va_up_ne _ _ (Ne.symm hN_4)).trans hF_15
  have hF_22 : f_19 q_15 = eI K 120 (fun _ => 0) := by rw [ef_19]; exact (va_up_ne _ _ (Ne.symm hN_13)).trans hF_18
  refine lv_aload_n hx hb dX0_init_20 rfl (lv_at hl 0 rfl) ?_
  refine lv_iconst (v := nI 0) hx hb dX0_init_21 (by decide) ?_
  refine z_put (fs' := [.ref q_7, .ref q_15, .int (nI 0), .double 0]) hC hM hL_11 hF_20 zcl_X0 (by decide) zl_X0_19 rfl rfl (by rfl) (Nat.le_of_ble_eq_true rfl) rfl dX0_init_22 (fun H locs hM => ?_)
  obtain ⟨f_23, ef_23⟩ : ∃ z9, z9 = va_up f_19 o (eS 1 [.ref q_7, .ref q_15, .int (nI 0), .double 0]) := ⟨_, rfl⟩
  rw [← ef_23] at hM
  have hF_24 : f_23 o = eS 1 [.ref q_7, .ref q_15, .int (nI 0), .double 0] := by rw [ef_23]; exact va_up_self _ _ _
  have hF_25 : f_23 q_7 = eD K 120 (fun _ => 0) := by rw [ef_23]; exact (va_up_ne _ _ (Ne.symm hN_4)).trans hF_21
  have hF_26 : f_23 q_15 = eI K 120 (fun _ => 0) := by rw [ef_23]; exact (va_up_ne _ _ (Ne.symm hN_13)).trans hF_22
  refine lv_aload_n hx hb dX0_init_25 rfl (lv_at hl 0 rfl) ?_
  refine lv_dconst0 hx hb dX0_init_26 ?_
  refine z_put (fs' := [.ref q_7, .ref q_15, .int (nI 0), .double FP.dconst0]) hC hM hL_11 hF_24 zcl_X0 (by decide) zl_X0_23 rfl rfl (by rfl) (Nat.le_of_ble_eq_true rfl) rfl dX0_init_27 (fun H locs hM => ?_)
  obtain ⟨f_27, ef_27⟩ : ∃ z9, z9 = va_up f_23 o (eS 1 [.ref q_7, .ref q_15, .int (nI 0), .double FP.dconst0]) := ⟨_, rfl⟩
  rw [← ef_27] at hM
  have hF_28 : f_27 o = eS 1 [.ref q_7, .ref q_15, .int (nI 0), .double FP.dconst0] := by rw [ef_27]; exact va_up_self _ _ _
  have hF_29 : f_27 q_7 = eD K 120 (fun _ => 0) := by rw [ef_27]; exact (va_up_ne _ _ (Ne.symm hN_4)).trans hF_25
  have hF_30 : f_27 q_15 = eI K 120 (fun _ => 0) := by rw [ef_27]; exact (va_up_ne _ _ (Ne.symm hN_13)).trans hF_26
  rw [← hQ]
  exact z_vret hC hM hr hlk (by decide) (by decide) ⟨q_7, q_15, hq_7, hq_15, rfl, (by rw [ef_27, ef_23, ef_19, ef_10, ef_7, ef_1, up_up, up_up, up_3 _ hN_13]; rfl)⟩ dX0_init_30
end
section
/-! THE FRAME, eighth part: exact contracts of methods that may throw -/
abbrev zPv (base : Nat) (K : zK) (P : Prop) (L : List Nat) (f : Nat → va_E) := zQv base K (fun L1 f1 => P ∧ L1 = L ∧ f1 = f)
abbrev zPi (base : Nat) (K : zK) (P : Int32 → Prop) (L : List Nat) (f : Nat → va_E) := zQi base K (fun r L1 f1 => P r ∧ L1 = L ∧ f1 = f)
abbrev zPl (base : Nat) (K : zK) (P : Int64 → Prop) (L : List Nat) (f : Nat → va_E) := zQl base K (fun r L1 f1 => P r ∧ L1 = L ∧ f1 = f)
abbrev zPq (base : Nat) (K : zK) (P : Option Nat → Prop) (L : List Nat) (f : Nat → va_E) := zQq base K (fun r L1 f1 => P r ∧ L1 = L ∧ f1 = f)
abbrev zPx (X : String → Prop) (L : List Nat) (f : Nat → va_E) : String → List Nat → (Nat → va_E) → Prop := fun E L1 f1 => X E ∧ L1 = L ∧ f1 = f
section ZP
variable {p : Program} {l : Launch} {e : Env} {R : Room} {s : State} {m : MethodId} {args : Array Value} {below : List Frame} {meth : Method} {c : Code} {H : Heap} {locs : List Loc} {cells slots : Nat} {Q : State → Prop}
variable {cc : ByteArray} {nL pc : Nat} {own : String} {base : Nat} {K : zK} {L L' L2 : List Nat} {f f' f2 : Nat → va_E} {ls : Array Slot} {rest st0 : List Value} {a : Nat} {mc ms mc1 ms1 : Nat} {Qc : Array Value → State → Outcome → State → Prop} {px : String → List Nat → (Nat → va_E) → Prop} {av : Array Value} {X : String → Prop}
theorem z_xpcallv {P : Prop} (hQ : vx_MQ below Qc (zX base K px) args s mc ms (base ≤ ·) = Q) (hr : vx_Run p l e R s m args below meth c H locs cells slots mc1 ms1 (F0 m pc ls st0) rest (zPv base K P L' f' av) (zX base K (zPx X L2 f2)) (base ≤ ·)) (hM : zM base K L f s H locs) (hxt : ∀ x ∈ c.exceptionTable.toList, False) (hlk : meth.locks = false) (hc : cells + mc1 ≤ mc) (hs : slots + ms1 ≤ ms) (hpx : ∀ E, X E → px E L2 f2)
    (kk : P → ∀ (H1 : Heap) (locs1 : List Loc), zM base K L' f' s H1 locs1 → W p l e R s m args below meth c H1 locs1 (cells + mc1) (slots + ms1) Q (F0 m (pc + 3) ls rest)) : W p l e R s m args below meth c H locs cells slots Q (F0 m pc ls st0) := by
  subst hQ
  exact z_xcallv hr hM hxt hlk hc hs (fun E L1 f1 ⟨h1, h2, h3⟩ => by subst h2 h3; exact hpx E h1) (fun L1 f1 H1 locs1 ⟨h1, h2, h3⟩ hM1 => by subst h2 h3; exact kk h1 H1 locs1 hM1)
theorem z_xpcalli {P : Int32 → Prop} (hQ : vx_MQ below Qc (zX base K px) args s mc ms (base ≤ ·) = Q) (hr : vx_Run p l e R s m args below meth c H locs cells slots mc1 ms1 (F0 m pc ls st0) rest (zPi base K P L' f' av) (zX base K (zPx X L2 f2)) (base ≤ ·)) (hM : zM base K L f s H locs) (hxt : ∀ x ∈ c.exceptionTable.toList, False) (hlk : meth.locks = false) (hc : cells + mc1 ≤ mc) (hs : slots + ms1 ≤ ms) (hpx : ∀ E, X E → px E L2 f2)
    (kk : ∀ r, P r → ∀ (H1 : Heap) (locs1 : List Loc), zM base K L' f' s H1 locs1 → W p l e R s m args below meth c H1 locs1 (cells + mc1) (slots + ms1) Q (F0 m (pc + 3) ls (.int r :: rest))) : W p l e R s m args below meth c H locs cells slots Q (F0 m pc ls st0) := by
  subst hQ
  exact z_xcalli hr hM hxt hlk hc hs (fun E L1 f1 ⟨h1, h2, h3⟩ => by subst h2 h3; exact hpx E h1) (fun r L1 f1 H1 locs1 ⟨h1, h2, h3⟩ hM1 => by subst h2 h3; exact kk r h1 H1 locs1 hM1)
theorem z_xpcallq {P : Option Nat → Prop} (hQ : vx_MQ below Qc (zX base K px) args s mc ms (base ≤ ·) = Q) (hr : vx_Run p l e R s m args below meth c H locs cells slots mc1 ms1 (F0 m pc ls st0) rest (zPq base K P L' f' av) (zX base K (zPx X L2 f2)) (base ≤ ·)) (hM : zM base K L f s H locs) (hxt : ∀ x ∈ c.exceptionTable.toList, False) (hlk : meth.locks = false) (hc : cells + mc1 ≤ mc) (hs : slots + ms1 ≤ ms) (hpx : ∀ E, X E → px E L2 f2)
    (kk : ∀ r, P r → ∀ (H1 : Heap) (locs1 : List Loc), zM base K L' f' s H1 locs1 → W p l e R s m args below meth c H1 locs1 (cells + mc1) (slots + ms1) Q (F0 m (pc + 3) ls (va_rf r :: rest))) : W p l e R s m args below meth c H locs cells slots Q (F0 m pc ls st0) := by
  subst hQ
  exact z_xcallq hr hM hxt hlk hc hs (fun E L1 f1 ⟨h1, h2, h3⟩ => by subst h2 h3; exact hpx E h1) (fun r L1 f1 H1 locs1 ⟨h1, h2, h3⟩ hM1 => by subst h2 h3; exact kk r h1 H1 locs1 hM1)
end ZP
/-- in range -/
def inR (x : Int32) (a b : Int) : Prop := a ≤ x.toInt ∧ x.toInt ≤ b
theorem inR_nI {x : Int32} {a b : Int} (h0 : 0 ≤ a) (h : inR x a b) : ∃ j : Nat, a ≤ (j : Int) ∧ (j : Int) ≤ b ∧ x = nI j := nI_of_range h0 h.1 h.2
end
section
/-! CONTRACTS of Transitry: what is in range (rows laid by wip/whole/req.py) -/
set_option maxHeartbeats 400000 in
set_option maxRecDepth 100000 in
theorem c_reqRange {l : Launch} {base : Nat} {K : zK} {L : List Nat} {f : Nat → va_E} (hst : l.stackTraces = false) (x : Int32) (a b : Nat) (ha : a < 2 ^ 31) (hb : b < 2 ^ 31) : zXMet l yX6_requireRange cX6_requireRange 3 (none) (zr 6 1 6 82) base K L f [.int x, .int (nI a), .int (nI b)] (zPv base K (inR x a b) L f) (zPx (fun E => E = xIA ∧ ¬ inR x a b) L f) := by
  refine z_xmet (by decide) (Nat.le_of_ble_eq_true rfl) (fun p e s m below meth c ls hC hM hr hlk hxt hl => ?_)
  have hx := hC.1
  have hb := hC.2.1
  have hml := hC.2.2.1
  have hown := hC.2.2.2.1
  have hts := hC.2.2.2.2.1
  generalize hA : ([.int x, .int (nI a), .int (nI b)] : List Value).toArray = args at hC ⊢
  generalize hQ : vx_MQ _ _ _ _ _ _ _ _ = Q
  obtain ⟨locs, hlocs⟩ : ∃ z : List Loc, z = [] := ⟨_, rfl⟩
  obtain ⟨H, hH⟩ : ∃ z : Heap, z = s.heap := ⟨_, rfl⟩
  rw [← hlocs, ← hH] at hM ⊢
  have hl : lv_has ls 3 [(0, .int x), (1, .int (nI a)), (2, .int (nI b))] := hl
  refine lv_iload_n hx hb dX6_requireRange_0 rfl (lv_at hl 0 rfl) ?_
  refine lv_iload_n hx hb dX6_requireRange_1 rfl (lv_at hl 1 rfl) ?_
  refine z_icmp_lt (tgt := 10) hx hb rfl (nI_toInt (by omega)) dX6_requireRange_2 (by decide) (fun c_2 => ?_) (fun c_2 => ?_)
  · rw [← hQ]
    exact z_throw (is := 240) (text := "an argument is out of its range") hC hM hst hlk hxt hl.1 zth_IA (by decide) dX6_requireRange_10 dX6_requireRange_13 dX6_requireRange_14 dX6_requireRange_16 dX6_requireRange_19 (by decide) (by decide) (by decide) ⟨⟨rfl, fun z => by have := z.1; have := z.2; omega⟩, rfl, rfl⟩
  · refine lv_iload_n hx hb dX6_requireRange_5 rfl (lv_at hl 0 rfl) ?_
    refine lv_iload_n hx hb dX6_requireRange_6 rfl (lv_at hl 2 rfl) ?_
    refine z_icmp_le (tgt := 20) hx hb rfl (nI_toInt (by omega)) dX6_requireRange_7 (by decide) (fun c_7 => ?_) (fun c_7 => ?_)
    · rw [← hQ]
      refine vx_ret ?_
      exact z_vret hC hM hr hlk (by decide) (by decide) ⟨⟨by omega, by omega⟩, rfl, rfl⟩ dX6_requireRange_20
    · rw [← hQ]
      exact z_throw (is := 240) (text := "an argument is out of its range") hC hM hst hlk hxt hl.1 zth_IA (by decide) dX6_requireRange_10 dX6_requireRange_13 dX6_requireRange_14 dX6_requireRange_16 dX6_requireRange_19 (by decide) (by decide) (by decide) ⟨⟨rfl, fun z => by have := z.1; have := z.2; omega⟩, rfl, rfl⟩
set_option maxHeartbeats 400000 in
set_option maxRecDepth 100000 in
theorem c_reqHour {l : Launch} {base : Nat} {K : zK} {L : List Nat} {f : Nat → va_E} (hst : l.stackTraces = false) (x : Int32) : zXMet l yX6_requireHour cX6_requireHour 1 (none) (zr 6 1 6 82) base K L f [.int x] (zPv base K (inR x 0 999) L f) (zPx (fun E => E = xIO ∧ ¬ inR x 0 999) L f) := by
  refine z_xmet (by decide) (Nat.le_of_ble_eq_true rfl) (fun p e s m below meth c ls hC hM hr hlk hxt hl => ?_)
  have hx := hC.1
  have hb := hC.2.1
  have hml := hC.2.2.1
  have hown := hC.2.2.2.1
  have hts := hC.2.2.2.2.1
  generalize hA : ([.int x] : List Value).toArray = args at hC ⊢
  generalize hQ : vx_MQ _ _ _ _ _ _ _ _ = Q
  obtain ⟨locs, hlocs⟩ : ∃ z : List Loc, z = [] := ⟨_, rfl⟩
  obtain ⟨H, hH⟩ : ∃ z : Heap, z = s.heap := ⟨_, rfl⟩
  rw [← hlocs, ← hH] at hM ⊢
  have hl : lv_has ls 1 [(0, .int x)] := hl
  refine lv_iload_n hx hb dX6_requireHour_0 rfl (lv_at hl 0 rfl) ?_
  refine z_if_lt (tgt := 11) hx hb rfl dX6_requireHour_1 (by decide) (fun c_1 => ?_) (fun c_1 => ?_)
  · rw [← hQ]
    exact z_throw (is := 233) (text := "there is no such hour") hC hM hst hlk hxt hl.1 zth_IO (by decide) dX6_requireHour_11 dX6_requireHour_14 dX6_requireHour_15 dX6_requireHour_17 dX6_requireHour_20 (by decide) (by decide) (by decide) ⟨⟨rfl, fun z => by have := z.1; have := z.2; omega⟩, rfl, rfl⟩
  · refine lv_iload_n hx hb dX6_requireHour_4 rfl (lv_at hl 0 rfl) ?_
    refine lv_sipush (v := nI 1000) hx hb dX6_requireHour_5 (by decide) ?_
    refine z_icmp_lt (tgt := 21) hx hb rfl (nI_toInt (by decide)) dX6_requireHour_8 (by decide) (fun c_8 => ?_) (fun c_8 => ?_)
    · rw [← hQ]
      refine vx_ret ?_
      exact z_vret hC hM hr hlk (by decide) (by decide) ⟨⟨by omega, by omega⟩, rfl, rfl⟩ dX6_requireHour_21
    · rw [← hQ]
      exact z_throw (is := 233) (text := "there is no such hour") hC hM hst hlk hxt hl.1 zth_IO (by decide) dX6_requireHour_11 dX6_requireHour_14 dX6_requireHour_15 dX6_requireHour_17 dX6_requireHour_20 (by decide) (by decide) (by decide) ⟨⟨rfl, fun z => by have := z.1; have := z.2; omega⟩, rfl, rfl⟩
set_option maxHeartbeats 400000 in
set_option maxRecDepth 100000 in
theorem c_reqHours {l : Launch} {base : Nat} {K : zK} {L : List Nat} {f : Nat → va_E} (hst : l.stackTraces = false) (x y : Int32) : zXMet l yX6_requireHours cX6_requireHours 2 (none) (zr 7 3 18 103) base K L f [.int x, .int y] (zPv base K (inR x 0 999 ∧ inR y 0 999 ∧ x.toInt ≤ y.toInt) L f) (zPx (fun E => (E = xIO ∧ ¬ (inR x 0 999 ∧ inR y 0 999)) ∨ (E = xIA ∧ (inR x 0 999 ∧ inR y 0 999) ∧ y.toInt < x.toInt)) L f) := by
  refine z_xmet (by decide) (Nat.le_of_ble_eq_true rfl) (fun p e s m below meth c ls hC hM hr hlk hxt hl => ?_)
  have hx := hC.1
  have hb := hC.2.1
  have hml := hC.2.2.1
  have hown := hC.2.2.2.1
  have hts := hC.2.2.2.2.1
  generalize hA : ([.int x, .int y] : List Value).toArray = args at hC ⊢
  generalize hQ : vx_MQ _ _ _ _ _ _ _ _ = Q
  obtain ⟨locs, hlocs⟩ : ∃ z : List Loc, z = [] := ⟨_, rfl⟩
  obtain ⟨H, hH⟩ : ∃ z : Heap, z = s.heap := ⟨_, rfl⟩
  rw [← hlocs, ← hH] at hM ⊢
  have hl : lv_has ls 2 [(0, .int x), (1, .int y)] := hl
  refine lv_iload_n hx hb dX6_requireHours_0 rfl (lv_at hl 0 rfl) ?_
  refine z_xpcallv hQ (z_xrunS hC hM (c_reqHour hst x) zy_X6_requireHour zm_X6_91 rfl rfl hl.1 (Nat.le_of_ble_eq_true rfl) ⟨by decide, by decide⟩ ⟨by decide, by decide⟩ dX6_requireHours_1) hM hxt hlk (by decide) (by decide) (fun E hE => ⟨Or.inl ⟨hE.1, fun z => hE.2 z.1⟩, rfl, rfl⟩) (fun hp_1 H locs hM => ?_)
  refine lv_iload_n hx hb dX6_requireHours_4 rfl (lv_at hl 1 rfl) ?_
  refine z_xpcallv hQ (z_xrunS hC hM (c_reqHour hst y) zy_X6_requireHour zm_X6_91 rfl rfl hl.1 (Nat.le_of_ble_eq_true rfl) ⟨by decide, by decide⟩ ⟨by decide, by decide⟩ dX6_requireHours_5) hM hxt hlk (by decide) (by decide) (fun E hE => ⟨Or.inl ⟨hE.1, fun z => hE.2 z.2⟩, rfl, rfl⟩) (fun hp_5 H locs hM => ?_)
  refine lv_iload_n hx hb dX6_requireHours_8 rfl (lv_at hl 1 rfl) ?_
  refine lv_iload_n hx hb dX6_requireHours_9 rfl (lv_at hl 0 rfl) ?_
  refine z_icmp_ge (tgt := 23) hx hb rfl rfl dX6_requireHours_10 (by decide) (fun c_10 => ?_) (fun c_10 => ?_)
  · rw [← hQ]
    refine vx_ret ?_
    exact z_vret hC hM hr hlk (by decide) (by decide) ⟨⟨hp_1, hp_5, by omega⟩, rfl, rfl⟩ dX6_requireHours_23
  · rw [← hQ]
    exact z_throw (is := 237) (text := "the last hour is before the first") hC hM hst hlk hxt hl.1 zth_IA (by decide) dX6_requireHours_13 dX6_requireHours_16 dX6_requireHours_17 dX6_requireHours_19 dX6_requireHours_22 (by decide) (by decide) (by decide) ⟨Or.inr ⟨rfl, ⟨hp_1, hp_5⟩, by omega⟩, rfl, rfl⟩
end
section
/-! THE STATE: whole numbers by the reference's fields (A.1 k j; 0: how many stars, worlds, papers), the kept light (A.2), and the class's cells by places (ad) -/
abbrev zA : Type := (Nat → Nat → Nat) × (Nat → UInt64)
def ns (A : zA) : Nat := A.1 0 0
def nw (A : zA) : Nat := A.1 0 1
def np (A : zA) : Nat := A.1 0 2
/-- the light kept of star i, by hours, 0 where none was kept -/
def gk (A : zA) (i h : Nat) : UInt64 := if h < 1000 ∧ A.1 12 (1000 * i + h) = 1 then A.2 (1000 * i + h) else 0
def fellN (A : zA) : Nat → Nat → Bool
  | 0, _ => false
  | n + 1, j => decide (A.1 23 (A.1 25 j) = 1) || (decide (A.1 26 j ≠ 0) && fellN A n (A.1 26 j - 1))
def fell (A : zA) (j : Nat) : Bool := fellN A (j + 1) j
def b2 (b : Bool) : Nat := if b then 1 else 0
/-- a light: from 16 to below 4194304 -/
def Lb (x : UInt64) : Prop := 1027 * 2 ^ 52 ≤ x.toNat ∧ x.toNat < 1045 * 2 ^ 52
def Gok (g : Nat → UInt64) : Prop := ∀ h, g h = 0 ∨ Lb (g h)
/-- how many of the first n hours are hidden -/
def hN (A : zA) : Nat → Nat
  | 0 => 0
  | n + 1 => if A.1 11 n = 1 then hN A n + 1 else hN A n
/-- which places there are -/
def live (A : zA) (t : Nat) : Prop :=
  (1 ≤ t ∧ t ≤ 6) ∨ t = 8 ∨ t = 10 ∨ (t = 7 ∧ 0 < ns A) ∨ (t = 9 ∧ 0 < nw A) ∨ (t = 11 ∧ 0 < np A) ∨
  (∃ i, i < ns A ∧ (t = 100 + 10 * i ∨ t = 101 + 10 * i ∨ t = 103 + 10 * i ∨ t = 104 + 10 * i ∨ (t = 102 + 10 * i ∧ 0 < A.1 3 i) ∨ ∃ k, k < A.1 3 i ∧ t = 200 + 10 * i + k)) ∨
  (∃ w, w < nw A ∧ (t = 300 + 10 * w ∨ t = 301 + 10 * w ∨ t = 302 + 10 * w)) ∨ (∃ j, j < np A ∧ t = 500 + j)
def VS (A : zA) (i : Nat) : Prop := 1000 ≤ A.1 2 i ∧ A.1 2 i ≤ 1000000 ∧ A.1 3 i ≤ 4 ∧ A.1 8 i ≤ 60 ∧ A.1 9 i ≤ 100 ∧ A.1 10 i ≤ 1000000 ∧ A.1 14 i = fN (gk A i) 1000 ∧ ∀ k, k < A.1 3 i → 2 ≤ A.1 4 (4 * i + k) ∧ A.1 4 (4 * i + k) ≤ 60 ∧ A.1 5 (4 * i + k) < A.1 4 (4 * i + k) ∧ 1 ≤ A.1 6 (4 * i + k) ∧ A.1 6 (4 * i + k) ≤ 4 ∧ 1 ≤ A.1 7 (4 * i + k) ∧ A.1 7 (4 * i + k) ≤ 200
/-- what the numbers keep to -/
def VA (A : zA) : Prop :=
  ns A ≤ 6 ∧ nw A ≤ 12 ∧ np A ≤ 30 ∧ (∀ i, i < ns A → VS A i) ∧
  (∀ i, ns A ≤ i → A.1 3 i = 0 ∧ A.1 8 i = 0 ∧ A.1 9 i = 0 ∧ A.1 10 i = 0 ∧ A.1 14 i = 0) ∧ (∀ j, 1000 * ns A ≤ j → A.1 12 j = 0) ∧
  (∀ j, A.1 12 j ≤ 1) ∧ (∀ j, A.1 12 j = 1 → Lb (A.2 j)) ∧ (∀ j, A.1 11 j ≤ 1) ∧
  (∀ w, w < nw A → A.1 20 w < ns A ∧ 2 ≤ A.1 21 w ∧ A.1 21 w ≤ 60 ∧ A.1 22 w < 60) ∧ (∀ w, A.1 23 w ≤ 1) ∧ (∀ w, nw A ≤ w → A.1 23 w = 0) ∧
  (∀ j, j < np A → A.1 25 j < nw A ∧ A.1 26 j ≤ j)
/-- star i's cells -/
def CS (K : zK) (L : List Nat) (f : Nat → va_E) (A : zA) (ad : Nat → Nat) (i : Nat) : Prop :=
  f (ad (100 + 10 * i)) = eS 5 [.int (nI (A.1 2 i)), .ref (ad (101 + 10 * i)), .int (nI (A.1 8 i)), .int (nI (A.1 9 i)), .int (nI (A.1 10 i)), .ref (ad (103 + 10 * i))] ∧
  LI K L f (ad (101 + 10 * i)) (ad (102 + 10 * i)) (A.1 3 i) (fun k => ad (200 + 10 * i + k)) ∧
  f (ad (103 + 10 * i)) = eS 2 [.ref (ad (104 + 10 * i)), .int (nI (A.1 14 i))] ∧ f (ad (104 + 10 * i)) = eD K 1000 (gk A i) ∧
  ∀ k, k < A.1 3 i → f (ad (200 + 10 * i + k)) = eS 4 [.int (nI (A.1 4 (4 * i + k))), .int (nI (A.1 5 (4 * i + k))), .int (nI (A.1 6 (4 * i + k))), .double (quo (A.1 7 (4 * i + k)))]
/-- world w's cells: its threshold t, its light g -/
def CW (K : zK) (f : Nat → va_E) (A : zA) (ad : Nat → Nat) (w t : Nat) (g : Nat → UInt64) : Prop :=
  f (ad (300 + 10 * w)) = eS 6 [.int (nI (A.1 20 w)), .int (nI t), .int (nI (A.1 21 w)), .int (nI (A.1 22 w)), .ref (ad (301 + 10 * w)), .int (nI (A.1 23 w))] ∧
  f (ad (301 + 10 * w)) = eS 2 [.ref (ad (302 + 10 * w)), .int (nI (fN g 1000))] ∧ f (ad (302 + 10 * w)) = eD K 1000 g ∧
  t ≤ 1000000 ∧ Gok g ∧ pdT g (nI t) = A.1 21 w
def CP (f : Nat → va_E) (A : zA) (ad : Nat → Nat) (j : Nat) : Prop :=
  f (ad (500 + j)) = eS 3 [.ref (ad (300 + 10 * A.1 25 j)), va_rf (if A.1 26 j = 0 then none else some (ad (500 + (A.1 26 j - 1)))), .int (nI (b2 (fell A j)))]
def CX (f : Nat → va_E) (A : zA) (ad : Nat → Nat) : Prop := f (ad 1) = eS 7 [.ref (ad 6), .ref (ad 8), .ref (ad 10), .ref (ad 5), .int (nI (hN A 1000)), .ref (ad 2)]
def CF (K : zK) (f : Nat → va_E) (ad : Nat → Nat) : Prop := ∃ (fl : Nat) (mn : UInt64) (sg : Nat → UInt64) (cg : Nat → Nat), f (ad 2) = eS 1 [.ref (ad 3), .ref (ad 4), .int (nI fl), .double mn] ∧ f (ad 3) = eD K 120 sg ∧ f (ad 4) = eI K 120 (fun j => nI (cg j)) ∧ (∀ j, 120 ≤ j → sg j = FP.dconst0) ∧ (∀ j, 120 ≤ j → cg j = 0) ∧ ∀ j, cg j < 2 ^ 31
def CI (K : zK) (L : List Nat) (f : Nat → va_E) (A : zA) (ad : Nat → Nat) : Prop :=
  VA A ∧ (∀ t, live A t → ad t ∈ L) ∧ (∀ t u, live A t → live A u → ad t = ad u → t = u) ∧ CX f A ad ∧ CF K f ad ∧ f (ad 5) = eZ K 1000 (fun h => nI (A.1 11 h)) ∧
  LI K L f (ad 6) (ad 7) (ns A) (fun i => ad (100 + 10 * i)) ∧ LI K L f (ad 8) (ad 9) (nw A) (fun w => ad (300 + 10 * w)) ∧ LI K L f (ad 10) (ad 11) (np A) (fun j => ad (500 + j)) ∧
  (∀ i, i < ns A → CS K L f A ad i) ∧ (∃ (t : Nat → Nat) (g : Nat → Nat → UInt64), ∀ w, w < nw A → CW K f A ad w (t w) (g w)) ∧ (∀ j, j < np A → CP f A ad j)
theorem ad_ne {A : zA} {ad : Nat → Nat} (h : ∀ t u, live A t → live A u → ad t = ad u → t = u) {t u : Nat} (ht : live A t) (hu : live A u) (hn : t ≠ u) : ad t ≠ ad u := fun e => hn (h t u ht hu e)
theorem live_s {A : zA} {i : Nat} (hi : i < ns A) {t : Nat} (h : t = 100 + 10 * i ∨ t = 101 + 10 * i ∨ t = 103 + 10 * i ∨ t = 104 + 10 * i) : live A t :=
  Or.inr (Or.inr (Or.inr (Or.inr (Or.inr (Or.inr (Or.inl ⟨i, hi, by rcases h with h | h | h | h <;> simp [h]⟩))))))
theorem live_p {A : zA} {i k : Nat} (hi : i < ns A) (hk : k < A.1 3 i) : live A (200 + 10 * i + k) :=
  Or.inr (Or.inr (Or.inr (Or.inr (Or.inr (Or.inr (Or.inl ⟨i, hi, Or.inr (Or.inr (Or.inr (Or.inr (Or.inr ⟨k, hk, rfl⟩))))⟩))))))
theorem live_w {A : zA} {w : Nat} (hw : w < nw A) {t : Nat} (h : t = 300 + 10 * w ∨ t = 301 + 10 * w ∨ t = 302 + 10 * w) : live A t :=
  Or.inr (Or.inr (Or.inr (Or.inr (Or.inr (Or.inr (Or.inr (Or.inl ⟨w, hw, h⟩)))))))
theorem live_q {A : zA} {j : Nat} (hj : j < np A) : live A (500 + j) :=
  Or.inr (Or.inr (Or.inr (Or.inr (Or.inr (Or.inr (Or.inr (Or.inr ⟨j, hj, rfl⟩)))))))
theorem live_c {A : zA} {t : Nat} (h : (1 ≤ t ∧ t ≤ 6) ∨ t = 8 ∨ t = 10) : live A t := by
  rcases h with h | h | h
  · exact Or.inl h
  · exact Or.inr (Or.inl h)
  · exact Or.inr (Or.inr (Or.inl h))
/-- the folding's cells, whatever they hold -/
def CFx (K : zK) (f : Nat → va_E) (fo so co : Nat) : Prop := ∃ (fl : Nat) (mn : UInt64) (sg : Nat → UInt64) (cg : Nat → Nat), f fo = eS 1 [.ref so, .ref co, .int (nI fl), .double mn] ∧ f so = eD K 120 sg ∧ f co = eI K 120 (fun j => nI (cg j)) ∧ (∀ j, 120 ≤ j → sg j = FP.dconst0) ∧ (∀ j, 120 ≤ j → cg j = 0) ∧ ∀ j, cg j < 2 ^ 31
/-- the class's search: behind the periods 2 .. k+1 -/
def bpS (g : Nat → UInt64) (t : Int32) : Nat → Option Nat × UInt64
  | 0 => (none, FP.i2d t)
  | k + 1 => if 0 < dc (scB g (k + 2)) (bpS g t k).2 then (some (k + 2), scB g (k + 2)) else bpS g t k
def bpT (g : Nat → UInt64) (t : Int32) : Option Nat := if fN g 1000 < 20 then none else (bpS g t 59).1
theorem bpS_1 {g : Nat → UInt64} {t : Int32} {k : Nat} (h : 0 < dc (scB g (k + 2)) (bpS g t k).2) : bpS g t (k + 1) = (some (k + 2), scB g (k + 2)) := by rw [bpS, if_pos h]
theorem bpS_0 {g : Nat → UInt64} {t : Int32} {k : Nat} (h : dc (scB g (k + 2)) (bpS g t k).2 ≤ 0) : bpS g t (k + 1) = bpS g t k := by rw [bpS, if_neg (by omega)]
theorem fC_some {g : Nat → UInt64} {p : Nat} (hp : 0 < p) : ∀ h, 0 < fN g h → ∃ j, j < p ∧ 0 < fC g p h j
  | 0, h0 => absurd h0 (Nat.lt_irrefl 0)
  | h + 1, h0 => by
    by_cases hk : g h ≠ 0
    · refine ⟨h % p, Nat.mod_lt _ hp, ?_⟩
      rw [fC, if_pos ⟨hk, rfl⟩]; omega
    · rw [fN, if_neg hk] at h0
      obtain ⟨j, hj, h1⟩ := fC_some hp h h0
      refine ⟨j, hj, ?_⟩
      rw [fC, if_neg (fun z => hk z.1)]; exact h1
theorem bfG_none {mn : UInt64} {sg : Nat → UInt64} {cg : Nat → Nat} : ∀ k, bfG mn sg cg k = none → ∀ j, j < k → cg j = 0
  | 0, _, j, hj => absurd hj (Nat.not_lt_zero j)
  | k + 1, h, j, hj => by
    by_cases hc : 0 < cg k
    · rw [bfG, if_pos hc] at h
      split at h
      · cases h
      · split at h <;> cases h
    · rw [bfG_no hc] at h
      have := bfG_none k h
      by_cases e : j = k
      · subst e; omega
      · exact this j (by omega)
theorem bFo_some {g : Nat → UInt64} {p : Nat} (hp : 0 < p) (h : 0 < fN g 1000) : ∃ b, bfG (mnT g) (fS g p 1000) (fC g p 1000) p = some b ∧ b < p ∧ 0 < fC g p 1000 b := by
  cases hb : bfG (mnT g) (fS g p 1000) (fC g p 1000) p with
  | none =>
    obtain ⟨j, hj, h1⟩ := fC_some hp 1000 h
    have := bfG_none p hb j hj
    omega
  | some b => exact ⟨b, rfl, bfG_lt _ _ hb⟩
theorem scB_at {g : Nat → UInt64} {p b : Nat} (h : bfG (mnT g) (fS g p 1000) (fC g p 1000) p = some b) : sf (mnT g) (fS g p 1000) (fC g p 1000) b = scB g p := by
  rw [scB, bFo, bfS, h]; rfl
theorem FP_fold {g : Nat → UInt64} (h : FPok g) {p : Nat} (hp : 0 < p) (x : Nat) (hx : 0 < fC g p 1000 x) : vf_n64 (FP.ddiv (fS g p 1000 x) (nD (fC g p 1000 x))) ∧ vf_n64 (FP.dsub (mnT g) (mf (fS g p 1000) (fC g p 1000) x)) ∧ vf_n64 (FP.dmul (FP.dsub (mnT g) (mf (fS g p 1000) (fC g p 1000) x)) (nD (fC g p 1000 x))) := h.2.2.2.2.2.1 p x hp hx
theorem bpS_lt {g : Nat → UInt64} {t : Int32} : ∀ k b, (bpS g t k).1 = some b → 2 ≤ b ∧ b < k + 2
  | 0, b, h => by cases h
  | k + 1, b, h => by
    by_cases hc : 0 < dc (scB g (k + 2)) (bpS g t k).2
    · rw [bpS_1 hc] at h; cases h; omega
    · rw [bpS_0 (by omega)] at h
      have := bpS_lt k b h
      omega
theorem bpT_lt {g : Nat → UInt64} {t : Int32} {b : Nat} (h : bpT g t = some b) : 2 ≤ b ∧ b ≤ 60 := by
  unfold bpT at h
  split at h
  · cases h
  · have := bpS_lt 59 b h; omega
theorem bpT_few {g : Nat → UInt64} {t : Int32} {b : Nat} (h : bpT g t = some b) : 20 ≤ fN g 1000 := by
  unfold bpT at h
  split at h
  · cases h
  · omega
theorem oN_m1 {r : Option Nat} (hr : ∀ k, r = some k → k ≤ 60) (h : (oN r).toInt = -1) : r = none := by
  cases r with
  | none => rfl
  | some k =>
    have h1 : (nI k).toInt = k := nI_toInt (by have := hr k rfl; omega)
    have h2 : (nI k).toInt = -1 := h
    omega
theorem oN_n1 {r : Option Nat} (h : (oN r).toInt ≠ -1) : ∃ k, r = some k := by
  cases r with
  | none => exact absurd rfl h
  | some k => exact ⟨k, rfl⟩
end
section
/-! CONTRACTS of Transitry: the things there are (rows laid by wip/whole/at.py) -/
set_option maxHeartbeats 400000 in
set_option maxRecDepth 100000 in
theorem c_starAt {l : Launch} {base : Nat} {K : zK} {L : List Nat} {f : Nat → va_E} (hst : l.stackTraces = false) {o sl wl pl hd hc fo : Nat} (ho : o ∈ L) (hfo : f o = eS 7 [.ref sl, .ref wl, .ref pl, .ref hd, .int (nI hc), .ref fo]) {ee n : Nat} {es : Nat → Nat} {fs : Nat → List Value} (hLI : LI K L f sl ee n es) (hn : n ≤ 60) (hes : ∀ i, i < n → es i ∈ L ∧ f (es i) = eS 5 (fs i)) (x : Int32) : zXMet l yX6_starAt cX6_starAt 2 (some (.object "Transitry$Star")) (zr 6 1 6 82) base K L f [.ref o, .int x] (zPq base K (fun r => ∃ i, i < n ∧ x = nI i ∧ r = some (es i)) L f) (zPx (fun E => E = xIO ∧ ¬ inR x 0 ((n : Int) - 1)) L f) := by
  obtain ⟨hpl, ⟨mc, hfp⟩, hor⟩ := hLI
  refine z_xmet (by decide) (Nat.le_of_ble_eq_true rfl) (fun p e s m below meth c ls hC hM hr hlk hxt hl => ?_)
  have hx := hC.1
  have hb := hC.2.1
  have hml := hC.2.2.1
  have hown := hC.2.2.2.1
  have hts := hC.2.2.2.2.1
  generalize hA : ([.ref o, .int x] : List Value).toArray = args at hC ⊢
  generalize hQ : vx_MQ _ _ _ _ _ _ _ _ = Q
  obtain ⟨locs, hlocs⟩ : ∃ z : List Loc, z = [] := ⟨_, rfl⟩
  obtain ⟨H, hH⟩ : ∃ z : Heap, z = s.heap := ⟨_, rfl⟩
  rw [← hlocs, ← hH] at hM ⊢
  have hl : lv_has ls 2 [(0, .ref o), (1, .int x)] := hl
  refine lv_iload_n hx hb dX6_starAt_0 rfl (lv_at hl 1 rfl) ?_
  refine z_if_lt (tgt := 15) hx hb rfl dX6_starAt_1 (by decide) (fun c_1 => ?_) (fun c_1 => ?_)
  · rw [← hQ]
    exact z_throw (is := 222) (text := "there is no such star") hC hM hst hlk hxt hl.1 zth_IO (by decide) dX6_starAt_15 dX6_starAt_18 dX6_starAt_19 dX6_starAt_21 dX6_starAt_24 (by decide) (by decide) (by decide) ⟨⟨rfl, fun z => by have := z.1; have := z.2; omega⟩, rfl, rfl⟩
  · refine lv_iload_n hx hb dX6_starAt_4 rfl (lv_at hl 1 rfl) ?_
    refine lv_aload_n hx hb dX6_starAt_5 rfl (lv_at hl 0 rfl) ?_
    refine z_get hC hM ho hfo zcl_X6 (by decide) zl_X6_10 rfl dX6_starAt_6 ?_
    refine z_fcalli (z_runV hC hM (c_size hpl hfp) zy_Jx4a65c_size_8abf5 zm_X6_42 hpl hfp zcl_Jx4a65c rfl rfl rfl hl.1 (Nat.le_of_ble_eq_true rfl) ⟨by decide, by decide⟩ ⟨by decide, by decide⟩ dX6_starAt_9) hM (fun H locs hM => ?_)
    refine z_icmp_lt (tgt := 25) hx hb rfl (nI_toInt (by omega)) dX6_starAt_12 (by decide) (fun c_12 => ?_) (fun c_12 => ?_)
    · skip
      obtain ⟨i, hi0, hi, hxi⟩ := nI_of_range (b := (n : Int) - 1) (Int.le_refl 0) c_1 (by omega)
      subst hxi
      have hin : i < n := by omega
      obtain ⟨hle, cap, arr, hfe, hc1, hc2, hnc, harr, -⟩ := hor.resolve_left (fun z => by omega)
      refine lv_aload_n hx hb dX6_starAt_25 rfl (lv_at hl 0 rfl) ?_
      refine z_get hC hM ho hfo zcl_X6 (by decide) zl_X6_10 rfl dX6_starAt_26 ?_
      refine lv_iload_n hx hb dX6_starAt_29 rfl (lv_at hl 1 rfl) ?_
      refine z_fcallq (z_runV hC hM (c_get hpl hfp hle hfe hin hnc (by omega) (harr i hin)) zy_Jx4a65c_get_915e3 zm_X6_225 hpl hfp zcl_Jx4a65c rfl rfl rfl hl.1 (Nat.le_of_ble_eq_true rfl) ⟨by decide, by decide⟩ ⟨by decide, by decide⟩ dX6_starAt_30) hM (fun H locs hM => ?_)
      refine z_cast hC hM ((hes i hin).1) ((hes i hin).2) zcl_X4 zc_X6_53 dX6_starAt_33 ?_
      rw [← hQ]
      refine vx_ret ?_
      exact z_qret (v := (some ((es i)))) hC hM hr (Or.inl ⟨_, rfl⟩) hlk (by decide) (by decide) ⟨⟨i, hin, rfl, rfl⟩, rfl, rfl⟩ dX6_starAt_36
    · rw [← hQ]
      exact z_throw (is := 222) (text := "there is no such star") hC hM hst hlk hxt hl.1 zth_IO (by decide) dX6_starAt_15 dX6_starAt_18 dX6_starAt_19 dX6_starAt_21 dX6_starAt_24 (by decide) (by decide) (by decide) ⟨⟨rfl, fun z => by have := z.1; have := z.2; omega⟩, rfl, rfl⟩
set_option maxHeartbeats 400000 in
set_option maxRecDepth 100000 in
theorem c_worldAt {l : Launch} {base : Nat} {K : zK} {L : List Nat} {f : Nat → va_E} (hst : l.stackTraces = false) {o sl wl pl hd hc fo : Nat} (ho : o ∈ L) (hfo : f o = eS 7 [.ref sl, .ref wl, .ref pl, .ref hd, .int (nI hc), .ref fo]) {ee n : Nat} {es : Nat → Nat} {fs : Nat → List Value} (hLI : LI K L f wl ee n es) (hn : n ≤ 60) (hes : ∀ i, i < n → es i ∈ L ∧ f (es i) = eS 6 (fs i)) (x : Int32) : zXMet l yX6_worldAt cX6_worldAt 2 (some (.object "Transitry$World")) (zr 6 1 6 82) base K L f [.ref o, .int x] (zPq base K (fun r => ∃ i, i < n ∧ x = nI i ∧ r = some (es i)) L f) (zPx (fun E => E = xIO ∧ ¬ inR x 0 ((n : Int) - 1)) L f) := by
  obtain ⟨hpl, ⟨mc, hfp⟩, hor⟩ := hLI
  refine z_xmet (by decide) (Nat.le_of_ble_eq_true rfl) (fun p e s m below meth c ls hC hM hr hlk hxt hl => ?_)
  have hx := hC.1
  have hb := hC.2.1
  have hml := hC.2.2.1
  have hown := hC.2.2.2.1
  have hts := hC.2.2.2.2.1
  generalize hA : ([.ref o, .int x] : List Value).toArray = args at hC ⊢
  generalize hQ : vx_MQ _ _ _ _ _ _ _ _ = Q
  obtain ⟨locs, hlocs⟩ : ∃ z : List Loc, z = [] := ⟨_, rfl⟩
  obtain ⟨H, hH⟩ : ∃ z : Heap, z = s.heap := ⟨_, rfl⟩
  rw [← hlocs, ← hH] at hM ⊢
  have hl : lv_has ls 2 [(0, .ref o), (1, .int x)] := hl
  refine lv_iload_n hx hb dX6_worldAt_0 rfl (lv_at hl 1 rfl) ?_
  refine z_if_lt (tgt := 15) hx hb rfl dX6_worldAt_1 (by decide) (fun c_1 => ?_) (fun c_1 => ?_)
  · rw [← hQ]
    exact z_throw (is := 229) (text := "there is no such world") hC hM hst hlk hxt hl.1 zth_IO (by decide) dX6_worldAt_15 dX6_worldAt_18 dX6_worldAt_19 dX6_worldAt_21 dX6_worldAt_24 (by decide) (by decide) (by decide) ⟨⟨rfl, fun z => by have := z.1; have := z.2; omega⟩, rfl, rfl⟩
  · refine lv_iload_n hx hb dX6_worldAt_4 rfl (lv_at hl 1 rfl) ?_
    refine lv_aload_n hx hb dX6_worldAt_5 rfl (lv_at hl 0 rfl) ?_
    refine z_get hC hM ho hfo zcl_X6 (by decide) zl_X6_16 rfl dX6_worldAt_6 ?_
    refine z_fcalli (z_runV hC hM (c_size hpl hfp) zy_Jx4a65c_size_8abf5 zm_X6_42 hpl hfp zcl_Jx4a65c rfl rfl rfl hl.1 (Nat.le_of_ble_eq_true rfl) ⟨by decide, by decide⟩ ⟨by decide, by decide⟩ dX6_worldAt_9) hM (fun H locs hM => ?_)
    refine z_icmp_lt (tgt := 25) hx hb rfl (nI_toInt (by omega)) dX6_worldAt_12 (by decide) (fun c_12 => ?_) (fun c_12 => ?_)
    · skip
      obtain ⟨i, hi0, hi, hxi⟩ := nI_of_range (b := (n : Int) - 1) (Int.le_refl 0) c_1 (by omega)
      subst hxi
      have hin : i < n := by omega
      obtain ⟨hle, cap, arr, hfe, hc1, hc2, hnc, harr, -⟩ := hor.resolve_left (fun z => by omega)
      refine lv_aload_n hx hb dX6_worldAt_25 rfl (lv_at hl 0 rfl) ?_
      refine z_get hC hM ho hfo zcl_X6 (by decide) zl_X6_16 rfl dX6_worldAt_26 ?_
      refine lv_iload_n hx hb dX6_worldAt_29 rfl (lv_at hl 1 rfl) ?_
      refine z_fcallq (z_runV hC hM (c_get hpl hfp hle hfe hin hnc (by omega) (harr i hin)) zy_Jx4a65c_get_915e3 zm_X6_225 hpl hfp zcl_Jx4a65c rfl rfl rfl hl.1 (Nat.le_of_ble_eq_true rfl) ⟨by decide, by decide⟩ ⟨by decide, by decide⟩ dX6_worldAt_30) hM (fun H locs hM => ?_)
      refine z_cast hC hM ((hes i hin).1) ((hes i hin).2) zcl_X5 zc_X6_166 dX6_worldAt_33 ?_
      rw [← hQ]
      refine vx_ret ?_
      exact z_qret (v := (some ((es i)))) hC hM hr (Or.inl ⟨_, rfl⟩) hlk (by decide) (by decide) ⟨⟨i, hin, rfl, rfl⟩, rfl, rfl⟩ dX6_worldAt_36
    · rw [← hQ]
      exact z_throw (is := 229) (text := "there is no such world") hC hM hst hlk hxt hl.1 zth_IO (by decide) dX6_worldAt_15 dX6_worldAt_18 dX6_worldAt_19 dX6_worldAt_21 dX6_worldAt_24 (by decide) (by decide) (by decide) ⟨⟨rfl, fun z => by have := z.1; have := z.2; omega⟩, rfl, rfl⟩
set_option maxHeartbeats 400000 in
set_option maxRecDepth 100000 in
theorem c_paperAt {l : Launch} {base : Nat} {K : zK} {L : List Nat} {f : Nat → va_E} (hst : l.stackTraces = false) {o sl wl pl hd hc fo : Nat} (ho : o ∈ L) (hfo : f o = eS 7 [.ref sl, .ref wl, .ref pl, .ref hd, .int (nI hc), .ref fo]) {ee n : Nat} {es : Nat → Nat} {fs : Nat → List Value} (hLI : LI K L f pl ee n es) (hn : n ≤ 60) (hes : ∀ i, i < n → es i ∈ L ∧ f (es i) = eS 3 (fs i)) (x : Int32) : zXMet l yX6_paperAt cX6_paperAt 2 (some (.object "Transitry$Paper")) (zr 6 1 6 82) base K L f [.ref o, .int x] (zPq base K (fun r => ∃ i, i < n ∧ x = nI i ∧ r = some (es i)) L f) (zPx (fun E => E = xIO ∧ ¬ inR x 0 ((n : Int) - 1)) L f) := by
  obtain ⟨hpl, ⟨mc, hfp⟩, hor⟩ := hLI
  refine z_xmet (by decide) (Nat.le_of_ble_eq_true rfl) (fun p e s m below meth c ls hC hM hr hlk hxt hl => ?_)
  have hx := hC.1
  have hb := hC.2.1
  have hml := hC.2.2.1
  have hown := hC.2.2.2.1
  have hts := hC.2.2.2.2.1
  generalize hA : ([.ref o, .int x] : List Value).toArray = args at hC ⊢
  generalize hQ : vx_MQ _ _ _ _ _ _ _ _ = Q
  obtain ⟨locs, hlocs⟩ : ∃ z : List Loc, z = [] := ⟨_, rfl⟩
  obtain ⟨H, hH⟩ : ∃ z : Heap, z = s.heap := ⟨_, rfl⟩
  rw [← hlocs, ← hH] at hM ⊢
  have hl : lv_has ls 2 [(0, .ref o), (1, .int x)] := hl
  refine lv_iload_n hx hb dX6_paperAt_0 rfl (lv_at hl 1 rfl) ?_
  refine z_if_lt (tgt := 15) hx hb rfl dX6_paperAt_1 (by decide) (fun c_1 => ?_) (fun c_1 => ?_)
  · rw [← hQ]
    exact z_throw (is := 231) (text := "there is no such paper") hC hM hst hlk hxt hl.1 zth_IO (by decide) dX6_paperAt_15 dX6_paperAt_18 dX6_paperAt_19 dX6_paperAt_21 dX6_paperAt_24 (by decide) (by decide) (by decide) ⟨⟨rfl, fun z => by have := z.1; have := z.2; omega⟩, rfl, rfl⟩
  · refine lv_iload_n hx hb dX6_paperAt_4 rfl (lv_at hl 1 rfl) ?_
    refine lv_aload_n hx hb dX6_paperAt_5 rfl (lv_at hl 0 rfl) ?_
    refine z_get hC hM ho hfo zcl_X6 (by decide) zl_X6_19 rfl dX6_paperAt_6 ?_
    refine z_fcalli (z_runV hC hM (c_size hpl hfp) zy_Jx4a65c_size_8abf5 zm_X6_42 hpl hfp zcl_Jx4a65c rfl rfl rfl hl.1 (Nat.le_of_ble_eq_true rfl) ⟨by decide, by decide⟩ ⟨by decide, by decide⟩ dX6_paperAt_9) hM (fun H locs hM => ?_)
    refine z_icmp_lt (tgt := 25) hx hb rfl (nI_toInt (by omega)) dX6_paperAt_12 (by decide) (fun c_12 => ?_) (fun c_12 => ?_)
    · skip
      obtain ⟨i, hi0, hi, hxi⟩ := nI_of_range (b := (n : Int) - 1) (Int.le_refl 0) c_1 (by omega)
      subst hxi
      have hin : i < n := by omega
      obtain ⟨hle, cap, arr, hfe, hc1, hc2, hnc, harr, -⟩ := hor.resolve_left (fun z => by omega)
      refine lv_aload_n hx hb dX6_paperAt_25 rfl (lv_at hl 0 rfl) ?_
      refine z_get hC hM ho hfo zcl_X6 (by decide) zl_X6_19 rfl dX6_paperAt_26 ?_
      refine lv_iload_n hx hb dX6_paperAt_29 rfl (lv_at hl 1 rfl) ?_
      refine z_fcallq (z_runV hC hM (c_get hpl hfp hle hfe hin hnc (by omega) (harr i hin)) zy_Jx4a65c_get_915e3 zm_X6_225 hpl hfp zcl_Jx4a65c rfl rfl rfl hl.1 (Nat.le_of_ble_eq_true rfl) ⟨by decide, by decide⟩ ⟨by decide, by decide⟩ dX6_paperAt_30) hM (fun H locs hM => ?_)
      refine z_cast hC hM ((hes i hin).1) ((hes i hin).2) zcl_X2 zc_X6_199 dX6_paperAt_33 ?_
      rw [← hQ]
      refine vx_ret ?_
      exact z_qret (v := (some ((es i)))) hC hM hr (Or.inl ⟨_, rfl⟩) hlk (by decide) (by decide) ⟨⟨i, hin, rfl, rfl⟩, rfl, rfl⟩ dX6_paperAt_36
    · rw [← hQ]
      exact z_throw (is := 231) (text := "there is no such paper") hC hM hst hlk hxt hl.1 zth_IO (by decide) dX6_paperAt_15 dX6_paperAt_18 dX6_paperAt_19 dX6_paperAt_21 dX6_paperAt_24 (by decide) (by decide) (by decide) ⟨⟨rfl, fun z => by have := z.1; have := z.2; omega⟩, rfl, rfl⟩
set_option maxHeartbeats 400000 in
set_option maxRecDepth 100000 in
theorem c_isHidden {l : Launch} {base : Nat} {K : zK} {L : List Nat} {f : Nat → va_E} {o sl wl pl hd hc fo : Nat} (ho : o ∈ L) (hfo : f o = eS 7 [.ref sl, .ref wl, .ref pl, .ref hd, .int (nI hc), .ref fo]) {hg : Nat → Nat} (hhd : hd ∈ L) (hfh : f hd = eZ K 1000 (fun h => nI (hg h))) (hg1 : ∀ h, hg h ≤ 1) {h : Nat} (hh : h < 1000) : zMet l yX6_isHidden cX6_isHidden 2 (some .boolean) (zr 0 0 0 0) base K L f [.ref o, .int (nI h)] (zFi base K (zb (hg h = 1)) L f) := by
  have h91 := hg1 h
  refine z_met (by decide) (Nat.le_of_ble_eq_true rfl) (fun p e s m below meth c ls hC hM hr hlk hnm hl => ?_)
  have hx := hC.1
  have hb := hC.2.1
  have hml := hC.2.2.1
  have hown := hC.2.2.2.1
  have hts := hC.2.2.2.2.1
  generalize hA : ([.ref o, .int (nI h)] : List Value).toArray = args at hC ⊢
  generalize hQ : MQ _ _ _ _ _ _ _ = Q
  obtain ⟨locs, hlocs⟩ : ∃ z : List Loc, z = [] := ⟨_, rfl⟩
  obtain ⟨H, hH⟩ : ∃ z : Heap, z = s.heap := ⟨_, rfl⟩
  rw [← hlocs, ← hH] at hM ⊢
  have hl : lv_has ls 2 [(0, .ref o), (1, .int (nI h))] := hl
  refine lv_iload_n hx hb dX6_isHidden_0 rfl (lv_at hl 1 rfl) ?_
  refine z_if_lt (tgt := 26) hx hb (nI_toInt (by omega)) dX6_isHidden_1 (by decide) (fun c_1 => ?_) (fun c_1 => ?_)
  · exact absurd c_1 (by omega)
  · refine lv_iload_n hx hb dX6_isHidden_4 rfl (lv_at hl 1 rfl) ?_
    refine lv_aload_n hx hb dX6_isHidden_5 rfl (lv_at hl 0 rfl) ?_
    refine z_get hC hM ho hfo zcl_X6 (by decide) zl_X6_22 rfl dX6_isHidden_6 ?_
    refine z_alen (n := 1000) 2 hC hM hhd hfh rfl rfl dX6_isHidden_9 ?_
    refine z_icmp_ge (tgt := 26) hx hb (nI_toInt (by omega)) (nI_toInt (by decide)) dX6_isHidden_10 (by decide) (fun c_10 => ?_) (fun c_10 => ?_)
    · exact absurd c_10 (by omega)
    · refine lv_aload_n hx hb dX6_isHidden_13 rfl (lv_at hl 0 rfl) ?_
      refine z_get hC hM ho hfo zcl_X6 (by decide) zl_X6_22 rfl dX6_isHidden_14 ?_
      refine lv_iload_n hx hb dX6_isHidden_17 rfl (lv_at hl 1 rfl) ?_
      refine z_zald hC hM hhd hfh (by omega) (by omega) dX6_isHidden_18 ?_
      refine z_if_eq (tgt := 26) hx hb (nI_toInt (by omega)) dX6_isHidden_19 (by decide) (fun c_19 => ?_) (fun c_19 => ?_)
      · refine lv_iconst (v := nI 0) hx hb dX6_isHidden_26 (by decide) ?_
        rw [← hQ]
        exact z_iret hC hM hr hlk rfl (by decide) (by decide) ⟨(zb_f (by omega)), rfl, rfl⟩ dX6_isHidden_27
      · refine lv_iconst (v := nI 1) hx hb dX6_isHidden_22 (by decide) ?_
        refine lv_goto (tgt := 27) hx hb dX6_isHidden_23 (by decide) ?_
        rw [← hQ]
        exact z_iret hC hM hr hlk rfl (by decide) (by decide) ⟨(zb_t (by omega)), rfl, rfl⟩ dX6_isHidden_27
set_option maxHeartbeats 400000 in
set_option maxRecDepth 100000 in
theorem c_hide {l : Launch} {base : Nat} {K : zK} {L : List Nat} {f : Nat → va_E} {o sl wl pl hd hc fo : Nat} (ho : o ∈ L) (hfo : f o = eS 7 [.ref sl, .ref wl, .ref pl, .ref hd, .int (nI hc), .ref fo]) {hg : Nat → Nat} (hhd : hd ∈ L) (hfh : f hd = eZ K 1000 (fun h => nI (hg h))) (hne : o ≠ hd) {h : Nat} (hh : h < 1000) : zMet l yX6_hide cX6_hide 2 (none) (zr 0 0 0 0) base K L f [.ref o, .int (nI h)] (zFv base K L (va_up (va_up f hd (eZ K 1000 (va_up (fun h => nI (hg h)) h (nI 1)))) o (eS 7 [.ref sl, .ref wl, .ref pl, .ref hd, .int (nI (hc + 1)), .ref fo]))) := by
  refine z_met (by decide) (Nat.le_of_ble_eq_true rfl) (fun p e s m below meth c ls hC hM hr hlk hnm hl => ?_)
  have hx := hC.1
  have hb := hC.2.1
  have hml := hC.2.2.1
  have hown := hC.2.2.2.1
  have hts := hC.2.2.2.2.1
  generalize hA : ([.ref o, .int (nI h)] : List Value).toArray = args at hC ⊢
  generalize hQ : MQ _ _ _ _ _ _ _ = Q
  obtain ⟨locs, hlocs⟩ : ∃ z : List Loc, z = [] := ⟨_, rfl⟩
  obtain ⟨H, hH⟩ : ∃ z : Heap, z = s.heap := ⟨_, rfl⟩
  rw [← hlocs, ← hH] at hM ⊢
  have hl : lv_has ls 2 [(0, .ref o), (1, .int (nI h))] := hl
  refine lv_iload_n hx hb dX6_hide_0 rfl (lv_at hl 1 rfl) ?_
  refine z_if_lt (tgt := 30) hx hb (nI_toInt (by omega)) dX6_hide_1 (by decide) (fun c_1 => ?_) (fun c_1 => ?_)
  · exact absurd c_1 (by omega)
  · refine lv_iload_n hx hb dX6_hide_4 rfl (lv_at hl 1 rfl) ?_
    refine lv_aload_n hx hb dX6_hide_5 rfl (lv_at hl 0 rfl) ?_
    refine z_get hC hM ho hfo zcl_X6 (by decide) zl_X6_22 rfl dX6_hide_6 ?_
    refine z_alen (n := 1000) 2 hC hM hhd hfh rfl rfl dX6_hide_9 ?_
    refine z_icmp_ge (tgt := 30) hx hb (nI_toInt (by omega)) (nI_toInt (by decide)) dX6_hide_10 (by decide) (fun c_10 => ?_) (fun c_10 => ?_)
    · exact absurd c_10 (by omega)
    · refine lv_aload_n hx hb dX6_hide_13 rfl (lv_at hl 0 rfl) ?_
      refine z_get hC hM ho hfo zcl_X6 (by decide) zl_X6_22 rfl dX6_hide_14 ?_
      refine lv_iload_n hx hb dX6_hide_17 rfl (lv_at hl 1 rfl) ?_
      refine lv_iconst (v := nI 1) hx hb dX6_hide_18 (by decide) ?_
      refine z_zast hC hM hhd hfh (by omega) (by omega) (by decide) dX6_hide_19 (fun H locs hM => ?_)
      obtain ⟨f_1, ef_1⟩ : ∃ z9, z9 = va_up f hd (eZ K 1000 (va_up (fun h => nI (hg h)) h (nI 1))) := ⟨_, rfl⟩
      rw [← ef_1] at hM
      have hF_2 : f_1 o = eS 7 [.ref sl, .ref wl, .ref pl, .ref hd, .int (nI hc), .ref fo] := by rw [ef_1]; exact (va_up_ne _ _ hne).trans hfo
      have hF_3 : f_1 hd = eZ K 1000 (va_up (fun h => nI (hg h)) h (nI 1)) := by rw [ef_1]; exact va_up_self _ _ _
      refine lv_aload_n hx hb dX6_hide_20 rfl (lv_at hl 0 rfl) ?_
      refine lv_dup hx hb dX6_hide_21 rfl ?_
      refine z_get hC hM ho hF_2 zcl_X6 (by decide) zl_X6_26 rfl dX6_hide_22 ?_
      refine lv_iconst (v := nI 1) hx hb dX6_hide_25 (by decide) ?_
      refine z_iadd hx hb dX6_hide_26 ?_
      refine z_put (fs' := [.ref sl, .ref wl, .ref pl, .ref hd, .int (nI (hc + 1)), .ref fo]) hC hM ho hF_2 zcl_X6 (by decide) zl_X6_26 rfl rfl (by rfl) (Nat.le_of_ble_eq_true rfl) rfl dX6_hide_27 (fun H locs hM => ?_)
      obtain ⟨f_4, ef_4⟩ : ∃ z9, z9 = va_up f_1 o (eS 7 [.ref sl, .ref wl, .ref pl, .ref hd, .int (nI (hc + 1)), .ref fo]) := ⟨_, rfl⟩
      rw [← ef_4] at hM
      have hF_5 : f_4 o = eS 7 [.ref sl, .ref wl, .ref pl, .ref hd, .int (nI (hc + 1)), .ref fo] := by rw [ef_4]; exact va_up_self _ _ _
      have hF_6 : f_4 hd = eZ K 1000 (va_up (fun h => nI (hg h)) h (nI 1)) := by rw [ef_4]; exact (va_up_ne _ _ (Ne.symm hne)).trans hF_3
      rw [← hQ]
      exact z_vret hC hM hr hlk (by decide) (by decide) ⟨rfl, (by rw [ef_4, ef_1])⟩ dX6_hide_30
end
section
/-! CONTRACTS of Transitry: nights to fold, the best period (rows laid by wip/whole/best.py) -/
set_option maxHeartbeats 400000 in
set_option maxRecDepth 100000 in
theorem c_bestPeriod {l : Launch} {base : Nat} {K : zK} {L : List Nat} {f : Nat → va_E} {o sl wl pl hd hc fo : Nat} (ho : o ∈ L) (hfo : f o = eS 7 [.ref sl, .ref wl, .ref pl, .ref hd, .int (nI hc), .ref fo]) {so co nn lo kc : Nat} {g : Nat → UInt64} (hfol : fo ∈ L) (hsol : so ∈ L) (hcol : co ∈ L) (hCF : CFx K f fo so co) (hnn : nn ∈ L) (hfn : f nn = eS 2 [.ref lo, .int (nI kc)]) (hlo : lo ∈ L) (hfl : f lo = eD K 1000 g) (hkc : kc = fN g 1000) (hFP : FPok g) (n_o_fo : o ≠ fo) (n_o_so : o ≠ so) (n_o_co : o ≠ co) (n_o_nn : o ≠ nn) (n_o_lo : o ≠ lo) (n_fo_so : fo ≠ so) (n_fo_co : fo ≠ co) (n_fo_nn : fo ≠ nn) (n_fo_lo : fo ≠ lo) (n_so_co : so ≠ co) (n_so_nn : so ≠ nn) (n_so_lo : so ≠ lo) (n_co_nn : co ≠ nn) (n_co_lo : co ≠ lo) (n_nn_lo : nn ≠ lo) (t : Int32) : zMet l yX6_bestPeriod cX6_bestPeriod 9 (some .int) (zr 4 0 0 90) base K L f [.ref o, .ref nn, .int t] (zQi base K (fun r L1 f1 => r = oN (bpT g t) ∧ L1 = L ∧ CFx K f1 fo so co ∧ ∀ q, q ≠ fo → q ≠ so → q ≠ co → f1 q = f q)) := by
  have hkl := fN_le g 1000
  have hCF0 := hCF
  obtain ⟨fl, mn, sg, cg, hffo, hfso, hfco, hz1, hz2, hz3⟩ := hCF
  refine z_met (by decide) (Nat.le_of_ble_eq_true rfl) (fun p e s m below meth c ls hC hM hr hlk hnm hl => ?_)
  have hx := hC.1
  have hb := hC.2.1
  have hml := hC.2.2.1
  have hown := hC.2.2.2.1
  have hts := hC.2.2.2.2.1
  generalize hA : ([.ref o, .ref nn, .int t] : List Value).toArray = args at hC ⊢
  generalize hQ : MQ _ _ _ _ _ _ _ = Q
  obtain ⟨locs, hlocs⟩ : ∃ z : List Loc, z = [] := ⟨_, rfl⟩
  obtain ⟨H, hH⟩ : ∃ z : Heap, z = s.heap := ⟨_, rfl⟩
  rw [← hlocs, ← hH] at hM ⊢
  have hl : lv_has ls 9 [(0, .ref o), (1, .ref nn), (2, .int t)] := hl
  refine lv_iconst (v := (-1)) hx hb dX6_bestPeriod_0 (by decide) ?_
  refine lv_istore_n (lv' := [(3, .int ((-1))), (0, .ref o), (1, .ref nn), (2, .int t)]) hx hb dX6_bestPeriod_1 rfl hl (by decide) rfl (fun ls hl => ?_)
  refine lv_aload_n hx hb dX6_bestPeriod_2 rfl (lv_at hl 2 rfl) ?_
  refine z_getN hC hM hnn hfn zcl_X1 (by decide) zl_X6_117 rfl dX6_bestPeriod_3 ?_
  refine lv_bipush (v := nI 20) hx hb dX6_bestPeriod_6 (by decide) ?_
  refine z_icmp_ge (tgt := 13) hx hb (nI_toInt (by omega)) (nI_toInt (by decide)) dX6_bestPeriod_8 (by decide) (fun c_8 => ?_) (fun c_8 => ?_)
  · refine lv_iload_n hx hb dX6_bestPeriod_13 rfl (lv_at hl 3 rfl) ?_
    refine lv_i2d hx hb dX6_bestPeriod_14 ?_
    refine lv_dstore (lv' := [(4, .double (FP.i2d t)), (3, .int ((-1))), (0, .ref o), (1, .ref nn), (2, .int t)]) hx hb dX6_bestPeriod_15 hl (by decide) rfl (fun ls hl => ?_)
    refine lv_iconst (v := nI 2) hx hb dX6_bestPeriod_17 (by decide) ?_
    refine lv_istore (lv' := [(6, .int (nI 2)), (4, .double (FP.i2d t)), (3, .int ((-1))), (0, .ref o), (1, .ref nn), (2, .int t)]) hx hb dX6_bestPeriod_18 hl (by decide) rfl (fun ls hl => ?_)
    have LOOP20 : ∀ i, i ≤ 59 → ∀ (ls : Array Slot) (H : Heap) (locs : List Loc) (f1 : Nat → va_E) (fl : Nat) (mn : UInt64) (sg : Nat → UInt64) (cg : Nat → Nat), lv_has ls 9 [(6, .int (nI (i + 2))), (4, .double ((bpS g t i).2)), (3, .int (oN (bpS g t i).1)), (0, .ref o), (1, .ref nn), (2, .int t)] → zM base K L f1 s H locs → f1 o = eS 7 [.ref sl, .ref wl, .ref pl, .ref hd, .int (nI hc), .ref fo] → f1 fo = eS 1 [.ref so, .ref co, .int (nI fl), .double mn] → f1 so = eD K 120 sg → f1 co = eI K 120 (fun j => nI (cg j)) → f1 nn = eS 2 [.ref lo, .int (nI kc)] → f1 lo = eD K 1000 g → (∀ q, q ≠ fo → q ≠ so → q ≠ co → f1 q = f q) → (∀ j, 120 ≤ j → sg j = FP.dconst0) → (∀ j, 120 ≤ j → cg j = 0) → (∀ j, cg j < 2 ^ 31) → W p l e (zr 4 0 0 90) s m args below meth c H locs 0 0 Q (F0 m 20 ls []) := by
      refine z_down 59 ?_ ?_
      · intro ls H locs f1 fl mn sg cg hl hM hG0 hG1 hG2 hG3 hG4 hG5 hfr hz1 hz2 hz3
        refine lv_iload hx hb dX6_bestPeriod_20 (lv_at hl 0 rfl) ?_
        refine lv_bipush (v := nI 60) hx hb dX6_bestPeriod_22 (by decide) ?_
        refine z_icmp_gt (tgt := 74) hx hb (nI_toInt (by omega)) (nI_toInt (by decide)) dX6_bestPeriod_24 (by decide) (fun c_24 => ?_) (fun c_24 => ?_)
        · refine lv_iload_n hx hb dX6_bestPeriod_74 rfl (lv_at hl 2 rfl) ?_
          rw [← hQ]
          exact z_iret hC hM hr hlk rfl (by decide) (by decide) ⟨(by rw [bpT, if_neg (by omega)]), rfl, ⟨fl, mn, sg, cg, hG1, hG2, hG3, hz1, hz2, hz3⟩, hfr⟩ dX6_bestPeriod_75
        · exact absurd c_24 (by omega)
      · intro i hi ih ls H locs f1 fl mn sg cg hl hM hG0 hG1 hG2 hG3 hG4 hG5 hfr hz1 hz2 hz3
        refine lv_iload hx hb dX6_bestPeriod_20 (lv_at hl 0 rfl) ?_
        refine lv_bipush (v := nI 60) hx hb dX6_bestPeriod_22 (by decide) ?_
        refine z_icmp_gt (tgt := 74) hx hb (nI_toInt (by omega)) (nI_toInt (by decide)) dX6_bestPeriod_24 (by decide) (fun c_24 => ?_) (fun c_24 => ?_)
        · exact absurd c_24 (by omega)
        · refine lv_aload_n hx hb dX6_bestPeriod_27 rfl (lv_at hl 3 rfl) ?_
          refine z_get hC hM ho hG0 zcl_X6 (by decide) zl_X6_33 rfl dX6_bestPeriod_28 ?_
          refine lv_iload hx hb dX6_bestPeriod_31 (lv_at hl 0 rfl) ?_
          refine lv_aload_n hx hb dX6_bestPeriod_33 rfl (lv_at hl 4 rfl) ?_
          refine z_fcallv (z_runV hC hM (c_foldBy hfol hG1 hsol hG2 hcol hG3 hz1 (fun j hj => congrArg nI (hz2 j hj)) hnn hG4 hlo hG5 hkc hFP n_fo_so n_fo_co n_fo_nn n_fo_lo n_so_co n_so_nn n_so_lo n_co_nn n_co_lo n_nn_lo (by omega) (by omega)) zy_X0_foldBy zm_X6_138 hfol hG1 zcl_X0 rfl rfl rfl hl.1 (Nat.le_of_ble_eq_true rfl) ⟨by decide, by decide⟩ ⟨by decide, by decide⟩ dX6_bestPeriod_34) hM (fun H locs hM => ?_)
          obtain ⟨f_1, ef_1⟩ : ∃ z9, z9 = va_up f1 so (eD K 120 (fS g (i + 2) 1000)) := ⟨_, rfl⟩
          rw [← ef_1] at hM
          have hF_2 : f_1 o = eS 7 [.ref sl, .ref wl, .ref pl, .ref hd, .int (nI hc), .ref fo] := by rw [ef_1]; exact (va_up_ne _ _ n_o_so).trans hG0
          have hF_3 : f_1 fo = eS 1 [.ref so, .ref co, .int (nI fl), .double mn] := by rw [ef_1]; exact (va_up_ne _ _ n_fo_so).trans hG1
          have hF_4 : f_1 so = eD K 120 (fS g (i + 2) 1000) := by rw [ef_1]; exact va_up_self _ _ _
          have hF_5 : f_1 co = eI K 120 (fun j => nI (cg j)) := by rw [ef_1]; exact (va_up_ne _ _ (Ne.symm n_so_co)).trans hG3
          have hF_6 : f_1 nn = eS 2 [.ref lo, .int (nI kc)] := by rw [ef_1]; exact (va_up_ne _ _ (Ne.symm n_so_nn)).trans hG4
          have hF_7 : f_1 lo = eD K 1000 g := by rw [ef_1]; exact (va_up_ne _ _ (Ne.symm n_so_lo)).trans hG5
          obtain ⟨f_8, ef_8⟩ : ∃ z9, z9 = va_up f_1 co (eI K 120 (fun j => nI ((fC g (i + 2) 1000) j))) := ⟨_, rfl⟩
          rw [← ef_8] at hM
          have hF_9 : f_8 o = eS 7 [.ref sl, .ref wl, .ref pl, .ref hd, .int (nI hc), .ref fo] := by rw [ef_8]; exact (va_up_ne _ _ n_o_co).trans hF_2
          have hF_10 : f_8 fo = eS 1 [.ref so, .ref co, .int (nI fl), .double mn] := by rw [ef_8]; exact (va_up_ne _ _ n_fo_co).trans hF_3
          have hF_11 : f_8 so = eD K 120 (fS g (i + 2) 1000) := by rw [ef_8]; exact (va_up_ne _ _ n_so_co).trans hF_4
          have hF_12 : f_8 co = eI K 120 (fun j => nI ((fC g (i + 2) 1000) j)) := by rw [ef_8]; exact va_up_self _ _ _
          have hF_13 : f_8 nn = eS 2 [.ref lo, .int (nI kc)] := by rw [ef_8]; exact (va_up_ne _ _ (Ne.symm n_co_nn)).trans hF_6
          have hF_14 : f_8 lo = eD K 1000 g := by rw [ef_8]; exact (va_up_ne _ _ (Ne.symm n_co_lo)).trans hF_7
          obtain ⟨f_15, ef_15⟩ : ∃ z9, z9 = va_up f_8 fo (eS 1 [.ref so, .ref co, .int (nI (i + 2)), .double (mnT g)]) := ⟨_, rfl⟩
          rw [← ef_15] at hM
          have hF_16 : f_15 o = eS 7 [.ref sl, .ref wl, .ref pl, .ref hd, .int (nI hc), .ref fo] := by rw [ef_15]; exact (va_up_ne _ _ n_o_fo).trans hF_9
          have hF_17 : f_15 fo = eS 1 [.ref so, .ref co, .int (nI (i + 2)), .double (mnT g)] := by rw [ef_15]; exact va_up_self _ _ _
          have hF_18 : f_15 so = eD K 120 (fS g (i + 2) 1000) := by rw [ef_15]; exact (va_up_ne _ _ (Ne.symm n_fo_so)).trans hF_11
          have hF_19 : f_15 co = eI K 120 (fun j => nI ((fC g (i + 2) 1000) j)) := by rw [ef_15]; exact (va_up_ne _ _ (Ne.symm n_fo_co)).trans hF_12
          have hF_20 : f_15 nn = eS 2 [.ref lo, .int (nI kc)] := by rw [ef_15]; exact (va_up_ne _ _ (Ne.symm n_fo_nn)).trans hF_13
          have hF_21 : f_15 lo = eD K 1000 g := by rw [ef_15]; exact (va_up_ne _ _ (Ne.symm n_fo_lo)).trans hF_14
          refine lv_aload_n hx hb dX6_bestPeriod_37 rfl (lv_at hl 3 rfl) ?_
          refine z_get hC hM ho hF_16 zcl_X6 (by decide) zl_X6_33 rfl dX6_bestPeriod_38 ?_
          refine lv_aload_n hx hb dX6_bestPeriod_41 rfl (lv_at hl 3 rfl) ?_
          refine z_get hC hM ho hF_16 zcl_X6 (by decide) zl_X6_33 rfl dX6_bestPeriod_42 ?_
          refine z_fcalli (z_runV hC hM (c_bestFold hfol hF_17 hsol hF_18 hcol hF_19 (fun j => by have := fC_le g (i + 2) 1000 j; omega) (by omega) (fun x hx9 h9 => FP_fold hFP (by omega) x h9)) zy_X0_bestFold zm_X6_142 hfol hF_17 zcl_X0 rfl rfl rfl hl.1 (Nat.le_of_ble_eq_true rfl) ⟨by decide, by decide⟩ ⟨by decide, by decide⟩ dX6_bestPeriod_45) hM (fun H locs hM => ?_)
          obtain ⟨b, hb9, hbl, hbc⟩ := bFo_some (g := g) (p := i + 2) (by omega) (by omega)
          rw [hb9, show oN (some b) = nI b from rfl]
          refine z_fcalld (z_runV hC hM (c_scoreOf hfol hF_17 hsol hF_18 hcol hF_19 (fun j => by have := fC_le g (i + 2) 1000 j; omega) b (by omega) (fun h9 => FP_fold hFP (by omega) b h9)) zy_X0_scoreOf zm_X6_145 hfol hF_17 zcl_X0 rfl rfl rfl hl.1 (Nat.le_of_ble_eq_true rfl) ⟨by decide, by decide⟩ ⟨by decide, by decide⟩ dX6_bestPeriod_48) hM (fun H locs hM => ?_)
          rw [scB_at hb9]
          refine lv_dstore (lv' := [(7, .double (scB g (i + 2))), (6, .int (nI (i + 2))), (4, .double ((bpS g t i).2)), (3, .int (oN (bpS g t i).1)), (0, .ref o), (1, .ref nn), (2, .int t)]) hx hb dX6_bestPeriod_51 hl (by decide) rfl (fun ls hl => ?_)
          refine lv_dload hx hb dX6_bestPeriod_53 (lv_at hl 0 rfl) ?_
          refine lv_dload hx hb dX6_bestPeriod_55 (lv_at hl 2 rfl) ?_
          refine lv_dcmp hx hb dX6_bestPeriod_57 ?_
          refine z_if_le (tgt := 68) hx hb (dc_l _ _) dX6_bestPeriod_58 (by decide) (fun c_58 => ?_) (fun c_58 => ?_)
          · refine lv_iinc (v := nI ((i + 2) + 1)) (lv' := [(6, .int (nI ((i + 2) + 1))), (7, .double (scB g (i + 2))), (4, .double ((bpS g t i).2)), (3, .int (oN (bpS g t i).1)), (0, .ref o), (1, .ref nn), (2, .int t)]) hx hb dX6_bestPeriod_68 hl (k := 1) rfl (nI_add (i + 2) 1) (by decide) rfl (fun ls hl => ?_)
            refine lv_goto (tgt := 20) hx hb dX6_bestPeriod_71 (by decide) ?_
            rw [← bpS_0 c_58] at hl
            have hfr : ∀ q, q ≠ fo → q ≠ so → q ≠ co → f_15 q = f q := fun q hq0 hq1 hq2 => by
              rw [ef_15, ef_8, ef_1]
              simp only [va_up, hq0, hq1, hq2, if_false]
              exact hfr q hq0 hq1 hq2
            exact ih ls H locs f_15 (i + 2) (mnT g) (fS g (i + 2) 1000) (fC g (i + 2) 1000) (by rw [show i + 1 + 2 = i + 2 + 1 by omega]; exact lv_sub hl [0, 2, 3, 4, 5, 6] rfl) hM hF_16 hF_17 hF_18 hF_19 hF_20 hF_21 hfr (fun j hj => fS_out (by omega) 1000 j (by omega)) (fun j hj => fC_out (by omega) 1000 j (by omega)) (fun j => by have := fC_le g (i + 2) 1000 j; omega)
          · refine lv_dload hx hb dX6_bestPeriod_61 (lv_at hl 0 rfl) ?_
            refine lv_dstore (lv' := [(4, .double (scB g (i + 2))), (7, .double (scB g (i + 2))), (6, .int (nI (i + 2))), (3, .int (oN (bpS g t i).1)), (0, .ref o), (1, .ref nn), (2, .int t)]) hx hb dX6_bestPeriod_63 hl (by decide) rfl (fun ls hl => ?_)
            refine lv_iload hx hb dX6_bestPeriod_65 (lv_at hl 2 rfl) ?_
            refine lv_istore_n (lv' := [(3, .int (nI (i + 2))), (4, .double (scB g (i + 2))), (7, .double (scB g (i + 2))), (6, .int (nI (i + 2))), (0, .ref o), (1, .ref nn), (2, .int t)]) hx hb dX6_bestPeriod_67 rfl hl (by decide) rfl (fun ls hl => ?_)
            refine lv_iinc (v := nI ((i + 2) + 1)) (lv' := [(6, .int (nI ((i + 2) + 1))), (3, .int (nI (i + 2))), (4, .double (scB g (i + 2))), (7, .double (scB g (i + 2))), (0, .ref o), (1, .ref nn), (2, .int t)]) hx hb dX6_bestPeriod_68 hl (k := 3) rfl (nI_add (i + 2) 1) (by decide) rfl (fun ls hl => ?_)
            refine lv_goto (tgt := 20) hx hb dX6_bestPeriod_71 (by decide) ?_
            have e9 := bpS_1 c_58
            have hfr : ∀ q, q ≠ fo → q ≠ so → q ≠ co → f_15 q = f q := fun q hq0 hq1 hq2 => by
              rw [ef_15, ef_8, ef_1]
              simp only [va_up, hq0, hq1, hq2, if_false]
              exact hfr q hq0 hq1 hq2
            exact ih ls H locs f_15 (i + 2) (mnT g) (fS g (i + 2) 1000) (fC g (i + 2) 1000) (by rw [show i + 1 + 2 = i + 2 + 1 by omega, e9]; exact lv_sub hl [0, 2, 1, 4, 5, 6] rfl) hM hF_16 hF_17 hF_18 hF_19 hF_20 hF_21 hfr (fun j hj => fS_out (by omega) 1000 j (by omega)) (fun j hj => fC_out (by omega) 1000 j (by omega)) (fun j => by have := fC_le g (i + 2) 1000 j; omega)
    exact LOOP20 0 (Nat.zero_le _) ls H locs f fl mn sg cg (lv_sub hl [0, 1, 2, 3, 4, 5] rfl) hM hfo hffo hfso hfco hfn hfl (fun _ _ _ _ => rfl) hz1 hz2 hz3
  · refine lv_iload_n hx hb dX6_bestPeriod_11 rfl (lv_at hl 0 rfl) ?_
    rw [← hQ]
    exact z_iret hC hM hr hlk rfl (by decide) (by decide) ⟨(by rw [bpT, if_pos (by omega)]; rfl), rfl, hCF0, fun q _ _ _ => rfl⟩ dX6_bestPeriod_12
end
section
/-! CONTRACTS of Transitry: the period to tell, papers that fall (rows laid by wip/whole/tell.py) -/
set_option maxHeartbeats 400000 in
set_option maxRecDepth 100000 in
theorem c_periodToTell {l : Launch} {base : Nat} {K : zK} {L : List Nat} {f : Nat → va_E} (hst : l.stackTraces = false) {o sl wl pl hd hc fo : Nat} (ho : o ∈ L) (hfo : f o = eS 7 [.ref sl, .ref wl, .ref pl, .ref hd, .int (nI hc), .ref fo]) {so co nn lo kc : Nat} {g : Nat → UInt64} (hfol : fo ∈ L) (hsol : so ∈ L) (hcol : co ∈ L) (hCF : CFx K f fo so co) (hnn : nn ∈ L) (hfn : f nn = eS 2 [.ref lo, .int (nI kc)]) (hlo : lo ∈ L) (hfl : f lo = eD K 1000 g) (hkc : kc = fN g 1000) (hFP : FPok g) (n_o_fo : o ≠ fo) (n_o_so : o ≠ so) (n_o_co : o ≠ co) (n_o_nn : o ≠ nn) (n_o_lo : o ≠ lo) (n_fo_so : fo ≠ so) (n_fo_co : fo ≠ co) (n_fo_nn : fo ≠ nn) (n_fo_lo : fo ≠ lo) (n_so_co : so ≠ co) (n_so_nn : so ≠ nn) (n_so_lo : so ≠ lo) (n_co_nn : co ≠ nn) (n_co_lo : co ≠ lo) (n_nn_lo : nn ≠ lo) (t : Int32) : zXMet l yX6_periodToTell cX6_periodToTell 4 (some .int) (zr 6 1 6 118) base K L f [.ref o, .ref nn, .int t] (zQi base K (fun r L1 f1 => (∃ k, bpT g t = some k ∧ r = nI k) ∧ L1 = L ∧ CFx K f1 fo so co ∧ ∀ q, q ≠ fo → q ≠ so → q ≠ co → f1 q = f q)) (fun E L1 f1 => (E = xIS ∧ bpT g t = none) ∧ L1 = L ∧ CFx K f1 fo so co ∧ ∀ q, q ≠ fo → q ≠ so → q ≠ co → f1 q = f q) := by
  refine z_xmet (by decide) (Nat.le_of_ble_eq_true rfl) (fun p e s m below meth c ls hC hM hr hlk hxt hl => ?_)
  have hx := hC.1
  have hb := hC.2.1
  have hml := hC.2.2.1
  have hown := hC.2.2.2.1
  have hts := hC.2.2.2.2.1
  generalize hA : ([.ref o, .ref nn, .int t] : List Value).toArray = args at hC ⊢
  generalize hQ : vx_MQ _ _ _ _ _ _ _ _ = Q
  obtain ⟨locs, hlocs⟩ : ∃ z : List Loc, z = [] := ⟨_, rfl⟩
  obtain ⟨H, hH⟩ : ∃ z : Heap, z = s.heap := ⟨_, rfl⟩
  rw [← hlocs, ← hH] at hM ⊢
  have hl : lv_has ls 4 [(0, .ref o), (1, .ref nn), (2, .int t)] := hl
  refine lv_aload_n hx hb dX6_periodToTell_0 rfl (lv_at hl 0 rfl) ?_
  refine lv_aload_n hx hb dX6_periodToTell_1 rfl (lv_at hl 1 rfl) ?_
  refine lv_iload_n hx hb dX6_periodToTell_2 rfl (lv_at hl 2 rfl) ?_
  refine z_calli (z_runV hC hM (c_bestPeriod ho hfo hfol hsol hcol hCF hnn hfn hlo hfl hkc hFP n_o_fo n_o_so n_o_co n_o_nn n_o_lo n_fo_so n_fo_co n_fo_nn n_fo_lo n_so_co n_so_nn n_so_lo n_co_nn n_co_lo n_nn_lo t) zy_X6_bestPeriod zm_X6_155 ho hfo zcl_X6 rfl rfl rfl hl.1 (Nat.le_of_ble_eq_true rfl) ⟨by decide, by decide⟩ ⟨by decide, by decide⟩ dX6_periodToTell_3) hM (fun r L1 f1 H locs hp hM => ?_)
  obtain ⟨rfl, e9, hcf, hfr⟩ := hp
  have e9 := e9.symm
  subst e9
  refine lv_istore_n (lv' := [(3, .int (oN (bpT g t))), (0, .ref o), (1, .ref nn), (2, .int t)]) hx hb dX6_periodToTell_6 rfl hl (by decide) rfl (fun ls hl => ?_)
  refine lv_iload_n hx hb dX6_periodToTell_7 rfl (lv_at hl 0 rfl) ?_
  refine lv_iconst (v := (-1)) hx hb dX6_periodToTell_8 (by decide) ?_
  refine z_icmp_ne (tgt := 22) hx hb rfl m1_toInt dX6_periodToTell_9 (by decide) (fun c_9 => ?_) (fun c_9 => ?_)
  · refine lv_iload_n hx hb dX6_periodToTell_22 rfl (lv_at hl 0 rfl) ?_
    rw [← hQ]
    refine vx_ret ?_
    exact z_iret hC hM hr hlk rfl (by decide) (by decide) ⟨(by obtain ⟨k, hk⟩ := oN_n1 c_9; exact ⟨k, hk, by rw [hk]; rfl⟩), rfl, hcf, hfr⟩ dX6_periodToTell_23
  · rw [← hQ]
    exact z_throw (is := 244) (text := "the star has no period") hC hM hst hlk hxt hl.1 zth_IS (by decide) dX6_periodToTell_12 dX6_periodToTell_15 dX6_periodToTell_16 dX6_periodToTell_18 dX6_periodToTell_21 (by decide) (by decide) (by decide) ⟨⟨rfl, oN_m1 (fun k hk => (bpT_lt hk).2) c_9⟩, rfl, hcf, hfr⟩
/-- papers that fall, one after another -/
def flN (fl : Nat → Nat) (Fb : Nat → Bool) : Nat → Nat
  | 0 => 0
  | k + 1 => if fl k = 0 ∧ Fb k = true then flN fl Fb k + 1 else flN fl Fb k
theorem flN_le (fl : Nat → Nat) (Fb : Nat → Bool) : ∀ k, flN fl Fb k ≤ k
  | 0 => Nat.le_refl 0
  | k + 1 => by
    have := flN_le fl Fb k
    unfold flN
    split <;> omega
theorem flN_1 {fl : Nat → Nat} {Fb : Nat → Bool} {k : Nat} (h : fl k = 0) (h1 : Fb k = true) : flN fl Fb k + 1 = flN fl Fb (k + 1) := by rw [flN, if_pos ⟨h, h1⟩]
theorem flN_0 {fl : Nat → Nat} {Fb : Nat → Bool} {k : Nat} (h : ¬ (fl k = 0 ∧ Fb k = true)) : flN fl Fb k = flN fl Fb (k + 1) := by rw [flN, if_neg h]
def PPs (f : Nat → va_E) (n : Nat) (es sw ci fl : Nat → Nat) (Fb : Nat → Bool) (i : Nat) : Prop := ∀ j, j < n → f (es j) = eS 3 [.ref (sw j), va_rf (if ci j = 0 then none else some (es (ci j - 1))), .int (nI (if j < i then b2 (Fb j) else fl j))]
theorem PPs.keep {f : Nat → va_E} {n i : Nat} {es sw ci fl : Nat → Nat} {Fb : Nat → Bool} (h : PPs f n es sw ci fl Fb i) (hf : fl i = b2 (Fb i)) : PPs f n es sw ci fl Fb (i + 1) := by
  intro j hj
  rw [h j hj]
  by_cases e : j = i
  · subst e; rw [if_neg (Nat.lt_irrefl _), if_pos (Nat.lt_succ_self _), hf]
  · by_cases e2 : j < i
    · rw [if_pos e2, if_pos (show j < i + 1 by omega)]
    · rw [if_neg e2, if_neg (show ¬ j < i + 1 by omega)]
theorem PPs.put {f : Nat → va_E} {n i : Nat} {es sw ci fl : Nat → Nat} {Fb : Nat → Bool} {v : Value} (h : PPs f n es sw ci fl Fb i) (hn : ∀ a b, a < n → b < n → es a = es b → a = b) (hi : i < n) (hf : Fb i = true) (hv : va_rf (if ci i = 0 then none else some (es (ci i - 1))) = v) : PPs (va_up f (es i) (eS 3 [.ref (sw i), v, .int (nI 1)])) n es sw ci fl Fb (i + 1) := by
  intro j hj
  by_cases e : j = i
  · subst e; rw [va_up_self, if_pos (Nat.lt_succ_self _), hv, hf]; rfl
  · rw [va_up_ne _ _ (fun z => e (hn j i hj hi z)), h j hj]
    by_cases e2 : j < i
    · rw [if_pos e2, if_pos (show j < i + 1 by omega)]
    · rw [if_neg e2, if_neg (show ¬ j < i + 1 by omega)]
theorem fr_put {f f0 : Nat → va_E} {n i : Nat} {es : Nat → Nat} {v : va_E} (h : ∀ q, (∀ j, j < n → q ≠ es j) → f q = f0 q) (hi : i < n) : ∀ q, (∀ j, j < n → q ≠ es j) → va_up f (es i) v q = f0 q := fun q hq => (va_up_ne _ _ (hq i hi)).trans (h q hq)
theorem b2_1 {b : Bool} (h : b = true) : b2 b = 1 := by rw [h]; rfl
theorem b2_0 {b : Bool} (h : ¬ b = true) : b2 b = 0 := by cases b <;> simp_all [b2]
theorem b2_lt (b : Bool) : b2 b < 2 := by cases b <;> decide
theorem b2_n {b : Bool} : b2 b ≠ 0 ↔ b = true := by cases b <;> decide
set_option maxHeartbeats 400000 in
set_option maxRecDepth 100000 in
theorem c_fall {l : Launch} {base : Nat} {K : zK} {L : List Nat} {f : Nat → va_E} {o sl wl pl hd hc fo : Nat} (ho : o ∈ L) (hfo : f o = eS 7 [.ref sl, .ref wl, .ref pl, .ref hd, .int (nI hc), .ref fo]) {ee n : Nat} {es sw ci fl wd : Nat → Nat} {Fb : Nat → Bool} {wv0 wv1 wv2 wv3 wv4 : Nat → Value} (hLI : LI K L f pl ee n es) (hn : n ≤ 60) (hps0 : ∀ j, j < n → f (es j) = eS 3 [.ref (sw j), va_rf (if ci j = 0 then none else some (es (ci j - 1))), .int (nI (fl j))]) (hps : ∀ j, j < n → es j ∈ L ∧ fl j ≤ 1 ∧ (fl j ≠ 0 → Fb j = true) ∧ ci j ≤ j ∧ Fb j = (decide (wd j = 1) || (decide (ci j ≠ 0) && Fb (ci j - 1)))) (hws : ∀ j, j < n → sw j ∈ L ∧ f (sw j) = eS 6 [wv0 j, wv1 j, wv2 j, wv3 j, wv4 j, .int (nI (wd j))] ∧ wd j ≤ 1) (hinj : ∀ a b, a < n → b < n → es a = es b → a = b) (hno : ∀ j, j < n → o ≠ es j) (hnp : ∀ j, j < n → pl ≠ es j) (hnee : ∀ j, j < n → ee ≠ es j) (hnw : ∀ i, i < n → ∀ j, j < n → sw i ≠ es j) : zMet l yX6_letPapersFall cX6_letPapersFall 4 (some .int) (zr 3 0 0 65) base K L f [.ref o] (zQi base K (fun r L1 f1 => r = nI (flN fl Fb n) ∧ L1 = L ∧ PPs f1 n es sw ci fl Fb n ∧ ∀ q, (∀ j, j < n → q ≠ es j) → f1 q = f q)) := by
  obtain ⟨hpl, ⟨mc, hfp⟩, hor⟩ := hLI
  refine z_met (by decide) (Nat.le_of_ble_eq_true rfl) (fun p e s m below meth c ls hC hM hr hlk hnm hl => ?_)
  have hx := hC.1
  have hb := hC.2.1
  have hml := hC.2.2.1
  have hown := hC.2.2.2.1
  have hts := hC.2.2.2.2.1
  generalize hA : ([.ref o] : List Value).toArray = args at hC ⊢
  generalize hQ : MQ _ _ _ _ _ _ _ = Q
  obtain ⟨locs, hlocs⟩ : ∃ z : List Loc, z = [] := ⟨_, rfl⟩
  obtain ⟨H, hH⟩ : ∃ z : Heap, z = s.heap := ⟨_, rfl⟩
  rw [← hlocs, ← hH] at hM ⊢
  have hl : lv_has ls 4 [(0, .ref o)] := hl
  refine lv_iconst (v := nI 0) hx hb dX6_letPapersFall_0 (by decide) ?_
  refine lv_istore_n (lv' := [(1, .int (nI 0)), (0, .ref o)]) hx hb dX6_letPapersFall_1 rfl hl (by decide) rfl (fun ls hl => ?_)
  refine lv_iconst (v := nI 0) hx hb dX6_letPapersFall_2 (by decide) ?_
  refine lv_istore_n (lv' := [(2, .int (nI 0)), (1, .int (nI 0)), (0, .ref o)]) hx hb dX6_letPapersFall_3 rfl hl (by decide) rfl (fun ls hl => ?_)
  have LOOP4 : ∀ i, i ≤ n → ∀ (ls : Array Slot) (H : Heap) (locs : List Loc) (f1 : Nat → va_E), lv_has ls 4 [(2, .int (nI i)), (1, .int (nI (flN fl Fb i))), (0, .ref o)] → zM base K L f1 s H locs → (PPs f1 n es sw ci fl Fb i) → (∀ q, (∀ j, j < n → q ≠ es j) → f1 q = f q) → W p l e (zr 3 0 0 65) s m args below meth c H locs 0 0 Q (F0 m 4 ls []) := by
    refine z_down n ?_ ?_
    · intro ls H locs f1 hl hM hpp hfr
      have hfo1 := (hfr o hno).trans hfo
      have hfp1 := (hfr pl hnp).trans hfp
      have hfn9 := flN_le fl Fb n
      refine lv_iload_n hx hb dX6_letPapersFall_4 rfl (lv_at hl 0 rfl) ?_
      refine lv_aload_n hx hb dX6_letPapersFall_5 rfl (lv_at hl 2 rfl) ?_
      refine z_get hC hM ho hfo1 zcl_X6 (by decide) zl_X6_19 rfl dX6_letPapersFall_6 ?_
      refine z_fcalli (z_runV hC hM (c_size hpl hfp1) zy_Jx4a65c_size_8abf5 zm_X6_42 hpl hfp1 zcl_Jx4a65c rfl rfl rfl hl.1 (Nat.le_of_ble_eq_true rfl) ⟨by decide, by decide⟩ ⟨by decide, by decide⟩ dX6_letPapersFall_9) hM (fun H locs hM => ?_)
      refine z_icmp_ge (tgt := 55) hx hb (nI_toInt (by omega)) (nI_toInt (by omega)) dX6_letPapersFall_12 (by decide) (fun c_12 => ?_) (fun c_12 => ?_)
      · refine lv_iload_n hx hb dX6_letPapersFall_55 rfl (lv_at hl 1 rfl) ?_
        rw [← hQ]
        exact z_iret hC hM hr hlk rfl (by decide) (by decide) ⟨rfl, rfl, hpp, hfr⟩ dX6_letPapersFall_56
      · exact absurd c_12 (by omega)
    · intro i hi ih ls H locs f1 hl hM hpp hfr
      have hfo1 := (hfr o hno).trans hfo
      have hfp1 := (hfr pl hnp).trans hfp
      have hfn9 := flN_le fl Fb i
      obtain ⟨hle, cap, arr, hfe, hc1, hc2, hnc, harr, -⟩ := hor.resolve_left (fun z => by omega)
      have hfe1 := (hfr ee hnee).trans hfe
      obtain ⟨hLi, hfl1, hfl2, hci, hFb⟩ := hps i hi
      obtain ⟨hLw, hfw, hwd⟩ := hws i hi
      have hfw1 := (hfr (sw i) (hnw i hi)).trans hfw
      have hei := hpp i hi
      rw [if_neg (Nat.lt_irrefl i)] at hei
      refine lv_iload_n hx hb dX6_letPapersFall_4 rfl (lv_at hl 0 rfl) ?_
      refine lv_aload_n hx hb dX6_letPapersFall_5 rfl (lv_at hl 2 rfl) ?_
      refine z_get hC hM ho hfo1 zcl_X6 (by decide) zl_X6_19 rfl dX6_letPapersFall_6 ?_
      refine z_fcalli (z_runV hC hM (c_size hpl hfp1) zy_Jx4a65c_size_8abf5 zm_X6_42 hpl hfp1 zcl_Jx4a65c rfl rfl rfl hl.1 (Nat.le_of_ble_eq_true rfl) ⟨by decide, by decide⟩ ⟨by decide, by decide⟩ dX6_letPapersFall_9) hM (fun H locs hM => ?_)
      refine z_icmp_ge (tgt := 55) hx hb (nI_toInt (by omega)) (nI_toInt (by omega)) dX6_letPapersFall_12 (by decide) (fun c_12 => ?_) (fun c_12 => ?_)
      · exact absurd c_12 (by omega)
      · refine lv_aload_n hx hb dX6_letPapersFall_15 rfl (lv_at hl 2 rfl) ?_
        refine z_get hC hM ho hfo1 zcl_X6 (by decide) zl_X6_19 rfl dX6_letPapersFall_16 ?_
        refine lv_iload_n hx hb dX6_letPapersFall_19 rfl (lv_at hl 0 rfl) ?_
        refine z_fcallq (z_runV hC hM (c_get hpl hfp1 hle hfe1 hi hnc (by omega) (harr i hi)) zy_Jx4a65c_get_915e3 zm_X6_225 hpl hfp1 zcl_Jx4a65c rfl rfl rfl hl.1 (Nat.le_of_ble_eq_true rfl) ⟨by decide, by decide⟩ ⟨by decide, by decide⟩ dX6_letPapersFall_20) hM (fun H locs hM => ?_)
        refine z_cast hC hM hLi hei zcl_X2 zc_X6_199 dX6_letPapersFall_23 ?_
        refine lv_astore_n (lv' := [(3, .ref ((es i))), (2, .int (nI i)), (1, .int (nI (flN fl Fb i))), (0, .ref o)]) hx hb dX6_letPapersFall_26 rfl hl (by decide) rfl (fun ls hl => ?_)
        refine lv_aload_n hx hb dX6_letPapersFall_27 rfl (lv_at hl 0 rfl) ?_
        refine z_getN hC hM hLi hei zcl_X2 (by decide) zl_X6_217 rfl dX6_letPapersFall_28 ?_
        refine z_if_ne (tgt := 49) hx hb (nI_toInt (by omega)) dX6_letPapersFall_31 (by decide) (fun c_31 => ?_) (fun c_31 => ?_)
        · refine lv_iinc (v := nI (i + 1)) (lv' := [(2, .int (nI (i + 1))), (3, .ref ((es i))), (1, .int (nI (flN fl Fb i))), (0, .ref o)]) hx hb dX6_letPapersFall_49 hl (k := 1) rfl (nI_add i 1) (by decide) rfl (fun ls hl => ?_)
          refine lv_goto (tgt := 4) hx hb dX6_letPapersFall_52 (by decide) ?_
          have hF9 := hfl2 (by omega)
          have hpp := hpp.keep (by rw [b2_1 hF9]; omega)
          rw [flN_0 (fl := fl) (Fb := Fb) (k := i) (fun z => by omega)] at hl
          exact ih ls H locs f1 (lv_sub hl [0, 2, 3] rfl) hM hpp hfr
        · refine lv_aload_n hx hb dX6_letPapersFall_34 rfl (lv_at hl 0 rfl) ?_
          rcases Nat.eq_zero_or_pos (ci i) with hc0 | hc0
          · rw [if_pos hc0] at hei
            have hei : f1 (es i) = eS 3 [.ref ((sw i)), .null, .int (nI (fl i))] := hei
            refine z_fcalli (z_runV hC hM (c_must0 hLi hei (by omega) hLw hfw1) zy_X2_mustFall zm_X6_204 hLi hei zcl_X2 rfl rfl rfl hl.1 (Nat.le_of_ble_eq_true rfl) ⟨by decide, by decide⟩ ⟨by decide, by decide⟩ dX6_letPapersFall_35) hM (fun H locs hM => ?_)
            refine z_if_eqB (tgt := 49) hx hb dX6_letPapersFall_38 (by decide) (fun c_38 => ?_) (fun c_38 => ?_)
            · refine lv_iinc (v := nI (i + 1)) (lv' := [(2, .int (nI (i + 1))), (3, .ref ((es i))), (1, .int (nI (flN fl Fb i))), (0, .ref o)]) hx hb dX6_letPapersFall_49 hl (k := 1) rfl (nI_add i 1) (by decide) rfl (fun ls hl => ?_)
              refine lv_goto (tgt := 4) hx hb dX6_letPapersFall_52 (by decide) ?_
              have hF9 : ¬ Fb i = true := by rw [hFb]; simp [hc0]; omega
              have hpp := hpp.keep (by rw [b2_0 hF9]; omega)
              rw [flN_0 (fl := fl) (Fb := Fb) (k := i) (fun z => hF9 z.2)] at hl
              exact ih ls H locs f1 (lv_sub hl [0, 2, 3] rfl) hM hpp hfr
            · refine lv_aload_n hx hb dX6_letPapersFall_41 rfl (lv_at hl 0 rfl) ?_
              refine lv_iconst (v := nI 1) hx hb dX6_letPapersFall_42 (by decide) ?_
              refine z_putN (fs' := [.ref ((sw i)), .null, .int (nI 1)]) hC hM hLi hei zcl_X2 (by decide) zl_X6_217 rfl rfl (by rfl) (Nat.le_of_ble_eq_true rfl) rfl dX6_letPapersFall_43 (fun H locs hM => ?_)
              obtain ⟨f_1, ef_1⟩ : ∃ z9, z9 = va_up f1 ((es i)) (eS 3 [.ref ((sw i)), .null, .int (nI 1)]) := ⟨_, rfl⟩
              rw [← ef_1] at hM
              have hF_2 : f_1 o = eS 7 [.ref sl, .ref wl, .ref pl, .ref hd, .int (nI hc), .ref fo] := by rw [ef_1]; exact (va_up_ne _ _ (hno i hi)).trans hfo1
              have hF_3 : f_1 pl = eS 0 [.int mc, .ref ee, .int (nI n)] := by rw [ef_1]; exact (va_up_ne _ _ (hnp i hi)).trans hfp1
              have hF_4 : f_1 ((es i)) = eS 3 [.ref ((sw i)), .null, .int (nI 1)] := by rw [ef_1]; exact va_up_self _ _ _
              have hF_5 : f_1 ((sw i)) = eS 6 [(wv0 i), (wv1 i), (wv2 i), (wv3 i), (wv4 i), .int (nI (wd i))] := by rw [ef_1]; exact (va_up_ne _ _ (hnw i hi i hi)).trans hfw1
              refine lv_iinc (v := nI ((flN fl Fb i) + 1)) (lv' := [(1, .int (nI ((flN fl Fb i) + 1))), (3, .ref ((es i))), (2, .int (nI i)), (0, .ref o)]) hx hb dX6_letPapersFall_46 hl (k := 2) rfl (nI_add (flN fl Fb i) 1) (by decide) rfl (fun ls hl => ?_)
              refine lv_iinc (v := nI (i + 1)) (lv' := [(2, .int (nI (i + 1))), (1, .int (nI ((flN fl Fb i) + 1))), (3, .ref ((es i))), (0, .ref o)]) hx hb dX6_letPapersFall_49 hl (k := 2) rfl (nI_add i 1) (by decide) rfl (fun ls hl => ?_)
              refine lv_goto (tgt := 4) hx hb dX6_letPapersFall_52 (by decide) ?_
              have hF9 : Fb i = true := by rw [hFb]; simp [hc0]; omega
              have hpp := hpp.put (v := .null) hinj hi hF9 (congrArg va_rf (if_pos hc0))
              have hfr := fr_put (v := eS 3 [.ref (sw i), .null, .int (nI 1)]) hfr hi
              rw [← ef_1] at hpp hfr
              rw [flN_1 (fl := fl) (Fb := Fb) (k := i) (by omega) hF9] at hl
              exact ih ls H locs f_1 (lv_sub hl [0, 1, 3] rfl) hM hpp hfr
          · have hc0 : ¬ ci i = 0 := by omega
            rw [if_neg hc0] at hei
            have hei : f1 (es i) = eS 3 [.ref ((sw i)), .ref ((es (ci i - 1))), .int (nI (fl i))] := hei
            have hek := hpp (ci i - 1) (by omega)
            rw [if_pos (show ci i - 1 < i by omega)] at hek
            refine z_fcalli (z_runV hC hM (c_must1 hLi hei (by omega) (b2_lt _) ((hps _ (by omega)).1) hek hLw hfw1) zy_X2_mustFall zm_X6_204 hLi hei zcl_X2 rfl rfl rfl hl.1 (Nat.le_of_ble_eq_true rfl) ⟨by decide, by decide⟩ ⟨by decide, by decide⟩ dX6_letPapersFall_35) hM (fun H locs hM => ?_)
            refine z_if_eqB (tgt := 49) hx hb dX6_letPapersFall_38 (by decide) (fun c_38 => ?_) (fun c_38 => ?_)
            · refine lv_iinc (v := nI (i + 1)) (lv' := [(2, .int (nI (i + 1))), (3, .ref ((es i))), (1, .int (nI (flN fl Fb i))), (0, .ref o)]) hx hb dX6_letPapersFall_49 hl (k := 1) rfl (nI_add i 1) (by decide) rfl (fun ls hl => ?_)
              refine lv_goto (tgt := 4) hx hb dX6_letPapersFall_52 (by decide) ?_
              have hF9 : ¬ Fb i = true := by rw [hFb]; have c9 := fun z => c_38 (Or.inr (b2_n.mpr z)); have c8 := fun z => c_38 (Or.inl z); simp only [Bool.or_eq_true, Bool.and_eq_true, decide_eq_true_eq]; exact fun z => z.elim (fun z => c8 (by omega)) (fun z => c9 z.2)
              have hpp := hpp.keep (by rw [b2_0 hF9]; omega)
              rw [flN_0 (fl := fl) (Fb := Fb) (k := i) (fun z => hF9 z.2)] at hl
              exact ih ls H locs f1 (lv_sub hl [0, 2, 3] rfl) hM hpp hfr
            · refine lv_aload_n hx hb dX6_letPapersFall_41 rfl (lv_at hl 0 rfl) ?_
              refine lv_iconst (v := nI 1) hx hb dX6_letPapersFall_42 (by decide) ?_
              refine z_putN (fs' := [.ref ((sw i)), .ref ((es (ci i - 1))), .int (nI 1)]) hC hM hLi hei zcl_X2 (by decide) zl_X6_217 rfl rfl (by rfl) (Nat.le_of_ble_eq_true rfl) rfl dX6_letPapersFall_43 (fun H locs hM => ?_)
              obtain ⟨f_6, ef_6⟩ : ∃ z9, z9 = va_up f1 ((es i)) (eS 3 [.ref ((sw i)), .ref ((es (ci i - 1))), .int (nI 1)]) := ⟨_, rfl⟩
              rw [← ef_6] at hM
              have hF_7 : f_6 o = eS 7 [.ref sl, .ref wl, .ref pl, .ref hd, .int (nI hc), .ref fo] := by rw [ef_6]; exact (va_up_ne _ _ (hno i hi)).trans hfo1
              have hF_8 : f_6 pl = eS 0 [.int mc, .ref ee, .int (nI n)] := by rw [ef_6]; exact (va_up_ne _ _ (hnp i hi)).trans hfp1
              have hF_9 : f_6 ((es i)) = eS 3 [.ref ((sw i)), .ref ((es (ci i - 1))), .int (nI 1)] := by rw [ef_6]; exact va_up_self _ _ _
              have hF_10 : f_6 ((sw i)) = eS 6 [(wv0 i), (wv1 i), (wv2 i), (wv3 i), (wv4 i), .int (nI (wd i))] := by rw [ef_6]; exact (va_up_ne _ _ (hnw i hi i hi)).trans hfw1
              refine lv_iinc (v := nI ((flN fl Fb i) + 1)) (lv' := [(1, .int (nI ((flN fl Fb i) + 1))), (3, .ref ((es i))), (2, .int (nI i)), (0, .ref o)]) hx hb dX6_letPapersFall_46 hl (k := 2) rfl (nI_add (flN fl Fb i) 1) (by decide) rfl (fun ls hl => ?_)
              refine lv_iinc (v := nI (i + 1)) (lv' := [(2, .int (nI (i + 1))), (1, .int (nI ((flN fl Fb i) + 1))), (3, .ref ((es i))), (0, .ref o)]) hx hb dX6_letPapersFall_49 hl (k := 2) rfl (nI_add i 1) (by decide) rfl (fun ls hl => ?_)
              refine lv_goto (tgt := 4) hx hb dX6_letPapersFall_52 (by decide) ?_
              have hF9 : Fb i = true := by rw [hFb]; simp only [Bool.or_eq_true, Bool.and_eq_true, decide_eq_true_eq]; exact c_38.elim (fun z => Or.inl (by omega)) (fun z => Or.inr ⟨hc0, b2_n.mp z⟩)
              have hpp := hpp.put (v := .ref (es (ci i - 1))) hinj hi hF9 (congrArg va_rf (if_neg hc0))
              have hfr := fr_put (v := eS 3 [.ref (sw i), .ref (es (ci i - 1)), .int (nI 1)]) hfr hi
              rw [← ef_6] at hpp hfr
              rw [flN_1 (fl := fl) (Fb := Fb) (k := i) (by omega) hF9] at hl
              exact ih ls H locs f_6 (lv_sub hl [0, 1, 3] rfl) hM hpp hfr
  exact LOOP4 0 (Nat.zero_le _) ls H locs f (lv_sub hl [0, 1, 2] rfl) hM (fun j hj => by rw [if_neg (Nat.not_lt_zero j)]; exact hps0 j hj) (fun q _ => rfl)
end
section
/-! DOUBLES: normal ones by exponent and fraction; halving, doubling, and what their bits are -/
theorem n64_iff (r : UInt64) : vf_n64 r ↔ FP.Core.val64 r ≠ .nan := by
  rw [FP.Core.ne_nan]
  unfold vf_n64
  rw [UInt64.le_iff_toNat_le, FP.Core.mask_toNat]
  exact Iff.rfl
def nx (k m : Nat) : UInt64 := UInt64.ofNat (k * 2 ^ 52 + m)
theorem nx_nat {k m : Nat} (h : k ≤ 2047) (hm : m < 2 ^ 52) : (nx k m).toNat = k * 2 ^ 52 + m := by
  unfold nx
  rw [UInt64.toNat_ofNat']
  exact Nat.mod_eq_of_lt (by omega)
theorem nx_fits {k m : Nat} (h1 : 1 ≤ k) (h : k ≤ 2046) (hm : m < 2 ^ 52) (s : Bool) : FP.Core.fits FP.Core.b64 (.fin s (2 ^ 52 + m) ((k : Int) - 1075)) := by
  have e1 := FP.Core.qmin_b64
  have e2 : FP.Core.b64.qmax = 971 := by decide
  have e3 := FP.Core.tails_b64
  have e4 : FP.Core.b64.p = 53 := rfl
  refine ⟨?_, ?_, ?_, Or.inr ?_⟩
  · rw [e4]; omega
  · rw [e1]; omega
  · rw [e2]; omega
  · rw [e3]; omega
theorem nx_val {k m : Nat} (h1 : 1 ≤ k) (h : k ≤ 2046) (hm : m < 2 ^ 52) : FP.Core.val64 (nx k m) = .fin false (2 ^ 52 + m) ((k : Int) - 1075) := by
  have ht : FP.Core.b64.tails = 2 ^ 52 := FP.Core.tails_b64
  have he : FP.Core.b64.exps = 2048 := by decide
  have h2 := FP.Core.decode_assemble FP.Core.b64 false k m (by rw [he]; omega) (by rw [ht]; exact hm)
  have h3 : FP.Core.assemble FP.Core.b64 false k m = (nx k m).toNat := by
    rw [nx_nat (by omega) hm]
    unfold FP.Core.assemble
    rw [ht]; simp
  unfold FP.Core.val64
  rw [← h3, h2, he, if_neg (by omega), if_neg (by omega), ht, FP.Core.qmin_b64]
  congr 1
  omega
theorem nx_of {k m : Nat} (h1 : 1 ≤ k) (h : k ≤ 2046) (hm : m < 2 ^ 52) {x : UInt64} (hx : FP.Core.val64 x = .fin false (2 ^ 52 + m) ((k : Int) - 1075)) : x = nx k m :=
  FP.Core.val64_inj (by rw [hx]; exact FP.Core.Datum.noConfusion) (hx.trans (nx_val h1 h hm).symm)
theorem nx_nan {k m : Nat} (h1 : 1 ≤ k) (h : k ≤ 2046) (hm : m < 2 ^ 52) : FP.Core.val64 (nx k m) ≠ .nan := by rw [nx_val h1 h hm]; exact FP.Core.Datum.noConfusion
def two64 : UInt64 := 4611686018427387904
theorem two_nx : two64 = nx 1024 0 := by decide +kernel
theorem two_val : FP.Core.val64 two64 = .fin false (2 ^ 52) (-51) := by decide +kernel
theorem nx_half {k m : Nat} (h1 : 1 ≤ k) (h : k ≤ 2045) (hm : m < 2 ^ 52) : FP.ddiv (nx (k + 1) m) two64 = nx k m := by
  refine nx_of h1 (by omega) hm ?_
  rw [FP.Core.val64_ddiv, nx_val (by omega) (by omega) hm, two_val]
  show (if (2 ^ 52 : Nat) = 0 then (if 2 ^ 52 + m = 0 then FP.Core.Datum.nan else FP.Core.Datum.inf (false != false)) else FP.Core.roundRatio FP.Core.b64 (false != false) (2 ^ 52 + m) (2 ^ 52) ((((k + 1 : Nat) : Int) - 1075) - (-51))) = _
  rw [if_neg (show ¬ (2 ^ 52 : Nat) = 0 by decide)]
  refine FP.Core.roundRatio_exact FP.Core.good_b64 (by decide) (nx_fits h1 (by omega) hm false) ?_
  rw [show ((((k + 1 : Nat) : Int) - 1075) - (-51) - ((k : Int) - 1075)).toNat = 52 by omega, show ((k : Int) - 1075 - ((((k + 1 : Nat) : Int) - 1075) - (-51))).toNat = 0 by omega]
  omega
theorem nx_twice {k m : Nat} (h1 : 1 ≤ k) (h : k ≤ 2045) (hm : m < 2 ^ 52) : FP.dmul (nx k m) two64 = nx (k + 1) m := by
  refine nx_of (by omega) (by omega) hm ?_
  rw [FP.Core.val64_dmul, nx_val h1 (by omega) hm, two_val]
  show FP.Core.roundRatio FP.Core.b64 (false != false) ((2 ^ 52 + m) * 2 ^ 52) 1 (((k : Int) - 1075) + (-51)) = _
  refine FP.Core.roundRatio_exact FP.Core.good_b64 (by decide) (nx_fits (by omega) (by omega) hm false) ?_
  rw [show (((k : Int) - 1075) + (-51) - (((k + 1 : Nat) : Int) - 1075)).toNat = 0 by omega, show ((((k + 1 : Nat) : Int) - 1075) - (((k : Int) - 1075) + (-51))).toNat = 52 by omega]
  omega
/-- comparing by the bits -/
theorem dc_key {x y : UInt64} (hx : FP.Core.val64 x ≠ .nan) (hy : FP.Core.val64 y ≠ .nan) : (0 < dc x y ↔ FP.Core.dkey y < FP.Core.dkey x) ∧ (dc x y < 0 ↔ FP.Core.dkey x < FP.Core.dkey y) ∧ (dc x y = 0 ↔ FP.Core.dkey x = FP.Core.dkey y) := by
  have h := FP.Core.dcmp_key hx hy
  have h1 := @FP.Core.compare_lt_iff (FP.Core.dkey x) (FP.Core.dkey y)
  have h2 := @FP.Core.compare_gt_iff (FP.Core.dkey x) (FP.Core.dkey y)
  have h3 := @FP.Core.compare_eq_iff (FP.Core.dkey x) (FP.Core.dkey y)
  unfold dc
  rw [show FP.dcmp x y = some (compare (FP.Core.dkey x) (FP.Core.dkey y)) from h]
  cases hc : compare (FP.Core.dkey x) (FP.Core.dkey y) <;> rw [hc] at h1 h2 h3 <;> simp at h1 h2 h3 ⊢ <;> omega
theorem dc_some {x y : UInt64} (hx : FP.Core.val64 x ≠ .nan) (hy : FP.Core.val64 y ≠ .nan) : FP.dcmp x y ≠ none := by
  rw [show FP.dcmp x y = some (compare (FP.Core.dkey x) (FP.Core.dkey y)) from FP.Core.dcmp_key hx hy]
  exact fun h => by cases h
theorem nx_key {k m : Nat} (h : k ≤ 2046) (hm : m < 2 ^ 52) : FP.Core.dkey (nx k m) = ((k * 2 ^ 52 + m : Nat) : Int) := by
  unfold FP.Core.dkey
  rw [nx_nat (by omega) hm, if_neg (by omega)]
theorem two_key : FP.Core.dkey two64 = ((1024 * 2 ^ 52 : Nat) : Int) := by decide +kernel
theorem one_key : FP.Core.dkey FP.dconst1 = ((1023 * 2 ^ 52 : Nat) : Int) := by decide +kernel
theorem zero_key : FP.Core.dkey FP.dconst0 = 0 := by decide +kernel
theorem two_nan : FP.Core.val64 two64 ≠ .nan := by decide +kernel
theorem one_nan : FP.Core.val64 FP.dconst1 ≠ .nan := by decide +kernel
theorem zero_nan : FP.Core.val64 FP.dconst0 ≠ .nan := by decide +kernel
theorem nx_dc2 {k m : Nat} (h1 : 1 ≤ k) (h : k ≤ 2046) (hm : m < 2 ^ 52) : dc (nx k m) two64 < 0 ↔ k < 1024 := by
  rw [(dc_key (nx_nan h1 h hm) two_nan).2.1, nx_key h hm, two_key]; omega
theorem nx_dc1 {k m : Nat} (h1 : 1 ≤ k) (h : k ≤ 2046) (hm : m < 2 ^ 52) : dc (nx k m) FP.dconst1 < 0 ↔ k < 1023 := by
  rw [(dc_key (nx_nan h1 h hm) one_nan).2.1, nx_key h hm, one_key]; omega
/-- the last step: (1.f - 1) * 2^52 is f -/
def big52 : UInt64 := 4841369599423283200
theorem big_val : FP.Core.val64 big52 = .fin false (2 ^ 52) 0 := by decide +kernel
theorem nx_sub1 {m : Nat} (hm : m < 2 ^ 52) : ∃ c' q', FP.Core.val64 (FP.dsub (nx 1023 m) FP.dconst1) = .fin false c' q' ∧ FP.Core.inUnits c' q' FP.Core.b64.qmin = FP.Core.inUnits m (-52) FP.Core.b64.qmin ∧ FP.Core.b64.qmin ≤ q' := by
  have hs : FP.Core.exactSum (.fin false (2 ^ 52 + m) (((1023 : Nat) : Int) - 1075)) (FP.Core.negate (.fin false (2 ^ 52) (-52))) = .fin false m (-52) := by
    show FP.Core.Datum.fin _ _ _ = _
    have hu : FP.Core.sumUnits false (2 ^ 52 + m) (((1023 : Nat) : Int) - 1075) (!false) (2 ^ 52) (-52) (min (((1023 : Nat) : Int) - 1075) (-52)) = (m : Int) := by
      unfold FP.Core.sumUnits FP.Core.inUnits FP.Core.signed
      rw [show (((1023 : Nat) : Int) - 1075) = -52 by omega, show (((-52 : Int) - min (-52) (-52)).toNat) = 0 by decide]
      simp
      omega
    rw [hu]
    have h1 : FP.Core.sumSign false (!false) (m : Int) = false := by
      unfold FP.Core.sumSign
      split
      · rfl
      · exact decide_eq_false (by omega)
    rw [h1, Int.natAbs_natCast]
    rfl
  have hv : FP.Core.val64 (FP.dsub (nx 1023 m) FP.dconst1) = FP.Core.round FP.Core.b64 (.fin false m (-52)) := by
    rw [FP.Core.val64_dsub, nx_val (by omega) (by omega) hm, show FP.Core.val64 FP.dconst1 = .fin false (2 ^ 52) (-52) from FP.Core.val64_dconst1, hs]
  obtain ⟨c', q', h1, h2⟩ := FP.Core.round_exact FP.Core.good_b64 false (c := m) (q := -52) (by have : FP.Core.b64.p = 53 := rfl; rw [this]; omega) (by decide) (by decide)
  have hf := FP.Core.val64_fits (FP.dsub (nx 1023 m) FP.dconst1)
  rw [hv, h1] at hf
  exact ⟨c', q', hv.trans h1, h2, hf.2.1⟩
theorem nx_last {m : Nat} (hm : m < 2 ^ 52) : FP.d2l (FP.dmul (FP.dsub (nx 1023 m) FP.dconst1) big52) = Int64.ofNat m ∧ vf_n64 (FP.dmul (FP.dsub (nx 1023 m) FP.dconst1) big52) ∧ vf_n64 (FP.dsub (nx 1023 m) FP.dconst1) := by
  obtain ⟨c', q', h1, h2, h3⟩ := nx_sub1 hm
  have hw : FP.Core.Whole (m : Int) (.fin false (c' * 2 ^ 52) q') := by
    show FP.Core.signed false (c' * 2 ^ 52 * 2 ^ q'.toNat) = (m : Int) * ((2 ^ (-q').toNat : Nat) : Int)
    rw [show FP.Core.signed false (c' * 2 ^ 52 * 2 ^ q'.toNat) = ((c' * 2 ^ 52 * 2 ^ q'.toNat : Nat) : Int) from rfl, ← Int.natCast_mul]
    congr 1
    rw [FP.Core.qmin_b64] at h2 h3
    unfold FP.Core.inUnits at h2
    rw [show ((-52 : Int) - -1074).toNat = 1022 by decide] at h2
    rcases Int.le_total 0 q' with hq | hq
    · rw [show (-q').toNat = 0 by omega]
      rw [show (q' - -1074).toNat = q'.toNat + 52 + 1022 by omega, Nat.pow_add, Nat.pow_add, ← Nat.mul_assoc] at h2
      have h4 := Nat.eq_of_mul_eq_mul_right (Nat.two_pow_pos 1022) h2
      rw [← h4]; simp [Nat.mul_assoc, Nat.mul_comm, Nat.mul_left_comm]
    · rw [show q'.toNat = 0 by omega]
      have hj : ∃ j : Nat, (-q').toNat = j ∧ j ≤ 1074 ∧ (q' - -1074).toNat = 1074 - j := ⟨(-q').toNat, rfl, by omega, by omega⟩
      obtain ⟨j, e1, e2, e3⟩ := hj
      rw [e1]; rw [e3] at h2
      refine Nat.eq_of_mul_eq_mul_right (Nat.two_pow_pos (1074 - j)) ?_
      have h5 : c' * 2 ^ (1074 - j) * 2 ^ 52 = m * 2 ^ 1022 * 2 ^ 52 := by rw [h2]
      have h6 : m * 2 ^ j * 2 ^ (1074 - j) = m * 2 ^ 1022 * 2 ^ 52 := by
        rw [Nat.mul_assoc, ← Nat.pow_add, show j + (1074 - j) = 1022 + 52 by omega, Nat.pow_add, Nat.mul_assoc]
      rw [h6, ← h5]; simp [Nat.mul_assoc, Nat.mul_comm, Nat.mul_left_comm]
  have hv : FP.Core.val64 (FP.dmul (FP.dsub (nx 1023 m) FP.dconst1) big52) = FP.Core.round FP.Core.b64 (.fin false (c' * 2 ^ 52) q') := by
    rw [FP.Core.val64_dmul, h1, big_val]
    show FP.Core.round FP.Core.b64 (.fin (false != false) (c' * 2 ^ 52) (q' + 0)) = _
    rw [Int.add_zero]; rfl
  have hW := FP.Core.whole_round FP.Core.good_b64 FP.Core.wide_b64 (by rw [Int.natAbs_natCast, show FP.Core.b64.p = 53 from rfl]; omega) hw
  rw [← hv] at hW
  have hm9 : (Int64.ofNat m).toInt = (m : Int) := by
    rw [Int64.toInt_ofNat']
    have e9 : Int64.size = 2 ^ 64 := rfl
    rw [e9]
    exact Int.bmod_eq_of_le (by omega) (by omega)
  refine ⟨FP.Core.d2l_int (a := Int64.ofNat m) (by rw [hm9]; exact hW), (n64_iff _).mpr hW.ne_nan, (n64_iff _).mpr ?_⟩
  rw [h1]; exact FP.Core.Datum.noConfusion
theorem nx_dc0 {k m : Nat} (h1 : 1 ≤ k) (h : k ≤ 2046) (hm : m < 2 ^ 52) : 0 < dc (nx k m) FP.dconst0 := by
  rw [(dc_key (nx_nan h1 h hm) zero_nan).1, nx_key h hm, zero_key]; omega
theorem dneg_nat {k m : Nat} (h1 : 1 ≤ k) (h : k ≤ 2046) (hm : m < 2 ^ 52) : (FP.dneg (nx k m)).toNat = 2 ^ 63 + (k * 2 ^ 52 + m) := by
  have h9 : (UInt64.ofNat (2 ^ 63 + (k * 2 ^ 52 + m))).toNat = 2 ^ 63 + (k * 2 ^ 52 + m) := by rw [UInt64.toNat_ofNat']; exact Nat.mod_eq_of_lt (by omega)
  have h2 : FP.Core.val64 (UInt64.ofNat (2 ^ 63 + (k * 2 ^ 52 + m))) = FP.Core.negate (FP.Core.val64 (nx k m)) := FP.Core.val64_neg_bits (Or.inr (by rw [nx_nat (by omega) hm, h9]; omega))
  have h3 : FP.dneg (nx k m) = UInt64.ofNat (2 ^ 63 + (k * 2 ^ 52 + m)) := FP.Core.val64_inj (by rw [FP.val64_dneg, nx_val h1 h hm]; exact FP.Core.Datum.noConfusion) ((FP.val64_dneg _).trans h2.symm)
  rw [h3, h9]
theorem dneg_nan {k m : Nat} (h1 : 1 ≤ k) (h : k ≤ 2046) (hm : m < 2 ^ 52) : FP.Core.val64 (FP.dneg (nx k m)) ≠ .nan := by rw [FP.val64_dneg, nx_val h1 h hm]; exact FP.Core.Datum.noConfusion
theorem dneg_dc0 {k m : Nat} (h1 : 1 ≤ k) (h : k ≤ 2046) (hm : m < 2 ^ 52) : dc (FP.dneg (nx k m)) FP.dconst0 < 0 := by
  rw [(dc_key (dneg_nan h1 h hm) zero_nan).2.1, zero_key]
  unfold FP.Core.dkey
  rw [dneg_nat h1 h hm, if_pos (by omega)]; omega
theorem dneg2 {k m : Nat} (h1 : 1 ≤ k) (h : k ≤ 2046) (hm : m < 2 ^ 52) : FP.dneg (FP.dneg (nx k m)) = nx k m := by
  unfold FP.dneg
  rw [UInt64.xor_assoc, UInt64.xor_self, UInt64.xor_zero]
theorem j_add (x : Nat) : Int64.ofNat x + 1 = Int64.ofNat (x + 1) := (Int64.ofNat_add x 1).symm
theorem j_sub (x : Nat) : Int64.ofNat (x + 1) - 1 = Int64.ofNat x := by rw [← j_add]; exact Int64.add_sub_cancel _ _
theorem or_nat {i a m : Nat} (hm : m < 2 ^ i) (h : a * 2 ^ i + m < 2 ^ 64) : Int64.ofNat (a * 2 ^ i) ||| Int64.ofNat m = Int64.ofNat (a * 2 ^ i + m) := by
  apply Int64.toBitVec_inj.mp
  show BitVec.ofNat 64 (a * 2 ^ i) ||| BitVec.ofNat 64 m = BitVec.ofNat 64 (a * 2 ^ i + m)
  apply BitVec.eq_of_toNat_eq
  rw [BitVec.toNat_or, BitVec.toNat_ofNat, BitVec.toNat_ofNat, BitVec.toNat_ofNat, Nat.mod_eq_of_lt (show a * 2 ^ i < 2 ^ 64 by omega), Nat.mod_eq_of_lt (show m < 2 ^ 64 by omega), Nat.mod_eq_of_lt h, ← Nat.shiftLeft_eq]
  exact (Nat.shiftLeft_add_eq_or_of_lt hm a).symm
theorem shl_nat {k : Nat} (h : k ≤ 2046) : Int64.ofNat k <<< ((nI 52).toInt64 &&& 63) = Int64.ofNat (k * 2 ^ 52) := by
  rw [show ((nI 52).toInt64 &&& 63) = (52 : Int64) by decide]
  apply Int64.toBitVec_inj.mp
  apply BitVec.eq_of_toNat_eq
  show (BitVec.ofNat 64 k <<< ((52#64).smod 64#64).toNat).toNat = (BitVec.ofNat 64 (k * 2 ^ 52)).toNat
  rw [show ((52#64).smod 64#64).toNat = 52 by decide, BitVec.toNat_shiftLeft, BitVec.toNat_ofNat, BitVec.toNat_ofNat, Nat.mod_eq_of_lt (show k < 2 ^ 64 by omega), Nat.shiftLeft_eq]
theorem bits_pos {k m : Nat} (h : k ≤ 2046) (hm : m < 2 ^ 52) : (0 : Int64) ||| Int64.ofNat (k * 2 ^ 52) ||| Int64.ofNat m = (nx k m).toInt64 := by
  rw [show (0 : Int64) ||| Int64.ofNat (k * 2 ^ 52) = Int64.ofNat (k * 2 ^ 52) from Int64.zero_or, or_nat hm (by omega)]
  rfl
theorem bits_neg {k m : Nat} (h1 : 1 ≤ k) (h : k ≤ 2046) (hm : m < 2 ^ 52) : (-9223372036854775808 : Int64) ||| Int64.ofNat (k * 2 ^ 52) ||| Int64.ofNat m = (FP.dneg (nx k m)).toInt64 := by
  rw [show (-9223372036854775808 : Int64) = Int64.ofNat (1 * 2 ^ 63) by decide, or_nat (by omega) (by omega), show 1 * 2 ^ 63 + k * 2 ^ 52 = (2048 + k) * 2 ^ 52 by omega, or_nat hm (by omega)]
  have h9 : FP.dneg (nx k m) = UInt64.ofNat ((2048 + k) * 2 ^ 52 + m) := UInt64.toNat.inj (by rw [dneg_nat h1 h hm, UInt64.toNat_ofNat', Nat.mod_eq_of_lt (by omega)]; omega)
  rw [h9]
  rfl
end
section
/-! CONTRACTS of Transitry: the bits of a double (rows laid by wip/whole/bits.py) -/
theorem half_ok {k m : Nat} (h1 : 2 ≤ k) (h : k ≤ 2046) (hm : m < 2 ^ 52) : FP.ddiv (nx k m) 4611686018427387904 = nx (k - 1) m := by
  have := nx_half (k := k - 1) (m := m) (by omega) (by omega) hm
  rwa [show k - 1 + 1 = k by omega] at this
theorem half_n {k m : Nat} (h1 : 2 ≤ k) (h : k ≤ 2046) (hm : m < 2 ^ 52) : vf_n64 (FP.ddiv (nx k m) 4611686018427387904) := by
  rw [half_ok h1 h hm]; exact (n64_iff _).mpr (nx_nan (by omega) (by omega) hm)
theorem twice_ok {k m : Nat} (h1 : 1 ≤ k) (h : k ≤ 2045) (hm : m < 2 ^ 52) : FP.dmul (nx k m) 4611686018427387904 = nx (k + 1) m := nx_twice h1 h hm
theorem twice_n {k m : Nat} (h1 : 1 ≤ k) (h : k ≤ 2045) (hm : m < 2 ^ 52) : vf_n64 (FP.dmul (nx k m) 4611686018427387904) := by
  rw [twice_ok h1 h hm]; exact (n64_iff _).mpr (nx_nan (by omega) (by omega) hm)
theorem two_c {k m : Nat} (h1 : 1 ≤ k) (h : k ≤ 2046) (hm : m < 2 ^ 52) : dc (nx k m) 4611686018427387904 < 0 ↔ k < 1024 := nx_dc2 h1 h hm
set_option maxHeartbeats 400000 in
set_option maxRecDepth 100000 in
theorem c_bits_0 {l : Launch} {base : Nat} {K : zK} {L : List Nat} {f : Nat → va_E}  : zMet l yX6_bitsOf cX6_bitsOf 10 (some .long) (zr 0 0 0 0) base K L f [.double 0] (zFl base K 0 L f) := by
  refine z_met (by decide) (Nat.le_of_ble_eq_true rfl) (fun p e s m below meth c ls hC hM hr hlk hnm hl => ?_)
  have hx := hC.1
  have hb := hC.2.1
  have hml := hC.2.2.1
  have hown := hC.2.2.2.1
  have hts := hC.2.2.2.2.1
  generalize hA : ([.double 0] : List Value).toArray = args at hC ⊢
  generalize hQ : MQ _ _ _ _ _ _ _ = Q
  obtain ⟨locs, hlocs⟩ : ∃ z : List Loc, z = [] := ⟨_, rfl⟩
  obtain ⟨H, hH⟩ : ∃ z : Heap, z = s.heap := ⟨_, rfl⟩
  rw [← hlocs, ← hH] at hM ⊢
  have hl : lv_has ls 10 [(0, .double 0)] := hl
  refine lv_dload_n hx hb dX6_bitsOf_0 rfl (lv_at hl 0 rfl) ?_
  refine lv_dconst0 hx hb dX6_bitsOf_1 ?_
  refine lv_dcmp hx hb dX6_bitsOf_2 ?_
  refine z_if_ne (tgt := 8) hx hb (dc_l _ _) dX6_bitsOf_3 (by decide) (fun c_3 => ?_) (fun c_3 => ?_)
  · exact absurd (show dc 0 FP.dconst0 = 0 by decide +kernel) c_3
  · refine lv_lconst (v := 0) hx hb dX6_bitsOf_6 (by decide) ?_
    rw [← hQ]
    exact z_lret hC hM hr hlk (by decide) (by decide) ⟨rfl, rfl, rfl⟩ dX6_bitsOf_7
set_option maxHeartbeats 400000 in
set_option maxRecDepth 100000 in
theorem c_bits_p {l : Launch} {base : Nat} {K : zK} {L : List Nat} {f : Nat → va_E} {k fr : Nat} (hk1 : 1 ≤ k) (hk2 : k ≤ 2046) (hm : fr < 2 ^ 52) : zMet l yX6_bitsOf cX6_bitsOf 10 (some .long) (zr 0 0 0 0) base K L f [.double (nx k fr)] (zFl base K (nx k fr).toInt64 L f) := by
  refine z_met (by decide) (Nat.le_of_ble_eq_true rfl) (fun p e s m below meth c ls hC hM hr hlk hnm hl => ?_)
  have hx := hC.1
  have hb := hC.2.1
  have hml := hC.2.2.1
  have hown := hC.2.2.2.1
  have hts := hC.2.2.2.2.1
  generalize hA : ([.double (nx k fr)] : List Value).toArray = args at hC ⊢
  generalize hQ : MQ _ _ _ _ _ _ _ = Q
  obtain ⟨locs, hlocs⟩ : ∃ z : List Loc, z = [] := ⟨_, rfl⟩
  obtain ⟨H, hH⟩ : ∃ z : Heap, z = s.heap := ⟨_, rfl⟩
  rw [← hlocs, ← hH] at hM ⊢
  have hl : lv_has ls 10 [(0, .double (nx k fr))] := hl
  refine lv_dload_n hx hb dX6_bitsOf_0 rfl (lv_at hl 0 rfl) ?_
  refine lv_dconst0 hx hb dX6_bitsOf_1 ?_
  refine lv_dcmp hx hb dX6_bitsOf_2 ?_
  refine z_if_ne (tgt := 8) hx hb (dc_l _ _) dX6_bitsOf_3 (by decide) (fun c_3 => ?_) (fun c_3 => ?_)
  · refine lv_dload_n hx hb dX6_bitsOf_8 rfl (lv_at hl 0 rfl) ?_
    refine lv_dconst0 hx hb dX6_bitsOf_9 ?_
    refine lv_dcmp hx hb dX6_bitsOf_10 ?_
    refine z_if_ge (tgt := 20) hx hb (dc_g (dc_some (nx_nan hk1 hk2 hm) zero_nan)) dX6_bitsOf_11 (by decide) (fun c_11 => ?_) (fun c_11 => ?_)
    · refine lv_lconst (v := 0) hx hb dX6_bitsOf_20 (by decide) ?_
      refine lv_lstore_n (lv' := [(2, .long 0), (0, .double (nx k fr))]) hx hb dX6_bitsOf_21 rfl hl (by decide) rfl (fun ls hl => ?_)
      refine lv_dload_n hx hb dX6_bitsOf_22 rfl (lv_at hl 1 rfl) ?_
      refine lv_dconst0 hx hb dX6_bitsOf_23 ?_
      refine lv_dcmp hx hb dX6_bitsOf_24 ?_
      refine z_if_ge (tgt := 33) hx hb (dc_g (dc_some (nx_nan hk1 hk2 hm) zero_nan)) dX6_bitsOf_25 (by decide) (fun c_25 => ?_) (fun c_25 => ?_)
      · refine lv_dload_n hx hb dX6_bitsOf_33 rfl (lv_at hl 1 rfl) ?_
        refine lv_dstore (lv' := [(4, .double (nx k fr)), (2, .long 0), (0, .double (nx k fr))]) hx hb dX6_bitsOf_34 hl (by decide) rfl (fun ls hl => ?_)
        refine lv_ldc2 (v := (1023)) hx hb hown (hts _ zk_X6_250) dX6_bitsOf_36 ?_
        rw [show (1023 : Int64) = Int64.ofNat (1023 + 0) from rfl]
        refine lv_lstore (lv' := [(6, .long (Int64.ofNat (1023 + 0))), (4, .double (nx k fr)), (2, .long 0), (0, .double (nx k fr))]) hx hb dX6_bitsOf_39 hl (by decide) rfl (fun ls hl => ?_)
        refine lv_iconst (v := nI 0) hx hb dX6_bitsOf_41 (by decide) ?_
        refine lv_istore (lv' := [(8, .int (nI 0)), (6, .long (Int64.ofNat (1023 + 0))), (4, .double (nx k fr)), (2, .long 0), (0, .double (nx k fr))]) hx hb dX6_bitsOf_42 hl (by decide) rfl (fun ls hl => ?_)
        have h0 : True := trivial
        have LOOP84 : ∀ i, i ≤ 1022 → ∀ (ls : Array Slot) (H : Heap) (locs : List Loc) (q : Nat), lv_has ls 10 [(8, .int (nI i)), (6, .long (Int64.ofNat (1023 + k - q - i))), (4, .double (nx (q + i) fr)), (2, .long 0), (0, .double (nx k fr))] → zM base K L f s H locs → (q + i ≤ 1023) → (1 ≤ q ∧ q ≤ k) → W p l e (zr 0 0 0 0) s m args below meth c H locs 0 0 Q (F0 m 84 ls []) := by
          refine z_down 1022 ?_ ?_
          · intro ls H locs q hl hM hq1 hq2
            have hqe : q + 1022 = 1023 := by omega
            refine lv_iload hx hb dX6_bitsOf_84 (lv_at hl 0 rfl) ?_
            refine lv_sipush (v := nI 1022) hx hb dX6_bitsOf_86 (by decide) ?_
            refine z_icmp_ge (tgt := 119) hx hb (nI_toInt (by decide)) (nI_toInt (by decide)) dX6_bitsOf_89 (by decide) (fun c_89 => ?_) (fun c_89 => ?_)
            · have hqe : q + 1022 = 1023 := by omega
              rw [show 1023 + k - q - 1022 = k by omega, show q + 1022 = 1023 by omega] at hl
              refine lv_dload hx hb dX6_bitsOf_119 (lv_at hl 2 rfl) ?_
              refine lv_dconst1 hx hb dX6_bitsOf_121 ?_
              refine lv_dsub hx hb dX6_bitsOf_122 (nx_last hm).2.2 ?_
              refine lv_ldc2d (v := 4841369599423283200) hx hb hown (hts _ zk_X6_254) dX6_bitsOf_123 ?_
              refine lv_dmul hx hb dX6_bitsOf_126 (nx_last hm).2.1 ?_
              refine lv_d2l hx hb dX6_bitsOf_127 ?_
              rw [show FP.dmul (FP.dsub (nx 1023 fr) FP.dconst1) 4841369599423283200 = FP.dmul (FP.dsub (nx 1023 fr) FP.dconst1) big52 from rfl, (nx_last hm).1]
              refine lv_lstore (lv' := [(8, .long (Int64.ofNat fr)), (6, .long (Int64.ofNat k)), (4, .double (nx 1023 fr)), (2, .long 0), (0, .double (nx k fr))]) hx hb dX6_bitsOf_128 hl (by decide) rfl (fun ls hl => ?_)
              refine lv_lload_n hx hb dX6_bitsOf_130 rfl (lv_at hl 3 rfl) ?_
              refine lv_lload hx hb dX6_bitsOf_131 (lv_at hl 1 rfl) ?_
              refine lv_bipush (v := nI 52) hx hb dX6_bitsOf_133 (by decide) ?_
              refine lv_lshl (v := Int64.ofNat (k * 2 ^ 52)) hx hb dX6_bitsOf_135 (shl_nat hk2) ?_
              refine lv_lor hx hb dX6_bitsOf_136 ?_
              refine lv_lload hx hb dX6_bitsOf_137 (lv_at hl 0 rfl) ?_
              refine lv_lor hx hb dX6_bitsOf_139 ?_
              rw [← hQ]
              exact z_lret hC hM hr hlk (by decide) (by decide) ⟨bits_pos hk2 hm, rfl, rfl⟩ dX6_bitsOf_140
            · exact absurd c_89 (by omega)
          · intro i hi ih ls H locs q hl hM hq1 hq2
            refine lv_iload hx hb dX6_bitsOf_84 (lv_at hl 0 rfl) ?_
            refine lv_sipush (v := nI 1022) hx hb dX6_bitsOf_86 (by decide) ?_
            refine z_icmp_ge (tgt := 119) hx hb (nI_toInt (by omega)) (nI_toInt (by decide)) dX6_bitsOf_89 (by decide) (fun c_89 => ?_) (fun c_89 => ?_)
            · exact absurd c_89 (by omega)
            · refine lv_dload hx hb dX6_bitsOf_92 (lv_at hl 2 rfl) ?_
              refine lv_dconst1 hx hb dX6_bitsOf_94 ?_
              refine lv_dcmp hx hb dX6_bitsOf_95 ?_
              refine z_if_ge (tgt := 119) hx hb (dc_g (dc_some (nx_nan (by omega) (by omega) hm) one_nan)) dX6_bitsOf_96 (by decide) (fun c_96 => ?_) (fun c_96 => ?_)
              · have hqe : q + i = 1023 := by have := mt (nx_dc1 (k := q + i) (by omega) (by omega) hm).mpr (by omega); omega
                rw [show 1023 + k - q - i = k by omega, show q + i = 1023 by omega] at hl
                refine lv_dload hx hb dX6_bitsOf_119 (lv_at hl 2 rfl) ?_
                refine lv_dconst1 hx hb dX6_bitsOf_121 ?_
                refine lv_dsub hx hb dX6_bitsOf_122 (nx_last hm).2.2 ?_
                refine lv_ldc2d (v := 4841369599423283200) hx hb hown (hts _ zk_X6_254) dX6_bitsOf_123 ?_
                refine lv_dmul hx hb dX6_bitsOf_126 (nx_last hm).2.1 ?_
                refine lv_d2l hx hb dX6_bitsOf_127 ?_
                rw [show FP.dmul (FP.dsub (nx 1023 fr) FP.dconst1) 4841369599423283200 = FP.dmul (FP.dsub (nx 1023 fr) FP.dconst1) big52 from rfl, (nx_last hm).1]
                refine lv_lstore (lv' := [(8, .long (Int64.ofNat fr)), (6, .long (Int64.ofNat k)), (4, .double (nx 1023 fr)), (2, .long 0), (0, .double (nx k fr))]) hx hb dX6_bitsOf_128 hl (by decide) rfl (fun ls hl => ?_)
                refine lv_lload_n hx hb dX6_bitsOf_130 rfl (lv_at hl 3 rfl) ?_
                refine lv_lload hx hb dX6_bitsOf_131 (lv_at hl 1 rfl) ?_
                refine lv_bipush (v := nI 52) hx hb dX6_bitsOf_133 (by decide) ?_
                refine lv_lshl (v := Int64.ofNat (k * 2 ^ 52)) hx hb dX6_bitsOf_135 (shl_nat hk2) ?_
                refine lv_lor hx hb dX6_bitsOf_136 ?_
                refine lv_lload hx hb dX6_bitsOf_137 (lv_at hl 0 rfl) ?_
                refine lv_lor hx hb dX6_bitsOf_139 ?_
                rw [← hQ]
                exact z_lret hC hM hr hlk (by decide) (by decide) ⟨bits_pos hk2 hm, rfl, rfl⟩ dX6_bitsOf_140
              · have hq9 : q + i < 1023 := (nx_dc1 (k := q + i) (by omega) (by omega) hm).mp c_96
                refine lv_dload hx hb dX6_bitsOf_99 (lv_at hl 2 rfl) ?_
                refine lv_ldc2d (v := 4611686018427387904) hx hb hown (hts _ zk_X6_252) dX6_bitsOf_101 ?_
                refine lv_dmul hx hb dX6_bitsOf_104 (twice_n (by omega) (by omega) hm) ?_
                rw [twice_ok (by omega) (by omega) hm, show q + i + 1 = q + (i + 1) by omega]
                refine lv_dstore (lv' := [(4, .double (nx (q + (i + 1)) fr)), (8, .int (nI i)), (6, .long (Int64.ofNat (1023 + k - q - i))), (2, .long 0), (0, .double (nx k fr))]) hx hb dX6_bitsOf_105 hl (by decide) rfl (fun ls hl => ?_)
                refine lv_lload hx hb dX6_bitsOf_107 (lv_at hl 2 rfl) ?_
                refine lv_lconst (v := 1) hx hb dX6_bitsOf_109 (by decide) ?_
                refine lv_lsub hx hb dX6_bitsOf_110 ?_
                rw [show 1023 + k - q - i = (1023 + k - q - (i + 1)) + 1 by omega, j_sub]
                refine lv_lstore (lv' := [(6, .long (Int64.ofNat (1023 + k - q - (i + 1)))), (4, .double (nx (q + (i + 1)) fr)), (8, .int (nI i)), (2, .long 0), (0, .double (nx k fr))]) hx hb dX6_bitsOf_111 hl (by decide) rfl (fun ls hl => ?_)
                refine lv_iinc (v := nI (i + 1)) (lv' := [(8, .int (nI (i + 1))), (6, .long (Int64.ofNat (1023 + k - q - (i + 1)))), (4, .double (nx (q + (i + 1)) fr)), (2, .long 0), (0, .double (nx k fr))]) hx hb dX6_bitsOf_113 hl (k := 2) rfl (nI_add i 1) (by decide) rfl (fun ls hl => ?_)
                refine lv_goto (tgt := 84) hx hb dX6_bitsOf_116 (by decide) ?_
                exact ih ls H locs q (lv_sub hl [0, 1, 2, 3, 4] rfl) hM (by have := (nx_dc1 (k := q + i) (by omega) (by omega) hm).mp c_96; omega) hq2
        have LOOP44 : ∀ i, i ≤ 1023 → ∀ (ls : Array Slot) (H : Heap) (locs : List Loc), lv_has ls 10 [(8, .int (nI i)), (6, .long (Int64.ofNat (1023 + i))), (4, .double (nx (k - i) fr)), (2, .long 0), (0, .double (nx k fr))] → zM base K L f s H locs → (i = 0 ∨ 1023 + i ≤ k) → W p l e (zr 0 0 0 0) s m args below meth c H locs 0 0 Q (F0 m 44 ls []) := by
          refine z_down 1023 ?_ ?_
          · intro ls H locs hl hM hi1
            refine lv_iload hx hb dX6_bitsOf_44 (lv_at hl 0 rfl) ?_
            refine lv_sipush (v := nI 1023) hx hb dX6_bitsOf_46 (by decide) ?_
            refine z_icmp_ge (tgt := 81) hx hb (nI_toInt (by decide)) (nI_toInt (by decide)) dX6_bitsOf_49 (by decide) (fun c_49 => ?_) (fun c_49 => ?_)
            · have hq9 : k - 1023 ≤ 1023 := by omega
              refine lv_iconst (v := nI 0) hx hb dX6_bitsOf_81 (by decide) ?_
              refine lv_istore (lv' := [(8, .int (nI 0)), (6, .long (Int64.ofNat (1023 + 1023))), (4, .double (nx (k - 1023) fr)), (2, .long 0), (0, .double (nx k fr))]) hx hb dX6_bitsOf_82 hl (by decide) rfl (fun ls hl => ?_)
              exact LOOP84 0 (Nat.zero_le _) ls H locs (k - 1023) (by rw [show 1023 + k - (k - 1023) - 0 = 1023 + 1023 by omega, show (k - 1023) + 0 = k - 1023 from rfl]; exact lv_sub hl [0, 1, 2, 3, 4] rfl) hM (by omega) (by omega)
            · exact absurd c_49 (by omega)
          · intro i hi ih ls H locs hl hM hi1
            refine lv_iload hx hb dX6_bitsOf_44 (lv_at hl 0 rfl) ?_
            refine lv_sipush (v := nI 1023) hx hb dX6_bitsOf_46 (by decide) ?_
            refine z_icmp_ge (tgt := 81) hx hb (nI_toInt (by omega)) (nI_toInt (by decide)) dX6_bitsOf_49 (by decide) (fun c_49 => ?_) (fun c_49 => ?_)
            · exact absurd c_49 (by omega)
            · refine lv_dload hx hb dX6_bitsOf_52 (lv_at hl 2 rfl) ?_
              refine lv_ldc2d (v := 4611686018427387904) hx hb hown (hts _ zk_X6_252) dX6_bitsOf_54 ?_
              refine lv_dcmp hx hb dX6_bitsOf_57 ?_
              refine z_if_lt (tgt := 81) hx hb (dc_l _ _) dX6_bitsOf_58 (by decide) (fun c_58 => ?_) (fun c_58 => ?_)
              · have hq9 : k - i ≤ 1023 := by have := (two_c (k := k - i) (m := fr) (by omega) (by omega) hm).mp c_58; omega
                refine lv_iconst (v := nI 0) hx hb dX6_bitsOf_81 (by decide) ?_
                refine lv_istore (lv' := [(8, .int (nI 0)), (6, .long (Int64.ofNat (1023 + i))), (4, .double (nx (k - i) fr)), (2, .long 0), (0, .double (nx k fr))]) hx hb dX6_bitsOf_82 hl (by decide) rfl (fun ls hl => ?_)
                exact LOOP84 0 (Nat.zero_le _) ls H locs (k - i) (by rw [show 1023 + k - (k - i) - 0 = 1023 + i by omega, show (k - i) + 0 = k - i from rfl]; exact lv_sub hl [0, 1, 2, 3, 4] rfl) hM (by omega) (by omega)
              · have hk9 : 1024 ≤ k - i := by have := mt (two_c (k := k - i) (m := fr) (by omega) (by omega) hm).mpr (by omega); omega
                refine lv_dload hx hb dX6_bitsOf_61 (lv_at hl 2 rfl) ?_
                refine lv_ldc2d (v := 4611686018427387904) hx hb hown (hts _ zk_X6_252) dX6_bitsOf_63 ?_
                refine lv_ddiv hx hb dX6_bitsOf_66 (half_n (by omega) (by omega) hm) ?_
                rw [half_ok (by omega) (by omega) hm, show k - i - 1 = k - (i + 1) by omega]
                refine lv_dstore (lv' := [(4, .double (nx (k - (i + 1)) fr)), (8, .int (nI i)), (6, .long (Int64.ofNat (1023 + i))), (2, .long 0), (0, .double (nx k fr))]) hx hb dX6_bitsOf_67 hl (by decide) rfl (fun ls hl => ?_)
                refine lv_lload hx hb dX6_bitsOf_69 (lv_at hl 2 rfl) ?_
                refine lv_lconst (v := 1) hx hb dX6_bitsOf_71 (by decide) ?_
                refine lv_ladd hx hb dX6_bitsOf_72 ?_
                rw [j_add, show 1023 + i + 1 = 1023 + (i + 1) by omega]
                refine lv_lstore (lv' := [(6, .long (Int64.ofNat (1023 + (i + 1)))), (4, .double (nx (k - (i + 1)) fr)), (8, .int (nI i)), (2, .long 0), (0, .double (nx k fr))]) hx hb dX6_bitsOf_73 hl (by decide) rfl (fun ls hl => ?_)
                refine lv_iinc (v := nI (i + 1)) (lv' := [(8, .int (nI (i + 1))), (6, .long (Int64.ofNat (1023 + (i + 1)))), (4, .double (nx (k - (i + 1)) fr)), (2, .long 0), (0, .double (nx k fr))]) hx hb dX6_bitsOf_75 hl (k := 2) rfl (nI_add i 1) (by decide) rfl (fun ls hl => ?_)
                refine lv_goto (tgt := 44) hx hb dX6_bitsOf_78 (by decide) ?_
                exact ih ls H locs (lv_sub hl [0, 1, 2, 3, 4] rfl) hM (by have := mt (two_c (k := k - i) (m := fr) (by omega) (by omega) hm).mpr (by omega); omega)
        exact LOOP44 0 (Nat.zero_le _) ls H locs (lv_sub hl [0, 1, 2, 3, 4] rfl) hM (Or.inl rfl)
      · exact absurd c_25 (by have := nx_dc0 hk1 hk2 hm; omega)
    · exact absurd c_11 (by have := nx_dc0 hk1 hk2 hm; omega)
  · exact absurd c_3 (by have := nx_dc0 hk1 hk2 hm; omega)
set_option maxHeartbeats 400000 in
set_option maxRecDepth 100000 in
theorem c_bits_n {l : Launch} {base : Nat} {K : zK} {L : List Nat} {f : Nat → va_E} {k fr : Nat} (hk1 : 1 ≤ k) (hk2 : k ≤ 2046) (hm : fr < 2 ^ 52) : zMet l yX6_bitsOf cX6_bitsOf 10 (some .long) (zr 0 0 0 0) base K L f [.double (FP.dneg (nx k fr))] (zFl base K (FP.dneg (nx k fr)).toInt64 L f) := by
  refine z_met (by decide) (Nat.le_of_ble_eq_true rfl) (fun p e s m below meth c ls hC hM hr hlk hnm hl => ?_)
  have hx := hC.1
  have hb := hC.2.1
  have hml := hC.2.2.1
  have hown := hC.2.2.2.1
  have hts := hC.2.2.2.2.1
  generalize hA : ([.double (FP.dneg (nx k fr))] : List Value).toArray = args at hC ⊢
  generalize hQ : MQ _ _ _ _ _ _ _ = Q
  obtain ⟨locs, hlocs⟩ : ∃ z : List Loc, z = [] := ⟨_, rfl⟩
  obtain ⟨H, hH⟩ : ∃ z : Heap, z = s.heap := ⟨_, rfl⟩
  rw [← hlocs, ← hH] at hM ⊢
  have hl : lv_has ls 10 [(0, .double (FP.dneg (nx k fr)))] := hl
  refine lv_dload_n hx hb dX6_bitsOf_0 rfl (lv_at hl 0 rfl) ?_
  refine lv_dconst0 hx hb dX6_bitsOf_1 ?_
  refine lv_dcmp hx hb dX6_bitsOf_2 ?_
  refine z_if_ne (tgt := 8) hx hb (dc_l _ _) dX6_bitsOf_3 (by decide) (fun c_3 => ?_) (fun c_3 => ?_)
  · refine lv_dload_n hx hb dX6_bitsOf_8 rfl (lv_at hl 0 rfl) ?_
    refine lv_dconst0 hx hb dX6_bitsOf_9 ?_
    refine lv_dcmp hx hb dX6_bitsOf_10 ?_
    refine z_if_ge (tgt := 20) hx hb (dc_g (dc_some (dneg_nan hk1 hk2 hm) zero_nan)) dX6_bitsOf_11 (by decide) (fun c_11 => ?_) (fun c_11 => ?_)
    · exact absurd c_11 (by have := dneg_dc0 hk1 hk2 hm; omega)
    · refine lv_ldc2 (v := (-9223372036854775808)) hx hb hown (hts _ zk_X6_248) dX6_bitsOf_14 ?_
      refine lv_goto (tgt := 21) hx hb dX6_bitsOf_17 (by decide) ?_
      refine lv_lstore_n (lv' := [(2, .long ((-9223372036854775808))), (0, .double (FP.dneg (nx k fr)))]) hx hb dX6_bitsOf_21 rfl hl (by decide) rfl (fun ls hl => ?_)
      refine lv_dload_n hx hb dX6_bitsOf_22 rfl (lv_at hl 1 rfl) ?_
      refine lv_dconst0 hx hb dX6_bitsOf_23 ?_
      refine lv_dcmp hx hb dX6_bitsOf_24 ?_
      refine z_if_ge (tgt := 33) hx hb (dc_g (dc_some (dneg_nan hk1 hk2 hm) zero_nan)) dX6_bitsOf_25 (by decide) (fun c_25 => ?_) (fun c_25 => ?_)
      · exact absurd c_25 (by have := dneg_dc0 hk1 hk2 hm; omega)
      · refine lv_dload_n hx hb dX6_bitsOf_28 rfl (lv_at hl 1 rfl) ?_
        refine lv_dneg hx hb dX6_bitsOf_29 ?_
        refine lv_goto (tgt := 34) hx hb dX6_bitsOf_30 (by decide) ?_
        rw [dneg2 hk1 hk2 hm]
        refine lv_dstore (lv' := [(4, .double (nx k fr)), (2, .long ((-9223372036854775808))), (0, .double (FP.dneg (nx k fr)))]) hx hb dX6_bitsOf_34 hl (by decide) rfl (fun ls hl => ?_)
        refine lv_ldc2 (v := (1023)) hx hb hown (hts _ zk_X6_250) dX6_bitsOf_36 ?_
        rw [show (1023 : Int64) = Int64.ofNat (1023 + 0) from rfl]
        refine lv_lstore (lv' := [(6, .long (Int64.ofNat (1023 + 0))), (4, .double (nx k fr)), (2, .long ((-9223372036854775808))), (0, .double (FP.dneg (nx k fr)))]) hx hb dX6_bitsOf_39 hl (by decide) rfl (fun ls hl => ?_)
        refine lv_iconst (v := nI 0) hx hb dX6_bitsOf_41 (by decide) ?_
        refine lv_istore (lv' := [(8, .int (nI 0)), (6, .long (Int64.ofNat (1023 + 0))), (4, .double (nx k fr)), (2, .long ((-9223372036854775808))), (0, .double (FP.dneg (nx k fr)))]) hx hb dX6_bitsOf_42 hl (by decide) rfl (fun ls hl => ?_)
        have h0 : True := trivial
        have LOOP84 : ∀ i, i ≤ 1022 → ∀ (ls : Array Slot) (H : Heap) (locs : List Loc) (q : Nat), lv_has ls 10 [(8, .int (nI i)), (6, .long (Int64.ofNat (1023 + k - q - i))), (4, .double (nx (q + i) fr)), (2, .long ((-9223372036854775808))), (0, .double (FP.dneg (nx k fr)))] → zM base K L f s H locs → (q + i ≤ 1023) → (1 ≤ q ∧ q ≤ k) → W p l e (zr 0 0 0 0) s m args below meth c H locs 0 0 Q (F0 m 84 ls []) := by
          refine z_down 1022 ?_ ?_
          · intro ls H locs q hl hM hq1 hq2
            have hqe : q + 1022 = 1023 := by omega
            refine lv_iload hx hb dX6_bitsOf_84 (lv_at hl 0 rfl) ?_
            refine lv_sipush (v := nI 1022) hx hb dX6_bitsOf_86 (by decide) ?_
            refine z_icmp_ge (tgt := 119) hx hb (nI_toInt (by decide)) (nI_toInt (by decide)) dX6_bitsOf_89 (by decide) (fun c_89 => ?_) (fun c_89 => ?_)
            · have hqe : q + 1022 = 1023 := by omega
              rw [show 1023 + k - q - 1022 = k by omega, show q + 1022 = 1023 by omega] at hl
              refine lv_dload hx hb dX6_bitsOf_119 (lv_at hl 2 rfl) ?_
              refine lv_dconst1 hx hb dX6_bitsOf_121 ?_
              refine lv_dsub hx hb dX6_bitsOf_122 (nx_last hm).2.2 ?_
              refine lv_ldc2d (v := 4841369599423283200) hx hb hown (hts _ zk_X6_254) dX6_bitsOf_123 ?_
              refine lv_dmul hx hb dX6_bitsOf_126 (nx_last hm).2.1 ?_
              refine lv_d2l hx hb dX6_bitsOf_127 ?_
              rw [show FP.dmul (FP.dsub (nx 1023 fr) FP.dconst1) 4841369599423283200 = FP.dmul (FP.dsub (nx 1023 fr) FP.dconst1) big52 from rfl, (nx_last hm).1]
              refine lv_lstore (lv' := [(8, .long (Int64.ofNat fr)), (6, .long (Int64.ofNat k)), (4, .double (nx 1023 fr)), (2, .long ((-9223372036854775808))), (0, .double (FP.dneg (nx k fr)))]) hx hb dX6_bitsOf_128 hl (by decide) rfl (fun ls hl => ?_)
              refine lv_lload_n hx hb dX6_bitsOf_130 rfl (lv_at hl 3 rfl) ?_
              refine lv_lload hx hb dX6_bitsOf_131 (lv_at hl 1 rfl) ?_
              refine lv_bipush (v := nI 52) hx hb dX6_bitsOf_133 (by decide) ?_
              refine lv_lshl (v := Int64.ofNat (k * 2 ^ 52)) hx hb dX6_bitsOf_135 (shl_nat hk2) ?_
              refine lv_lor hx hb dX6_bitsOf_136 ?_
              refine lv_lload hx hb dX6_bitsOf_137 (lv_at hl 0 rfl) ?_
              refine lv_lor hx hb dX6_bitsOf_139 ?_
              rw [← hQ]
              exact z_lret hC hM hr hlk (by decide) (by decide) ⟨bits_neg hk1 hk2 hm, rfl, rfl⟩ dX6_bitsOf_140
            · exact absurd c_89 (by omega)
          · intro i hi ih ls H locs q hl hM hq1 hq2
            refine lv_iload hx hb dX6_bitsOf_84 (lv_at hl 0 rfl) ?_
            refine lv_sipush (v := nI 1022) hx hb dX6_bitsOf_86 (by decide) ?_
            refine z_icmp_ge (tgt := 119) hx hb (nI_toInt (by omega)) (nI_toInt (by decide)) dX6_bitsOf_89 (by decide) (fun c_89 => ?_) (fun c_89 => ?_)
            · exact absurd c_89 (by omega)
            · refine lv_dload hx hb dX6_bitsOf_92 (lv_at hl 2 rfl) ?_
              refine lv_dconst1 hx hb dX6_bitsOf_94 ?_
              refine lv_dcmp hx hb dX6_bitsOf_95 ?_
              refine z_if_ge (tgt := 119) hx hb (dc_g (dc_some (nx_nan (by omega) (by omega) hm) one_nan)) dX6_bitsOf_96 (by decide) (fun c_96 => ?_) (fun c_96 => ?_)
              · have hqe : q + i = 1023 := by have := mt (nx_dc1 (k := q + i) (by omega) (by omega) hm).mpr (by omega); omega
                rw [show 1023 + k - q - i = k by omega, show q + i = 1023 by omega] at hl
                refine lv_dload hx hb dX6_bitsOf_119 (lv_at hl 2 rfl) ?_
                refine lv_dconst1 hx hb dX6_bitsOf_121 ?_
                refine lv_dsub hx hb dX6_bitsOf_122 (nx_last hm).2.2 ?_
                refine lv_ldc2d (v := 4841369599423283200) hx hb hown (hts _ zk_X6_254) dX6_bitsOf_123 ?_
                refine lv_dmul hx hb dX6_bitsOf_126 (nx_last hm).2.1 ?_
                refine lv_d2l hx hb dX6_bitsOf_127 ?_
                rw [show FP.dmul (FP.dsub (nx 1023 fr) FP.dconst1) 4841369599423283200 = FP.dmul (FP.dsub (nx 1023 fr) FP.dconst1) big52 from rfl, (nx_last hm).1]
                refine lv_lstore (lv' := [(8, .long (Int64.ofNat fr)), (6, .long (Int64.ofNat k)), (4, .double (nx 1023 fr)), (2, .long ((-9223372036854775808))), (0, .double (FP.dneg (nx k fr)))]) hx hb dX6_bitsOf_128 hl (by decide) rfl (fun ls hl => ?_)
                refine lv_lload_n hx hb dX6_bitsOf_130 rfl (lv_at hl 3 rfl) ?_
                refine lv_lload hx hb dX6_bitsOf_131 (lv_at hl 1 rfl) ?_
                refine lv_bipush (v := nI 52) hx hb dX6_bitsOf_133 (by decide) ?_
                refine lv_lshl (v := Int64.ofNat (k * 2 ^ 52)) hx hb dX6_bitsOf_135 (shl_nat hk2) ?_
                refine lv_lor hx hb dX6_bitsOf_136 ?_
                refine lv_lload hx hb dX6_bitsOf_137 (lv_at hl 0 rfl) ?_
                refine lv_lor hx hb dX6_bitsOf_139 ?_
                rw [← hQ]
                exact z_lret hC hM hr hlk (by decide) (by decide) ⟨bits_neg hk1 hk2 hm, rfl, rfl⟩ dX6_bitsOf_140
              · have hq9 : q + i < 1023 := (nx_dc1 (k := q + i) (by omega) (by omega) hm).mp c_96
                refine lv_dload hx hb dX6_bitsOf_99 (lv_at hl 2 rfl) ?_
                refine lv_ldc2d (v := 4611686018427387904) hx hb hown (hts _ zk_X6_252) dX6_bitsOf_101 ?_
                refine lv_dmul hx hb dX6_bitsOf_104 (twice_n (by omega) (by omega) hm) ?_
                rw [twice_ok (by omega) (by omega) hm, show q + i + 1 = q + (i + 1) by omega]
                refine lv_dstore (lv' := [(4, .double (nx (q + (i + 1)) fr)), (8, .int (nI i)), (6, .long (Int64.ofNat (1023 + k - q - i))), (2, .long ((-9223372036854775808))), (0, .double (FP.dneg (nx k fr)))]) hx hb dX6_bitsOf_105 hl (by decide) rfl (fun ls hl => ?_)
                refine lv_lload hx hb dX6_bitsOf_107 (lv_at hl 2 rfl) ?_
                refine lv_lconst (v := 1) hx hb dX6_bitsOf_109 (by decide) ?_
                refine lv_lsub hx hb dX6_bitsOf_110 ?_
                rw [show 1023 + k - q - i = (1023 + k - q - (i + 1)) + 1 by omega, j_sub]
                refine lv_lstore (lv' := [(6, .long (Int64.ofNat (1023 + k - q - (i + 1)))), (4, .double (nx (q + (i + 1)) fr)), (8, .int (nI i)), (2, .long ((-9223372036854775808))), (0, .double (FP.dneg (nx k fr)))]) hx hb dX6_bitsOf_111 hl (by decide) rfl (fun ls hl => ?_)
                refine lv_iinc (v := nI (i + 1)) (lv' := [(8, .int (nI (i + 1))), (6, .long (Int64.ofNat (1023 + k - q - (i + 1)))), (4, .double (nx (q + (i + 1)) fr)), (2, .long ((-9223372036854775808))), (0, .double (FP.dneg (nx k fr)))]) hx hb dX6_bitsOf_113 hl (k := 2) rfl (nI_add i 1) (by decide) rfl (fun ls hl => ?_)
                refine lv_goto (tgt := 84) hx hb dX6_bitsOf_116 (by decide) ?_
                exact ih ls H locs q (lv_sub hl [0, 1, 2, 3, 4] rfl) hM (by have := (nx_dc1 (k := q + i) (by omega) (by omega) hm).mp c_96; omega) hq2
        have LOOP44 : ∀ i, i ≤ 1023 → ∀ (ls : Array Slot) (H : Heap) (locs : List Loc), lv_has ls 10 [(8, .int (nI i)), (6, .long (Int64.ofNat (1023 + i))), (4, .double (nx (k - i) fr)), (2, .long ((-9223372036854775808))), (0, .double (FP.dneg (nx k fr)))] → zM base K L f s H locs → (i = 0 ∨ 1023 + i ≤ k) → W p l e (zr 0 0 0 0) s m args below meth c H locs 0 0 Q (F0 m 44 ls []) := by
          refine z_down 1023 ?_ ?_
          · intro ls H locs hl hM hi1
            refine lv_iload hx hb dX6_bitsOf_44 (lv_at hl 0 rfl) ?_
            refine lv_sipush (v := nI 1023) hx hb dX6_bitsOf_46 (by decide) ?_
            refine z_icmp_ge (tgt := 81) hx hb (nI_toInt (by decide)) (nI_toInt (by decide)) dX6_bitsOf_49 (by decide) (fun c_49 => ?_) (fun c_49 => ?_)
            · have hq9 : k - 1023 ≤ 1023 := by omega
              refine lv_iconst (v := nI 0) hx hb dX6_bitsOf_81 (by decide) ?_
              refine lv_istore (lv' := [(8, .int (nI 0)), (6, .long (Int64.ofNat (1023 + 1023))), (4, .double (nx (k - 1023) fr)), (2, .long ((-9223372036854775808))), (0, .double (FP.dneg (nx k fr)))]) hx hb dX6_bitsOf_82 hl (by decide) rfl (fun ls hl => ?_)
              exact LOOP84 0 (Nat.zero_le _) ls H locs (k - 1023) (by rw [show 1023 + k - (k - 1023) - 0 = 1023 + 1023 by omega, show (k - 1023) + 0 = k - 1023 from rfl]; exact lv_sub hl [0, 1, 2, 3, 4] rfl) hM (by omega) (by omega)
            · exact absurd c_49 (by omega)
          · intro i hi ih ls H locs hl hM hi1
            refine lv_iload hx hb dX6_bitsOf_44 (lv_at hl 0 rfl) ?_
            refine lv_sipush (v := nI 1023) hx hb dX6_bitsOf_46 (by decide) ?_
            refine z_icmp_ge (tgt := 81) hx hb (nI_toInt (by omega)) (nI_toInt (by decide)) dX6_bitsOf_49 (by decide) (fun c_49 => ?_) (fun c_49 => ?_)
            · exact absurd c_49 (by omega)
            · refine lv_dload hx hb dX6_bitsOf_52 (lv_at hl 2 rfl) ?_
              refine lv_ldc2d (v := 4611686018427387904) hx hb hown (hts _ zk_X6_252) dX6_bitsOf_54 ?_
              refine lv_dcmp hx hb dX6_bitsOf_57 ?_
              refine z_if_lt (tgt := 81) hx hb (dc_l _ _) dX6_bitsOf_58 (by decide) (fun c_58 => ?_) (fun c_58 => ?_)
              · have hq9 : k - i ≤ 1023 := by have := (two_c (k := k - i) (m := fr) (by omega) (by omega) hm).mp c_58; omega
                refine lv_iconst (v := nI 0) hx hb dX6_bitsOf_81 (by decide) ?_
                refine lv_istore (lv' := [(8, .int (nI 0)), (6, .long (Int64.ofNat (1023 + i))), (4, .double (nx (k - i) fr)), (2, .long ((-9223372036854775808))), (0, .double (FP.dneg (nx k fr)))]) hx hb dX6_bitsOf_82 hl (by decide) rfl (fun ls hl => ?_)
                exact LOOP84 0 (Nat.zero_le _) ls H locs (k - i) (by rw [show 1023 + k - (k - i) - 0 = 1023 + i by omega, show (k - i) + 0 = k - i from rfl]; exact lv_sub hl [0, 1, 2, 3, 4] rfl) hM (by omega) (by omega)
              · have hk9 : 1024 ≤ k - i := by have := mt (two_c (k := k - i) (m := fr) (by omega) (by omega) hm).mpr (by omega); omega
                refine lv_dload hx hb dX6_bitsOf_61 (lv_at hl 2 rfl) ?_
                refine lv_ldc2d (v := 4611686018427387904) hx hb hown (hts _ zk_X6_252) dX6_bitsOf_63 ?_
                refine lv_ddiv hx hb dX6_bitsOf_66 (half_n (by omega) (by omega) hm) ?_
                rw [half_ok (by omega) (by omega) hm, show k - i - 1 = k - (i + 1) by omega]
                refine lv_dstore (lv' := [(4, .double (nx (k - (i + 1)) fr)), (8, .int (nI i)), (6, .long (Int64.ofNat (1023 + i))), (2, .long ((-9223372036854775808))), (0, .double (FP.dneg (nx k fr)))]) hx hb dX6_bitsOf_67 hl (by decide) rfl (fun ls hl => ?_)
                refine lv_lload hx hb dX6_bitsOf_69 (lv_at hl 2 rfl) ?_
                refine lv_lconst (v := 1) hx hb dX6_bitsOf_71 (by decide) ?_
                refine lv_ladd hx hb dX6_bitsOf_72 ?_
                rw [j_add, show 1023 + i + 1 = 1023 + (i + 1) by omega]
                refine lv_lstore (lv' := [(6, .long (Int64.ofNat (1023 + (i + 1)))), (4, .double (nx (k - (i + 1)) fr)), (8, .int (nI i)), (2, .long ((-9223372036854775808))), (0, .double (FP.dneg (nx k fr)))]) hx hb dX6_bitsOf_73 hl (by decide) rfl (fun ls hl => ?_)
                refine lv_iinc (v := nI (i + 1)) (lv' := [(8, .int (nI (i + 1))), (6, .long (Int64.ofNat (1023 + (i + 1)))), (4, .double (nx (k - (i + 1)) fr)), (2, .long ((-9223372036854775808))), (0, .double (FP.dneg (nx k fr)))]) hx hb dX6_bitsOf_75 hl (k := 2) rfl (nI_add i 1) (by decide) rfl (fun ls hl => ?_)
                refine lv_goto (tgt := 44) hx hb dX6_bitsOf_78 (by decide) ?_
                exact ih ls H locs (lv_sub hl [0, 1, 2, 3, 4] rfl) hM (by have := mt (two_c (k := k - i) (m := fr) (by omega) (by omega) hm).mpr (by omega); omega)
        exact LOOP44 0 (Nat.zero_le _) ls H locs (lv_sub hl [0, 1, 2, 3, 4] rfl) hM (Or.inl rfl)
  · exact absurd c_3 (by have := dneg_dc0 hk1 hk2 hm; omega)
end
section
/-! CONTRACTS under larger rooms and weaker ends; a list's add in one form; the bits of a double in one form -/
theorem zMet.mono {l : Launch} {y : MethodName} {b : ByteArray} {n : Nat} {r : Option FieldType} {rm rm' : Room} {base : Nat} {K : zK} {L : List Nat} {f : Nat → va_E} {av : List Value} {Qc Qc' : Array Value → State → Outcome → State → Prop} (h : zMet l y b n r rm base K L f av Qc)
    (h1 : rm.frames ≤ rm'.frames) (h2 : rm.locals ≤ rm'.locals) (h3 : rm.cells ≤ rm'.cells) (h4 : rm.slots ≤ rm'.slots) (hq : ∀ a s o t, Qc a s o t → Qc' a s o t) : zMet l y b n r rm' base K L f av Qc' :=
  (MetFree.respec (S' := headSpec (wz y b n r) rm') h (fun _ _ h => h) h1 h2 h3 h4).imp (fun a s o t ⟨h, L, hf, hg⟩ => ⟨hq _ _ _ _ h, L, ⟨hf.1, hf.2.1, hf.2.2.mono h3 h4⟩, hg⟩)
def BOK (v : UInt64) : Prop := v = 0 ∨ ∃ k m, 1 ≤ k ∧ k ≤ 2046 ∧ m < 2 ^ 52 ∧ (v = nx k m ∨ v = FP.dneg (nx k m))
theorem c_bitsOf {l : Launch} {base : Nat} {K : zK} {L : List Nat} {f : Nat → va_E} {v : UInt64} (h : BOK v) : zMet l yX6_bitsOf cX6_bitsOf 10 (some .long) (zr 0 0 0 0) base K L f [.double v] (zFl base K v.toInt64 L f) := by
  rcases h with rfl | ⟨k, m, h1, h2, h3, rfl | rfl⟩
  · exact c_bits_0
  · exact c_bits_p h1 h2 h3
  · exact c_bits_n h1 h2 h3
/-- a list grows by one -/
def addP (K : zK) (a ee n q : Nat) (L : List Nat) (f : Nat → va_E) (L1 : List Nat) (f1 : Nat → va_E) : Prop :=
  ∃ e1, (∀ es es' : Nat → Nat, LI K L f a ee n es → (∀ k, k < n → es' k = es k) → es' n = q → LI K L1 f1 a e1 (n + 1) es') ∧ ((e1 = ee ∧ L1 = L) ∨ (e1 ∉ L ∧ L1 = L ++ [e1])) ∧ e1 ∈ L1 ∧ ∀ x, x ≠ a → x ≠ e1 → f1 x = f x
theorem cpy0 {α : Type} (g h : Nat → α) (n k : Nat) : va_cpy g h 0 0 n k = if k < n then g k else h k := by
  unfold va_cpy
  by_cases e : k < n
  · rw [if_pos e, if_pos ⟨Nat.zero_le _, by omega⟩]; congr 1; omega
  · rw [if_neg e, if_neg (fun z => e (by omega))]
theorem add_LI {K : zK} {L1 : List Nat} {f f1 : Nat → va_E} {a e1 n cap : Nat} {mc : Int32} {arr : Nat → Option Nat} (ha : a ∈ L1) (he : e1 ∈ L1) (hae : a ≠ e1) (hf1 : f1 = va_up (va_up f e1 (eO K cap arr)) a (eS 0 [.int mc, .ref e1, .int (nI (n + 1))])) (h1 : 10 ≤ cap) (h2 : cap ≤ 60) (h3 : n + 1 ≤ cap) {es' : Nat → Nat} (h4 : ∀ k, k < n + 1 → arr k = some (es' k)) (h5 : ∀ k, n + 1 ≤ k → arr k = none) : LI K L1 f1 a e1 (n + 1) es' :=
  ⟨ha, ⟨mc, by rw [hf1]; exact va_up_self _ _ _⟩, Or.inr ⟨he, cap, arr, by rw [hf1, va_up_ne _ _ (Ne.symm hae)]; exact va_up_self _ _ _, h1, h2, h3, h4, h5⟩⟩
theorem add_fr {K : zK} {f f1 : Nat → va_E} {a e1 : Nat} {v w : va_E} (hf1 : f1 = va_up (va_up f e1 v) a w) : ∀ x, x ≠ a → x ≠ e1 → f1 x = f x := fun x h1 h2 => by rw [hf1, va_up_ne _ _ h1, va_up_ne _ _ h2]
theorem c_addI {l : Launch} {base : Nat} {K : zK} {L : List Nat} {f : Nat → va_E} {a ee n q : Nat} {es : Nat → Nat} (hLI : LI K L f a ee n es) (hz : K.2.2.1 ∉ L) (hae : a ≠ ee) (hn : n ≤ 30) (hq : zAny L f q) (hel : ∀ i, i < n → zAny L f (es i)) :
    zMet l yJx4a65c_add_9ea2d cJx4a65c_add_9ea2d 2 (some .boolean) (zr 7 1 60 175) base K L f [.ref a, .ref q] (zQi base K (fun r L1 f1 => r = nI 1 ∧ addP K a ee n q L f L1 f1)) := by
  obtain ⟨ha, ⟨mc, hfa⟩, hor⟩ := hLI
  rcases hor with ⟨hn0, he0⟩ | ⟨hle, cap, arr, hfe, hc1, hc2, hnc, harr, hno⟩
  · subst hn0 he0
    refine (c_add_0 ha hfa hz hq).mono (by decide) (by decide) (by decide) (by decide) (fun av s o t hQ => ?_)
    obtain ⟨⟨r, u, ho, ⟨hr, x, hx, hL, hf⟩, hB⟩, hF⟩ := hQ
    refine ⟨⟨r, u, ho, ⟨hr, x, ?_, Or.inr ⟨hx, hL⟩, by rw [hL]; exact List.mem_append_right _ List.mem_cons_self, add_fr (K := K) hf⟩, hB⟩, hF⟩
    intro es1 es' hli hes hq'
    have hax : a ≠ x := fun h => hx (h ▸ ha)
    refine add_LI (by rw [hL]; exact List.mem_append_left _ ha) (by rw [hL]; exact List.mem_append_right _ List.mem_cons_self) hax hf (by decide) (by decide) (by decide) ?_ ?_
    · intro k hk
      have : k = 0 := by omega
      subst this
      rw [va_up_self, hq']
    · intro k hk
      rw [va_up_ne _ _ (by omega)]
  · by_cases hfull : n < cap
    · refine (c_add_r ha hfa hle hfe hae hq hfull hc2).mono (by decide) (by decide) (by decide) (by decide) (fun av s o t hQ => ?_)
      obtain ⟨⟨r, u, ho, ⟨hr, hL, hf⟩, hB⟩, hF⟩ := hQ
      refine ⟨⟨r, u, ho, ⟨hr, ee, ?_, Or.inl ⟨rfl, hL⟩, by rw [hL]; exact hle, add_fr (K := K) hf⟩, hB⟩, hF⟩
      intro es1 es' hli hes hq'
      obtain ⟨-, -, hor1⟩ := hli
      have harr1 : ∀ k, k < n → arr k = some (es1 k) := by
        rcases hor1 with ⟨h0, -⟩ | ⟨-, cap1, arr1, hfe1, -, -, -, harr1, -⟩
        · intro k hk; omega
        · rw [hfe] at hfe1
          have e9 : arr = arr1 := by
            have := congrArg (fun z : va_E => match z with | .inl (_, _, .inr (.inr (.inr (.inr g)))) => g | _ => fun _ => none) hfe1
            exact this
          intro k hk
          rw [e9]; exact harr1 k hk
      refine add_LI (by rw [hL]; exact ha) (by rw [hL]; exact hle) hae hf hc1 hc2 (by omega) ?_ ?_
      · intro k hk
        by_cases e : k = n
        · subst e; rw [va_up_self, hq']
        · rw [va_up_ne _ _ e, harr1 k (by omega), hes k (by omega)]
      · intro k hk
        rw [va_up_ne _ _ (by omega)]
        exact hno k (by omega)
    · have hnc' : n = cap := by omega
      refine (c_add_1 ha hfa hle hfe hae hq hnc' hc1 (by omega) ?_).mono (by decide) (by decide) (by decide) (by decide) (fun av s o t hQ => ?_)
      · intro i hi y hy
        have h1 := harr i (by omega)
        rw [h1] at hy
        cases hy
        exact hel i (by omega)
      · obtain ⟨⟨r, u, ho, ⟨hr, x, hx, hL, hf⟩, hB⟩, hF⟩ := hQ
        refine ⟨⟨r, u, ho, ⟨hr, x, ?_, Or.inr ⟨hx, hL⟩, by rw [hL]; exact List.mem_append_right _ List.mem_cons_self, add_fr (K := K) hf⟩, hB⟩, hF⟩
        intro es1 es' hli hes hq'
        have hax : a ≠ x := fun h => hx (h ▸ ha)
        obtain ⟨-, -, hor1⟩ := hli
        have harr1 : ∀ k, k < n → arr k = some (es1 k) := by
          rcases hor1 with ⟨h0, -⟩ | ⟨-, cap1, arr1, hfe1, -, -, -, harr1, -⟩
          · intro k hk; omega
          · rw [hfe] at hfe1
            have e9 : arr = arr1 := by
              have := congrArg (fun z : va_E => match z with | .inl (_, _, .inr (.inr (.inr (.inr g)))) => g | _ => fun _ => none) hfe1
              exact this
            intro k hk
            rw [e9]; exact harr1 k hk
        refine add_LI (by rw [hL]; exact List.mem_append_left _ ha) (by rw [hL]; exact List.mem_append_right _ List.mem_cons_self) hax hf (by omega) (by omega) (by omega) ?_ ?_
        · intro k hk
          by_cases e : k = n
          · subst e; rw [va_up_self, hq']
          · rw [va_up_ne _ _ e, cpy0, if_pos (by omega), harr1 k (by omega), hes k (by omega)]
        · intro k hk
          rw [va_up_ne _ _ (by omega), cpy0, if_neg (by omega)]
end
