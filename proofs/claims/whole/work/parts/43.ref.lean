/-! THE REFERENCE'S PICTURE: place 0 the object, place k the array of its k-th field -/
abbrev mk (k : Nat) : Prop := k = 0 ∨ (2 ≤ k ∧ k ≤ 16) ∨ (20 ≤ k ∧ k ≤ 23) ∨ k = 25 ∨ k = 26
/-- what it may hold between two calls: sums, counts, best score, best fold -/
abbrev mX : Type := (Nat → UInt64) × (Nat → Nat) × UInt64 × Int32
/-- a cited paper, as the reference writes it: 0 none, j + 1 paper j -/
def oP (c1 : Nat) : Int32 := if c1 = 0 then -1 else nI (c1 - 1)
def mO (A : zA) (ma : Nat → Nat) (t : Int32) (x : mX) : va_E := eS 8 [.int t, .int (nI (ns A)), .ref (ma 2), .ref (ma 3), .ref (ma 4), .ref (ma 5), .ref (ma 6), .ref (ma 7), .ref (ma 8), .ref (ma 9), .ref (ma 10), .ref (ma 11), .ref (ma 12), .ref (ma 13), .ref (ma 14), .ref (ma 15), .ref (ma 16), .double x.2.2.1, .int x.2.2.2, .int (nI (nw A)), .ref (ma 20), .ref (ma 21), .ref (ma 22), .ref (ma 23), .int (nI (np A)), .ref (ma 25), .ref (ma 26)]
def mC (K : zK) (A : zA) (ma : Nat → Nat) (t : Int32) (x : mX) (op : Nat → Int32) (k : Nat) : va_E := match k with
  | 0 => mO A ma t x
  | 2 => eI K 6 (fun j => nI (A.1 2 j))
  | 3 => eI K 6 (fun j => nI (A.1 3 j))
  | 4 => eI K 24 (fun j => nI (A.1 4 j))
  | 5 => eI K 24 (fun j => nI (A.1 5 j))
  | 6 => eI K 24 (fun j => nI (A.1 6 j))
  | 7 => eI K 24 (fun j => nI (A.1 7 j))
  | 8 => eI K 6 (fun j => nI (A.1 8 j))
  | 9 => eI K 6 (fun j => nI (A.1 9 j))
  | 10 => eI K 6 (fun j => nI (A.1 10 j))
  | 11 => eZ K 1000 (fun j => nI (A.1 11 j))
  | 12 => eZ K 6000 (fun j => nI (A.1 12 j))
  | 13 => eD K 6000 A.2
  | 14 => eI K 6 (fun j => nI (A.1 14 j))
  | 15 => eD K 120 x.1
  | 16 => eI K 120 (fun j => nI (x.2.1 j))
  | 20 => eI K 12 (fun j => nI (A.1 20 j))
  | 21 => eI K 12 (fun j => nI (A.1 21 j))
  | 22 => eI K 12 (fun j => nI (A.1 22 j))
  | 23 => eZ K 12 (fun j => nI (A.1 23 j))
  | 25 => eI K 30 (fun j => nI (A.1 25 j))
  | _ => eI K 30 op
def MI (K : zK) (L : List Nat) (f : Nat → va_E) (A : zA) (ma : Nat → Nat) (t : Int32) : Prop :=
  (∀ k, mk k → ma k ∈ L) ∧ (∀ k k', mk k → mk k' → ma k = ma k' → k = k') ∧ ∃ (x : mX) (op : Nat → Int32), (∀ j, j < np A → op j = oP (A.1 26 j)) ∧ ∀ k, mk k → f (ma k) = mC K A ma t x op k
/-- from one picture to the next -/
def MR (K : zK) (A : zA) (ma : Nat → Nat) (L : List Nat) (f : Nat → va_E) (A' : zA) (t' : Int32) (L1 : List Nat) (f1 : Nat → va_E) : Prop := L1 = L ∧ MI K L f1 A' ma t' ∧ ∀ q, (∀ k, mk k → q ≠ ma k) → f1 q = f q
theorem mne {ma : Nat → Nat} (h : ∀ k k', mk k → mk k' → ma k = ma k' → k = k') {a b : Nat} (ha : mk a) (hb : mk b) (hn : a ≠ b) : ma a ≠ ma b := fun z => hn (h a b ha hb z)
theorem mk_all {P : Nat → Prop} (p0 : P 0) (p2 : P 2) (p3 : P 3) (p4 : P 4) (p5 : P 5) (p6 : P 6) (p7 : P 7) (p8 : P 8) (p9 : P 9) (p10 : P 10) (p11 : P 11) (p12 : P 12) (p13 : P 13) (p14 : P 14) (p15 : P 15) (p16 : P 16) (p20 : P 20) (p21 : P 21) (p22 : P 22) (p23 : P 23) (p25 : P 25) (p26 : P 26) : ∀ k, mk k → P k := by
  intro k hk
  have h : k = 0 ∨ k = 2 ∨ k = 3 ∨ k = 4 ∨ k = 5 ∨ k = 6 ∨ k = 7 ∨ k = 8 ∨ k = 9 ∨ k = 10 ∨ k = 11 ∨ k = 12 ∨ k = 13 ∨ k = 14 ∨ k = 15 ∨ k = 16 ∨ k = 20 ∨ k = 21 ∨ k = 22 ∨ k = 23 ∨ k = 25 ∨ k = 26 := by omega
  rcases h with h | h | h | h | h | h | h | h | h | h | h | h | h | h | h | h | h | h | h | h | h | h <;> subst h <;> assumption
section MM
variable {K : zK} {A A' A2 : zA} {ma : Nat → Nat} {L L1 : List Nat} {f f1 : Nat → va_E} {t t' : Int32} {x x' : mX} {op op' : Nat → Int32}
theorem mr_ok (hmm : ∀ k, mk k → ma k ∈ L) (hmi : ∀ k k', mk k → mk k' → ma k = ma k' → k = k') (hop : ∀ j, j < np A' → op' j = oP (A'.1 26 j)) (hall : ∀ k, mk k → f1 (ma k) = mC K A' ma t' x' op' k) (hfr : ∀ q, (∀ k, mk k → q ≠ ma k) → f1 q = f q) : MR K A ma L f A' t' L f1 :=
  ⟨rfl, ⟨hmm, hmi, x', op', hop, hall⟩, hfr⟩
/-- the object's cell alone was written -/
theorem mr_t (hmm : ∀ k, mk k → ma k ∈ L) (hmi : ∀ k k', mk k → mk k' → ma k = ma k' → k = k') (hop : ∀ j, j < np A → op j = oP (A.1 26 j)) (hmc : ∀ k, mk k → f (ma k) = mC K A ma t x op k) (hf : f1 (ma 0) = mO A ma t' x) (hfr : ∀ q, q ≠ ma 0 → f1 q = f q) : MR K A ma L f A t' L f1 := by
  have hr : ∀ k, mk k → k ≠ 0 → f1 (ma k) = f (ma k) := fun k hk h0 => hfr _ (mne hmi hk (by decide) h0)
  refine mr_ok (x' := x) (op' := op) hmm hmi hop (mk_all hf ?_ ?_ ?_ ?_ ?_ ?_ ?_ ?_ ?_ ?_ ?_ ?_ ?_ ?_ ?_ ?_ ?_ ?_ ?_ ?_ ?_) (fun q hq => hfr q (hq 0 (by decide)))
  all_goals exact (hr _ (by decide) (by decide)).trans (hmc _ (by decide))
theorem mr_x {k n : Nat} {r v : Int32} (hk : k = n) (hA : k ≠ 0 → A' = A) (h : MR K A ma L f A (nI n) L1 f1) (hn : n ≠ 0) : (k = 0 → r = v) ∧ MR K A ma L f A' (nI k) L1 f1 := by
  subst hk; rw [hA hn]; exact ⟨fun z => absurd z hn, h⟩
theorem mr_xl {k n : Nat} {r v : Int64} (hk : k = n) (hA : k ≠ 0 → A' = A) (h : MR K A ma L f A (nI n) L1 f1) (hn : n ≠ 0) : (k = 0 → r = v) ∧ MR K A ma L f A' (nI k) L1 f1 := by
  subst hk; rw [hA hn]; exact ⟨fun z => absurd z hn, h⟩
theorem mr_0 {k : Nat} {r v : Int32} (hk : k = 0) (hv : r = v) (hA : A' = A2) (h : MR K A ma L f A2 (nI 0) L1 f1) : (k = 0 → r = v) ∧ MR K A ma L f A' (nI k) L1 f1 := by
  subst hk hA; exact ⟨fun _ => hv, h⟩
theorem mr_0l {k : Nat} {r v : Int64} (hk : k = 0) (hv : r = v) (hA : A' = A2) (h : MR K A ma L f A2 (nI 0) L1 f1) : (k = 0 → r = v) ∧ MR K A ma L f A' (nI k) L1 f1 := by
  subst hk hA; exact ⟨fun _ => hv, h⟩
end MM
theorem up_nI (g : Nat → Nat) (i v : Nat) : va_up (fun j => nI (g j)) i (nI v) = fun j => nI (va_up g i v j) := by
  funext j; unfold va_up; split <;> rfl
section ZD
variable {p : Program} {l : Launch} {e : Env} {R : Room} {s : State} {m : MethodId} {args : Array Value} {below : List Frame} {meth : Method} {c : Code} {H : Heap} {locs : List Loc} {cells slots : Nat} {Q : State → Prop}
variable {cc : ByteArray} {nL pc : Nat} {own : String} {base : Nat} {K : zK} {ls : Array Slot} {rest : List Value}
theorem z_d2l {index : Nat} {b : UInt64} (hC : zC p s args m c cc nL own base K) (hsz : ls.size = nL) (hlk : Cond.methodLink own index ⟨"java/lang/Double", "doubleToRawLongBits", "(D)J"⟩ ∈ WA) (hf : 1 ≤ R.frames) (hlo : (rest.map fun v => v.category).sum + 15 ≤ R.locals) (hdg : decode cc pc = .ok (.invokestatic index, 3))
    (k : W p l e R s m args below meth c H locs cells slots Q (F0 m (pc + 3) ls (.long b.toInt64 :: rest))) : W p l e R s m args below meth c H locs cells slots Q (F0 m pc ls (.double b :: rest)) :=
  vn_d2l hC.1 hC.2.1 (hC.2.2.1.trans hsz.symm) hC.2.2.2.1 (hC.2.2.2.2.1 _ hlk) (hC.2.2.2.2.1 _ znat_doubleToRawLongBits) (hC.2.2.2.2.1 _ (wa_in 843 (by decide +kernel) rfl)) (hC.2.2.2.2.1 _ (wa_in 50 (by decide +kernel) rfl)) hf hlo hdg k
end ZD
theorem dc_self {v : UInt64} (h : vf_n64 v) : dc v v = 0 := ((dc_key ((n64_iff v).mp h) ((n64_iff v).mp h)).2.2).mpr rfl
theorem rem_p {h ph per : Nat} (hh : h < 1000) (hp : ph < per) (hp2 : per ≤ 60) (c : 0 ≤ (nI h - nI ph - (nI h - nI ph) / nI per * nI per).toInt) : nI h - nI ph - (nI h - nI ph) / nI per * nI per = nI ((h + per - ph) % per) := by
  rcases Nat.lt_or_ge h ph with hlt | hge
  · exact absurd c (by rw [(rm_neg hh hp hp2 hlt).1]; omega)
  · exact rm_pos hh hp hp2 hge
theorem rem_n {h ph per : Nat} (hh : h < 1000) (hp : ph < per) (hp2 : per ≤ 60) (c : (nI h - nI ph - (nI h - nI ph) / nI per * nI per).toInt < 0) : nI h - nI ph - (nI h - nI ph) / nI per * nI per + nI per = nI ((h + per - ph) % per) := by
  rcases Nat.lt_or_ge h ph with hlt | hge
  · exact (rm_neg hh hp hp2 hlt).2
  · refine absurd c ?_
    have h9 := Nat.mod_lt (h + per - ph) (show 0 < per by omega)
    rw [rm_pos hh hp hp2 hge, nI_toInt (by omega)]
    omega
/-! what the folds' rows of the reference hold: only the first p places are told -/
theorem gk_1 {A : zA} {i h : Nat} (hh : h < 1000) (h1 : A.1 12 (1000 * i + h) = 1) : gk A i h = A.2 (1000 * i + h) := by
  unfold gk; exact if_pos ⟨hh, h1⟩
theorem gk_z {A : zA} {i h : Nat} (h1 : A.1 12 (1000 * i + h) ≠ 1) : ¬ gk A i h ≠ 0 := by
  unfold gk; rw [if_neg (fun z => h1 z.2)]; exact fun z => z rfl
theorem fSp_up {g : Nat → UInt64} {p h : Nat} {sg : Nat → UInt64} {x : UInt64} (hp : 0 < p) (hk : g h ≠ 0) (hx : g h = x) : va_up (fun j => if j < p then fS g p h j else sg j) (h % p) (FP.dadd ((fun j => if j < p then fS g p h j else sg j) (h % p)) x) = fun j => if j < p then fS g p (h + 1) j else sg j := by
  have hm := Nat.mod_lt h hp
  have e := fS_up (p := p) hk
  subst hx
  funext j
  show va_up (fun j => if j < p then fS g p h j else sg j) (h % p) (FP.dadd (if h % p < p then fS g p h (h % p) else sg (h % p)) (g h)) j = if j < p then fS g p (h + 1) j else sg j
  rw [if_pos hm, ← e]
  unfold va_up
  by_cases e1 : j = h % p
  · rw [if_pos e1, if_pos (by rw [e1]; exact hm), if_pos e1]
  · rw [if_neg e1, if_neg e1]
theorem fSp_no {g : Nat → UInt64} {p h : Nat} {sg : Nat → UInt64} (hk : ¬ g h ≠ 0) : (fun j => if j < p then fS g p h j else sg j) = fun j => if j < p then fS g p (h + 1) j else sg j := by
  rw [fS_no (p := p) hk]
theorem fCp_up {g : Nat → UInt64} {p h : Nat} {cg : Nat → Nat} (hp : 0 < p) (hk : g h ≠ 0) : va_up (fun j => if j < p then fC g p h j else cg j) (h % p) ((fun j => if j < p then fC g p h j else cg j) (h % p) + 1) = fun j => if j < p then fC g p (h + 1) j else cg j := by
  have hm := Nat.mod_lt h hp
  funext j
  show va_up (fun j => if j < p then fC g p h j else cg j) (h % p) ((if h % p < p then fC g p h (h % p) else cg (h % p)) + 1) j = if j < p then (if g h ≠ 0 ∧ h % p = j then fC g p h j + 1 else fC g p h j) else cg j
  rw [if_pos hm]
  unfold va_up
  by_cases e1 : j = h % p
  · subst e1; rw [if_pos rfl, if_pos hm, if_pos ⟨hk, rfl⟩]
  · rw [if_neg e1, if_neg (fun z : g h ≠ 0 ∧ h % p = j => e1 z.2.symm)]
theorem fCp_no {g : Nat → UInt64} {p h : Nat} {cg : Nat → Nat} (hk : ¬ g h ≠ 0) : (fun j => if j < p then fC g p h j else cg j) = fun j => if j < p then fC g p (h + 1) j else cg j := by
  funext j
  show (if j < p then fC g p h j else cg j) = if j < p then (if g h ≠ 0 ∧ h % p = j then fC g p h j + 1 else fC g p h j) else cg j
  rw [if_neg (fun z : g h ≠ 0 ∧ h % p = j => hk z.1)]
/-- the scratch was written, nothing else -/
def RSx (K : zK) (A : zA) (ma : Nat → Nat) (t : Int32) (f f1 : Nat → va_E) (x : mX) : Prop :=
  (∀ q, q ≠ ma 0 → q ≠ ma 15 → q ≠ ma 16 → f1 q = f q) ∧ f1 (ma 0) = mO A ma t x ∧ f1 (ma 15) = eD K 120 x.1 ∧ f1 (ma 16) = eI K 120 (fun j => nI (x.2.1 j))
section MS
variable {K : zK} {A : zA} {ma : Nat → Nat} {L : List Nat} {f f1 f2 : Nat → va_E} {t t' : Int32} {x x2 : mX}
theorem RSx.mi (h : MI K L f A ma t) (hr : RSx K A ma t' f f1 x) : MI K L f1 A ma t' := by
  obtain ⟨hmm, hmi, x0, op, hop, hmc⟩ := h
  obtain ⟨h1, h2, h3, h4⟩ := hr
  have hk : ∀ k, mk k → k ≠ 0 → k ≠ 15 → k ≠ 16 → f1 (ma k) = f (ma k) := fun k hk a b c => h1 _ (mne hmi hk (by decide) a) (mne hmi hk (by decide) b) (mne hmi hk (by decide) c)
  refine ⟨hmm, hmi, x, op, hop, mk_all h2 ?_ ?_ ?_ ?_ ?_ ?_ ?_ ?_ ?_ ?_ ?_ ?_ ?_ h3 h4 ?_ ?_ ?_ ?_ ?_ ?_⟩
  all_goals exact (hk _ (by decide) (by decide) (by decide) (by decide)).trans (hmc _ (by decide))
theorem RSx.trans (h1 : RSx K A ma t f f1 x) (h2 : RSx K A ma t' f1 f2 x2) : RSx K A ma t' f f2 x2 := ⟨fun q a b c => (h2.1 q a b c).trans (h1.1 q a b c), h2.2⟩
theorem RSx.mr (h : MI K L f A ma t) (hr : RSx K A ma t' f f1 x) : MR K A ma L f A t' L f1 := ⟨rfl, RSx.mi h hr, fun q hq => hr.1 q (hq 0 (by decide)) (hq 15 (by decide)) (hq 16 (by decide))⟩
end MS
def grB (bb : UInt64) (mn : UInt64) (sg : Nat → UInt64) (cg : Nat → Nat) (r : Option Nat) : UInt64 := match r with
  | none => bb
  | some b => sf mn sg cg b
abbrev fellC (A : zA) (c1 : Nat) : Prop := c1 ≠ 0 ∧ fell A (c1 - 1) = true
theorem oP_s (j : Nat) : oP (j + 1) = nI j := if_neg (Nat.succ_ne_zero j)
theorem fellC_s {A : zA} (hV : VA A) {j : Nat} (hj : j < np A) : fellC A (j + 1) ↔ A.1 23 (A.1 25 j) = 1 ∨ fellC A (A.1 26 j) := by
  have h := fell_rec (fun j hj => (hV.2.2.2.2.2.2.2.2.2.2.2.2 j hj).2) hj
  unfold fellC
  rw [show j + 1 - 1 = j from rfl, h]
  simp only [Bool.or_eq_true, Bool.and_eq_true, decide_eq_true_eq]
  exact ⟨fun z => z.2, fun z => ⟨Nat.succ_ne_zero j, z⟩⟩
theorem pdS_1 {g : Nat → UInt64} {k : Nat} (h : 0 < dc (scB g (k + 3)) (pdS g k).2) : pdS g (k + 1) = (k + 3, scB g (k + 3)) := by rw [pdS, if_pos h]
theorem pdS_0 {g : Nat → UInt64} {k : Nat} (h : dc (scB g (k + 3)) (pdS g k).2 ≤ 0) : pdS g (k + 1) = pdS g k := by rw [pdS, if_neg (by omega)]
/-- of the picture, what light needs -/
def MIL (K : zK) (L : List Nat) (f : Nat → va_E) (A : zA) (ma : Nat → Nat) (t : Int32) : Prop := (∀ k, mk k → ma k ∈ L) ∧ ∃ (x : mX) (op : Nat → Int32), ∀ k, mk k → k ≤ 10 → f (ma k) = mC K A ma t x op k
section MT
variable {K : zK} {A A' A1 A2 : zA} {ma : Nat → Nat} {L L1 : List Nat} {f f1 f2 : Nat → va_E} {t t' t1 t2 : Int32} {x x' : mX} {op op' : Nat → Int32}
theorem MI.light (h : MI K L f A ma t) : MIL K L f A ma t := by
  obtain ⟨h1, -, x, op, -, h2⟩ := h
  exact ⟨h1, x, op, fun k hk _ => h2 k hk⟩
theorem MR.trans (h1 : MR K A ma L f A1 t1 L f1) (h2 : MR K A1 ma L f1 A2 t2 L1 f2) : MR K A ma L f A2 t2 L1 f2 := ⟨h2.1, h2.2.1, fun q hq => (h2.2.2 q hq).trans (h1.2.2 q hq)⟩
theorem RSx.thr (hmi : ∀ k k', mk k → mk k' → ma k = ma k' → k = k') (hr : RSx K A ma t f f1 x) (hf : f2 (ma 0) = mO A ma t' x) (hfr : ∀ q, q ≠ ma 0 → f2 q = f1 q) : RSx K A ma t' f f2 x :=
  ⟨fun q a b c => (hfr q a).trans (hr.1 q a b c), hf, (hfr _ (mne hmi (by decide) (by decide) (by decide))).trans hr.2.2.1, (hfr _ (mne hmi (by decide) (by decide) (by decide))).trans hr.2.2.2⟩
/-- a cell that does not change when the numbers do -/
theorem mC_cg {k : Nat} (hk : mk k) (h0 : k ≠ 0) (h1 : A'.1 k = A.1 k) (h2 : A'.2 = A.2) : mC K A' ma t' x op k = mC K A ma t x op k := by
  have h : k = 2 ∨ k = 3 ∨ k = 4 ∨ k = 5 ∨ k = 6 ∨ k = 7 ∨ k = 8 ∨ k = 9 ∨ k = 10 ∨ k = 11 ∨ k = 12 ∨ k = 13 ∨ k = 14 ∨ k = 15 ∨ k = 16 ∨ k = 20 ∨ k = 21 ∨ k = 22 ∨ k = 23 ∨ k = 25 ∨ k = 26 := by omega
  rcases h with h | h | h | h | h | h | h | h | h | h | h | h | h | h | h | h | h | h | h | h | h <;> subst h <;> first | rfl | exact congrArg (fun z : Nat → Nat => eI K _ (fun j => nI (z j))) h1 | exact congrArg (fun z : Nat → Nat => eZ K _ (fun j => nI (z j))) h1 | exact congrArg (fun z : Nat → UInt64 => eD K _ z) h2
end MT
theorem BOK.n64 {v : UInt64} (h : BOK v) : vf_n64 v := by
  rcases h with rfl | ⟨k, m, h1, h2, h3, rfl | rfl⟩
  · exact (n64_iff _).mpr zero_nan
  · exact (n64_iff _).mpr (nx_nan h1 h2 h3)
  · exact (n64_iff _).mpr (dneg_nan h1 h2 h3)
theorem pdS_le (g : Nat → UInt64) : ∀ k, (pdS g k).1 ≤ k + 2
  | 0 => Nat.le_refl 2
  | k + 1 => by
    have := pdS_le g k
    by_cases h : 0 < dc (scB g (k + 3)) (pdS g k).2
    · rw [pdS_1 h]; exact Nat.le_refl _
    · rw [pdS_0 (by omega)]; omega
theorem pdT_le (g : Nat → UInt64) (t : Int32) : pdT g t ≤ 60 := by
  have := pdS_le g 58
  unfold pdT
  split
  · omega
  · split <;> omega
