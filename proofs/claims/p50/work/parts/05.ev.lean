/-- the text constants: whose, where, what -/
abbrev jstr : List (String × Nat × String) := [("ClassificationYard", 359, "there is no such track"), ("ClassificationYard", 361, "an argument is out of range"), ("ClassificationYard", 363, "the yard does not allow this now"), ("ClassificationYard", 365, "there is no such car, route or move"), ("ClassificationYard", 367, "the cars do not fit or may not go"), ("ClassificationYard", 140, "there is no car at this position"), ("ClassificationYard", 164, "there is no track at this rank"), ("ClassificationYard", 374, "there is no route"), ("ClassificationYard", 179, "the route has no such position"), ("ClassificationYard", 190, "there is no car that can be shunted"), ("ClassificationYard", 372, "no car in the yard has this number"), ("ClassificationYard", 219, "the destination is out of range"), ("ClassificationYard", 228, "there is no car at this rank"), ("ClassificationYard", 245, "there were no moves"), ("ClassificationYard", 252, "there are no tracks"), ("ClassificationYard", 269, "the text buffer is full"), ("ClassificationYard$Program", 66, "track N D"), ("ClassificationYard$Program", 68, "switch D-D"), ("ClassificationYard$Program", 70, "cut D-D"), ("ClassificationYard$Program", 72, "car D N N D!"), ("ClassificationYard$Program", 74, "shunt D>D D"), ("ClassificationYard$Program", 76, "repair N"), ("ClassificationYard$Program", 78, "train D D"), ("ClassificationYard", 282, "the text is not a program"), ("ClassificationYard", 295, "a command failed"), ("ClassificationYard", 301, "no error position was stored"), ("ClassificationYard", 303, "no failed command was stored"), ("java/lang/StringIndexOutOfBoundsException", 13, "String index out of range: "), ("java/util/Arrays", 337, " > "), ("java/util/Arrays", 48, "fromIndex("), ("java/util/Arrays", 57, ") > toIndex("), ("java/util/Arrays", 59, ")"), ("java/lang/ArrayIndexOutOfBoundsException", 13, "Array index out of range: "), ("ClassificationYard", 331, "the line has no such character"), ("ClassificationYard", 341, "no call can be undone"), ("ClassificationYard", 354, "no state was saved"), ("ClassificationYard$Program", 66, "track N D"), ("ClassificationYard$Program", 68, "switch D-D"), ("ClassificationYard$Program", 70, "cut D-D"), ("ClassificationYard$Program", 72, "car D N N D!"), ("ClassificationYard$Program", 74, "shunt D>D D"), ("ClassificationYard$Program", 76, "repair N"), ("ClassificationYard$Program", 78, "train D D"), ("ClassificationYardLaw", 146, "track 30 1;track 99 5;switch "), ("ClassificationYardLaw", 154, "-"), ("ClassificationYardLaw", 170, "track 30 1;switch 0-0"), ("ClassificationYardLaw", 178, "repair 99"), ("ClassificationYardLaw", 180, "tra"), ("ClassificationYardLaw", 186, "s"), ("ClassificationYardLaw", 188, "c"), ("ClassificationYardLaw", 190, "car 0 15 60"), ("ClassificationYardLaw", 192, "track 100 1"), ("ClassificationYardLaw", 194, "shunt 0>1"), ("ClassificationYardLaw", 196, ""), ("ClassificationYardLaw", 198, "cut 0-1;"), ("ClassificationYardLaw", 200, "car 0 15 60 7!!"), ("ClassificationYardLaw", 202, "train 0 12"), ("ClassificationYardLaw", 204, "z"), ("ClassificationYardLaw", 216, "track 60 1;track 40 "), ("ClassificationYardLaw", 218, ";track 50 5;switch 0-1;switch 2-1"), ("ClassificationYardLaw", 265, "2/5[50/50] 2:2 4:9")]
abbrev jshl : List Nat := [9, 10, 7, 12, 11, 8, 9, 29, 1, 21, 9, 3, 1, 1, 11, 11, 9, 0, 8, 15, 10, 1, 20, 33, 18]
abbrev jshb : List (List Int32) := [[116, 114, 97, 99, 107, 32, 78, 32, 68], [115, 119, 105, 116, 99, 104, 32, 68, 45, 68], [99, 117, 116, 32, 68, 45, 68], [99, 97, 114, 32, 68, 32, 78, 32, 78, 32, 68, 33], [115, 104, 117, 110, 116, 32, 68, 62, 68, 32, 68], [114, 101, 112, 97, 105, 114, 32, 78], [116, 114, 97, 105, 110, 32, 68, 32, 68], [116, 114, 97, 99, 107, 32, 51, 48, 32, 49, 59, 116, 114, 97, 99, 107, 32, 57, 57, 32, 53, 59, 115, 119, 105, 116, 99, 104, 32], [45], [116, 114, 97, 99, 107, 32, 51, 48, 32, 49, 59, 115, 119, 105, 116, 99, 104, 32, 48, 45, 48], [114, 101, 112, 97, 105, 114, 32, 57, 57], [116, 114, 97], [115], [99], [99, 97, 114, 32, 48, 32, 49, 53, 32, 54, 48], [116, 114, 97, 99, 107, 32, 49, 48, 48, 32, 49], [115, 104, 117, 110, 116, 32, 48, 62, 49], [], [99, 117, 116, 32, 48, 45, 49, 59], [99, 97, 114, 32, 48, 32, 49, 53, 32, 54, 48, 32, 55, 33, 33], [116, 114, 97, 105, 110, 32, 48, 32, 49, 50], [122], [116, 114, 97, 99, 107, 32, 54, 48, 32, 49, 59, 116, 114, 97, 99, 107, 32, 52, 48, 32], [59, 116, 114, 97, 99, 107, 32, 53, 48, 32, 53, 59, 115, 119, 105, 116, 99, 104, 32, 48, 45, 49, 59, 115, 119, 105, 116, 99, 104, 32, 50, 45, 49], [50, 47, 53, 91, 53, 48, 47, 53, 48, 93, 32, 50, 58, 50, 32, 52, 58, 57]]
abbrev jsh0 : Nat := BIG + 36
abbrev jnS : Nat := 25
theorem ltS {i : Nat} (h : i < 7) : i < jnS := Nat.lt_of_lt_of_le h (by decide)
abbrev NW : List Cond := [.methodLinkNest "ClassificationYard" 9 ⟨"ClassificationYard$Yard", "<init>", "()V"⟩ "ClassificationYard", .methodLinkNest "ClassificationYard$Yard" 25 ⟨"ClassificationYard$Network", "<init>", "()V"⟩ "ClassificationYard", .methodLinkNest "ClassificationYard$History" 17 ⟨"ClassificationYard$Yard", "<init>", "()V"⟩ "ClassificationYard", .methodLinkNest "ClassificationYard" 28 ⟨"ClassificationYard$Program", "<init>", "()V"⟩ "ClassificationYard", .methodLinkNest "ClassificationYard$Yard" 71 ⟨"ClassificationYard", "isWithin", "(III)Z"⟩ "ClassificationYard"]
/-- words of the tables that say what a class declares and what may be cast -/
def FA : List Cond := tables_1.filter Cond.faceAtom
theorem fa_move {s U : State} (hW : s.WarmedH U.vm) {w : Cond} (hw : w ∈ FA) (h : w.before #[] s = true) : w.before #[] U = true := by
  have hf : w.faceAtom = true := (List.mem_filter.mp hw).2
  have ho : w.onTables = true := by cases w <;> first | rfl | (simp [Cond.faceAtom] at hf)
  exact va_tabs (u := s.setVm U.vm) ho rfl (Cond.faceAtom_setVm hW.alike w hf h)
/-- classes none of which may be cast to another -/
abbrev jexc : List String := ["java/lang/IllegalArgumentException", "java/lang/IllegalStateException", "java/lang/IndexOutOfBoundsException", "java/util/NoSuchElementException", "java/lang/UnsupportedOperationException"]
/-- what the start's heap holds for good: texts, statics of the JDK's -/
def KS (X : JX) (U : State) (H : Heap) : Prop :=
  (∀ (i : Nat) (q : String × Nat × String), jstr[i]? = some q → vk_R q.1 q.2.1 q.2.2 (jA X (BIG + i)) U) ∧
  vk_S jnS jshl jshb (fun i => jA X (jsh0 + i)) (fun i => jA X (BIG + 100 + i)) (jF X) U H ∧
  vx_Zq Bundle.tN "UNASSIGNED_STACK" Bundle.steD (jF X) U H ∧ vx_Zq Bundle.tN "SUPPRESSED_SENTINEL" Bundle.listD (jF X) U H ∧
  va_Z "java/lang/String" "COMPACT_STRINGS" "Z" (.int 1) (jF X) U H ∧
  (va_Z "jdk/internal/util/Preconditions" "SIOOBE_FORMATTER" "Ljava/util/function/BiFunction;" .null (jF X) U H ∨ va_Z "jdk/internal/util/Preconditions" "SIOOBE_FORMATTER" "Ljava/util/function/BiFunction;" (.ref (jA X (BIG + 202))) (jF X) U H) ∧
  va_Z "java/lang/Integer" "DigitOnes" "[B" (.ref (jA X (BIG + 200))) (jF X) U H ∧ va_T .byte (jA X (BIG + 200)) 100 (fun j => .int (nI (48 + j % 10))) (jF X) U H ∧
  va_Z "java/lang/Integer" "DigitTens" "[B" (.ref (jA X (BIG + 201))) (jF X) U H ∧ va_T .byte (jA X (BIG + 201)) 100 (fun j => .int (nI (48 + j / 10))) (jF X) U H ∧
  (∀ w ∈ FA, w.before #[] U = true) ∧ (∀ E ∈ jexc, ∀ n ∈ jexc, E ≠ n → va_Nc E n U) ∧ va_T .int (jA X (BIG + 300)) (jSn X) (fun j => .int (jSf X j)) (jF X) U H
theorem KS.go {X : JX} {s U : State} {H H1 : Heap} (hW : s.WarmedH U.vm) (hq : ∀ a : Nat, a < H.size → ¬ jF X a → H1[a]? = H[a]?) (h : KS X s H) : KS X U H1 := by
  obtain ⟨h1, h2, h3, h4, h5, h6, h7, h8, h9, h10, h11, h12, h13⟩ := h
  exact ⟨fun i q e => vk_R.warm hW (h1 i q e), vk_S.moved hW.alike (h2.kept hq), vx_Zq.moved hW.alike (h3.kept hq), vx_Zq.moved hW.alike (h4.kept hq), va_Z.moved hW.alike (h5.kept hq), h6.imp (fun g => va_Z.moved hW.alike (g.kept hq)) (fun g => va_Z.moved hW.alike (g.kept hq)),
    va_Z.moved hW.alike (h7.kept hq), va_T.moved hW.alike (h8.kept hq), va_Z.moved hW.alike (h9.kept hq), va_T.moved hW.alike (h10.kept hq), fun w hw => fa_move hW hw (h11 w hw), fun E h1 n h2 h3 => (h12 E h1 n h2 h3).moved hW.alike, va_T.moved hW.alike (h13.kept hq)⟩
/-- what a method may take as known at its start -/
def KK (X : JX) (U : State) : Prop :=
  (∀ w ∈ BW, w.before #[] U = true) ∧ va_K (jD X) jcl (jty X) U ∧ (∀ w ∈ NW, va_Nw w U) ∧ va_AO "ClassificationYard$Yard" U ∧ jN X ≤ U.heap.size ∧ KS X U U.heap
theorem bw_good {w : Cond} (h : w ∈ BW) : (w.onTables && w.keeps) = true ∨ ∃ ty, w = .arrayClass ty := good_of_word (List.mem_filter.mp h).2
theorem KK.go {X : JX} {s U : State} (hW : s.WarmedH U.vm) (hz : s.heap.size ≤ U.heap.size) (hq : ∀ a : Nat, a < s.heap.size → ¬ jF X a → U.heap[a]? = s.heap[a]?) (h : KK X s) : KK X U := by
  obtain ⟨h1, h2, h3, h4, h5, h6⟩ := h
  refine ⟨fun w hw => word_at hW (bw_good hw) (h1 w hw), va_K.moved hW.alike h2, fun w hw => ?_, va_AO.moved hW.alike h4, Nat.le_trans h5 hz, h6.go hW hq⟩
  have h := h3 w hw
  have : ∃ (a : String) (i : Nat) (x : MethodName) (n : String), w = .methodLinkNest a i x n := by
    simp only [NW, List.mem_cons, List.not_mem_nil, or_false] at hw
    rcases hw with rfl | rfl | rfl | rfl | rfl <;> exact ⟨_, _, _, _, rfl⟩
  obtain ⟨a, i, x, n, rfl⟩ := this
  exact va_Nw.warmM hW h
theorem KK.ks {X : JX} {U : State} (h : KK X U) : KS X U U.heap := h.2.2.2.2.2
theorem KS.un {X : JX} {U : State} {H : Heap} (h : KS X U H) : vx_Zq Bundle.tN "UNASSIGNED_STACK" Bundle.steD (jF X) U H ∧ vx_Zq Bundle.tN "SUPPRESSED_SENTINEL" Bundle.listD (jF X) U H := ⟨h.2.2.1, h.2.2.2.1⟩
theorem KS.fa {X : JX} {U : State} {H : Heap} (h : KS X U H) : ∀ w ∈ FA, w.before #[] U = true := h.2.2.2.2.2.2.2.2.2.2.1
theorem KS.nc {X : JX} {U : State} {H : Heap} (h : KS X U H) : ∀ E ∈ jexc, ∀ n ∈ jexc, E ≠ n → va_Nc E n U := h.2.2.2.2.2.2.2.2.2.2.2.1
theorem KS.scr {X : JX} {U : State} {H : Heap} (h : KS X U H) : va_T .int (jA X (BIG + 300)) (jSn X) (fun j => .int (jSf X j)) (jF X) U H := h.2.2.2.2.2.2.2.2.2.2.2.2
theorem KK.faw {X : JX} {s : State} (h : KK X s) {w : Cond} (hw : w ∈ FA) (args : Array Value) : w.before args s = true := by
  have hf : w.faceAtom = true := (List.mem_filter.mp hw).2
  have ho : w.onTables = true := by cases w <;> first | rfl | (simp [Cond.faceAtom] at hf)
  exact va_tabs (u := s) ho rfl (h.ks.fa w hw)
theorem KK.word {X : JX} {s : State} (h : KK X s) {w : Cond} (hw : w ∈ BW) (args : Array Value) : w.before args s = true := word_at (State.WarmedH.refl s) (bw_good hw) (h.1 w hw)
theorem KK.same {X : JX} {u U : State} (hv : u.vm = U.vm) (hh : u.heap = U.heap) (h : KK X u) : KK X U := by
  have hW : u.WarmedH U.vm := by rw [← hv]; exact State.WarmedH.refl u
  exact h.go hW (by rw [hh]; exact Nat.le_refl _) (fun a _ _ => by rw [hh])
/-- a method: its name, its code, its locals, its answer, its handlers -/
abbrev JM : Type := MethodName × ByteArray × Nat × Option FieldType × List (Nat × Nat × Nat × Nat)
abbrev jm (q : JD) : JM := (q.1, q.2.1, q.2.2.1, q.2.2.2.1, [])
/-- an end: an answer, or a throw of a class, and the heap -/
abbrev JR : Type := (Option Value × MH) ⊕ (String × MH)
def JQ (X : JX) (Q : JR → Prop) : Array Value → State → Outcome → State → Prop := fun _ st o t => (∃ (v : Option Value) (h' : MH), o = .returned (v.map (trV X)) ∧ Q (.inl (v, h')) ∧ Hd X h' t.heap) ∧ va_F (jF X) st t
def JXc (X : JX) (Q : JR → Prop) : String → State → State → Prop := fun E st t => (∃ h' : MH, Q (.inr (E, h')) ∧ Hd X h' t.heap) ∧ va_F (jF X) st t
def BF (X : JX) (M : JM) (p : Program) (s : State) (m : MethodId) (meth : Method) (c : Code) : Prop :=
  p.tables.exec = Jvm.exec ∧ c.code = M.2.1 ∧ c.maxLocals = M.2.2.1 ∧ s.vm.findClass M.1.cls = some m.cls ∧ meth.sig.returnType = M.2.2.2.1 ∧ meth.locks = false ∧ c.exceptionTable.toList = tableOf M.2.2.2.2 ∧ meth.name = M.1.name
def MT (X : JX) (d mc ms : Nat) (q : JD) (av : List Value) (h : MH) (Q : JR → Prop) : Prop :=
  vx_Met X.1 q.1 [Cond.code q.1 q.2.1 q.2.2.1 q.2.2.2.1] ({ frames := d, cells := mc, slots := ms, locals := 40 * d } : Room) (va_Pc (av.map (trV X)) (fun U => Hd X h U.heap ∧ KK X U)) (JQ X Q) (JXc X Q) mc ms (jF X)
def Ev (X : JX) (M : JM) (d mc ms : Nat) (Q : JR → Prop) (pc : Nat) (ls : List (Option Value)) (st : List Value) (h : MH) : Prop :=
  ∀ (p : Program) (e : Env) (R : Room) (s : State) (m : MethodId) (args : Array Value) (below : List Frame) (meth : Method) (c : Code) (H : Heap) (locs : List Loc) (cells slots : Nat) (lsA : Array Slot),
    BF X M p s m meth c → KK X s → Hd X h H → va_S (jF X) s.heap H locs → LH X lsA M.2.2.1 ls → (d ≤ R.frames ∧ 40 * d ≤ R.locals ∧ cells + mc ≤ R.cells ∧ slots + ms ≤ R.slots) →
    W p X.1 e R s m args below meth c H locs cells slots (vx_MQ below (JQ X Q) (JXc X Q) args s R.cells R.slots (jF X)) (F0 m pc lsA (st.map (trV X)))
/-- the locals at a method's start -/
def entL (mL : Nat) (av : List Value) : List (Option Value) := av.map some ++ List.replicate (mL - av.length) none
theorem lv_args_mem (X : JX) (av : List Value) (hc : ∀ v ∈ av, v.category = 1) : ∀ (k i : Nat) (v : Value), av[i]? = some v → (k + i, trV X v) ∈ lv_args k (av.map (trV X)) := by
  induction av with
  | nil => intro k i v h; simp at h
  | cons a l ih =>
    intro k i v h
    have ha : ¬ (trV X a).category = 2 := by rw [trV_cat, hc a List.mem_cons_self]; decide
    show _ ∈ (k, trV X a) :: lv_args (if (trV X a).category = 2 then k + 2 else k + 1) (l.map (trV X))
    rw [if_neg ha]
    cases i with
    | zero =>
      have : a = v := by simpa using h
      rw [this]
      exact List.mem_cons_self
    | succ i =>
      have := ih (fun v hv => hc v (List.mem_cons_of_mem _ hv)) (k + 1) i v (by simpa using h)
      rw [show k + (i + 1) = k + 1 + i by omega]
      exact List.mem_cons_of_mem _ this
theorem lg_sl_len (X : JX) (av : List Value) (hc : ∀ v ∈ av, v.category = 1) : (lg_sl (av.map (trV X))).length = av.length := by
  induction av with
  | nil => rfl
  | cons a l ih =>
    have ha := hc a List.mem_cons_self
    have := ih (fun v hv => hc v (List.mem_cons_of_mem _ hv))
    cases a <;> first | (simp [Value.category] at ha; done) | (simp [lg_sl, trV, Value.category] at this ⊢; omega)
theorem LH.entry {X : JX} {av : List Value} {mL : Nat} (hc : ∀ v ∈ av, v.category = 1) (hn : av.length ≤ mL) :
    LH X (lg_sl (av.map (trV X)) ++ List.replicate (mL - (lg_sl (av.map (trV X))).length) Slot.unset).toArray mL (entL mL av) := by
  have h := lv_entry (av.map (trV X)) (n := mL) (by rw [lg_sl_len X av hc]; exact hn)
  refine ⟨h.1, by simp [entL]; omega, h.2.1, fun i v hi => ?_⟩
  refine h.2.2 (i, trV X v) ?_
  have h0 : av[i]? = some v := by
    unfold entL at hi
    by_cases hl : i < av.length
    · rw [List.getElem?_append_left (by simpa using hl)] at hi
      simpa using hi
    · rw [List.getElem?_append_right (by simp; omega)] at hi
      have := List.mem_of_getElem? hi
      simp at this
  have := lv_args_mem X av hc 0 i v h0
  simpa using this
/-- a method's contract out of the walk of its body -/
theorem MT.of {X : JX} {d mc ms : Nat} {q : JD} {av : List Value} {h : MH} {Q : JR → Prop} (hb : DB q) (hc : ∀ v ∈ av, v.category = 1) (hn : av.length ≤ q.2.2.1)
    (k : Ev X (jm q) d mc ms Q 0 (entL q.2.2.1 av) [] h) : MT X d mc ms q av h Q := by
  refine vx_ofW (cc := q.2.1) (maxL := q.2.2.1) (ret := q.2.2.2.1) hb.2.2.2 rfl ?_
  intro p e s m args below meth c s₁ B hml ht hv
  obtain ⟨rfl, hH, hK⟩ := hv
  have hown : s.vm.findClass q.1.cls = some m.cls := findClass_of_methodNamed B.named
  have htab : c.exceptionTable.toList = tableOf [] := by
    cases hx : c.exceptionTable.toList with
    | nil => rfl
    | cons a l => exact (ht a (by rw [hx]; exact List.mem_cons_self)).elim
  rw [lg_entry_eq]
  exact k p e _ s m _ below meth c s.heap [] 0 0 _ ⟨B.exec, B.bytes, hml, hown, B.returns, B.notSynchronized, htab, (name_of_methodNamed B.named B.method).1⟩ hK hH va_S.rf (LH.entry hc hn) ⟨Nat.le_refl _, Nat.le_refl _, Nat.le_of_eq (Nat.zero_add _), Nat.le_of_eq (Nat.zero_add _)⟩
