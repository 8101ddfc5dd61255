/-! an exception made with a text: exact, and for NoSuchElementException too, whose constructor links its super at 13 -/
def jxSix (X : String) : ByteArray := if X = "java/util/NoSuchElementException" then ⟨#[0x2a, 0x2b, 0xb7, 0x00, 0x0d, 0xb1]⟩ else Bundle.six
def jxIdx (X : String) : Nat := if X = "java/util/NoSuchElementException" then 13 else 7
def jxDec (X : String) : Prop := decode (jxSix X) 0 = .ok (.aload_n 0, 1) ∧ decode (jxSix X) 1 = .ok (.aload_n 1, 1) ∧ decode (jxSix X) 2 = .ok (.invokespecial (jxIdx X), 3) ∧ decode (jxSix X) 5 = .ok (.return_, 1)
def jxChainA (X : String) : List String → List Cond
  | [] => Bundle.passSAtoms X Bundle.tN (jxIdx X) (jxSix X)
  | Y :: r => Bundle.passSAtoms X Y (jxIdx X) (jxSix X) ++ Bundle.chainSAtoms Y r
def jxAtoms (own : String) (ic : Nat) (X : String) (names : List String) : List Cond :=
  Bundle.throwableAtoms ++ Bundle.throwableSAtoms ++ jxChainA X names ++
  [.methodLink own ic (Bundle.initS X), .instantiable X 6, .castable X X, .selects X Bundle.tFill0 Bundle.tFill0, .selects X Bundle.tFill Bundle.tFill,
   .lays X Bundle.tN "cause" "Ljava/lang/Throwable;", .lays X Bundle.tN "stackTrace" Bundle.steD, .lays X Bundle.tN "suppressedExceptions" Bundle.listD, .lays X Bundle.tN "detailMessage" "Ljava/lang/String;",
   .isRef (.static Bundle.tN "UNASSIGNED_STACK" Bundle.steD), .isRef (.static Bundle.tN "SUPPRESSED_SENTINEL" Bundle.listD),
   .fieldLink Bundle.tN 198 Bundle.tN "backtrace" "Ljava/lang/Object;", .lays Bundle.tN Bundle.tN "backtrace" "Ljava/lang/Object;", .lays X Bundle.tN "backtrace" "Ljava/lang/Object;"]
def jx_atS (own : String) (ic : Nat) (X : String) (names : List String) : List Cond := (jxAtoms own ic X names).filter vx_no
theorem jxChain {args : Array Value} {s : State} {pl : Platform} (hpl : pl.magicAccessors = ({} : Platform).magicAccessors) {top : MethodId} (htop : s.methodNamed? (Bundle.initS Bundle.tN) = some top)
    (names : List String) (X : String) (hX : Bundle.fit X = true) (h62 : jxDec X) (hn : ∀ n ∈ names, Bundle.fit n = true) (h : ∀ c ∈ jxChainA X names, c.before args s = true) :
      ∃ (P1 : PassC) (Ps : List PassC), Ps.length = names.length ∧ P1.LinksS pl s ∧ (∀ P, P ∈ Ps → P.LinksS pl s) ∧ s.methodNamed? (Bundle.initS X) = some P1.m ∧
        P1.sup = firstOf top (Ps.map (·.toPassT)) ∧ PassesOn top (Ps.map (·.toPassT)) := by
  obtain ⟨q0, q1, q2, q5⟩ := h62
  cases names with
  | nil =>
    obtain ⟨P, L, hm, hs⟩ := PassC.ofS_atoms (args := args) (s := s) hpl (X := X) (Y := Bundle.tN) (Bundle.fit_spec hX).1 (by decide) q0 q1 q2 q5 h
    exact ⟨P, [], rfl, L, (fun _ hP => by cases hP), hm, Option.some.inj (hs.symm.trans htop), trivial⟩
  | cons Y r =>
    obtain ⟨P, L, hm, hs⟩ := PassC.ofS_atoms (args := args) (s := s) hpl (X := X) (Y := Y) (Bundle.fit_spec hX).1 (Bundle.fit_spec (hn Y List.mem_cons_self)).2 q0 q1 q2 q5
      (fun c hc => h c (by simp only [jxChainA, List.mem_append]; exact Or.inl hc))
    obtain ⟨P', Ps, hlen, L', hL, hm', hsup, hpass⟩ := Bundle.chainS (args := args) hpl htop r Y (hn Y List.mem_cons_self) (fun n hn' => hn n (List.mem_cons_of_mem _ hn')) (fun c hc => h c (by simp only [jxChainA, List.mem_append]; exact Or.inr hc))
    refine ⟨P, P' :: Ps, by simp [hlen], L, ?_, hm, Option.some.inj (hs.symm.trans hm'), hsup, hpass⟩
    intro Q hQ
    rcases List.mem_cons.mp hQ with rfl | hQ
    · exact L'
    · exact hL Q hQ
section JXM
variable {p : Program} {l : Launch} {e : Env} {R : Room} {s : State} {m₀ : MethodId} {args : Array Value} {below : List Frame} {meth : Method} {c : Code} {W : State} {locs : List Loc} {cells slots : Nat}
set_option maxHeartbeats 4000000 in
theorem jx_ctorMade (X : Stand p l e R s m₀ args below meth c W locs cells slots) (hexec : p.tables.exec = Jvm.exec) (htr : e.platform.stackTraces = false) {own cls : String} {names : List String} {ic : Nat}
    (hown : s.vm.findClass own = some m₀.cls) (hcls : Bundle.fit cls = true) (h62 : jxDec cls) (hnames : ∀ n ∈ names, Bundle.fit n = true)
    (h : ∀ a ∈ jxAtoms own ic cls names, a.before args s = true)
    (hlocs : ∀ x ∈ locs, ∀ cell, s.heap[x.base]? = some cell → cell.vm.isStatics = false)
    {a : Addr} {cX : ClassId} {kX : Class} (hfoundX : s.vm.findClass cls = some cX) (hkX : s.vm.classes[cX]? = some kX) (hcell : W.heap[a]? = some (freshCell cX kX)) (hnew : s.heap.size ≤ a)
    {msg : Value} (hmsg : msg.isRef = true)
    {g : JFrame} (hg : g.method = m₀) (hsize : g.locals.size = c.maxLocals) {rest : List Value} (hstack : g.stack = msg :: .ref a :: .ref a :: rest)
    (hd6 : decode c.code g.pc = .ok (.invokespecial ic, 3))
    (hRframes : names.length + 3 < R.frames) (hRlocals : 2 * g.monitorRoom + ((Value.ref a :: rest).map fun v => v.category).sum + (13 * (names.length + 1) + 42) ≤ R.locals) :
    ∃ (V : State) (ce : Cell) (L : List Loc), Stand p l e R s m₀ args below meth c (V.setCell a ce) (locs ++ L) cells slots ∧ (∀ y ∈ L, y.base = a) ∧ a < V.heap.size ∧ ce.cls = cX ∧ ce.vm = .none ∧
      ∀ target, Steps p.tables e below ((V.setCell a ce).setTop { g with stack := .ref a :: rest, pc := g.pc + 3 }) target → Steps p.tables e below (W.setTop g) target := by
  have howns : e.platform.frameOwnsMonitors = true := by rw [X.admits.platform]
  have hfin : e.platform.finalization = false := by rw [X.admits.platform]
  have hpl : e.platform.magicAccessors = ({} : Platform).magicAccessors := by rw [X.admits.platform]
  have a' : ∀ x, x ∈ jxAtoms own ic cls names → x.holds args s none s [] = true := fun x hx => h x hx
  obtain ⟨T, Z0, L, -, Y⟩ := ThrowableC.of_atoms (args := args) howns hfin hpl (fun x hx => h x (by simp [jxAtoms, hx]))
  obtain ⟨Z, M, LZ, LM, hnZ⟩ := Init0T.ofS_atoms (args := args) hpl L Y (fun x hx => h x (by simp [jxAtoms, hx]))
  obtain ⟨P1, Ps, hlen, L1, hL, hP1m, hlink1, hlink⟩ := jxChain (args := args) hpl hnZ names cls hcls h62 hnames (fun x hx => h x (by simp [jxAtoms, hx]))
  have hfound : s.vm.findClass cls = some P1.m.cls := findClass_of_methodNamed hP1m
  cases Option.some.inj (hfoundX.symm.trans hfound)
  obtain ⟨c1, kX', hc1, hk, hord, -, -, hn6⟩ := Cond.instantiable_spec (a' (.instantiable cls 6) (by simp [jxAtoms]))
  cases Option.some.inj (hc1.symm.trans hfound)
  cases Option.some.inj (hkX.symm.trans hk)
  have hsel0 : selectMethod e.platform s.vm P1.m.cls T.fill0 = .method T.fill0 := by
    obtain ⟨c2, r2, m2, q1, q2, q3, q4, -⟩ := Cond.selects_spec (a' (.selects cls Bundle.tFill0 Bundle.tFill0) (by simp [jxAtoms]))
    cases Option.some.inj (q1.symm.trans hfound)
    cases Option.some.inj (q2.symm.trans (State.methodFound?_of_named Y.fill0 (by decide)))
    cases Option.some.inj (q3.symm.trans Y.fill0)
    rw [Launch.admits_selectMethod X.admits]; exact q4
  have hselF : selectMethod e.platform s.vm P1.m.cls T.fill = .method T.fill := by
    obtain ⟨c2, r2, m2, q1, q2, q3, q4, -⟩ := Cond.selects_spec (a' (.selects cls Bundle.tFill Bundle.tFill) (by simp [jxAtoms]))
    cases Option.some.inj (q1.symm.trans hfound)
    cases Option.some.inj (q2.symm.trans (State.methodFound?_of_named Y.fill (by decide)))
    cases Option.some.inj (q3.symm.trans Y.fill)
    rw [Launch.admits_selectMethod X.admits]; exact q4
  obtain ⟨cellS0, hcS0, hiss⟩ := Y.statics
  obtain ⟨u0, hu0⟩ := Cond.staticRefV Y.unassigned L.unassignedStatic L.statics hcS0 hiss (a' (.isRef (.static Bundle.tN "UNASSIGNED_STACK" Bundle.steD)) (by simp [jxAtoms]))
  obtain ⟨sen, hsen⟩ := Cond.staticRefV Y.sentinel L.sentinelStatic L.statics hcS0 hiss (a' (.isRef (.static Bundle.tN "SUPPRESSED_SENTINEL" Bundle.listD)) (by simp [jxAtoms]))
  obtain ⟨ci198, i198, fB, hk198, hg198, ha198, hsB, -, hnB, htB, hffB⟩ := Cond.ownField (t := .object "java/lang/Object") Y.found L.cls (by decide +kernel) (a' (.fieldLink Bundle.tN 198 Bundle.tN "backtrace" "Ljava/lang/Object;") (by simp [jxAtoms])) (a' (.lays Bundle.tN Bundle.tN "backtrace" "Ljava/lang/Object;") (by simp [jxAtoms])) e.platform hpl
  obtain ⟨cellS, hcS', heS, -, hkeep⟩ := X.same.2.2.2.2.2 T.aS cellS0 hcS0
  have hcellS : W.heap[T.aS]? = some cellS := hcS'
  have hout' : ∀ i, (⟨T.aS, i⟩ : Loc) ∉ locs := fun i hmem => by
    have := hlocs _ hmem cellS0 hcS0
    rw [hiss] at this; cases this
  have hknownS : cellS.vm ≠ .unknown := by
    rw [heS]; intro hu
    rw [show cellS0.vm = .unknown from hu] at hiss
    cases hiss
  have hneS : T.aS ≠ a := Nat.ne_of_lt (Nat.lt_of_lt_of_le (Array.getElem?_eq_some_iff.mp hcS0).1 hnew)
  obtain ⟨iM, hffM⟩ := Y.msg
  obtain ⟨tyC, dC, hdC, hdnC⟩ := Cond.laysAt hfound hk Y.cause (a' (.lays cls Bundle.tN "cause" "Ljava/lang/Throwable;") (by simp [jxAtoms]))
  obtain ⟨tyS, dS, hdS, hdnS⟩ := Cond.laysAt hfound hk Y.stack (a' (.lays cls Bundle.tN "stackTrace" Bundle.steD) (by simp [jxAtoms]))
  obtain ⟨tyP, dP, hdP, hdnP⟩ := Cond.laysAt hfound hk Y.supp (a' (.lays cls Bundle.tN "suppressedExceptions" Bundle.listD) (by simp [jxAtoms]))
  obtain ⟨tyM, dM, hdM, hdnM⟩ := Cond.laysAt hfound hk hffM (a' (.lays cls Bundle.tN "detailMessage" "Ljava/lang/String;") (by simp [jxAtoms]))
  obtain ⟨tyB, dB, hdB, hdnB⟩ := Cond.laysAt hfound hk hffB (a' (.lays cls Bundle.tN "backtrace" "Ljava/lang/Object;") (by simp [jxAtoms]))
  have bC := Cond.laysApart hdB hdC hdnB hdnC (by rw [hnB, Y.causeName]; decide)
  have bS := Cond.laysApart hdB hdS hdnB hdnS (by rw [hnB, Y.stackName]; decide)
  have bP := Cond.laysApart hdB hdP hdnB hdnP (by rw [hnB, Y.suppName]; decide)
  have hskip : SkipFacts T e.platform s (fun u => u) u0 ((preparedCellV T.toThrowableT (freshCell P1.m.cls kX) a u0 sen).withEntry W.cur) :=
    ⟨{ ci198 := ci198, i198 := i198, fBack := fB }, ⟨hk198, hg198, ha198, hsB⟩, by
      have := fresh_default (c := P1.m.cls) tyB
      rw [htB] at this
      simpa [preparedCellV, Cell.setSlot, Cell.withEntry, Array.getElem?_setIfInBounds, bC, bS, bP, bC.symm, bS.symm, bP.symm, defaultValue] using this, fun _ _ => rfl⟩
  obtain ⟨tm, methC, cdC, kC, vm₁, hnC, -, -, -, -, -, -, -, hW₁, st1⟩ := Steps.initColdS (tb := p.tables) (e := e) (below := below) (s := s) (U := W) X.here hexec X.warmed hpl hown (t := Bundle.initS cls) rfl rfl (Bundle.fit_spec hcls).2
    (a' (.methodLink own ic (Bundle.initS cls)) (by simp [jxAtoms])) (h (.instanceMethod (Bundle.initS cls)) (by cases names <;> simp [jxAtoms, jxChainA, Bundle.passSAtoms])) (bytes := (jxSix cls)) (maxL := 2) (h (.code (Bundle.initS cls) (jxSix cls) 2 none) (by cases names <;> simp [jxAtoms, jxChainA, Bundle.passSAtoms]))
    (f := g) hg (a := a) (msg := msg) (rest := .ref a :: rest) hstack hd6
  cases Option.some.inj (hnC.symm.trans hP1m)
  have X₁ := X.noted hW₁
  obtain ⟨vm₂, X₂, st2⟩ := X₁.ctorMessageOffV hexec (g := { g with stack := .ref a :: rest }) hg hsize T L Z LZ M LM (P1 :: Ps)
    (fun P hP => by rcases List.mem_cons.mp hP with rfl | hP; exact L1; exact hL P hP) ⟨hlink1, hlink⟩ (u0 := u0) (sen := sen) (self := a) hmsg (cell := freshCell P1.m.cls kX) (cellS := cellS)
    hcell (fun _ => by simp) (by simp) rfl rfl hsel0 hselF hcellS hneS hknownS (by rw [hkeep _ (hout' _)]; exact hu0) (by rw [hkeep _ (hout' _)]; exact hsen)
    (Takes.of_laid hk hord tyC (by rw [Y.causeType]; rfl)) (Takes.of_laid hk hord tyS (by rw [Y.stackType]; exact fits_refV_array _ u0)) (Takes.of_laid hk hord tyP (by rw [Y.suppType]; exact fits_refV_object _ sen))
    (Takes.of_laid hk hord tyM (by rw [Y.msgType]; exact fits_refV_object _ ⟨msg, hmsg⟩)) Y.objLocals hskip htr [] hd6
    (by simp only [List.length_cons, hlen]; omega) (by simp only [List.length_cons, hlen]; exact hRlocals)
  have hlt : a < ((W.setVm vm₁).setVm vm₂).heap.size := (Array.getElem?_eq_some_iff.mp hcell).1
  refine ⟨(W.setVm vm₁).setVm vm₂, _, _, X₂, fun y hy => ?_, hlt, rfl, rfl, fun target hwalk => st1 _ (fun acts => ?_)⟩
  · simp only [List.mem_cons, List.not_mem_nil, or_false] at hy
    rcases hy with rfl | rfl | rfl | rfl | rfl <;> rfl
  · rw [doInvoke_state]
    exact st2 _ hwalk
end JXM
section JXK
variable {p : Program} {l : Launch} {e : Env} {R : Room} {s : State} {m : MethodId} {args : Array Value} {below : List Frame} {meth : Method} {c : Code} {H : Heap} {locs : List Loc} {cells slots : Nat} {Q : State → Prop}
variable {ls : Array Slot} {rest : List Value} {D : va_G} {cl : List vw_C} {tys : List (ClassId × FieldType)} {ws : va_W}
set_option maxHeartbeats 4000000 in
theorem jx_make {cc : ByteArray} {pc : Nat} (hexec : p.tables.exec = Jvm.exec) (hb : c.code = cc) (hl : l.stackTraces = false) {own cls text : String} {names : List String} {ik is ic sa ci : Nat} {A : Nat → Prop} {T0 : u_T}
    (hown : s.vm.findClass own = some m.cls) (hcls : Bundle.fit cls = true) (h62 : jxDec cls) (hnames : ∀ n ∈ names, Bundle.fit n = true)
    (hk : (Cond.classLink own ik cls).before args s = true) (hini : (Cond.initialized cls).before args s = true) (hstr : vk_R own is text sa s) (hat : ∀ w ∈ jx_atS own ic cls names, w.before args s = true)
    (hgood : ∀ w ∈ Cond.classLink own ik cls :: Cond.initialized cls :: jx_atS own ic cls names, vx_ot w = true)
    (hU : vx_Zq Bundle.tN "UNASSIGNED_STACK" Bundle.steD A s s.heap) (hN : vx_Zq Bundle.tN "SUPPRESSED_SENTINEL" Bundle.listD A s s.heap) (hS : va_S A s.heap H locs) (hsize : ls.size = c.maxLocals)
    (d0 : decode cc pc = .ok (.new ik, 3)) (d3 : decode cc (pc + 3) = .ok (.dup, 1)) (d4 : decode cc (pc + 4) = .ok (.ldc is, 2)) (d6 : decode cc (pc + 6) = .ok (.invokespecial ic, 3))
    (hK : va_K D cl tys s) (hP : va_P D cl ws H) (hD : va_D A ws) (hA : ∀ q, s.heap.size ≤ q → A q) (hc : cl[ci]? = some (cls, T0, 0))
    (hRframes : names.length + 3 < R.frames) (hRlocals : (rest.map fun v => v.category).sum + (13 * (names.length + 1) + 43) ≤ R.locals) (hRcells : cells + 1 ≤ R.cells) (hRslots : slots + 6 ≤ R.slots)
    (kk : ∀ (q : Nat) (H1 : Heap), va_P D cl (ws ++ [(q, .inr (ci, []))]) H1 → va_D A (ws ++ [(q, .inr (ci, []))]) → va_S A s.heap H1 locs → q = H.size → H1.size = H.size + 1 → (∀ z : Nat, z < H.size → H1[z]? = H[z]?) → W p l e R s m args below meth c H1 locs (cells + 1) (slots + 6) Q (F0 m (pc + 9) ls (.ref q :: rest))) :
    W p l e R s m args below meth c H locs cells slots Q (F0 m pc ls rest) := by
  intro T hT X
  subst hT
  have htr : e.platform.stackTraces = false := (show e.platform.stackTraces = l.stackTraces by rw [X.admits.platform]).trans hl
  have Y := vx_rebase X (R' := { frames := R.frames, locals := R.locals, cells := 1, slots := 6 }) (Nat.le_refl _) (Nat.le_refl _) hRcells hRslots
  obtain ⟨s', hA'⟩ : ∃ z, z = (T.setVm s.vm).setFrames (.invoking m args :: below) := ⟨_, rfl⟩
  rw [← hA'] at Y
  have hvm : s'.vm = s.vm := by rw [hA']; rfl
  have hhp : s'.heap = T.heap := by rw [hA']; rfl
  have hW0 : s.WarmedH s'.vm := by rw [hvm]; exact State.WarmedH.refl s
  have hat' : ∀ w ∈ jx_atS own ic cls names, w.before args s' = true := fun w hw => vx_ot_at hW0 hvm.symm (hgood w (List.mem_cons_of_mem _ (List.mem_cons_of_mem _ hw))) (hat w hw)
  have hk' : (Cond.classLink own ik cls).before args s' = true := vx_ot_at hW0 hvm.symm (hgood _ List.mem_cons_self) hk
  have hini' : (Cond.initialized cls).before args s' = true := vx_ot_at hW0 hvm.symm (hgood _ (List.mem_cons_of_mem _ List.mem_cons_self)) hini
  have hU' : vx_Zq Bundle.tN "UNASSIGNED_STACK" Bundle.steD A s' s'.heap := by rw [hhp]; exact vx_Zq.moved hW0.alike (hU.kept hS.2.1)
  have hN' : vx_Zq Bundle.tN "SUPPRESSED_SENTINEL" Bundle.listD A s' s'.heap := by rw [hhp]; exact vx_Zq.moved hW0.alike (hN.kept hS.2.1)
  have h : ∀ w ∈ jxAtoms own ic cls names, w.before args s' = true := vx_own hat' (vx_isRefq hU'.1) (vx_isRefq hN'.1) hU'.2.word hN'.2.word
  have hown' : s'.vm.findClass own = some m.cls := by rw [hvm]; exact hown
  have hins : (Cond.instantiable cls 6).before args s' = true := h _ (by simp [jxAtoms])
  obtain ⟨vm₁, cX, kX, hfX, hkX, -, -, X₁, st1⟩ := Y.newCold hexec (own := own) (C := cls) (index := ik) (n := 6) hown' hk' hins hini'
    (g := F0 m pc ls rest) rfl (by rw [hb]; exact d0) (Nat.le_refl _) (Nat.le_refl _)
  generalize hT1 : (T.setVm vm₁).pushCell { cls := cX, slots := kX.instanceTypes.map defaultValue, vm := .none } = T1 at X₁ st1
  have hcat : (Value.ref T.heap.size).category = 1 := rfl
  have hcellA : T1.heap[T.heap.size]? = some (freshCell cX kX) := by rw [← hT1]; exact State.heap_pushCell_size _ _
  have d3' : decode c.code (pc + 3) = .ok (.dup, 1) := by rw [hb]; exact d3
  have d4' : decode c.code (pc + 4) = .ok (.ldc is, 2) := by rw [hb]; exact d4
  have hstr' : vk_R own is text sa s' := vk_R.warm hW0 hstr
  obtain ⟨V, ce, L, Z, hL, hlt, hcl9, hvm9, st⟩ := jx_ctorMade X₁ hexec htr (own := own) (cls := cls) (names := names) (ic := ic) hown' hcls h62 hnames h (fun x hx => nomatch hx) hfX hkX hcellA (by rw [hhp]; exact Nat.le_refl _) (msg := .ref sa) rfl
    (g := { method := m, pc := pc + 6, locals := ls, stack := .ref sa :: .ref T.heap.size :: .ref T.heap.size :: rest, locked := none }) rfl hsize (rest := rest) rfl
    (by rw [hb]; exact d6) hRframes (by simp only [List.map_cons, List.sum_cons, hcat]; omega)
  have Z0 := Stand.forget (locs := []) Z (fun y hy => by rw [hL y hy, hhp]; exact Nat.le_refl _)
  obtain ⟨f1, f2⟩ := vx_frame Z0.same
  rw [hhp] at f1 f2
  have hcid : ce.cls = D.1 ci := by
    rw [hcl9]
    have h1 := (hK.1 ci _ hc).2.1
    rw [hvm] at hfX
    exact Option.some.inj (hfX.symm.trans h1)
  have hh : (V.setCell T.heap.size ce).heap[T.heap.size]? = some ce := heapAt_setCell_self (s := V) ce hlt
  subst hA'
  have X5 := vx_back9 X Y Z0
  have X6 : Stand p l e R s m args below meth c (V.setCell T.heap.size ce) locs (cells + 1) (slots + 6) := { X5 with same := X5.same.mono (by omega) (by omega) }
  have hk9 : ∀ (k : Nat) (x : Nat × va_E), ws[k]? = some x → (V.setCell T.heap.size ce).heap[x.1]? = T.heap[x.1]? := fun k x hx => f2 x.1 ((hP k x hx).lt) (fun z hz => nomatch hz)
  obtain ⟨t, a1, b1⟩ := kk T.heap.size (V.setCell T.heap.size ce).heap ((hP.kept hk9).app (fun k x hx => by
      have hz : k < 1 := (List.getElem?_eq_some_iff.mp hx).1
      rw [show k = 0 by omega] at hx
      cases hx
      exact ⟨_, hc, ce, hh, hcid, hvm9, fun k hk => absurd hk (Nat.not_lt_zero k)⟩)) (hD.push hP rfl (hA _ hS.1)) ⟨Nat.le_trans hS.1 f1, fun q h1 h2 => (f2 q (Nat.lt_of_lt_of_le h1 hS.1) (fun z hz => nomatch hz)).trans (hS.2.1 q h1 h2), hS.2.2⟩ rfl (Nat.le_antisymm (by have h1 := Z0.same.2.2.1; rw [hhp] at h1; exact h1) (by have h2 := (Array.getElem?_eq_some_iff.mp hh).1; exact h2)) (fun z hz => f2 z hz (fun y hy => nomatch hy)) _ rfl X6
  refine ⟨t, st1 _ ?_, b1⟩
  show Steps p.tables e below (T1.setTop { method := m, pc := pc + 3, locals := ls, stack := .ref T.heap.size :: rest, locked := none }) _
  jvm_step X₁.here [X₁.here.top, hexec, d3', Value.category]
  exact X₁.ldcString hexec (own := own) (text := text) (index := is) (a := sa) hown' hstr'.1 hstr'.2
    (g := { method := m, pc := pc + 4, locals := ls, stack := .ref T.heap.size :: .ref T.heap.size :: rest, locked := none }) rfl d4' _ (st _ a1)
set_option maxHeartbeats 4000000 in
theorem jx_makeW {cc : ByteArray} {pc : Nat} (hexec : p.tables.exec = Jvm.exec) (hb : c.code = cc) (hl : l.stackTraces = false) {own cls text : String} {names : List String} {ik is ic sa ci : Nat} {A : Nat → Prop} {T0 : u_T}
    (hown : s.vm.findClass own = some m.cls) (hcls : Bundle.fit cls = true) (h62 : jxDec cls) (hnames : ∀ n ∈ names, Bundle.fit n = true)
    (hk : (Cond.classLink own ik cls).before args s = true) (hini : (Cond.initialized cls).before args s = true) (hstr : vk_R own is text sa s) (hat : ∀ w ∈ jx_atS own ic cls names, w.before args s = true)
    (hgood : ∀ w ∈ Cond.classLink own ik cls :: Cond.initialized cls :: jx_atS own ic cls names, vx_ot w = true)
    (hU : vx_Zq Bundle.tN "UNASSIGNED_STACK" Bundle.steD A s s.heap) (hN : vx_Zq Bundle.tN "SUPPRESSED_SENTINEL" Bundle.listD A s s.heap) (hS : va_S A s.heap H locs) (hsize : ls.size = c.maxLocals)
    (d0 : decode cc pc = .ok (.new ik, 3)) (d3 : decode cc (pc + 3) = .ok (.dup, 1)) (d4 : decode cc (pc + 4) = .ok (.ldc_w is, 3)) (d6 : decode cc (pc + 7) = .ok (.invokespecial ic, 3))
    (hK : va_K D cl tys s) (hP : va_P D cl ws H) (hD : va_D A ws) (hA : ∀ q, s.heap.size ≤ q → A q) (hc : cl[ci]? = some (cls, T0, 0))
    (hRframes : names.length + 3 < R.frames) (hRlocals : (rest.map fun v => v.category).sum + (13 * (names.length + 1) + 43) ≤ R.locals) (hRcells : cells + 1 ≤ R.cells) (hRslots : slots + 6 ≤ R.slots)
    (kk : ∀ (q : Nat) (H1 : Heap), va_P D cl (ws ++ [(q, .inr (ci, []))]) H1 → va_D A (ws ++ [(q, .inr (ci, []))]) → va_S A s.heap H1 locs → q = H.size → H1.size = H.size + 1 → (∀ z : Nat, z < H.size → H1[z]? = H[z]?) → W p l e R s m args below meth c H1 locs (cells + 1) (slots + 6) Q (F0 m (pc + 10) ls (.ref q :: rest))) :
    W p l e R s m args below meth c H locs cells slots Q (F0 m pc ls rest) := by
  intro T hT X
  subst hT
  have htr : e.platform.stackTraces = false := (show e.platform.stackTraces = l.stackTraces by rw [X.admits.platform]).trans hl
  have Y := vx_rebase X (R' := { frames := R.frames, locals := R.locals, cells := 1, slots := 6 }) (Nat.le_refl _) (Nat.le_refl _) hRcells hRslots
  obtain ⟨s', hA'⟩ : ∃ z, z = (T.setVm s.vm).setFrames (.invoking m args :: below) := ⟨_, rfl⟩
  rw [← hA'] at Y
  have hvm : s'.vm = s.vm := by rw [hA']; rfl
  have hhp : s'.heap = T.heap := by rw [hA']; rfl
  have hW0 : s.WarmedH s'.vm := by rw [hvm]; exact State.WarmedH.refl s
  have hat' : ∀ w ∈ jx_atS own ic cls names, w.before args s' = true := fun w hw => vx_ot_at hW0 hvm.symm (hgood w (List.mem_cons_of_mem _ (List.mem_cons_of_mem _ hw))) (hat w hw)
  have hk' : (Cond.classLink own ik cls).before args s' = true := vx_ot_at hW0 hvm.symm (hgood _ List.mem_cons_self) hk
  have hini' : (Cond.initialized cls).before args s' = true := vx_ot_at hW0 hvm.symm (hgood _ (List.mem_cons_of_mem _ List.mem_cons_self)) hini
  have hU' : vx_Zq Bundle.tN "UNASSIGNED_STACK" Bundle.steD A s' s'.heap := by rw [hhp]; exact vx_Zq.moved hW0.alike (hU.kept hS.2.1)
  have hN' : vx_Zq Bundle.tN "SUPPRESSED_SENTINEL" Bundle.listD A s' s'.heap := by rw [hhp]; exact vx_Zq.moved hW0.alike (hN.kept hS.2.1)
  have h : ∀ w ∈ jxAtoms own ic cls names, w.before args s' = true := vx_own hat' (vx_isRefq hU'.1) (vx_isRefq hN'.1) hU'.2.word hN'.2.word
  have hown' : s'.vm.findClass own = some m.cls := by rw [hvm]; exact hown
  have hins : (Cond.instantiable cls 6).before args s' = true := h _ (by simp [jxAtoms])
  obtain ⟨vm₁, cX, kX, hfX, hkX, -, -, X₁, st1⟩ := Y.newCold hexec (own := own) (C := cls) (index := ik) (n := 6) hown' hk' hins hini'
    (g := F0 m pc ls rest) rfl (by rw [hb]; exact d0) (Nat.le_refl _) (Nat.le_refl _)
  generalize hT1 : (T.setVm vm₁).pushCell { cls := cX, slots := kX.instanceTypes.map defaultValue, vm := .none } = T1 at X₁ st1
  have hcat : (Value.ref T.heap.size).category = 1 := rfl
  have hcellA : T1.heap[T.heap.size]? = some (freshCell cX kX) := by rw [← hT1]; exact State.heap_pushCell_size _ _
  have d3' : decode c.code (pc + 3) = .ok (.dup, 1) := by rw [hb]; exact d3
  have d4' : decode c.code (pc + 4) = .ok (.ldc_w is, 3) := by rw [hb]; exact d4
  have hstr' : vk_R own is text sa s' := vk_R.warm hW0 hstr
  obtain ⟨V, ce, L, Z, hL, hlt, hcl9, hvm9, st⟩ := jx_ctorMade X₁ hexec htr (own := own) (cls := cls) (names := names) (ic := ic) hown' hcls h62 hnames h (fun x hx => nomatch hx) hfX hkX hcellA (by rw [hhp]; exact Nat.le_refl _) (msg := .ref sa) rfl
    (g := { method := m, pc := pc + 7, locals := ls, stack := .ref sa :: .ref T.heap.size :: .ref T.heap.size :: rest, locked := none }) rfl hsize (rest := rest) rfl
    (by rw [hb]; exact d6) hRframes (by simp only [List.map_cons, List.sum_cons, hcat]; omega)
  have Z0 := Stand.forget (locs := []) Z (fun y hy => by rw [hL y hy, hhp]; exact Nat.le_refl _)
  obtain ⟨f1, f2⟩ := vx_frame Z0.same
  rw [hhp] at f1 f2
  have hcid : ce.cls = D.1 ci := by
    rw [hcl9]
    have h1 := (hK.1 ci _ hc).2.1
    rw [hvm] at hfX
    exact Option.some.inj (hfX.symm.trans h1)
  have hh : (V.setCell T.heap.size ce).heap[T.heap.size]? = some ce := heapAt_setCell_self (s := V) ce hlt
  subst hA'
  have X5 := vx_back9 X Y Z0
  have X6 : Stand p l e R s m args below meth c (V.setCell T.heap.size ce) locs (cells + 1) (slots + 6) := { X5 with same := X5.same.mono (by omega) (by omega) }
  have hk9 : ∀ (k : Nat) (x : Nat × va_E), ws[k]? = some x → (V.setCell T.heap.size ce).heap[x.1]? = T.heap[x.1]? := fun k x hx => f2 x.1 ((hP k x hx).lt) (fun z hz => nomatch hz)
  obtain ⟨t, a1, b1⟩ := kk T.heap.size (V.setCell T.heap.size ce).heap ((hP.kept hk9).app (fun k x hx => by
      have hz : k < 1 := (List.getElem?_eq_some_iff.mp hx).1
      rw [show k = 0 by omega] at hx
      cases hx
      exact ⟨_, hc, ce, hh, hcid, hvm9, fun k hk => absurd hk (Nat.not_lt_zero k)⟩)) (hD.push hP rfl (hA _ hS.1)) ⟨Nat.le_trans hS.1 f1, fun q h1 h2 => (f2 q (Nat.lt_of_lt_of_le h1 hS.1) (fun z hz => nomatch hz)).trans (hS.2.1 q h1 h2), hS.2.2⟩ rfl (Nat.le_antisymm (by have h1 := Z0.same.2.2.1; rw [hhp] at h1; exact h1) (by have h2 := (Array.getElem?_eq_some_iff.mp hh).1; exact h2)) (fun z hz => f2 z hz (fun y hy => nomatch hy)) _ rfl X6
  refine ⟨t, st1 _ ?_, b1⟩
  show Steps p.tables e below (T1.setTop { method := m, pc := pc + 3, locals := ls, stack := .ref T.heap.size :: rest, locked := none }) _
  jvm_step X₁.here [X₁.here.top, hexec, d3', Value.category]
  exact X₁.ldcStringW hexec (own := own) (text := text) (index := is) (a := sa) hown' hstr'.1 hstr'.2
    (g := { method := m, pc := pc + 4, locals := ls, stack := .ref T.heap.size :: .ref T.heap.size :: rest, locked := none }) rfl d4' _ (st _ a1)
end JXK
abbrev exN : List String := ["java/lang/RuntimeException", "java/lang/Exception"]
/-- an exception's words, but for the link of its constructor -/
def jxRest (X : String) (names : List String) : List Cond :=
  Bundle.throwableAtoms ++ Bundle.throwableSAtoms ++ jxChainA X names ++
  [.instantiable X 6, .castable X X, .selects X Bundle.tFill0 Bundle.tFill0, .selects X Bundle.tFill Bundle.tFill,
   .lays X Bundle.tN "cause" "Ljava/lang/Throwable;", .lays X Bundle.tN "stackTrace" Bundle.steD, .lays X Bundle.tN "suppressedExceptions" Bundle.listD, .lays X Bundle.tN "detailMessage" "Ljava/lang/String;",
   .isRef (.static Bundle.tN "UNASSIGNED_STACK" Bundle.steD), .isRef (.static Bundle.tN "SUPPRESSED_SENTINEL" Bundle.listD),
   .fieldLink Bundle.tN 198 Bundle.tN "backtrace" "Ljava/lang/Object;", .lays Bundle.tN Bundle.tN "backtrace" "Ljava/lang/Object;", .lays X Bundle.tN "backtrace" "Ljava/lang/Object;"]
theorem jxAtoms_mem {own : String} {ic : Nat} {X : String} {names : List String} {w : Cond} (h : w ∈ jxAtoms own ic X names) : w = .methodLink own ic (Bundle.initS X) ∨ w ∈ jxRest X names := by
  rcases List.mem_append.mp h with h | h
  · exact Or.inr (List.mem_append.mpr (Or.inl h))
  · rcases List.mem_cons.mp h with h | h
    · exact Or.inl h
    · exact Or.inr (List.mem_append.mpr (Or.inr h))
/-- an exception of the class's: its place in jcl, its words -/
def JEx (X : String) (ci : Nat) : Prop := jcl[ci]? = some (X, tE, 0) ∧ Bundle.fit X = true ∧ jxDec X ∧ Cond.initialized X ∈ BW ∧ (jxRest X exN).all (fun w => !vx_no w || decide (w ∈ BW) || decide (w ∈ FA)) = true
theorem je_9 : JEx "java/lang/IllegalArgumentException" 9 := ⟨rfl, by decide +kernel, ⟨by decide +kernel, by decide +kernel, by decide +kernel, by decide +kernel⟩, by decide +kernel, by decide +kernel⟩
theorem je_10 : JEx "java/lang/IllegalStateException" 10 := ⟨rfl, by decide +kernel, ⟨by decide +kernel, by decide +kernel, by decide +kernel, by decide +kernel⟩, by decide +kernel, by decide +kernel⟩
theorem je_11 : JEx "java/lang/IndexOutOfBoundsException" 11 := ⟨rfl, by decide +kernel, ⟨by decide +kernel, by decide +kernel, by decide +kernel, by decide +kernel⟩, by decide +kernel, by decide +kernel⟩
theorem je_12 : JEx "java/util/NoSuchElementException" 12 := ⟨rfl, by decide +kernel, ⟨by decide +kernel, by decide +kernel, by decide +kernel, by decide +kernel⟩, by decide +kernel, by decide +kernel⟩
theorem je_13 : JEx "java/lang/UnsupportedOperationException" 13 := ⟨rfl, by decide +kernel, ⟨by decide +kernel, by decide +kernel, by decide +kernel, by decide +kernel⟩, by decide +kernel, by decide +kernel⟩
theorem je_14 : JEx "java/lang/ArithmeticException" 14 := ⟨rfl, by decide +kernel, ⟨by decide +kernel, by decide +kernel, by decide +kernel, by decide +kernel⟩, by decide +kernel, by decide +kernel⟩
theorem exN_fit : ∀ n ∈ exN, Bundle.fit n = true := by decide +kernel
theorem JEx.words {X : JX} {s : State} {own E : String} {ic ci : Nat} (hK : KK X s) (hE : JEx E ci) (hl : Cond.methodLink own ic (Bundle.initS E) ∈ BW) {w : Cond} (hw : w ∈ jx_atS own ic E exN) : w ∈ BW ∨ w ∈ FA := by
  obtain ⟨h1, h2⟩ := List.mem_filter.mp hw
  rcases jxAtoms_mem h1 with rfl | h1
  · exact Or.inl hl
  · have := List.all_eq_true.mp hE.2.2.2.2 w h1
    simpa [h2] using this
theorem KK.both {X : JX} {s : State} (hK : KK X s) {w : Cond} (hw : w ∈ BW ∨ w ∈ FA) (args : Array Value) : w.before args s = true ∧ vx_ot w = true := by
  rcases hw with hw | hw
  · refine ⟨hK.word hw args, ?_⟩
    have : goodWord w = true := (List.mem_filter.mp hw).2
    simp [vx_ot, this]
  · refine ⟨hK.faw hw args, ?_⟩
    have hf : w.faceAtom = true := (List.mem_filter.mp hw).2
    have ho : w.onTables = true := by cases w <;> first | rfl | (simp [Cond.faceAtom] at hf)
    simp [vx_ot, ho]
/-- a new cell -/
def newS (h : MH) (sh : JS) : MH := (zN h + 1, upS (zS h) (zN h) sh, zI h, zL h, zD h)
theorem ws_new {X : JX} {h : MH} {sh : JS} : wsOf X (newS h sh) = wsOf X h ++ [(jA X (zN h), cE X (newS h sh) (zN h))] := by
  unfold wsOf
  rw [show zN (newS h sh) = zN h + 1 from rfl, List.range_succ, List.map_append]
  congr 1
  apply List.map_congr_left
  intro k hk
  have hk : k ≠ zN h := by have := List.mem_range.mp hk; omega
  rw [cE_congr (h' := newS h sh) (h := h) (upS_ne hk) rfl rfl rfl]
theorem Hd.new {X : JX} {h : MH} {H H1 : Heap} {sh : JS} {e : va_E} (hX : JXok X) (hH : Hd X h H) (hB : zN h + 1 < BIG) (he : cE X (newS h sh) (zN h) = e) (hP : va_P (jD X) jcl (wsOf X h ++ [(H.size, e)]) H1) (hz : H1.size = H.size + 1) : Hd X (newS h sh) H1 := by
  refine ⟨by rw [hz, hH.1]; show _ = jN X + (zN h + 1); omega, ⟨hB, Nat.le_succ_of_le hH.2.1.2⟩, fun k => ?_, ?_⟩
  · show (upS (zS h) (zN h) sh k).isSome = true ↔ k < zN h + 1
    by_cases hk : k = zN h
    · subst hk
      rw [upS_eq]
      simp
    · rw [upS_ne hk, hH.2.2.1 k]
      omega
  · rw [ws_new, he, hX.1.2.2 _ hH.2.1.2 (by omega), ← hH.1]
    exact hP
section EVT
variable {X : JX} {M : JM} {d mc ms : Nat} {Q : JR → Prop} {pc : Nat} {ls : List (Option Value)} {st : List Value} {h : MH}
theorem Ev.mkS {E text : String} {ci ik is ic si : Nat} (hX : JXok X) (hE : JEx E ci) (hk : Cond.classLink M.1.cls ik E ∈ BW) (hl : Cond.methodLink M.1.cls ic (Bundle.initS E) ∈ BW) (hs : jstr[si]? = some (M.1.cls, is, text))
    (d0 : decode M.2.1 pc = .ok (.new ik, 3)) (d3 : decode M.2.1 (pc + 3) = .ok (.dup, 1)) (d4 : decode M.2.1 (pc + 4) = .ok (.ldc is, 2)) (d6 : decode M.2.1 (pc + 6) = .ok (.invokespecial ic, 3))
    (hd : 6 ≤ d) (hc : 1 ≤ mc ∧ 6 ≤ ms) (hB : zN h + 1 < BIG) (hw : (st.map fun v => v.category).sum ≤ 8) (kk : Ev X M d (mc - 1) (ms - 6) Q (pc + 9) ls (.ref (zN h) :: st) (newS h (.inr (ci, [])))) : Ev X M d mc ms Q pc ls st h := by
  intro p ev R s m args below meth c H locs cells slots lsA hB9 hK hH hS hL hR
  have hci := jcl_lt hE.1
  refine jx_make (A := jF X) hB9.1 hB9.2.1 hX.2 (own := M.1.cls) (cls := E) (text := text) (names := exN) (sa := jA X (BIG + si)) (ci := ci) (T0 := tE) (D := jD X) (cl := jcl) (tys := jty X) (ws := wsOf X h) hB9.2.2.2.1 hE.2.1 hE.2.2.1 exN_fit (hK.word hk args) (hK.word hE.2.2.2.1 args) (hK.ks.1 si _ hs) (fun w hw => (hK.both (hE.words hK hl hw) args).1)
    (fun w hw => ?_) hK.ks.un.1 hK.ks.un.2 hS (by rw [hL.1, hB9.2.2.1]) d0 d3 d4 d6 hK.2.1 hH.2.2.2 (hH.D hX) (fun q hq => Nat.le_trans hK.2.2.2.2.1 hq) hE.1 (by show 2 + 3 < R.frames; omega) ?_ (by omega) (by omega) (fun q H1 h1 h2 h3 h4 h5 h6 => ?_)
  · rcases List.mem_cons.mp hw with rfl | hw
    · exact (hK.both (Or.inl hk) args).2
    · rcases List.mem_cons.mp hw with rfl | hw
      · exact (hK.both (Or.inl hE.2.2.2.1) args).2
      · exact (hK.both (hE.words hK hl hw) args).2
  · have e1 : ((st.map (trV X)).map fun v => v.category) = st.map fun v => v.category := by
      rw [List.map_map]
      exact List.map_congr_left fun v _ => trV_cat X v
    rw [e1]
    show _ + (13 * (2 + 1) + 43) ≤ _
    omega
  · subst h4
    have hn := hH.new hX hB (sh := .inr (ci, [])) (e := .inr (ci, [])) (by rw [cE_obj (ci := ci) (fs := []) upS_eq (by omega)]; rfl) h1 h5
    have hq : H.size = jA X (zN h) := by rw [hH.1, hX.1.2.2 _ hH.2.1.2 (by omega)]
    have := kk p ev R s m args below meth c H1 locs (cells + 1) (slots + 6) lsA hB9 hK hn h3 hL (by omega)
    rw [hq]
    exact this
theorem Ev.mkSW {E text : String} {ci ik is ic si : Nat} (hX : JXok X) (hE : JEx E ci) (hk : Cond.classLink M.1.cls ik E ∈ BW) (hl : Cond.methodLink M.1.cls ic (Bundle.initS E) ∈ BW) (hs : jstr[si]? = some (M.1.cls, is, text))
    (d0 : decode M.2.1 pc = .ok (.new ik, 3)) (d3 : decode M.2.1 (pc + 3) = .ok (.dup, 1)) (d4 : decode M.2.1 (pc + 4) = .ok (.ldc_w is, 3)) (d6 : decode M.2.1 (pc + 7) = .ok (.invokespecial ic, 3))
    (hd : 6 ≤ d) (hc : 1 ≤ mc ∧ 6 ≤ ms) (hB : zN h + 1 < BIG) (hw : (st.map fun v => v.category).sum ≤ 8) (kk : Ev X M d (mc - 1) (ms - 6) Q (pc + 10) ls (.ref (zN h) :: st) (newS h (.inr (ci, [])))) : Ev X M d mc ms Q pc ls st h := by
  intro p ev R s m args below meth c H locs cells slots lsA hB9 hK hH hS hL hR
  have hci := jcl_lt hE.1
  refine jx_makeW (A := jF X) hB9.1 hB9.2.1 hX.2 (own := M.1.cls) (cls := E) (text := text) (names := exN) (sa := jA X (BIG + si)) (ci := ci) (T0 := tE) (D := jD X) (cl := jcl) (tys := jty X) (ws := wsOf X h) hB9.2.2.2.1 hE.2.1 hE.2.2.1 exN_fit (hK.word hk args) (hK.word hE.2.2.2.1 args) (hK.ks.1 si _ hs) (fun w hw => (hK.both (hE.words hK hl hw) args).1)
    (fun w hw => ?_) hK.ks.un.1 hK.ks.un.2 hS (by rw [hL.1, hB9.2.2.1]) d0 d3 d4 d6 hK.2.1 hH.2.2.2 (hH.D hX) (fun q hq => Nat.le_trans hK.2.2.2.2.1 hq) hE.1 (by show 2 + 3 < R.frames; omega) ?_ (by omega) (by omega) (fun q H1 h1 h2 h3 h4 h5 h6 => ?_)
  · rcases List.mem_cons.mp hw with rfl | hw
    · exact (hK.both (Or.inl hk) args).2
    · rcases List.mem_cons.mp hw with rfl | hw
      · exact (hK.both (Or.inl hE.2.2.2.1) args).2
      · exact (hK.both (hE.words hK hl hw) args).2
  · have e1 : ((st.map (trV X)).map fun v => v.category) = st.map fun v => v.category := by
      rw [List.map_map]
      exact List.map_congr_left fun v _ => trV_cat X v
    rw [e1]
    show _ + (13 * (2 + 1) + 43) ≤ _
    omega
  · subst h4
    have hn := hH.new hX hB (sh := .inr (ci, [])) (e := .inr (ci, [])) (by rw [cE_obj (ci := ci) (fs := []) upS_eq (by omega)]; rfl) h1 h5
    have hq : H.size = jA X (zN h) := by rw [hH.1, hX.1.2.2 _ hH.2.1.2 (by omega)]
    have := kk p ev R s m args below meth c H1 locs (cells + 1) (slots + 6) lsA hB9 hK hn h3 hL (by omega)
    rw [hq]
    exact this
theorem Ev.athrow {a ci : Nat} {E : String} {N : Nat} {T : u_T} {fs : List (Value ⊕ Bool)} (hX : JXok X) (es : zS h a = some (.inr (ci, fs))) (hc : jcl[ci]? = some (E, T, N)) (dd : decode M.2.1 pc = .ok (.athrow, 1)) (k : EvX X M d mc ms Q pc ls E h) : Ev X M d mc ms Q pc ls (.ref a :: st) h := by
  intro p ev R s m args below meth c H locs cells slots lsA hB hK hH hS hL hR
  have hci := jcl_lt hc
  have hat := hH.at (hH.lt es)
  rw [cE_obj es (by omega)] at hat
  obtain ⟨r, h1, cell, q1, q2, q3, q4⟩ := hat
  obtain ⟨hSl, hfc, -⟩ := hK.2.1.1 ci _ hc
  exact vx_athrow hB.1 hB.2.1 dd (k p ev R s m args below meth c H locs cells slots lsA _ cell (jA X a) hB hK hH hS hL hR q1 q3 (by rw [q2]; exact hfc))
theorem LH.atop {X : JX} {lsA : Array Slot} {mL : Nat} {ls ls' : List (Option Value)} (h : LH X lsA mL ls) {i : Nat} (e : st1 ls i .null = some ls') :
    i < mL ∧ ∀ (w : Value) (lsB : Array Slot), lv_has lsB mL ((i, w) :: (lsL X ls).filter (fun q => !(q.1 == i) && !(q.1 + 1 == i && q.2.category == 2))) → LH X lsB mL (ls'.set i none) := by
  have key : i < ls.length ∧ ls' = ls.set i (some .null) ∧ (∀ j, j + 1 = i → cat2 ls[j]? = false) := by
    unfold st1 at e
    cases i with
    | zero =>
      by_cases hl : 0 < ls.length
      · simp only [hl, if_true] at e
        cases e
        exact ⟨hl, rfl, fun j hj => by omega⟩
      · simp only [hl, if_false] at e
        cases e
    | succ i =>
      by_cases hl : i + 1 < ls.length
      · simp only [hl, if_true] at e
        by_cases hc : cat2 ls[i]? = true
        · simp only [hc, if_true] at e
          cases e
        · simp only [hc] at e
          cases e
          exact ⟨hl, rfl, fun j hj => by obtain rfl : j = i := by omega
                                         simpa using hc⟩
      · simp only [hl, if_false] at e
        cases e
  obtain ⟨h1, rfl, h3⟩ := key
  refine ⟨by rw [← h.2.1]; exact h1, fun w lsB hB => ⟨hB.1, by rw [List.length_set, List.length_set]; exact h.2.1, hB.2.1, fun j v hj => ?_⟩⟩
  by_cases hji : j = i
  · subst hji
    rw [List.getElem?_set_self (by rw [List.length_set]; exact h1)] at hj
    cases hj
  · rw [List.getElem?_set_ne (fun q => hji q.symm), List.getElem?_set_ne (fun q => hji q.symm)] at hj
    refine hB.2.2 (j, trV X v) (List.mem_cons_of_mem _ (List.mem_filter.mpr ⟨lsL_mem.mpr ⟨v, hj, rfl⟩, ?_⟩))
    simp only [Bool.and_eq_true, Bool.not_eq_true', beq_eq_false_iff_ne, ne_eq, hji, not_false_eq_true, true_and, Bool.and_eq_false_iff]
    by_cases hq : j + 1 = i
    · right
      intro hc
      have := h3 j hq
      rw [cat2_of hj hc] at this
      cases this
    · exact Or.inl hq
theorem EvX.catchN {E : String} (hE : E ∈ jexc) (pre : List (Nat × Nat × Nat × Nat)) (x : Nat × Nat × Nat × Nat) (suf : List (Nat × Nat × Nat × Nat)) (hsp : M.2.2.2.2 = pre ++ x :: suf) (hc : Cond.castable E E ∈ FA)
    (hpre : ∀ z ∈ pre, z.2.2.2 ≠ 0 ∧ ∃ nm ∈ jexc, E ≠ nm ∧ Cond.classLink M.1.cls z.2.2.2 nm ∈ BW) (hlo : x.1 ≤ pc ∧ pc < x.2.1) (h0 : x.2.2.2 ≠ 0) (hk : Cond.classLink M.1.cls x.2.2.2 E ∈ BW)
    {i : Fin 4} {ls1 : List (Option Value)} (hi : st1 ls i .null = some ls1) (dd : decode M.2.1 x.2.2.1 = .ok (.astore_n i, 1)) (kk : Ev X M d mc ms Q (x.2.2.1 + 1) (ls1.set i none) [] h) : EvX X M d mc ms Q pc ls E h := by
  intro p ev R s m args below meth c H locs cells slots lsA rest ce q hB hK hH hS hL hR h1 h2 h3
  refine vx_catch (own := M.1.cls) (name := E) hB.2.2.2.1 (tableOf pre) ⟨x.1, x.2.1, x.2.2.1, x.2.2.2⟩ (tableOf suf) (by rw [hB.2.2.2.2.2.2.1, hsp]; simp [tableOf]) (fun z hz => ?_) ?_ h0 (hK.word hk args) (hK.faw hc args) h1 h2 h3 ?_
  · obtain ⟨y, hy, rfl⟩ := List.mem_map.mp hz
    obtain ⟨q1, nm, q2, q3, q4⟩ := hpre y hy
    exact Or.inr ⟨q1, nm, hK.word q4 args, hK.ks.nc E hE nm q2 q3⟩
  · simp [covers, hlo.1, hlo.2]
  · obtain ⟨g1, g2⟩ := hL.atop hi
    exact lv_astore_n hB.1 hB.2.1 dd rfl hL.has g1 rfl (fun lsB hb9 => kk p ev R s m args below meth c H locs cells slots lsB hB hK hH hS (g2 _ lsB hb9) hR)
theorem EvX.catch {E : String} (hE : E ∈ jexc) (pre : List (Nat × Nat × Nat × Nat)) (x : Nat × Nat × Nat × Nat) (suf : List (Nat × Nat × Nat × Nat)) (hsp : M.2.2.2.2 = pre ++ x :: suf) (hc : Cond.castable E E ∈ FA)
    (hpre : ∀ z ∈ pre, z.2.2.2 ≠ 0 ∧ ∃ nm ∈ jexc, E ≠ nm ∧ Cond.classLink M.1.cls z.2.2.2 nm ∈ BW) (hlo : x.1 ≤ pc ∧ pc < x.2.1) (h0 : x.2.2.2 ≠ 0) (hk : Cond.classLink M.1.cls x.2.2.2 E ∈ BW)
    {i : Nat} {ls1 : List (Option Value)} (hi : st1 ls i .null = some ls1) (dd : decode M.2.1 x.2.2.1 = .ok (.astore i, 2)) (kk : Ev X M d mc ms Q (x.2.2.1 + 2) (ls1.set i none) [] h) : EvX X M d mc ms Q pc ls E h := by
  intro p ev R s m args below meth c H locs cells slots lsA rest ce q hB hK hH hS hL hR h1 h2 h3
  refine vx_catch (own := M.1.cls) (name := E) hB.2.2.2.1 (tableOf pre) ⟨x.1, x.2.1, x.2.2.1, x.2.2.2⟩ (tableOf suf) (by rw [hB.2.2.2.2.2.2.1, hsp]; simp [tableOf]) (fun z hz => ?_) ?_ h0 (hK.word hk args) (hK.faw hc args) h1 h2 h3 ?_
  · obtain ⟨y, hy, rfl⟩ := List.mem_map.mp hz
    obtain ⟨q1, nm, q2, q3, q4⟩ := hpre y hy
    exact Or.inr ⟨q1, nm, hK.word q4 args, hK.ks.nc E hE nm q2 q3⟩
  · simp [covers, hlo.1, hlo.2]
  · obtain ⟨g1, g2⟩ := hL.atop hi
    exact lv_astore hB.1 hB.2.1 dd hL.has g1 rfl (fun lsB hb9 => kk p ev R s m args below meth c H locs cells slots lsB hB hK hH hS (g2 _ lsB hb9) hR)
end EVT
