/-! the StringBuilder: its rules -/
section SUA
variable {p : Program} {l : Launch} {e : Env} {R : Room} {s : State} {m : MethodId} {args : Array Value} {below : List Frame} {meth : Method} {c : Code} {T : State} {locs : List Loc} {cells slots : Nat}
theorem jx_callSU (X : Stand p l e R s m args below meth c T locs cells slots) (hexec : p.tables.exec = Jvm.exec) {own : String} {index : Nat} {y : MethodName} {bytes : ByteArray} {maxL : Nat} {ret : Option FieldType}
    (hown : s.vm.findClass own = some m.cls) (hlink : (Cond.methodLink own index y).before args s = true) (hsame : (Cond.sameMethod y.cls y.cls y.name y.desc).before args s = true) (hsup : (Cond.superclass own y.cls).before args s = true)
    (hinst : (Cond.instanceMethod y).before args s = true) (hcode : (Cond.code y bytes maxL ret).before args s = true) (hno : y.name ≠ "<init>")
    {W9 : Nat} {Pre : Pt → Array Value → Prop} {Post : Pt → Array Value → Option Value → Pt → Prop} {PostX : Pt → Array Value → Addr → Pt → Prop} (hK : vx_Back l R p e below s args y 3 W9 Pre Post PostX)
    {b : Addr} {cellB : Cell} {kB : Class} (hcell : T.heap[b]? = some cellB) (hobj : cellB.vm.isStatics = false) (hkB : s.vm.classes[cellB.cls]? = some kB)
    {g : JFrame} (hg : g.method = m) (hsize : g.locals.size = c.maxLocals) {argsL rest : List Value} (hlen : ∀ sig, parseMethodDescriptor y.desc = some sig → argsL.length = sig.parameters.length)
    (hstack : g.stack = argsL.reverse ++ .ref b :: rest) (hW : 2 * g.monitorRoom + (rest.map fun v => v.category).sum ≤ W9) (hdg : decode c.code g.pc = .ok (.invokespecial index, 3))
    (hpre : ∀ vm₁, s.WarmedH vm₁ → Pre ⟨T.setVm vm₁, locs, cells, slots⟩ (Value.ref b :: argsL).toArray) :
    (∃ (v : Option Value) (vm₁ : Vm) (B : Pt), s.WarmedH vm₁ ∧ Stand p l e R s m args below meth c B.U B.locs B.cells B.slots ∧ Post ⟨T.setVm vm₁, locs, cells, slots⟩ (Value.ref b :: argsL).toArray v B ∧
      ∀ target, Steps p.tables e below (B.U.setTop { g with pc := g.pc + 3, stack := v.toList ++ rest }) target → Steps p.tables e below (T.setTop g) target) ∨
    (∃ (q : Addr) (vm₁ : Vm) (B : Pt), s.WarmedH vm₁ ∧ Stand p l e R s m args below meth c B.U B.locs B.cells B.slots ∧ PostX ⟨T.setVm vm₁, locs, cells, slots⟩ (Value.ref b :: argsL).toArray q B ∧
      Steps p.tables e below (T.setTop g) ((B.U.setTop { g with stack := rest }).pushFrame (.throwing q))) := by
  subst hg
  obtain ⟨mk, methM, hnamed, hmethM, hstM, habM⟩ := Cond.instanceMethod_spec hinst
  obtain ⟨methM', cM, hmethM', -, -, -, -, -, -, hsigM⟩ := Cond.code_spec hnamed hcode
  cases hmethM.symm.trans hmethM'
  obtain ⟨ps, dk, kp, hps, hdk, hkp, hsuper, -, -, hnid⟩ := Cond.superclass_spec hown hsup
  have hn : s.methodNamed? ⟨y.cls, y.name, y.desc⟩ = some mk := hnamed
  have hpm : ps = mk.cls := Option.some.inj (hps.symm.trans (findClass_of_methodNamed hnamed))
  have hsub : s.vm.isSubclass ps mk.cls = true := by rw [hpm]; simp [Vm.isSubclass, Vm.isSubclassAux]
  obtain ⟨vm₁, X₁, hstep₁⟩ := X.invokespecialUp hexec hown hlink hsame hn hmethM hstM habM hno hdk hnid hps hsuper hsub (a := b) (cell := cellB) hcell
    (fun z h => by rw [h] at hobj; cases hobj) hkB (g := g) rfl (argsL := argsL) (rest := rest) (hlen _ hsigM) hstack hdg
  rcases hK g.method meth c ⟨T.setVm vm₁, locs, cells, slots⟩ { g with stack := rest } (.invokespecial index) mk (Value.ref b :: argsL).toArray X₁ rfl hsize hdg hW (X₁.named hnamed) (hpre vm₁ X₁.warmed) with ⟨v, B, X', hpost, hsteps⟩ | ⟨q, B, X', hpost, hsteps⟩
  · exact Or.inl ⟨v, vm₁, B, X₁.warmed, X', hpost, fun target h => hstep₁ _ (by rw [doInvoke_state]; exact hsteps.trans h)⟩
  · exact Or.inr ⟨q, vm₁, B, X₁.warmed, X', hpost, hstep₁ _ (by rw [doInvoke_state]; exact hsteps)⟩
end SUA
section SUB
variable {p : Program} {l : Launch} {e : Env} {R : Room} {s : State} {m : MethodId} {args : Array Value} {below : List Frame} {meth : Method} {c : Code} {H : Heap} {locs : List Loc} {cells slots : Nat}
variable {y : MethodName} {bytes cc : ByteArray} {maxL nL mc ms n index : Nat} {ret : Option FieldType} {ws : List Cond} {rm : Room} {Pc : Array Value → State → Prop} {Qc : Array Value → State → Outcome → State → Prop} {XC : String → State → State → Prop} {free : Addr → Prop} {Ts : List Cond} {own C : String} {b : Addr} {As rest : List Value} {g : JFrame}
theorem jx_runSU (S : CallFix p m c cc nL s args Ts own) (hM : vx_Met l y ws rm Pc Qc XC mc ms free) (cw : CallB R s args own index y bytes maxL ret ws rm mc ms n ∧ y.name ≠ "<init>" ∧ (Cond.instanceMethod y).before args s = true ∧ (Cond.sameMethod y.cls y.cls y.name y.desc).before args s = true ∧ (Cond.superclass own y.cls).before args s = true) (hp : PreV s H C b Pc As)
    (hg : g.method = m) (hn : As.length = n) (hsize : g.locals.size = nL) (hstack : g.stack = As.reverse ++ .ref b :: rest) (hW : 2 * g.monitorRoom + (rest.map fun v => v.category).sum ≤ 8) (hdg : decode cc g.pc = .ok (.invokespecial index, 3)) (hf : cells + mc ≤ R.cells ∧ slots + ms ≤ R.slots) :
    vx_Run p l e R s m args below meth c H locs cells slots mc ms g rest (Qc (Value.ref b :: As).toArray) XC free := by
  have hK : vx_Back l R p e below s args y 3 8 (PreOf R mc ms Pc) (PostOf Qc mc ms free) (vx_Post XC mc ms free) := vx_callBack cw.1 hM hp.1
  obtain ⟨⟨-, -, -, -, -, -, hcode, -, hy, hlen, hl⟩, hy1, hin, hsm, hsp⟩ := cw
  obtain ⟨hx, hb, hml, ho, -⟩ := S
  obtain ⟨-, ⟨cellB, hcB, hoB, hclB⟩, hPc⟩ := hp
  obtain ⟨kB, hkB, -⟩ := Vm.findClass_spec hclB
  intro T hT X
  rcases jx_callSU X hx (bytes := bytes) (maxL := maxL) (ret := ret) ho hl hsm hsp hin hcode hy1 hK (by rw [hT]; exact hcB) hoB hkB hg (hsize.trans hml.symm) (argsL := As) (rest := rest) (fun sig h => hn.trans (hlen sig h)) hstack hW (by rw [hb]; exact hdg)
    (fun vm₁ hW₁ => ⟨hf.1, hf.2, hPc (T.setVm vm₁) hT hW₁⟩) with ⟨v, vm₁, ⟨U', l2, c2, s2⟩, hW₁, X', ⟨g', mk, t, L, e1, e2, hq, h1, hL, h2, h3⟩, st⟩ | ⟨q, vm₁, ⟨U', l2, c2, s2⟩, hW₁, X', ⟨g', mk, t, L, E, ce, e1, e2, hq, hce, hcv, hcl, h1, hL, h2, h3⟩, st⟩
  · dsimp only [Pt.U, Pt.locs, Pt.cells, Pt.slots] at X' e1 e2 h1 h2 h3 st
    subst h1; subst h2; subst h3
    exact Or.inl ⟨v, (T.setVm vm₁).calling g' mk (Value.ref b :: As).toArray, t, U', L, hT, X', hL, e1, e2, hq, st⟩
  · dsimp only [Pt.U, Pt.locs, Pt.cells, Pt.slots] at X' e1 e2 h1 h2 h3 st hcl
    subst h1; subst h2; subst h3
    exact Or.inr ⟨q, (T.setVm vm₁).calling g' mk (Value.ref b :: As).toArray, t, U', L, E, ce, hT, X', hL, e1, e2, hq, hce, hcv, vx_cls hW₁ hcl, st⟩
theorem sel_priv {C : String} {n0 : Nat} (hy : y.cls ≠ "java/lang/invoke/MethodHandle" ∧ y.cls ≠ "java/lang/invoke/VarHandle")
    (hins : (Cond.instantiable C n0).before args s = true) (hsame : (Cond.sameMethod y.cls y.cls y.name y.desc).before args s = true) (hpriv : (Cond.privateMethod y).before args s = true) (hinst : (Cond.instanceMethod y).before args s = true) :
    (Cond.selects C y y).before args s = true := by
  obtain ⟨c, k, hc, hk, -, -, -, -⟩ := Cond.instantiable_spec hins
  obtain ⟨cn, ck, r1, hcn, hck, hni, hf, hn1⟩ := Cond.sameMethod_found hsame
  obtain ⟨mk, methM, hnamed, hmethM, -, -⟩ := Cond.instanceMethod_spec hinst
  have hfound : s.methodFound? y.cls y.name y.desc = some mk := State.methodFound?_of_named hnamed hy
  have hcls : mk.cls = cn := Option.some.inj ((findClass_of_methodNamed hnamed).symm.trans hcn)
  have hsel : selectMethod {} s.vm c mk = .method mk := selectMethod_private hmethM (Cond.privateMethod_at hpriv mk methM hnamed hmethM)
  simp only [Cond.before, Cond.holds, Cond.value, hc, hfound, hnamed, hsel, hcls, hck]
  simp; exact hni
end SUB
section SUC
variable {X : JX} {M : JM} {d mc ms : Nat} {Q : JR → Prop} {pc : Nat} {ls : List (Option Value)} {st : List Value} {h : MH}
/-- a virtual call that finds a method of a superclass -/
theorem Ev.callVU {q : JD} {idx d' mc1 ms1 : Nat} {As rest : List Value} {Q' : JR → Prop} {b ci N : Nat} {C : String} {T : u_T} {fs : List (Value ⊕ Bool)} (hq : DB q) (hin : Cond.instanceMethod q.1 ∈ BW) (hse : ∀ (args : Array Value) (s : State), KK X s → (Cond.selects C q.1 q.1).before args s = true) (hl : Cond.methodLink M.1.cls idx q.1 ∈ BW) (es : zS h b = some (.inr (ci, fs))) (hci : jcl[ci]? = some (C, T, N)) (hdg : decode M.2.1 pc = .ok (.invokevirtual idx, 3)) (hm : MT X d' mc1 ms1 q (.ref b :: As) h Q') (hd : d' + 1 ≤ d ∧ q.2.2.1 + 19 + 40 * d' ≤ 40 * d) (hc : mc1 ≤ mc ∧ ms1 ≤ ms) (hn : As.length = q.2.2.2.2) (hw : (rest.map fun v => v.category).sum ≤ 8) (kk : ∀ v h', Q' (.inl (v, h')) → Ev X M d (mc - mc1) (ms - ms1) Q (pc + 3) ls (v.toList ++ rest) h') (kx : ∀ E h', Q' (.inr (E, h')) → EvX X M d (mc - mc1) (ms - ms1) Q pc ls E h') : Ev X M d mc ms Q pc ls (As.reverse ++ .ref b :: rest) h := by
  intro p ev R s m args below meth c H locs cells slots lsA hB hK hH hS hL hR
  refine ev_run (a := _) (vx_runV (C := C) (b := jA X b) (Ts := BW) (As := As.map (trV X)) ⟨hB.1, hB.2.1, hB.2.2.1, hB.2.2.2.1, fun w hw => hK.word hw args⟩ hm ⟨cb_of hK hq hl (by omega) (by omega), hK.word hin args, hse args s hK⟩ ⟨fb_MT, va_recv (ci := ci) (q0 := b) (fs := fs.mapIdx (fE X h b)) hK.2.1 hH.2.2.2 hci (by rw [ws_at (hH.lt es), cE_obj es (by have := jcl_lt hci; omega)]), fun U hU hW => ⟨rfl, by rw [hU]; exact hH, hK.call hS hU hW⟩⟩ rfl (by rw [List.length_map]; exact hn) (hL.1) (by simp [trV]) (lv_room (by rw [List.map_map]; simpa [Function.comp_def, trV_cat] using hw)) hdg (by omega)) hB hK hS hL hR hc kk kx
/-- super.m(..) -/
theorem Ev.callSU {q : JD} {idx d' mc1 ms1 : Nat} {As rest : List Value} {Q' : JR → Prop} {b ci N : Nat} {C : String} {T : u_T} {fs : List (Value ⊕ Bool)} (hq : DB q) (hin : Cond.instanceMethod q.1 ∈ BW) (hsm : Cond.sameMethod q.1.cls q.1.cls q.1.name q.1.desc ∈ BW) (hsp : Cond.superclass M.1.cls q.1.cls ∈ BW) (hno : q.1.name ≠ "<init>") (hl : Cond.methodLink M.1.cls idx q.1 ∈ BW) (es : zS h b = some (.inr (ci, fs))) (hci : jcl[ci]? = some (C, T, N)) (hdg : decode M.2.1 pc = .ok (.invokespecial idx, 3)) (hm : MT X d' mc1 ms1 q (.ref b :: As) h Q') (hd : d' + 1 ≤ d ∧ q.2.2.1 + 19 + 40 * d' ≤ 40 * d) (hc : mc1 ≤ mc ∧ ms1 ≤ ms) (hn : As.length = q.2.2.2.2) (hw : (rest.map fun v => v.category).sum ≤ 8) (kk : ∀ v h', Q' (.inl (v, h')) → Ev X M d (mc - mc1) (ms - ms1) Q (pc + 3) ls (v.toList ++ rest) h') (kx : ∀ E h', Q' (.inr (E, h')) → EvX X M d (mc - mc1) (ms - ms1) Q pc ls E h') : Ev X M d mc ms Q pc ls (As.reverse ++ .ref b :: rest) h := by
  intro p ev R s m args below meth c H locs cells slots lsA hB hK hH hS hL hR
  refine ev_run (a := _) (jx_runSU (C := C) (b := jA X b) (Ts := BW) (As := As.map (trV X)) ⟨hB.1, hB.2.1, hB.2.2.1, hB.2.2.2.1, fun w hw => hK.word hw args⟩ hm ⟨cb_of hK hq hl (by omega) (by omega), hno, hK.word hin args, hK.word hsm args, hK.word hsp args⟩ ⟨fb_MT, va_recv (ci := ci) (q0 := b) (fs := fs.mapIdx (fE X h b)) hK.2.1 hH.2.2.2 hci (by rw [ws_at (hH.lt es), cE_obj es (by have := jcl_lt hci; omega)]), fun U hU hW => ⟨rfl, by rw [hU]; exact hH, hK.call hS hU hW⟩⟩ rfl (by rw [List.length_map]; exact hn) (hL.1) (by simp [trV]) (lv_room (by rw [List.map_map]; simpa [Function.comp_def, trV_cat] using hw)) hdg (by omega)) hB hK hS hL hR hc kk kx
theorem Ev.ldcI {idx : Nat} {x : Int32} (hl : Cond.constant M.1.cls idx x ∈ BW) (hdg : decode M.2.1 pc = .ok (.ldc idx, 2)) (k : Ev X M d mc ms Q (pc + 2) ls (.int x :: st) h) : Ev X M d mc ms Q pc ls st h := by
  intro p ev R s m args below meth c H locs cells slots lsA hB hK hH hS hL hR
  exact lv_ldc hB.1 hB.2.1 hB.2.2.2.1 (hK.word hl args) hdg (k p ev R s m args below meth c H locs cells slots lsA hB hK hH hS hL hR)
theorem Ev.dupx1 {a b : Value} (ha : a.category = 1) (hb : b.category = 1) (hdg : decode M.2.1 pc = .ok (.dup_x1, 1)) (k : Ev X M d mc ms Q (pc + 1) ls (a :: b :: a :: st) h) : Ev X M d mc ms Q pc ls (a :: b :: st) h := by
  intro p ev R s m args below meth c H locs cells slots lsA hB hK hH hS hL hR
  exact lv_dup_x1 hB.1 hB.2.1 hdg (by rw [trV_cat]; exact ha) (by rw [trV_cat]; exact hb) (k p ev R s m args below meth c H locs cells slots lsA hB hK hH hS hL hR)
end SUC
theorem dJ45 : Cond.superclass RJ4 RJ5 ∈ BW := bw_of 271 (by decide +kernel) (by decide +kernel)
theorem dJ4n : Cond.instantiable RJ4 4 ∈ BW := bw_of 241 (by decide +kernel) (by decide +kernel)
theorem dbJ5_ensureCapacityInternal_d00df : DB jdJ5_ensureCapacityInternal_d00df := ⟨bw_of 1035 (by decide +kernel) (by decide +kernel), bw_of 8 (by decide +kernel) (by decide +kernel), by decide +kernel, by decide +kernel⟩
theorem dnJ5_ensureCapacityInternal_d00df : Cond.instanceMethod yJ5_ensureCapacityInternal_d00df ∈ BW := bw_of 1034 (by decide +kernel) (by decide +kernel)
theorem dmJ5_ensureCapacityInternal_d00df : Cond.sameMethod RJ5 RJ5 "ensureCapacityInternal" "(I)V" ∈ BW := bw_of 1422 (by decide +kernel) (by decide +kernel)
theorem dpJ5_ensureCapacityInternal_d00df : Cond.privateMethod yJ5_ensureCapacityInternal_d00df ∈ FA := List.mem_filter.mpr ⟨List.mem_of_getElem? (show tables_1[1033]? = some _ by decide +kernel), by decide +kernel⟩
theorem dlJ5_ensureCapacityInternal_d00df {X : JX} : ∀ (args : Array Value) (s : State), KK X s → (Cond.selects RJ4 yJ5_ensureCapacityInternal_d00df yJ5_ensureCapacityInternal_d00df).before args s = true := fun args s hK => sel_priv (by decide +kernel) (hK.word dJ4n args) (hK.word dmJ5_ensureCapacityInternal_d00df args) (hK.faw dpJ5_ensureCapacityInternal_d00df args) (hK.word dnJ5_ensureCapacityInternal_d00df args)
theorem dbJ5_newCapacity_0f7a4 : DB jdJ5_newCapacity_0f7a4 := ⟨bw_of 1039 (by decide +kernel) (by decide +kernel), bw_of 8 (by decide +kernel) (by decide +kernel), by decide +kernel, by decide +kernel⟩
theorem dnJ5_newCapacity_0f7a4 : Cond.instanceMethod yJ5_newCapacity_0f7a4 ∈ BW := bw_of 1038 (by decide +kernel) (by decide +kernel)
theorem dmJ5_newCapacity_0f7a4 : Cond.sameMethod RJ5 RJ5 "newCapacity" "(I)I" ∈ BW := bw_of 1423 (by decide +kernel) (by decide +kernel)
theorem dpJ5_newCapacity_0f7a4 : Cond.privateMethod yJ5_newCapacity_0f7a4 ∈ FA := List.mem_filter.mpr ⟨List.mem_of_getElem? (show tables_1[1037]? = some _ by decide +kernel), by decide +kernel⟩
theorem dlJ5_newCapacity_0f7a4 {X : JX} : ∀ (args : Array Value) (s : State), KK X s → (Cond.selects RJ4 yJ5_newCapacity_0f7a4 yJ5_newCapacity_0f7a4).before args s = true := fun args s hK => sel_priv (by decide +kernel) (hK.word dJ4n args) (hK.word dmJ5_newCapacity_0f7a4 args) (hK.faw dpJ5_newCapacity_0f7a4 args) (hK.word dnJ5_newCapacity_0f7a4 args)
theorem dbJ5_isLatin1_aae02 : DB jdJ5_isLatin1_aae02 := ⟨bw_of 1065 (by decide +kernel) (by decide +kernel), bw_of 8 (by decide +kernel) (by decide +kernel), by decide +kernel, by decide +kernel⟩
theorem dnJ5_isLatin1_aae02 : Cond.instanceMethod yJ5_isLatin1_aae02 ∈ BW := bw_of 1062 (by decide +kernel) (by decide +kernel)
theorem dmJ5_isLatin1_aae02 : Cond.sameMethod RJ5 RJ5 "isLatin1" "()Z" ∈ BW := bw_of 1063 (by decide +kernel) (by decide +kernel)
theorem dlJ5_isLatin1_aae02 {X : JX} : ∀ (args : Array Value) (s : State), KK X s → (Cond.selects RJ4 yJ5_isLatin1_aae02 yJ5_isLatin1_aae02).before args s = true := fun args s hK => hK.word (bw_of 1064 (by decide +kernel) (by decide +kernel)) args
theorem dbJ5_append_3fe6f : DB jdJ5_append_3fe6f := ⟨bw_of 1260 (by decide +kernel) (by decide +kernel), bw_of 8 (by decide +kernel) (by decide +kernel), by decide +kernel, by decide +kernel⟩
theorem dnJ5_append_3fe6f : Cond.instanceMethod yJ5_append_3fe6f ∈ BW := bw_of 1259 (by decide +kernel) (by decide +kernel)
theorem dmJ5_append_3fe6f : Cond.sameMethod RJ5 RJ5 "append" "(C)Ljava/lang/AbstractStringBuilder;" ∈ BW := bw_of 1428 (by decide +kernel) (by decide +kernel)
theorem dbJ5_append_c97b9 : DB jdJ5_append_c97b9 := ⟨bw_of 1122 (by decide +kernel) (by decide +kernel), bw_of 8 (by decide +kernel) (by decide +kernel), by decide +kernel, by decide +kernel⟩
theorem dnJ5_append_c97b9 : Cond.instanceMethod yJ5_append_c97b9 ∈ BW := bw_of 1121 (by decide +kernel) (by decide +kernel)
theorem dmJ5_append_c97b9 : Cond.sameMethod RJ5 RJ5 "append" "(I)Ljava/lang/AbstractStringBuilder;" ∈ BW := bw_of 1427 (by decide +kernel) (by decide +kernel)
theorem dbJ5_charAt_5068e : DB jdJ5_charAt_5068e := ⟨bw_of 1376 (by decide +kernel) (by decide +kernel), bw_of 8 (by decide +kernel) (by decide +kernel), by decide +kernel, by decide +kernel⟩
theorem dnJ5_charAt_5068e : Cond.instanceMethod yJ5_charAt_5068e ∈ BW := bw_of 1375 (by decide +kernel) (by decide +kernel)
theorem dmJ5_charAt_5068e : Cond.sameMethod RJ5 RJ5 "charAt" "(I)C" ∈ BW := bw_of 1430 (by decide +kernel) (by decide +kernel)
theorem dbJ5_length_8abf5 : DB jdJ5_length_8abf5 := ⟨bw_of 1166 (by decide +kernel) (by decide +kernel), bw_of 8 (by decide +kernel) (by decide +kernel), by decide +kernel, by decide +kernel⟩
theorem dnJ5_length_8abf5 : Cond.instanceMethod yJ5_length_8abf5 ∈ BW := bw_of 1160 (by decide +kernel) (by decide +kernel)
theorem dmJ5_length_8abf5 : Cond.sameMethod RJ5 RJ5 "length" "()I" ∈ BW := bw_of 1161 (by decide +kernel) (by decide +kernel)
theorem dbJ5_setLength_d00df : DB jdJ5_setLength_d00df := ⟨bw_of 1012 (by decide +kernel) (by decide +kernel), bw_of 8 (by decide +kernel) (by decide +kernel), by decide +kernel, by decide +kernel⟩
theorem dnJ5_setLength_d00df : Cond.instanceMethod yJ5_setLength_d00df ∈ BW := bw_of 1011 (by decide +kernel) (by decide +kernel)
theorem dmJ5_setLength_d00df : Cond.sameMethod RJ5 RJ5 "setLength" "(I)V" ∈ BW := bw_of 1419 (by decide +kernel) (by decide +kernel)
theorem sJ4_append_bf812_0 : JSeg (jm jdJ4_append_bf812) [(0, .aload_n 0, 0, 0), (1, .iload_n 1, 0, 0)] := ⟨by decide +kernel, trivial, trivial, trivial⟩
theorem sJ4_append_bf812_5 : JSeg (jm jdJ4_append_bf812) [(5, .pop, 0, 0), (6, .aload_n 0, 0, 0)] := ⟨by decide +kernel, trivial, trivial, trivial⟩
theorem dJ4_append_bf812_2 : decode cJ4_append_bf812 2 = .ok (.invokespecial 53, 3) := by decide +kernel
theorem dJ4_append_bf812_7 : decode cJ4_append_bf812 7 = .ok (.areturn, 1) := by decide +kernel
theorem sJ4_append_cf468_0 : JSeg (jm jdJ4_append_cf468) [(0, .aload_n 0, 0, 0), (1, .iload_n 1, 0, 0)] := ⟨by decide +kernel, trivial, trivial, trivial⟩
theorem sJ4_append_cf468_5 : JSeg (jm jdJ4_append_cf468) [(5, .pop, 0, 0), (6, .aload_n 0, 0, 0)] := ⟨by decide +kernel, trivial, trivial, trivial⟩
theorem dJ4_append_cf468_2 : decode cJ4_append_cf468 2 = .ok (.invokespecial 50, 3) := by decide +kernel
theorem dJ4_append_cf468_7 : decode cJ4_append_cf468 7 = .ok (.areturn, 1) := by decide +kernel
theorem sJ4_charAt_5068e_0 : JSeg (jm jdJ4_charAt_5068e) [(0, .aload_n 0, 0, 0), (1, .iload_n 1, 0, 0)] := ⟨by decide +kernel, trivial, trivial, trivial⟩
theorem dJ4_charAt_5068e_2 : decode cJ4_charAt_5068e 2 = .ok (.invokespecial 329, 3) := by decide +kernel
theorem dJ4_charAt_5068e_5 : decode cJ4_charAt_5068e 5 = .ok (.ireturn, 1) := by decide +kernel
theorem sJ4_length_8abf5_0 : JSeg (jm jdJ4_length_8abf5) [(0, .aload_n 0, 0, 0)] := ⟨by decide +kernel, trivial, trivial⟩
theorem dJ4_length_8abf5_1 : decode cJ4_length_8abf5 1 = .ok (.invokespecial 343, 3) := by decide +kernel
theorem dJ4_length_8abf5_4 : decode cJ4_length_8abf5 4 = .ok (.ireturn, 1) := by decide +kernel
theorem sJ4_setLength_d00df_0 : JSeg (jm jdJ4_setLength_d00df) [(0, .aload_n 0, 0, 0), (1, .iload_n 1, 0, 0)] := ⟨by decide +kernel, trivial, trivial, trivial⟩
theorem dJ4_setLength_d00df_2 : decode cJ4_setLength_d00df 2 = .ok (.invokespecial 333, 3) := by decide +kernel
theorem dJ4_setLength_d00df_5 : decode cJ4_setLength_d00df 5 = .ok (.return_, 1) := by decide +kernel
theorem fpJ5_79 : FP0 RJ5 79 8 3 := ⟨_, _, _, _, ci_J4, by decide, bw_of 262 (by decide +kernel) (by decide +kernel), rfl, rfl⟩
theorem sJ5_append_3fe6f_0 : JSeg (jm jdJ5_append_3fe6f) [(0, .aload_n 0, 0, 0), (1, .aload_n 0, 0, 0), (2, .getfield 79, 8, 3), (5, .iconst 1, 0, 0), (6, .iadd, 0, 0)] := ⟨by decide +kernel, trivial, trivial, fkJ5_79, trivial, trivial, trivial⟩
theorem sJ5_append_3fe6f_10 : JSeg (jm jdJ5_append_3fe6f) [(10, .aload_n 0, 0, 0)] := ⟨by decide +kernel, trivial, trivial⟩
theorem sJ5_append_3fe6f_17 : JSeg (jm jdJ5_append_3fe6f) [(17, .iload_n 1, 0, 0)] := ⟨by decide +kernel, trivial, trivial⟩
theorem sJ5_append_3fe6f_24 : JSeg (jm jdJ5_append_3fe6f) [(24, .aload_n 0, 0, 0), (25, .getfield 15, 8, 0), (28, .aload_n 0, 0, 0), (29, .dup, 0, 0), (30, .getfield 79, 8, 3)] := ⟨by decide +kernel, trivial, fkJ5_15, trivial, trivial, fkJ5_79, trivial⟩
theorem sJ5_append_3fe6f_34 : JSeg (jm jdJ5_append_3fe6f) [(34, .iconst 1, 0, 0), (35, .iadd, 0, 0), (36, .putfield 79, 8, 3), (39, .iload_n 1, 0, 0), (40, .i2b, 0, 0)] := ⟨by decide +kernel, trivial, trivial, fpJ5_79, trivial, trivial, trivial⟩
theorem sJ5_append_3fe6f_42 : JSeg (jm jdJ5_append_3fe6f) [(42, .goto 33, 0, 0)] := ⟨by decide +kernel, trivial, trivial⟩
theorem sJ5_append_3fe6f_45 : JSeg (jm jdJ5_append_3fe6f) [(45, .aload_n 0, 0, 0)] := ⟨by decide +kernel, trivial, trivial⟩
theorem sJ5_append_3fe6f_52 : JSeg (jm jdJ5_append_3fe6f) [(52, .aload_n 0, 0, 0)] := ⟨by decide +kernel, trivial, trivial⟩
theorem sJ5_append_3fe6f_56 : JSeg (jm jdJ5_append_3fe6f) [(56, .aload_n 0, 0, 0), (57, .getfield 15, 8, 0), (60, .aload_n 0, 0, 0), (61, .dup, 0, 0), (62, .getfield 79, 8, 3)] := ⟨by decide +kernel, trivial, fkJ5_15, trivial, trivial, fkJ5_79, trivial⟩
theorem sJ5_append_3fe6f_66 : JSeg (jm jdJ5_append_3fe6f) [(66, .iconst 1, 0, 0), (67, .iadd, 0, 0), (68, .putfield 79, 8, 3), (71, .iload_n 1, 0, 0)] := ⟨by decide +kernel, trivial, trivial, fpJ5_79, trivial, trivial⟩
theorem sJ5_append_3fe6f_75 : JSeg (jm jdJ5_append_3fe6f) [(75, .aload_n 0, 0, 0)] := ⟨by decide +kernel, trivial, trivial⟩
theorem dJ5_append_3fe6f_7 : decode cJ5_append_3fe6f 7 = .ok (.invokevirtual 100, 3) := by decide +kernel
theorem dJ5_append_3fe6f_11 : decode cJ5_append_3fe6f 11 = .ok (.invokevirtual 83, 3) := by decide +kernel
theorem dJ5_append_3fe6f_14 : decode cJ5_append_3fe6f 14 = .ok (.ifCond .eq 31, 3) := by decide +kernel
theorem dJ5_append_3fe6f_18 : decode cJ5_append_3fe6f 18 = .ok (.invokestatic 191, 3) := by decide +kernel
theorem dJ5_append_3fe6f_21 : decode cJ5_append_3fe6f 21 = .ok (.ifCond .eq 24, 3) := by decide +kernel
theorem dJ5_append_3fe6f_33 : decode cJ5_append_3fe6f 33 = .ok (.dup_x1, 1) := by decide +kernel
theorem dJ5_append_3fe6f_41 : decode cJ5_append_3fe6f 41 = .ok (.bastore, 1) := by decide +kernel
theorem dJ5_append_3fe6f_46 : decode cJ5_append_3fe6f 46 = .ok (.invokevirtual 83, 3) := by decide +kernel
theorem dJ5_append_3fe6f_49 : decode cJ5_append_3fe6f 49 = .ok (.ifCond .eq 7, 3) := by decide +kernel
theorem dJ5_append_3fe6f_53 : decode cJ5_append_3fe6f 53 = .ok (.invokevirtual 195, 3) := by decide +kernel
theorem dJ5_append_3fe6f_65 : decode cJ5_append_3fe6f 65 = .ok (.dup_x1, 1) := by decide +kernel
theorem dJ5_append_3fe6f_72 : decode cJ5_append_3fe6f 72 = .ok (.invokestatic 197, 3) := by decide +kernel
theorem dJ5_append_3fe6f_76 : decode cJ5_append_3fe6f 76 = .ok (.areturn, 1) := by decide +kernel
theorem sJ5_append_c97b9_0 : JSeg (jm jdJ5_append_c97b9) [(0, .aload_n 0, 0, 0), (1, .getfield 79, 8, 3), (4, .istore_n 2, 0, 0), (5, .iload_n 2, 0, 0), (6, .iload_n 1, 0, 0)] := ⟨by decide +kernel, trivial, fkJ5_79, trivial, trivial, trivial, trivial⟩
theorem sJ5_append_c97b9_10 : JSeg (jm jdJ5_append_c97b9) [(10, .iadd, 0, 0), (11, .istore_n 3, 0, 0), (12, .aload_n 0, 0, 0), (13, .iload_n 3, 0, 0)] := ⟨by decide +kernel, trivial, trivial, trivial, trivial, trivial⟩
theorem sJ5_append_c97b9_17 : JSeg (jm jdJ5_append_c97b9) [(17, .aload_n 0, 0, 0)] := ⟨by decide +kernel, trivial, trivial⟩
theorem sJ5_append_c97b9_24 : JSeg (jm jdJ5_append_c97b9) [(24, .iload_n 1, 0, 0), (25, .iload_n 3, 0, 0), (26, .aload_n 0, 0, 0), (27, .getfield 15, 8, 0)] := ⟨by decide +kernel, trivial, trivial, trivial, fkJ5_15, trivial⟩
theorem sJ5_append_c97b9_33 : JSeg (jm jdJ5_append_c97b9) [(33, .pop, 0, 0), (34, .goto 14, 0, 0)] := ⟨by decide +kernel, trivial, trivial, trivial⟩
theorem sJ5_append_c97b9_37 : JSeg (jm jdJ5_append_c97b9) [(37, .iload_n 1, 0, 0), (38, .iload_n 2, 0, 0), (39, .iload_n 3, 0, 0), (40, .aload_n 0, 0, 0), (41, .getfield 15, 8, 0)] := ⟨by decide +kernel, trivial, trivial, trivial, trivial, fkJ5_15, trivial⟩
theorem sJ5_append_c97b9_47 : JSeg (jm jdJ5_append_c97b9) [(47, .pop, 0, 0)] := ⟨by decide +kernel, trivial, trivial⟩
theorem sJ5_append_c97b9_48 : JSeg (jm jdJ5_append_c97b9) [(48, .aload_n 0, 0, 0), (49, .iload_n 3, 0, 0), (50, .putfield 79, 8, 3), (53, .aload_n 0, 0, 0)] := ⟨by decide +kernel, trivial, trivial, fpJ5_79, trivial, trivial⟩
theorem dJ5_append_c97b9_7 : decode cJ5_append_c97b9 7 = .ok (.invokestatic 245, 3) := by decide +kernel
theorem dJ5_append_c97b9_14 : decode cJ5_append_c97b9 14 = .ok (.invokevirtual 100, 3) := by decide +kernel
theorem dJ5_append_c97b9_18 : decode cJ5_append_c97b9 18 = .ok (.invokevirtual 83, 3) := by decide +kernel
theorem dJ5_append_c97b9_21 : decode cJ5_append_c97b9 21 = .ok (.ifCond .eq 16, 3) := by decide +kernel
theorem dJ5_append_c97b9_30 : decode cJ5_append_c97b9 30 = .ok (.invokestatic 248, 3) := by decide +kernel
theorem dJ5_append_c97b9_44 : decode cJ5_append_c97b9 44 = .ok (.invokestatic 251, 3) := by decide +kernel
theorem dJ5_append_c97b9_54 : decode cJ5_append_c97b9 54 = .ok (.areturn, 1) := by decide +kernel
theorem sJ5_charAt_5068e_0 : JSeg (jm jdJ5_charAt_5068e) [(0, .aload_n 0, 0, 0), (1, .getfield 22, 8, 1), (4, .istore_n 2, 0, 0), (5, .aload_n 0, 0, 0), (6, .getfield 15, 8, 0), (9, .astore_n 3, 0, 0), (10, .aload_n 0, 0, 0), (11, .getfield 79, 8, 3), (14, .aload_n 3, 0, 0), (15, .arraylength, 0, 0), (16, .iload_n 2, 0, 0), (17, .ishr, 0, 0)] := ⟨by decide +kernel, trivial, fkJ5_22, trivial, trivial, fkJ5_15, trivial, trivial, fkJ5_79, trivial, trivial, trivial, trivial, trivial⟩
theorem sJ5_charAt_5068e_21 : JSeg (jm jdJ5_charAt_5068e) [(21, .istore 4, 0, 0), (23, .iload_n 1, 0, 0), (24, .iload 4, 0, 0)] := ⟨by decide +kernel, trivial, trivial, trivial, trivial⟩
theorem sJ5_charAt_5068e_29 : JSeg (jm jdJ5_charAt_5068e) [(29, .iload_n 2, 0, 0)] := ⟨by decide +kernel, trivial, trivial⟩
theorem sJ5_charAt_5068e_33 : JSeg (jm jdJ5_charAt_5068e) [(33, .aload_n 3, 0, 0), (34, .iload_n 1, 0, 0)] := ⟨by decide +kernel, trivial, trivial, trivial⟩
theorem sJ5_charAt_5068e_36 : JSeg (jm jdJ5_charAt_5068e) [(36, .sipush 255, 0, 0), (39, .iand, 0, 0), (40, .i2c, 0, 0)] := ⟨by decide +kernel, trivial, trivial, trivial, trivial⟩
theorem sJ5_charAt_5068e_42 : JSeg (jm jdJ5_charAt_5068e) [(42, .aload_n 3, 0, 0), (43, .iload_n 1, 0, 0)] := ⟨by decide +kernel, trivial, trivial, trivial⟩
theorem dJ5_charAt_5068e_18 : decode cJ5_charAt_5068e 18 = .ok (.invokestatic 138, 3) := by decide +kernel
theorem dJ5_charAt_5068e_26 : decode cJ5_charAt_5068e 26 = .ok (.invokestatic 144, 3) := by decide +kernel
theorem dJ5_charAt_5068e_30 : decode cJ5_charAt_5068e 30 = .ok (.ifCond .ne 12, 3) := by decide +kernel
theorem dJ5_charAt_5068e_35 : decode cJ5_charAt_5068e 35 = .ok (.baload, 1) := by decide +kernel
theorem dJ5_charAt_5068e_41 : decode cJ5_charAt_5068e 41 = .ok (.ireturn, 1) := by decide +kernel
theorem dJ5_charAt_5068e_44 : decode cJ5_charAt_5068e 44 = .ok (.invokestatic 148, 3) := by decide +kernel
theorem dJ5_charAt_5068e_47 : decode cJ5_charAt_5068e 47 = .ok (.ireturn, 1) := by decide +kernel
theorem sJ5_ensureCapacityInternal_d00df_0 : JSeg (jm jdJ5_ensureCapacityInternal_d00df) [(0, .aload_n 0, 0, 0), (1, .getfield 15, 8, 0), (4, .arraylength, 0, 0), (5, .aload_n 0, 0, 0), (6, .getfield 22, 8, 1), (9, .ishr, 0, 0), (10, .istore_n 2, 0, 0), (11, .iload_n 1, 0, 0), (12, .iload_n 2, 0, 0), (13, .isub, 0, 0)] := ⟨by decide +kernel, trivial, fkJ5_15, trivial, trivial, fkJ5_22, trivial, trivial, trivial, trivial, trivial, trivial⟩
theorem sJ5_ensureCapacityInternal_d00df_17 : JSeg (jm jdJ5_ensureCapacityInternal_d00df) [(17, .aload_n 0, 0, 0), (18, .aload_n 0, 0, 0), (19, .getfield 15, 8, 0), (22, .aload_n 0, 0, 0), (23, .iload_n 1, 0, 0)] := ⟨by decide +kernel, trivial, trivial, fkJ5_15, trivial, trivial, trivial⟩
theorem sJ5_ensureCapacityInternal_d00df_27 : JSeg (jm jdJ5_ensureCapacityInternal_d00df) [(27, .aload_n 0, 0, 0), (28, .getfield 22, 8, 1), (31, .ishl, 0, 0)] := ⟨by decide +kernel, trivial, fkJ5_22, trivial, trivial⟩
theorem dJ5_ensureCapacityInternal_d00df_14 : decode cJ5_ensureCapacityInternal_d00df 14 = .ok (.ifCond .le 24, 3) := by decide +kernel
theorem dJ5_ensureCapacityInternal_d00df_24 : decode cJ5_ensureCapacityInternal_d00df 24 = .ok (.invokevirtual 104, 3) := by decide +kernel
theorem dJ5_ensureCapacityInternal_d00df_32 : decode cJ5_ensureCapacityInternal_d00df 32 = .ok (.invokestatic 108, 3) := by decide +kernel
theorem dJ5_ensureCapacityInternal_d00df_35 : decode cJ5_ensureCapacityInternal_d00df 35 = .ok (.putfield 15, 3) := by decide +kernel
theorem dJ5_ensureCapacityInternal_d00df_38 : decode cJ5_ensureCapacityInternal_d00df 38 = .ok (.return_, 1) := by decide +kernel
theorem sJ5_isLatin1_aae02_6 : JSeg (jm jdJ5_isLatin1_aae02) [(6, .aload_n 0, 0, 0), (7, .getfield 22, 8, 1)] := ⟨by decide +kernel, trivial, fkJ5_22, trivial⟩
theorem sJ5_isLatin1_aae02_13 : JSeg (jm jdJ5_isLatin1_aae02) [(13, .iconst 1, 0, 0), (14, .goto 4, 0, 0)] := ⟨by decide +kernel, trivial, trivial, trivial⟩
theorem sJ5_isLatin1_aae02_17 : JSeg (jm jdJ5_isLatin1_aae02) [(17, .iconst 0, 0, 0)] := ⟨by decide +kernel, trivial, trivial⟩
theorem dJ5_isLatin1_aae02_0 : decode cJ5_isLatin1_aae02 0 = .ok (.getstatic 18, 3) := by decide +kernel
theorem dJ5_isLatin1_aae02_3 : decode cJ5_isLatin1_aae02 3 = .ok (.ifCond .eq 14, 3) := by decide +kernel
theorem dJ5_isLatin1_aae02_10 : decode cJ5_isLatin1_aae02 10 = .ok (.ifCond .ne 7, 3) := by decide +kernel
theorem dJ5_isLatin1_aae02_18 : decode cJ5_isLatin1_aae02 18 = .ok (.ireturn, 1) := by decide +kernel
theorem sJ5_length_8abf5_0 : JSeg (jm jdJ5_length_8abf5) [(0, .aload_n 0, 0, 0), (1, .getfield 79, 8, 3)] := ⟨by decide +kernel, trivial, fkJ5_79, trivial⟩
theorem dJ5_length_8abf5_4 : decode cJ5_length_8abf5 4 = .ok (.ireturn, 1) := by decide +kernel
theorem sJ5_newCapacity_0f7a4_0 : JSeg (jm jdJ5_newCapacity_0f7a4) [(0, .aload_n 0, 0, 0), (1, .getfield 15, 8, 0), (4, .arraylength, 0, 0), (5, .istore_n 2, 0, 0), (6, .iload_n 1, 0, 0), (7, .aload_n 0, 0, 0), (8, .getfield 22, 8, 1), (11, .ishl, 0, 0), (12, .istore_n 3, 0, 0), (13, .iload_n 3, 0, 0), (14, .iload_n 2, 0, 0), (15, .isub, 0, 0), (16, .istore 4, 0, 0), (18, .iload_n 2, 0, 0), (19, .iload 4, 0, 0), (21, .iload_n 2, 0, 0), (22, .iconst 2, 0, 0), (23, .aload_n 0, 0, 0), (24, .getfield 22, 8, 1), (27, .ishl, 0, 0), (28, .iadd, 0, 0)] := ⟨by decide +kernel, trivial, fkJ5_15, trivial, trivial, trivial, trivial, fkJ5_22, trivial, trivial, trivial, trivial, trivial, trivial, trivial, trivial, trivial, trivial, trivial, fkJ5_22, trivial, trivial, trivial⟩
theorem sJ5_newCapacity_0f7a4_32 : JSeg (jm jdJ5_newCapacity_0f7a4) [(32, .istore 5, 0, 0), (34, .iload 5, 0, 0)] := ⟨by decide +kernel, trivial, trivial, trivial⟩
theorem sJ5_newCapacity_0f7a4_44 : JSeg (jm jdJ5_newCapacity_0f7a4) [(44, .dup, 0, 0)] := ⟨by decide +kernel, trivial, trivial⟩
theorem sJ5_newCapacity_0f7a4_51 : JSeg (jm jdJ5_newCapacity_0f7a4) [(51, .iload 5, 0, 0), (53, .aload_n 0, 0, 0), (54, .getfield 22, 8, 1), (57, .ishr, 0, 0)] := ⟨by decide +kernel, trivial, trivial, fkJ5_22, trivial, trivial⟩
theorem dJ5_newCapacity_0f7a4_29 : decode cJ5_newCapacity_0f7a4 29 = .ok (.invokestatic 114, 3) := by decide +kernel
theorem dJ5_newCapacity_0f7a4_36 : decode cJ5_newCapacity_0f7a4 36 = .ok (.ldc 39, 2) := by decide +kernel
theorem dJ5_newCapacity_0f7a4_38 : decode cJ5_newCapacity_0f7a4 38 = .ok (.if_icmp .ne 13, 3) := by decide +kernel
theorem dJ5_newCapacity_0f7a4_41 : decode cJ5_newCapacity_0f7a4 41 = .ok (.new 120, 3) := by decide +kernel
theorem dJ5_newCapacity_0f7a4_45 : decode cJ5_newCapacity_0f7a4 45 = .ok (.ldc 122, 2) := by decide +kernel
theorem dJ5_newCapacity_0f7a4_47 : decode cJ5_newCapacity_0f7a4 47 = .ok (.invokespecial 124, 3) := by decide +kernel
theorem dJ5_newCapacity_0f7a4_50 : decode cJ5_newCapacity_0f7a4 50 = .ok (.athrow, 1) := by decide +kernel
theorem dJ5_newCapacity_0f7a4_58 : decode cJ5_newCapacity_0f7a4 58 = .ok (.ireturn, 1) := by decide +kernel
theorem sJ5_setLength_d00df_0 : JSeg (jm jdJ5_setLength_d00df) [(0, .iload_n 1, 0, 0)] := ⟨by decide +kernel, trivial, trivial⟩
theorem sJ5_setLength_d00df_7 : JSeg (jm jdJ5_setLength_d00df) [(7, .dup, 0, 0), (8, .iload_n 1, 0, 0)] := ⟨by decide +kernel, trivial, trivial, trivial⟩
theorem sJ5_setLength_d00df_13 : JSeg (jm jdJ5_setLength_d00df) [(13, .aload_n 0, 0, 0), (14, .iload_n 1, 0, 0)] := ⟨by decide +kernel, trivial, trivial, trivial⟩
theorem sJ5_setLength_d00df_18 : JSeg (jm jdJ5_setLength_d00df) [(18, .aload_n 0, 0, 0), (19, .getfield 79, 8, 3), (22, .iload_n 1, 0, 0)] := ⟨by decide +kernel, trivial, fkJ5_79, trivial, trivial⟩
theorem sJ5_setLength_d00df_26 : JSeg (jm jdJ5_setLength_d00df) [(26, .aload_n 0, 0, 0)] := ⟨by decide +kernel, trivial, trivial⟩
theorem sJ5_setLength_d00df_33 : JSeg (jm jdJ5_setLength_d00df) [(33, .aload_n 0, 0, 0), (34, .getfield 15, 8, 0), (37, .aload_n 0, 0, 0), (38, .getfield 79, 8, 3), (41, .iload_n 1, 0, 0)] := ⟨by decide +kernel, trivial, fkJ5_15, trivial, fkJ5_79, trivial, trivial⟩
theorem sJ5_setLength_d00df_45 : JSeg (jm jdJ5_setLength_d00df) [(45, .goto 31, 0, 0)] := ⟨by decide +kernel, trivial, trivial⟩
theorem sJ5_setLength_d00df_48 : JSeg (jm jdJ5_setLength_d00df) [(48, .aload_n 0, 0, 0), (49, .getfield 15, 8, 0), (52, .aload_n 0, 0, 0), (53, .getfield 79, 8, 3), (56, .iload_n 1, 0, 0)] := ⟨by decide +kernel, trivial, fkJ5_15, trivial, fkJ5_79, trivial, trivial⟩
theorem sJ5_setLength_d00df_60 : JSeg (jm jdJ5_setLength_d00df) [(60, .goto 16, 0, 0)] := ⟨by decide +kernel, trivial, trivial⟩
theorem sJ5_setLength_d00df_63 : JSeg (jm jdJ5_setLength_d00df) [(63, .aload_n 0, 0, 0), (64, .getfield 79, 8, 3), (67, .iload_n 1, 0, 0)] := ⟨by decide +kernel, trivial, fkJ5_79, trivial, trivial⟩
theorem sJ5_setLength_d00df_71 : JSeg (jm jdJ5_setLength_d00df) [(71, .aload_n 0, 0, 0), (72, .iconst 1, 0, 0)] := ⟨by decide +kernel, trivial, trivial, trivial⟩
theorem sJ5_setLength_d00df_76 : JSeg (jm jdJ5_setLength_d00df) [(76, .aload_n 0, 0, 0), (77, .iload_n 1, 0, 0), (78, .putfield 79, 8, 3)] := ⟨by decide +kernel, trivial, trivial, fpJ5_79, trivial⟩
theorem dJ5_setLength_d00df_1 : decode cJ5_setLength_d00df 1 = .ok (.ifCond .ge 12, 3) := by decide +kernel
theorem dJ5_setLength_d00df_4 : decode cJ5_setLength_d00df 4 = .ok (.new 129, 3) := by decide +kernel
theorem dJ5_setLength_d00df_9 : decode cJ5_setLength_d00df 9 = .ok (.invokespecial 131, 3) := by decide +kernel
theorem dJ5_setLength_d00df_12 : decode cJ5_setLength_d00df 12 = .ok (.athrow, 1) := by decide +kernel
theorem dJ5_setLength_d00df_15 : decode cJ5_setLength_d00df 15 = .ok (.invokevirtual 100, 3) := by decide +kernel
theorem dJ5_setLength_d00df_23 : decode cJ5_setLength_d00df 23 = .ok (.if_icmp .ge 40, 3) := by decide +kernel
theorem dJ5_setLength_d00df_27 : decode cJ5_setLength_d00df 27 = .ok (.invokevirtual 83, 3) := by decide +kernel
theorem dJ5_setLength_d00df_30 : decode cJ5_setLength_d00df 30 = .ok (.ifCond .eq 18, 3) := by decide +kernel
theorem dJ5_setLength_d00df_42 : decode cJ5_setLength_d00df 42 = .ok (.invokestatic 133, 3) := by decide +kernel
theorem dJ5_setLength_d00df_57 : decode cJ5_setLength_d00df 57 = .ok (.invokestatic 137, 3) := by decide +kernel
theorem dJ5_setLength_d00df_68 : decode cJ5_setLength_d00df 68 = .ok (.if_icmp .le 8, 3) := by decide +kernel
theorem dJ5_setLength_d00df_73 : decode cJ5_setLength_d00df 73 = .ok (.putfield 73, 3) := by decide +kernel
theorem dJ5_setLength_d00df_81 : decode cJ5_setLength_d00df 81 = .ok (.return_, 1) := by decide +kernel
theorem sJ6_getChars_ba4f3_0 : JSeg (jm jdJ6_getChars_ba4f3) [(0, .iload_n 1, 0, 0), (1, .istore 5, 0, 0), (3, .iload_n 0, 0, 0)] := ⟨by decide +kernel, trivial, trivial, trivial, trivial⟩
theorem sJ6_getChars_ba4f3_7 : JSeg (jm jdJ6_getChars_ba4f3) [(7, .iconst 1, 0, 0), (8, .goto 4, 0, 0)] := ⟨by decide +kernel, trivial, trivial, trivial⟩
theorem sJ6_getChars_ba4f3_11 : JSeg (jm jdJ6_getChars_ba4f3) [(11, .iconst 0, 0, 0)] := ⟨by decide +kernel, trivial, trivial⟩
theorem sJ6_getChars_ba4f3_12 : JSeg (jm jdJ6_getChars_ba4f3) [(12, .istore 6, 0, 0), (14, .iload 6, 0, 0)] := ⟨by decide +kernel, trivial, trivial, trivial⟩
theorem sJ6_getChars_ba4f3_19 : JSeg (jm jdJ6_getChars_ba4f3) [(19, .iload_n 0, 0, 0), (20, .ineg, 0, 0), (21, .istore_n 0, 0, 0)] := ⟨by decide +kernel, trivial, trivial, trivial, trivial⟩
theorem sJ6_getChars_ba4f3_22 : JSeg (jm jdJ6_getChars_ba4f3) [(22, .iload_n 0, 0, 0), (23, .bipush (-100), 0, 0)] := ⟨by decide +kernel, trivial, trivial, trivial⟩
theorem sJ6_getChars_ba4f3_28 : JSeg (jm jdJ6_getChars_ba4f3) [(28, .iload_n 0, 0, 0), (29, .bipush 100, 0, 0)] := ⟨by decide +kernel, trivial, trivial, trivial⟩
theorem sJ6_getChars_ba4f3_32 : JSeg (jm jdJ6_getChars_ba4f3) [(32, .istore_n 3, 0, 0), (33, .iload_n 3, 0, 0), (34, .bipush 100, 0, 0), (36, .imul, 0, 0), (37, .iload_n 0, 0, 0), (38, .isub, 0, 0), (39, .istore 4, 0, 0), (41, .iload_n 3, 0, 0), (42, .istore_n 0, 0, 0), (43, .aload_n 2, 0, 0), (44, .iinc 5 (-1), 0, 0), (47, .iload 5, 0, 0)] := ⟨by decide +kernel, trivial, trivial, trivial, trivial, trivial, trivial, trivial, trivial, trivial, trivial, trivial, trivial, trivial⟩
theorem sJ6_getChars_ba4f3_52 : JSeg (jm jdJ6_getChars_ba4f3) [(52, .iload 4, 0, 0)] := ⟨by decide +kernel, trivial, trivial⟩
theorem sJ6_getChars_ba4f3_56 : JSeg (jm jdJ6_getChars_ba4f3) [(56, .aload_n 2, 0, 0), (57, .iinc 5 (-1), 0, 0), (60, .iload 5, 0, 0)] := ⟨by decide +kernel, trivial, trivial, trivial, trivial⟩
theorem sJ6_getChars_ba4f3_65 : JSeg (jm jdJ6_getChars_ba4f3) [(65, .iload 4, 0, 0)] := ⟨by decide +kernel, trivial, trivial⟩
theorem sJ6_getChars_ba4f3_69 : JSeg (jm jdJ6_getChars_ba4f3) [(69, .goto (-47), 0, 0)] := ⟨by decide +kernel, trivial, trivial⟩
theorem sJ6_getChars_ba4f3_72 : JSeg (jm jdJ6_getChars_ba4f3) [(72, .aload_n 2, 0, 0), (73, .iinc 5 (-1), 0, 0), (76, .iload 5, 0, 0)] := ⟨by decide +kernel, trivial, trivial, trivial, trivial⟩
theorem sJ6_getChars_ba4f3_81 : JSeg (jm jdJ6_getChars_ba4f3) [(81, .iload_n 0, 0, 0), (82, .ineg, 0, 0)] := ⟨by decide +kernel, trivial, trivial, trivial⟩
theorem sJ6_getChars_ba4f3_85 : JSeg (jm jdJ6_getChars_ba4f3) [(85, .iload_n 0, 0, 0), (86, .bipush (-9), 0, 0)] := ⟨by decide +kernel, trivial, trivial, trivial⟩
theorem sJ6_getChars_ba4f3_91 : JSeg (jm jdJ6_getChars_ba4f3) [(91, .aload_n 2, 0, 0), (92, .iinc 5 (-1), 0, 0), (95, .iload 5, 0, 0)] := ⟨by decide +kernel, trivial, trivial, trivial, trivial⟩
theorem sJ6_getChars_ba4f3_100 : JSeg (jm jdJ6_getChars_ba4f3) [(100, .iload_n 0, 0, 0), (101, .ineg, 0, 0)] := ⟨by decide +kernel, trivial, trivial, trivial⟩
theorem sJ6_getChars_ba4f3_104 : JSeg (jm jdJ6_getChars_ba4f3) [(104, .iload 6, 0, 0)] := ⟨by decide +kernel, trivial, trivial⟩
theorem sJ6_getChars_ba4f3_109 : JSeg (jm jdJ6_getChars_ba4f3) [(109, .aload_n 2, 0, 0), (110, .iinc 5 (-1), 0, 0), (113, .iload 5, 0, 0), (115, .bipush 45, 0, 0)] := ⟨by decide +kernel, trivial, trivial, trivial, trivial, trivial⟩
theorem sJ6_getChars_ba4f3_118 : JSeg (jm jdJ6_getChars_ba4f3) [(118, .iload 5, 0, 0)] := ⟨by decide +kernel, trivial, trivial⟩
theorem dJ6_getChars_ba4f3_4 : decode cJ6_getChars_ba4f3 4 = .ok (.ifCond .ge 7, 3) := by decide +kernel
theorem dJ6_getChars_ba4f3_16 : decode cJ6_getChars_ba4f3 16 = .ok (.ifCond .ne 6, 3) := by decide +kernel
theorem dJ6_getChars_ba4f3_25 : decode cJ6_getChars_ba4f3 25 = .ok (.if_icmp .gt 47, 3) := by decide +kernel
theorem dJ6_getChars_ba4f3_31 : decode cJ6_getChars_ba4f3 31 = .ok (.idiv, 1) := by decide +kernel
theorem dJ6_getChars_ba4f3_49 : decode cJ6_getChars_ba4f3 49 = .ok (.getstatic 83, 3) := by decide +kernel
theorem dJ6_getChars_ba4f3_54 : decode cJ6_getChars_ba4f3 54 = .ok (.baload, 1) := by decide +kernel
theorem dJ6_getChars_ba4f3_55 : decode cJ6_getChars_ba4f3 55 = .ok (.bastore, 1) := by decide +kernel
theorem dJ6_getChars_ba4f3_62 : decode cJ6_getChars_ba4f3 62 = .ok (.getstatic 87, 3) := by decide +kernel
theorem dJ6_getChars_ba4f3_67 : decode cJ6_getChars_ba4f3 67 = .ok (.baload, 1) := by decide +kernel
theorem dJ6_getChars_ba4f3_68 : decode cJ6_getChars_ba4f3 68 = .ok (.bastore, 1) := by decide +kernel
theorem dJ6_getChars_ba4f3_78 : decode cJ6_getChars_ba4f3 78 = .ok (.getstatic 83, 3) := by decide +kernel
theorem dJ6_getChars_ba4f3_83 : decode cJ6_getChars_ba4f3 83 = .ok (.baload, 1) := by decide +kernel
theorem dJ6_getChars_ba4f3_84 : decode cJ6_getChars_ba4f3 84 = .ok (.bastore, 1) := by decide +kernel
theorem dJ6_getChars_ba4f3_88 : decode cJ6_getChars_ba4f3 88 = .ok (.if_icmp .ge 16, 3) := by decide +kernel
theorem dJ6_getChars_ba4f3_97 : decode cJ6_getChars_ba4f3 97 = .ok (.getstatic 87, 3) := by decide +kernel
theorem dJ6_getChars_ba4f3_102 : decode cJ6_getChars_ba4f3 102 = .ok (.baload, 1) := by decide +kernel
theorem dJ6_getChars_ba4f3_103 : decode cJ6_getChars_ba4f3 103 = .ok (.bastore, 1) := by decide +kernel
theorem dJ6_getChars_ba4f3_106 : decode cJ6_getChars_ba4f3 106 = .ok (.ifCond .eq 12, 3) := by decide +kernel
theorem dJ6_getChars_ba4f3_117 : decode cJ6_getChars_ba4f3 117 = .ok (.bastore, 1) := by decide +kernel
theorem dJ6_getChars_ba4f3_120 : decode cJ6_getChars_ba4f3 120 = .ok (.ireturn, 1) := by decide +kernel
theorem sJ6_stringSize_0f7a4_0 : JSeg (jm jdJ6_stringSize_0f7a4) [(0, .iconst 1, 0, 0), (1, .istore_n 1, 0, 0), (2, .iload_n 0, 0, 0)] := ⟨by decide +kernel, trivial, trivial, trivial, trivial⟩
theorem sJ6_stringSize_0f7a4_6 : JSeg (jm jdJ6_stringSize_0f7a4) [(6, .iconst 0, 0, 0), (7, .istore_n 1, 0, 0), (8, .iload_n 0, 0, 0), (9, .ineg, 0, 0), (10, .istore_n 0, 0, 0)] := ⟨by decide +kernel, trivial, trivial, trivial, trivial, trivial, trivial⟩
theorem sJ6_stringSize_0f7a4_11 : JSeg (jm jdJ6_stringSize_0f7a4) [(11, .bipush (-10), 0, 0), (13, .istore_n 2, 0, 0), (14, .iconst 1, 0, 0), (15, .istore_n 3, 0, 0)] := ⟨by decide +kernel, trivial, trivial, trivial, trivial, trivial⟩
theorem sJ6_stringSize_0f7a4_16 : JSeg (jm jdJ6_stringSize_0f7a4) [(16, .iload_n 3, 0, 0), (17, .bipush 10, 0, 0)] := ⟨by decide +kernel, trivial, trivial, trivial⟩
theorem sJ6_stringSize_0f7a4_22 : JSeg (jm jdJ6_stringSize_0f7a4) [(22, .iload_n 0, 0, 0), (23, .iload_n 2, 0, 0)] := ⟨by decide +kernel, trivial, trivial, trivial⟩
theorem sJ6_stringSize_0f7a4_27 : JSeg (jm jdJ6_stringSize_0f7a4) [(27, .iload_n 3, 0, 0), (28, .iload_n 1, 0, 0), (29, .iadd, 0, 0)] := ⟨by decide +kernel, trivial, trivial, trivial, trivial⟩
theorem sJ6_stringSize_0f7a4_31 : JSeg (jm jdJ6_stringSize_0f7a4) [(31, .bipush 10, 0, 0), (33, .iload_n 2, 0, 0), (34, .imul, 0, 0), (35, .istore_n 2, 0, 0), (36, .iinc 3 1, 0, 0), (39, .goto (-23), 0, 0)] := ⟨by decide +kernel, trivial, trivial, trivial, trivial, trivial, trivial, trivial⟩
theorem sJ6_stringSize_0f7a4_42 : JSeg (jm jdJ6_stringSize_0f7a4) [(42, .bipush 10, 0, 0), (44, .iload_n 1, 0, 0), (45, .iadd, 0, 0)] := ⟨by decide +kernel, trivial, trivial, trivial, trivial⟩
theorem dJ6_stringSize_0f7a4_3 : decode cJ6_stringSize_0f7a4 3 = .ok (.ifCond .lt 8, 3) := by decide +kernel
theorem dJ6_stringSize_0f7a4_19 : decode cJ6_stringSize_0f7a4 19 = .ok (.if_icmp .ge 23, 3) := by decide +kernel
theorem dJ6_stringSize_0f7a4_24 : decode cJ6_stringSize_0f7a4 24 = .ok (.if_icmp .le 7, 3) := by decide +kernel
theorem dJ6_stringSize_0f7a4_30 : decode cJ6_stringSize_0f7a4 30 = .ok (.ireturn, 1) := by decide +kernel
theorem dJ6_stringSize_0f7a4_46 : decode cJ6_stringSize_0f7a4 46 = .ok (.ireturn, 1) := by decide +kernel
theorem sJ7_copyOf_9075b_0 : JSeg (jm jdJ7_copyOf_9075b) [(0, .iload_n 1, 0, 0), (1, .aload_n 0, 0, 0), (2, .arraylength, 0, 0)] := ⟨by decide +kernel, trivial, trivial, trivial, trivial⟩
theorem sJ7_copyOf_9075b_6 : JSeg (jm jdJ7_copyOf_9075b) [(6, .aload_n 0, 0, 0)] := ⟨by decide +kernel, trivial, trivial⟩
theorem sJ7_copyOf_9075b_14 : JSeg (jm jdJ7_copyOf_9075b) [(14, .iload_n 1, 0, 0)] := ⟨by decide +kernel, trivial, trivial⟩
theorem sJ7_copyOf_9075b_17 : JSeg (jm jdJ7_copyOf_9075b) [(17, .astore_n 2, 0, 0), (18, .aload_n 0, 0, 0), (19, .iconst 0, 0, 0), (20, .aload_n 2, 0, 0), (21, .iconst 0, 0, 0), (22, .aload_n 0, 0, 0), (23, .arraylength, 0, 0), (24, .iload_n 1, 0, 0)] := ⟨by decide +kernel, trivial, trivial, trivial, trivial, trivial, trivial, trivial, trivial, trivial⟩
theorem sJ7_copyOf_9075b_31 : JSeg (jm jdJ7_copyOf_9075b) [(31, .aload_n 2, 0, 0)] := ⟨by decide +kernel, trivial, trivial⟩
theorem dJ7_copyOf_9075b_3 : decode cJ7_copyOf_9075b 3 = .ok (.if_icmp .ne 11, 3) := by decide +kernel
theorem dJ7_copyOf_9075b_7 : decode cJ7_copyOf_9075b 7 = .ok (.invokevirtual 310, 3) := by decide +kernel
theorem dJ7_copyOf_9075b_10 : decode cJ7_copyOf_9075b 10 = .ok (.checkcast 311, 3) := by decide +kernel
theorem dJ7_copyOf_9075b_13 : decode cJ7_copyOf_9075b 13 = .ok (.areturn, 1) := by decide +kernel
theorem dJ7_copyOf_9075b_15 : decode cJ7_copyOf_9075b 15 = .ok (.newarray .byte, 2) := by decide +kernel
theorem dJ7_copyOf_9075b_25 : decode cJ7_copyOf_9075b 25 = .ok (.invokestatic 304, 3) := by decide +kernel
theorem dJ7_copyOf_9075b_28 : decode cJ7_copyOf_9075b 28 = .ok (.invokestatic 150, 3) := by decide +kernel
theorem dJ7_copyOf_9075b_32 : decode cJ7_copyOf_9075b 32 = .ok (.areturn, 1) := by decide +kernel
theorem sJ8_newLength_cabcc_0 : JSeg (jm jdJ8_newLength_cabcc) [(0, .iload_n 0, 0, 0), (1, .iload_n 1, 0, 0), (2, .iload_n 2, 0, 0)] := ⟨by decide +kernel, trivial, trivial, trivial, trivial⟩
theorem sJ8_newLength_cabcc_6 : JSeg (jm jdJ8_newLength_cabcc) [(6, .iadd, 0, 0), (7, .istore_n 3, 0, 0), (8, .iconst 0, 0, 0), (9, .iload_n 3, 0, 0)] := ⟨by decide +kernel, trivial, trivial, trivial, trivial, trivial⟩
theorem sJ8_newLength_cabcc_13 : JSeg (jm jdJ8_newLength_cabcc) [(13, .iload_n 3, 0, 0)] := ⟨by decide +kernel, trivial, trivial⟩
theorem sJ8_newLength_cabcc_19 : JSeg (jm jdJ8_newLength_cabcc) [(19, .iload_n 3, 0, 0)] := ⟨by decide +kernel, trivial, trivial⟩
theorem sJ8_newLength_cabcc_21 : JSeg (jm jdJ8_newLength_cabcc) [(21, .iload_n 0, 0, 0), (22, .iload_n 1, 0, 0)] := ⟨by decide +kernel, trivial, trivial, trivial⟩
theorem dJ8_newLength_cabcc_3 : decode cJ8_newLength_cabcc 3 = .ok (.invokestatic 194, 3) := by decide +kernel
theorem dJ8_newLength_cabcc_10 : decode cJ8_newLength_cabcc 10 = .ok (.if_icmp .ge 11, 3) := by decide +kernel
theorem dJ8_newLength_cabcc_14 : decode cJ8_newLength_cabcc 14 = .ok (.ldc 200, 2) := by decide +kernel
theorem dJ8_newLength_cabcc_16 : decode cJ8_newLength_cabcc 16 = .ok (.if_icmp .gt 5, 3) := by decide +kernel
theorem dJ8_newLength_cabcc_20 : decode cJ8_newLength_cabcc 20 = .ok (.ireturn, 1) := by decide +kernel
theorem dJ8_newLength_cabcc_23 : decode cJ8_newLength_cabcc 23 = .ok (.invokestatic 201, 3) := by decide +kernel
theorem dJ8_newLength_cabcc_26 : decode cJ8_newLength_cabcc 26 = .ok (.ireturn, 1) := by decide +kernel
theorem sJ1_canEncode_fc78d_0 : JSeg (jm jdJ1_canEncode_fc78d) [(0, .iload_n 0, 0, 0), (1, .sipush 255, 0, 0)] := ⟨by decide +kernel, trivial, trivial, trivial⟩
theorem sJ1_canEncode_fc78d_7 : JSeg (jm jdJ1_canEncode_fc78d) [(7, .iconst 1, 0, 0), (8, .goto 4, 0, 0)] := ⟨by decide +kernel, trivial, trivial, trivial⟩
theorem sJ1_canEncode_fc78d_11 : JSeg (jm jdJ1_canEncode_fc78d) [(11, .iconst 0, 0, 0)] := ⟨by decide +kernel, trivial, trivial⟩
theorem dJ1_canEncode_fc78d_4 : decode cJ1_canEncode_fc78d 4 = .ok (.if_icmp .gt 7, 3) := by decide +kernel
theorem dJ1_canEncode_fc78d_12 : decode cJ1_canEncode_fc78d 12 = .ok (.ireturn, 1) := by decide +kernel
