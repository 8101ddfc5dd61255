/-! the law's methods: one call of the class, with handlers -/
abbrev JHs : Type := List (Nat × Nat × Nat × Nat)
def DSH (q : JD) (hh : JHs) : Prop := (Cond.codeWith q.1 q.2.1 q.2.2.1 q.2.2.2.1 hh ∈ BW ∧ Cond.initialized q.1.cls ∈ BW ∧ (q.1.cls ≠ "java/lang/invoke/MethodHandle" ∧ q.1.cls ≠ "java/lang/invoke/VarHandle" ∧ (parseMethodDescriptor q.1.desc).map (fun d => d.parameters.length) = some q.2.2.2.2) ∧ plainName q.1.cls = true) ∧ Cond.static q.1 ∈ BW
abbrev jmH (q : JD) (hh : JHs) : JM := (q.1, q.2.1, q.2.2.1, q.2.2.2.1, hh)
def MTH (X : JX) (d mc ms : Nat) (q : JD) (hh : JHs) (av : List Value) (h : MH) (Q : JR → Prop) : Prop :=
  vx_Met X.1 q.1 [Cond.codeWith q.1 q.2.1 q.2.2.1 q.2.2.2.1 hh] ({ frames := d, cells := mc, slots := ms, locals := 40 * d } : Room) (va_Pc (av.map (trV X)) (fun U => Hd X h U.heap ∧ KK X U)) (JQ X Q) (JXc X Q) mc ms (jF X)
theorem MTH.of {X : JX} {d mc ms : Nat} {q : JD} {hh : JHs} {av : List Value} {h : MH} {Q : JR → Prop} (hb : DSH q hh) (hc : ∀ v ∈ av, v.category = 1) (hn : av.length ≤ q.2.2.1)
    (k : Ev X (jmH q hh) d mc ms Q 0 (entL q.2.2.1 av) [] h) : MTH X d mc ms q hh av h Q := by
  refine vx_ofWH (cc := q.2.1) (maxL := q.2.2.1) (ret := q.2.2.2.1) (hh := hh) hb.1.2.2.2 rfl ?_
  intro p e s m args below meth c s₁ B hml hv
  obtain ⟨rfl, hH, hK⟩ := hv
  have hown : s.vm.findClass q.1.cls = some m.cls := findClass_of_methodNamed B.named
  have htab : c.exceptionTable.toList = tableOf hh := vx_table (x := q.1) B (atoms_spec B.pre _ List.mem_cons_self)
  rw [lg_entry_eq]
  exact k p e _ s m _ below meth c s.heap [] 0 0 _ ⟨B.exec, B.bytes, hml, hown, B.returns, B.notSynchronized, htab, (name_of_methodNamed B.named B.method).1⟩ hK hH va_S.rf (LH.entry hc hn) ⟨Nat.le_refl _, Nat.le_refl _, Nat.le_of_eq (Nat.zero_add _), Nat.le_of_eq (Nat.zero_add _)⟩
theorem MTH.mk {X : JX} {d mc ms : Nat} {q : JD} {hh : JHs} {av : List Value} {h : MH} {Q : JR → Prop} (hb : DSH q hh) (k : Ev X (jmH q hh) d mc ms Q 0 (entL q.2.2.1 av) [] h) (hc : av.all (fun v => v.category == 1) = true := by rfl) (hn : Nat.ble av.length q.2.2.1 = true := by rfl) : MTH X d mc ms q hh av h Q :=
  MTH.of hb (fun v hv => by have := List.all_eq_true.mp hc v hv; simpa using this) (Nat.le_of_ble_eq_true hn) k
section CXH
variable {X : JX} {M : JM} {d mc ms : Nat} {Q : JR → Prop} {pc : Nat} {ls : List (Option Value)} {st : List Value} {h : MH}
theorem Ev.callSX {q : JD} {hh : JHs} {idx d' mc1 ms1 : Nat} {As rest : List Value} {Q' : JR → Prop} (hq : DSH q hh) (hl : Cond.methodLink M.1.cls idx q.1 ∈ BW) (hdg : decode M.2.1 pc = .ok (.invokestatic idx, 3)) (hm : MTH X d' mc1 ms1 q hh As h Q') (hd : d' + 1 ≤ d ∧ q.2.2.1 + 19 + 40 * d' ≤ 40 * d) (hc : mc1 ≤ mc ∧ ms1 ≤ ms) (hn : As.length = q.2.2.2.2) (hw : (rest.map fun v => v.category).sum ≤ 8) (kk : ∀ v h', Q' (.inl (v, h')) → Ev X M d (mc - mc1) (ms - ms1) Q (pc + 3) ls (v.toList ++ rest) h') (kx : ∀ E h', Q' (.inr (E, h')) → EvX X M d (mc - mc1) (ms - ms1) Q pc ls E h') : Ev X M d mc ms Q pc ls (As.reverse ++ rest) h := by
  intro p ev R s m args below meth c H locs cells slots lsA hB hK hH hS hL hR
  obtain ⟨⟨q1, q2, q3, q4⟩, q5⟩ := hq
  have hcw : vx_CSW R s args M.1.cls idx q.1 q.2.1 q.2.2.1 q.2.2.2.1 hh [Cond.codeWith q.1 q.2.1 q.2.2.1 q.2.2.2.1 hh] ({ frames := d', cells := mc1, slots := ms1, locals := 40 * d' } : Room) mc1 ms1 q.2.2.2.2 := by
    refine ⟨⟨rfl, rfl, by show d' + 1 ≤ R.frames; omega, by show 8 + (q.2.2.1 + 11) + 40 * d' ≤ R.locals; omega, fun w hw a' U hW => ?_, List.mem_cons_self⟩, hK.word q1 args, hK.word q2 args, ⟨q3.1, q3.2.1⟩, fun sig hs => ?_, hK.word hl args, hK.word q5 args⟩
    · rw [List.mem_singleton.mp hw]
      exact word_at hW (bw_good q1) (hK.word q1 args)
    · have h9 := q3.2.2
      rw [hs] at h9
      exact (Option.some.inj h9).symm
  refine ev_run (a := _) (vx_runSX (hh := hh) (Ts := BW) (As := As.map (trV X)) ⟨hB.1, hB.2.1, hB.2.2.1, hB.2.2.2.1, fun w hw => hK.word hw args⟩ hm hcw ⟨fb_MT, fun U hU hW => ⟨rfl, by rw [hU]; exact hH, hK.call hS hU hW⟩⟩ rfl (by rw [List.length_map]; exact hn) (hL.1) (by simp [trV]) (lv_room (by rw [List.map_map]; simpa [Function.comp_def, trV_cat] using hw)) hdg (by omega)) hB hK hS hL hR hc kk kx
end CXH
/-- the answers of the law's methods: 0 and the value kept, or the number of the handler -/
def wQ (cd : String → Int32) (P : Option Value → MH → MH → Prop) (Q' : JR → Prop) : JR → Prop := fun R => (∃ v h' h2, Q' (.inl (v, h')) ∧ P v h' h2 ∧ R = .inl (some (.int 0), h2)) ∨ ∃ E h', Q' (.inr (E, h')) ∧ R = .inl (some (.int (cd E)), h')
def wI (v : Option Value) (h' h2 : MH) : Prop := ∃ x, v = some (.int x) ∧ h2 = setL h' 405 0 x.toInt64
def wZ (v : Option Value) (h' h2 : MH) : Prop := ∃ x, v = some (.int x) ∧ h2 = setL h' 405 0 (if x = 0 then 0 else 1)
def wD (v : Option Value) (h' h2 : MH) : Prop := ∃ x, v = some (.double x) ∧ h2 = setD h' 406 0 x
def wF (v : Option Value) (h' h2 : MH) : Prop := ∃ x, v = some (.float x) ∧ h2 = setD h' 406 0 (FP.f2d x)
def wJ (v : Option Value) (h' h2 : MH) : Prop := ∃ x, v = some (.long x) ∧ h2 = setL h' 405 0 x
def wV (v : Option Value) (h' h2 : MH) : Prop := v = none ∧ h2 = h'
def cdE (l : List String) (E : String) : Int32 := nI (l.findIdx (· == E) + 1)
