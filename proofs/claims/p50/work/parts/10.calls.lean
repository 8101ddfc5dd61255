/-! calls and throws -/
/-- an exception of class E on its way at pc -/
def EvX (X : JX) (M : JM) (d mc ms : Nat) (Q : JR → Prop) (pc : Nat) (ls : List (Option Value)) (E : String) (h : MH) : Prop :=
  ∀ (p : Program) (e : Env) (R : Room) (s : State) (m : MethodId) (args : Array Value) (below : List Frame) (meth : Method) (c : Code) (H : Heap) (locs : List Loc) (cells slots : Nat) (lsA : Array Slot) (rest : List Value) (ce : Cell) (q : Addr),
    BF X M p s m meth c → KK X s → Hd X h H → va_S (jF X) s.heap H locs → LH X lsA M.2.2.1 ls → (d ≤ R.frames ∧ 40 * d ≤ R.locals ∧ cells + mc ≤ R.cells ∧ slots + ms ≤ R.slots) → H[q]? = some ce → ce.vm = .none → s.vm.findClass E = some ce.cls →
    vx_W p X.1 e R s m args below meth c H locs cells slots (vx_MQ below (JQ X Q) (JXc X Q) args s R.cells R.slots (jF X)) (F0 m pc lsA rest) q
section CX
variable {X : JX} {M : JM} {d mc ms : Nat} {Q : JR → Prop} {pc : Nat} {ls : List (Option Value)} {st : List Value} {h : MH}
theorem EvX.out {E : String} (hno : M.2.2.2.2 = []) (hq : Q (.inr (E, h))) : EvX X M d mc ms Q pc ls E h := by
  intro p ev R s m args below meth c H locs cells slots lsA rest ce q hB hK hH hS hL hR h1 h2 h3
  refine vx_out (fun x hx => ?_) hB.2.2.2.2.2.1 h1 h2 h3 (fun t ht hW => ⟨⟨h, hq, by rw [ht]; exact hH⟩, hS.F ht⟩) hS.2.2 (by omega) (by omega)
  have ht := hB.2.2.2.2.2.2.1
  rw [hno] at ht
  rw [ht] at hx
  cases hx
theorem KK.call {s U : State} {H : Heap} {locs : List Loc} (hK : KK X s) (hS : va_S (jF X) s.heap H locs) (hU : U.heap = H) (hW : s.WarmedH U.vm) : KK X U :=
  hK.go hW (by rw [hU]; exact hS.1) (fun a h1 h2 => by rw [hU]; exact hS.2.1 a h1 h2)
theorem fb_MT {av : List Value} {h : MH} : FrameBlind (va_Pc (av.map (trV X)) (fun U => Hd X h U.heap ∧ KK X U)) := fun a U g mk q => ⟨q.1, q.2.1, KK.same (u := U) (U := U.calling g mk a) rfl rfl q.2.2⟩
theorem cb_of {q : JD} {R : Room} {s : State} {args : Array Value} {own : String} {idx d' mc1 ms1 : Nat} (hK : KK X s) (hq : DB q) (hl : Cond.methodLink own idx q.1 ∈ BW) (h1 : d' + 1 ≤ R.frames) (h2 : q.2.2.1 + 19 + 40 * d' ≤ R.locals) :
    CallB R s args own idx q.1 q.2.1 q.2.2.1 q.2.2.2.1 [Cond.code q.1 q.2.1 q.2.2.1 q.2.2.2.1] ({ frames := d', cells := mc1, slots := ms1, locals := 40 * d' } : Room) mc1 ms1 q.2.2.2.2 := by
  obtain ⟨q1, q2, q3, q4⟩ := hq
  refine ⟨rfl, rfl, h1, by show 8 + (q.2.2.1 + 11) + 40 * d' ≤ R.locals; omega, fun w hw a' U hW => ?_, List.mem_cons_self, hK.word q1 args, hK.word q2 args, ⟨q3.1, q3.2.1⟩, fun sig hs => ?_, hK.word hl args⟩
  · rw [List.mem_singleton.mp hw]
    exact word_at hW (bw_good q1) (hK.word q1 args)
  · have h9 := q3.2.2
    rw [hs] at h9
    exact (Option.some.inj h9).symm
theorem ev_run {p : Program} {ev : Env} {R : Room} {s : State} {m : MethodId} {args a : Array Value} {below : List Frame} {meth : Method} {c : Code} {H : Heap} {locs : List Loc} {cells slots mc1 ms1 : Nat} {lsA : Array Slot} {rest : List Value} {st0 : List Value} {Q' : JR → Prop}
    (hr : vx_Run p X.1 ev R s m args below meth c H locs cells slots mc1 ms1 (F0 m pc lsA st0) (rest.map (trV X)) (JQ X Q' a) (JXc X Q') (jF X))
    (hB : BF X M p s m meth c) (hK : KK X s) (hS : va_S (jF X) s.heap H locs) (hL : LH X lsA M.2.2.1 ls) (hR : d ≤ R.frames ∧ 40 * d ≤ R.locals ∧ cells + mc ≤ R.cells ∧ slots + ms ≤ R.slots) (hc : mc1 ≤ mc ∧ ms1 ≤ ms)
    (kk : ∀ v h', Q' (.inl (v, h')) → Ev X M d (mc - mc1) (ms - ms1) Q (pc + 3) ls (v.toList ++ rest) h')
    (kx : ∀ E h', Q' (.inr (E, h')) → EvX X M d (mc - mc1) (ms - ms1) Q pc ls E h') :
    W p X.1 ev R s m args below meth c H locs cells slots (vx_MQ below (JQ X Q) (JXc X Q) args s R.cells R.slots (jF X)) (F0 m pc lsA st0) := by
  intro T hT XT
  rcases hr T hT XT with ⟨v, st₀, t, T', L, h0, X', hL', e1, e2, ⟨⟨v0, h', hv, hq', hH'⟩, hF⟩, stp⟩ | ⟨q9, st₀, t, T', L, E, ce, h0, X', hL', e1, e2, ⟨⟨h', hq', hH'⟩, hF⟩, hce, hcv, hcl, stp⟩
  · have hv : v = v0.map (trV X) := by cases hv; rfl
    subst hv
    obtain ⟨k1, k2, k3⟩ := vx_keep h0 e1 hS (fun _ _ h => h) (fun _ h => h) hL' hF
    obtain ⟨t2, a1, b1⟩ := kk v0 h' hq' p ev R s m args below meth c T'.heap (locs ++ L) (cells + mc1) (slots + ms1) lsA hB hK (by rw [e1]; exact hH') k3 hL (by omega) T' rfl X'
    refine ⟨t2, stp t2 ?_, b1⟩
    cases v0 <;> exact a1
  · obtain ⟨k1, k2, k3⟩ := vx_keep h0 e1 hS (fun _ _ h => h) (fun _ h => h) hL' hF
    obtain ⟨t2, a1, b1⟩ := kx E h' hq' p ev R s m args below meth c T'.heap (locs ++ L) (cells + mc1) (slots + ms1) lsA (rest.map (trV X)) ce q9 hB hK (by rw [e1]; exact hH') k3 hL (by omega) (by rw [e1]; exact hce) hcv hcl T' rfl X'
    exact ⟨t2, stp.trans a1, b1⟩
theorem Ev.callV {q : JD} {idx d' mc1 ms1 : Nat} {As rest : List Value} {Q' : JR → Prop} {b ci N : Nat} {T : u_T} {fs : List (Value ⊕ Bool)} (hq : DV q) (hl : Cond.methodLink M.1.cls idx q.1 ∈ BW) (es : zS h b = some (.inr (ci, fs))) (hci : jcl[ci]? = some (q.1.cls, T, N)) (hdg : decode M.2.1 pc = .ok (.invokevirtual idx, 3)) (hm : MT X d' mc1 ms1 q (.ref b :: As) h Q') (hd : d' + 1 ≤ d ∧ q.2.2.1 + 19 + 40 * d' ≤ 40 * d) (hc : mc1 ≤ mc ∧ ms1 ≤ ms) (hn : As.length = q.2.2.2.2) (hw : (rest.map fun v => v.category).sum ≤ 8) (kk : ∀ v h', Q' (.inl (v, h')) → Ev X M d (mc - mc1) (ms - ms1) Q (pc + 3) ls (v.toList ++ rest) h') (kx : ∀ E h', Q' (.inr (E, h')) → EvX X M d (mc - mc1) (ms - ms1) Q pc ls E h') : Ev X M d mc ms Q pc ls (As.reverse ++ .ref b :: rest) h := by
  intro p ev R s m args below meth c H locs cells slots lsA hB hK hH hS hL hR
  refine ev_run (a := _) (vx_runV (C := q.1.cls) (b := jA X b) (Ts := BW) (As := As.map (trV X)) ⟨hB.1, hB.2.1, hB.2.2.1, hB.2.2.2.1, fun w hw => hK.word hw args⟩ hm ⟨cb_of hK hq.1 hl (by omega) (by omega), hK.word hq.2.1 args, hK.word hq.2.2 args⟩ ⟨fb_MT, va_recv (ci := ci) (q0 := b) (fs := fs.mapIdx (fE X h b)) hK.2.1 hH.2.2.2 hci (by rw [ws_at (hH.lt es), cE_obj es (by have := jcl_lt hci; omega)]), fun U hU hW => ⟨rfl, by rw [hU]; exact hH, hK.call hS hU hW⟩⟩ rfl (by rw [List.length_map]; exact hn) (hL.1) (by simp [trV]) (lv_room (by rw [List.map_map]; simpa [Function.comp_def, trV_cat] using hw)) hdg (by omega)) hB hK hS hL hR hc kk kx
theorem Ev.callS {q : JD} {idx d' mc1 ms1 : Nat} {As rest : List Value} {Q' : JR → Prop} (hq : DS q) (hl : Cond.methodLink M.1.cls idx q.1 ∈ BW) (hdg : decode M.2.1 pc = .ok (.invokestatic idx, 3)) (hm : MT X d' mc1 ms1 q As h Q') (hd : d' + 1 ≤ d ∧ q.2.2.1 + 19 + 40 * d' ≤ 40 * d) (hc : mc1 ≤ mc ∧ ms1 ≤ ms) (hn : As.length = q.2.2.2.2) (hw : (rest.map fun v => v.category).sum ≤ 8) (kk : ∀ v h', Q' (.inl (v, h')) → Ev X M d (mc - mc1) (ms - ms1) Q (pc + 3) ls (v.toList ++ rest) h') (kx : ∀ E h', Q' (.inr (E, h')) → EvX X M d (mc - mc1) (ms - ms1) Q pc ls E h') : Ev X M d mc ms Q pc ls (As.reverse ++ rest) h := by
  intro p ev R s m args below meth c H locs cells slots lsA hB hK hH hS hL hR
  refine ev_run (a := _) (vx_runS (Ts := BW) (As := As.map (trV X)) ⟨hB.1, hB.2.1, hB.2.2.1, hB.2.2.2.1, fun w hw => hK.word hw args⟩ hm ⟨cb_of hK hq.1 hl (by omega) (by omega), hK.word hq.2 args⟩ ⟨fb_MT, fun U hU hW => ⟨rfl, by rw [hU]; exact hH, hK.call hS hU hW⟩⟩ rfl (by rw [List.length_map]; exact hn) (hL.1) (by simp [trV]) (lv_room (by rw [List.map_map]; simpa [Function.comp_def, trV_cat] using hw)) hdg (by omega)) hB hK hS hL hR hc kk kx
theorem Ev.callI {q : JD} {idx d' mc1 ms1 : Nat} {As rest : List Value} {Q' : JR → Prop} {b : Nat} (hq : DI q) (hrt : q.2.2.2.1 = none) (hl : Cond.methodLink M.1.cls idx q.1 ∈ BW) (hdg : decode M.2.1 pc = .ok (.invokespecial idx, 3)) (hm : MT X d' mc1 ms1 q (.ref b :: As) h Q') (hd : d' + 1 ≤ d ∧ q.2.2.1 + 19 + 40 * d' ≤ 40 * d) (hc : mc1 ≤ mc ∧ ms1 ≤ ms) (hn : As.length = q.2.2.2.2) (hw : (rest.map fun v => v.category).sum ≤ 8) (kk : ∀ v h', Q' (.inl (v, h')) → Ev X M d (mc - mc1) (ms - ms1) Q (pc + 3) ls (v.toList ++ rest) h') (kx : ∀ E h', Q' (.inr (E, h')) → EvX X M d (mc - mc1) (ms - ms1) Q pc ls E h') : Ev X M d mc ms Q pc ls (As.reverse ++ .ref b :: rest) h := by
  intro p ev R s m args below meth c H locs cells slots lsA hB hK hH hS hL hR
  refine ev_run (a := _) (vx_runI (b := jA X b) (Ts := BW) (As := As.map (trV X)) ⟨hB.1, hB.2.1, hB.2.2.1, hB.2.2.2.1, fun w hw => hK.word hw args⟩ hm ⟨by have := cb_of (R := R) (args := args) (mc1 := mc1) (ms1 := ms1) hK hq.1 hl (d' := d') (by omega) (by omega); rw [hrt] at this ⊢; exact this, hq.2.2, hK.word hq.2.1 args⟩ ⟨fb_MT, fun U hU hW => ⟨rfl, by rw [hU]; exact hH, hK.call hS hU hW⟩⟩ rfl (by rw [List.length_map]; exact hn) (hL.1) (by simp [trV]) (lv_room (by rw [List.map_map]; simpa [Function.comp_def, trV_cat] using hw)) hdg (by omega)) hB hK hS hL hR hc kk kx
end CX
