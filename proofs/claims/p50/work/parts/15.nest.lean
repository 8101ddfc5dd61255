/-! calls of private members of a nest mate -/
section NS
variable {X : JX} {M : JM} {d mc ms : Nat} {Q : JR → Prop} {pc : Nat} {ls : List (Option Value)} {st : List Value} {h : MH}
theorem cn_of {q : JD} {R : Room} {s : State} {args : Array Value} {own host : String} {idx d' mc1 ms1 : Nat} (hK : KK X s) (hq : DB q) (hl : Cond.methodLinkNest own idx q.1 host ∈ NW) (h1 : d' + 1 ≤ R.frames) (h2 : q.2.2.1 + 19 + 40 * d' ≤ R.locals) :
    va_CN R s args own idx q.1 host q.2.1 q.2.2.1 q.2.2.2.1 [Cond.code q.1 q.2.1 q.2.2.1 q.2.2.2.1] ({ frames := d', cells := mc1, slots := ms1, locals := 40 * d' } : Room) mc1 ms1 q.2.2.2.2 := by
  obtain ⟨q1, q2, q3, q4⟩ := hq
  refine ⟨⟨rfl, rfl, h1, by show 8 + (q.2.2.1 + 11) + 40 * d' ≤ R.locals; omega, fun w hw a' U hW => ?_, List.mem_cons_self⟩, hK.word q1 args, hK.word q2 args, ⟨q3.1, q3.2.1⟩, fun sig hs => ?_, va_Nw.use rfl (hK.2.2.1 _ hl)⟩
  · rw [List.mem_singleton.mp hw]
    exact word_at hW (bw_good q1) (hK.word q1 args)
  · have h9 := q3.2.2
    rw [hs] at h9
    exact (Option.some.inj h9).symm
theorem Ev.callSN {q : JD} {idx d' mc1 ms1 : Nat} {As rest : List Value} {Q' : JR → Prop} {host : String} (hq : DS q) (hl : Cond.methodLinkNest M.1.cls idx q.1 host ∈ NW) (hdg : decode M.2.1 pc = .ok (.invokestatic idx, 3)) (hm : MT X d' mc1 ms1 q As h Q') (hd : d' + 1 ≤ d ∧ q.2.2.1 + 19 + 40 * d' ≤ 40 * d) (hc : mc1 ≤ mc ∧ ms1 ≤ ms) (hn : As.length = q.2.2.2.2) (hw : (rest.map fun v => v.category).sum ≤ 8) (kk : ∀ v h', Q' (.inl (v, h')) → Ev X M d (mc - mc1) (ms - ms1) Q (pc + 3) ls (v.toList ++ rest) h') (kx : ∀ E h', Q' (.inr (E, h')) → EvX X M d (mc - mc1) (ms - ms1) Q pc ls E h') : Ev X M d mc ms Q pc ls (As.reverse ++ rest) h := by
  intro p ev R s m args below meth c H locs cells slots lsA hB hK hH hS hL hR
  refine ev_run (a := _) (vx_runSN (Ts := BW) (As := As.map (trV X)) ⟨hB.1, hB.2.1, hB.2.2.1, hB.2.2.2.1, fun w hw => hK.word hw args⟩ hm ⟨cn_of hK hq.1 hl (by omega) (by omega), hK.word hq.2 args, trivial⟩ ⟨fb_MT, fun U hU hW => ⟨rfl, by rw [hU]; exact hH, hK.call hS hU hW⟩⟩ rfl (by rw [List.length_map]; exact hn) (hL.1) (by simp [trV]) (lv_room (by rw [List.map_map]; simpa [Function.comp_def, trV_cat] using hw)) hdg (by omega)) hB hK hS hL hR hc kk kx
theorem Ev.callIN {q : JD} {idx d' mc1 ms1 : Nat} {As rest : List Value} {Q' : JR → Prop} {host : String} {b : Nat} (hq : DI q) (hrt : q.2.2.2.1 = none) (hl : Cond.methodLinkNest M.1.cls idx q.1 host ∈ NW) (hdg : decode M.2.1 pc = .ok (.invokespecial idx, 3)) (hm : MT X d' mc1 ms1 q (.ref b :: As) h Q') (hd : d' + 1 ≤ d ∧ q.2.2.1 + 19 + 40 * d' ≤ 40 * d) (hc : mc1 ≤ mc ∧ ms1 ≤ ms) (hn : As.length = q.2.2.2.2) (hw : (rest.map fun v => v.category).sum ≤ 8) (kk : ∀ v h', Q' (.inl (v, h')) → Ev X M d (mc - mc1) (ms - ms1) Q (pc + 3) ls (v.toList ++ rest) h') (kx : ∀ E h', Q' (.inr (E, h')) → EvX X M d (mc - mc1) (ms - ms1) Q pc ls E h') : Ev X M d mc ms Q pc ls (As.reverse ++ .ref b :: rest) h := by
  intro p ev R s m args below meth c H locs cells slots lsA hB hK hH hS hL hR
  refine ev_run (a := _) (vx_runIN (b := jA X b) (Ts := BW) (As := As.map (trV X)) ⟨hB.1, hB.2.1, hB.2.2.1, hB.2.2.2.1, fun w hw => hK.word hw args⟩ hm ⟨by have := cn_of (R := R) (args := args) (mc1 := mc1) (ms1 := ms1) hK hq.1 hl (d' := d') (by omega) (by omega); rw [hrt] at this ⊢; exact this, hq.2.2, hK.word hq.2.1 args⟩ ⟨fb_MT, fun U hU hW => ⟨rfl, by rw [hU]; exact hH, hK.call hS hU hW⟩⟩ rfl (by rw [List.length_map]; exact hn) (hL.1) (by simp [trV]) (lv_room (by rw [List.map_map]; simpa [Function.comp_def, trV_cat] using hw)) hdg (by omega)) hB hK hS hL hR hc kk kx
end NS
