/-! the machine keeps step with the mini machine: instruction by instruction -/
theorem up2_ne {α : Type} {f : Nat → Nat → α} {a k b : Nat} {v : α} (h : b ≠ a) : up2 f a k v b = f b := by
  funext j
  simp [up2, h]
theorem up2_eq {α : Type} {f : Nat → Nat → α} {a k : Nat} {v : α} : up2 f a k v a = fun j => if j = k then v else f a j := by
  funext j
  simp [up2]
theorem upS_ne {f : Nat → Option JS} {a b : Nat} {v : JS} (h : b ≠ a) : upS f a v b = f b := by simp [upS, h]
theorem upS_eq {f : Nat → Option JS} {a : Nat} {v : JS} : upS f a v a = some v := by simp [upS]
theorem cE_congr {X : JX} {h h' : MH} {j : Nat} (e1 : zS h' j = zS h j) (e2 : zI h' j = zI h j) (e3 : zL h' j = zL h j) (e4 : zD h' j = zD h j) : cE X h' j = cE X h j := by
  unfold cE
  rw [e1]
  have hf : fE X h' j = fE X h j := by
    funext i f
    unfold fE
    rw [e2, e3]
  rw [hf]
  have hc : cA h' j = cA h j := by
    funext ty n
    unfold cA
    rw [e2, e3, e4]
  rw [hc]
theorem jcl_lt {ci : Nat} {q : vw_C} (h : jcl[ci]? = some q) : ci < 15 := (List.getElem?_eq_some_iff.mp h).1
theorem cE_obj {X : JX} {h : MH} {a ci : Nat} {fs : List (Value ⊕ Bool)} (e : zS h a = some (.inr (ci, fs))) (hc : ci ≠ 999) : cE X h a = .inr (ci, fs.mapIdx (fE X h a)) := by
  unfold cE
  rw [e]
  simp [hc]
theorem cE_arr {X : JX} {h : MH} {a n : Nat} {ty : FieldType} (e : zS h a = some (.inl (ty, n))) : cE X h a = .inl (jC X ty, cA h a ty n) := by
  unfold cE
  rw [e]
theorem mapIdx_at {α β : Type} {l : List α} {f : Nat → α → β} {k : Nat} {x : α} (h : l[k]? = some x) : (l.mapIdx f)[k]? = some (f k x) := by
  rw [List.getElem?_mapIdx, h]
  rfl
section RW
variable {p : Program} {X : JX} {e : Env} {R : Room} {s : State} {m : MethodId} {args : Array Value} {below : List Frame} {meth : Method} {c : Code} {H : Heap} {locs : List Loc} {cells slots : Nat} {Q : State → Prop}
variable {cc : ByteArray} {pc : Nat} {lsA : Array Slot} {rest : List Value} {own : String} {h h' : MH} {a ci k : Nat}
theorem r_get (hexec : p.tables.exec = Jvm.exec) (hb : c.code = cc) (hK : KK X s) (hown : s.vm.findClass own = some m.cls) (hH : Hd X h H) {index : Nat} (hl : FL own index ci k) {fs : List (Value ⊕ Bool)} {f : Value ⊕ Bool} (es : zS h a = some (.inr (ci, fs))) (ef : fs[k]? = some f)
    (hdg : decode cc pc = .ok (.getfield index, 3)) (kk : W p X.1 e R s m args below meth c H locs cells slots Q (F0 m (pc + 3) lsA (trV X (fV h a k f) :: rest))) : W p X.1 e R s m args below meth c H locs cells slots Q (F0 m pc lsA (.ref (jA X a) :: rest)) := by
  obtain ⟨C, T, N, ty, ⟨c1, c2, c3, c4, -⟩, hk, hlk⟩ := hl
  have hci := jcl_lt c1
  have hat : (wsOf X h)[a]? = some (jA X a, .inr (ci, fs.mapIdx (fE X h a))) := by
    rw [ws_at (hH.lt es), cE_obj es (by omega)]
  rw [← fE_tr] at kk
  exact va_get (D := jD X) (cl := jcl) hexec hb (Ts := BW) (fun w hw => hK.word hw args) c2 hown hK.2.1 hH.2.2.2 a hat c1 k hk (hK.word hlk args) (fun _ h => h) (mapIdx_at ef) hdg kk
/-- a field's cell, written -/
theorem Hd.fld (hX : JXok X) (hK : KK X s) (hH : Hd X h H) {C : String} {T : u_T} {N : Nat} {ty : Nat → FieldType} (hc : CI ci C T N ty) (hk : k < N) {fs fs' : List (Value ⊕ Bool)} (hlen : k < fs.length) {v : Value} (hci : ci ≠ 999)
    (es : zS h a = some (.inr (ci, fs))) (es' : zS h' a = some (.inr (ci, fs'))) (hfs : fs'.mapIdx (fE X h' a) = (fs.mapIdx (fE X h a)).set k v)
    (hN : zN h' = zN h) (e1 : ∀ j, j ≠ a → zS h' j = zS h j) (e2 : ∀ j, j ≠ a → zI h' j = zI h j) (e3 : ∀ j, j ≠ a → zL h' j = zL h j) (e4 : ∀ j, j ≠ a → zD h' j = zD h j)
    {cell : Cell} (q1 : H[jA X a]? = some cell) (q2 : cell.cls = (jD X).1 ci) (q3 : cell.vm = .none) (q4 : ∀ j, j < N → cell.slots[(jD X).2 ci j]? = some (vp_V (fs.mapIdx (fE X h a)) j))
    {H1 : Heap} (z1 : H1[jA X a]? = some (cell.setSlot ((jD X).2 ci k) v)) (z2 : H1.size = H.size) (z3 : ∀ q : Nat, q ≠ jA X a → H1[q]? = H[q]?) : Hd X h' H1 := by
  obtain ⟨c1, c2, c3, c4, -⟩ := hc
  have hap := va_apart (own := C) (s := s) (args := #[]) (Ts := BW) (fun w hw => hK.word hw #[]) c2 ty c3 c4 hK.2.1 c1
  refine hH.upd hX (hH.lt es) hN (fun j => ?_) (fun j hj => cE_congr (e1 j hj) (e2 j hj) (e3 j hj) (e4 j hj)) ?_ z2 z3
  · by_cases hj : j = a
    · subst hj
      rw [es, es']
      rfl
    · rw [e1 j hj]
  · rw [cE_obj es' hci, hfs]
    exact ⟨_, c1, t_OB.to (V := updV (vp_V (fs.mapIdx (fE X h a))) k v) ⟨_, z1, q2, q3, t_set q4 hap hk v⟩ (fun j _ => vp_updV_set (by rw [List.length_mapIdx]; exact hlen) v j)⟩
theorem r_put (hX : JXok X) (hexec : p.tables.exec = Jvm.exec) (hb : c.code = cc) (hK : KK X s) (hown : s.vm.findClass own = some m.cls) (hH : Hd X h H) (hS : va_S (jF X) s.heap H locs) {index : Nat} {C : String} {T : u_T} {N : Nat} {ty : Nat → FieldType} (hc : CI ci C T N ty) (hk : k < N)
    (hlk : Cond.fieldLink own index (T k).1 (T k).2.1 (T k).2.2.1 ∈ BW) (hfin : (T k).2.2.2 = false ∨ ((T k).2.2.2 = true ∧ meth.name = "<init>" ∧ (T k).1 = own)) {v : Value} (hn : narrow (ty k) v = v) (hfit : fits (ty k) v = true)
    {fs fs' : List (Value ⊕ Bool)} (hlen : k < fs.length)
    (es : zS h a = some (.inr (ci, fs))) (es' : zS h' a = some (.inr (ci, fs'))) (hfs : fs'.mapIdx (fE X h' a) = (fs.mapIdx (fE X h a)).set k v)
    (hN : zN h' = zN h) (e1 : ∀ j, j ≠ a → zS h' j = zS h j) (e2 : ∀ j, j ≠ a → zI h' j = zI h j) (e3 : ∀ j, j ≠ a → zL h' j = zL h j) (e4 : ∀ j, j ≠ a → zD h' j = zD h j)
    (hdg : decode cc pc = .ok (.putfield index, 3)) (kk : ∀ (H1 : Heap) (locs1 : List Loc), Hd X h' H1 → va_S (jF X) s.heap H1 locs1 → W p X.1 e R s m args below meth c H1 locs1 cells slots Q (F0 m (pc + 3) lsA rest)) :
    W p X.1 e R s m args below meth c H locs cells slots Q (F0 m pc lsA (v :: .ref (jA X a) :: rest)) := by
  have hc0 := hc
  obtain ⟨c1, c2, c3, c4, -⟩ := hc
  have hci : ci ≠ 999 := by have := jcl_lt c1; omega
  have ha := hH.lt es
  have hat := hH.at ha
  rw [cE_obj es hci] at hat
  obtain ⟨r, h1, cell, q1, q2, q3, q4⟩ := hat
  have hr : r = (C, T, N) := Option.some.inj (h1.symm.trans c1)
  subst hr
  obtain ⟨hSl, hfc, kC, hkC, hkind⟩ := hK.2.1.1 ci _ c1
  obtain ⟨cf, kf, fi, f, hi, hsl⟩ := hSl k hk
  have hts : ∀ w ∈ BW, w.before args s = true := fun w hw => hK.word hw args
  have hlay := hts _ (c2 _ (u_in_lay hk))
  have hst := (u_facts hfc hkC (u_lays hts c2 hk) hi).1
  have hlt : f.slot < cell.slots.size := by rw [hsl]; exact k2_hasslot (q4 k hk)
  rcases hfin with hf | ⟨hf, hin, hdecl⟩
  · unfold u_lay at hlay
    rw [if_neg (by rw [hf]; decide)] at hlay
    have h6 := u_store hfc hkC hkind hlay hi (c3 k hk) hn hfit
    refine W.putK hexec hb (f := f) ⟨hown, hK.word hlk args, ⟨_, _, _, hi⟩, hst⟩ (by rw [q2]; exact h6) q1 q3 hlt rfl rfl hdg fun H' z1 z2 z3 => ?_
    rw [hsl] at z1
    exact kk H' _ (Hd.fld hX hK hH hc0 hk hlen hci es es' hfs hN e1 e2 e3 e4 q1 q2 q3 q4 z1 z2 z3) (hS.put z2 z3 (hH.A hX ha))
  · unfold u_lay at hlay
    rw [if_pos hf] at hlay
    have hcf : m.cls = cf := by
      obtain ⟨_, _, c', _, _, _, -, -, hf', -, -, -, hown2, -⟩ := Cond.laysFinal_spec hlay
      have e1 : c' = cf := by have := hi.symm.trans hf'; simp at this; exact this.1.symm
      rw [hdecl] at hown2
      rw [← e1]; exact Option.some.inj (hown.symm.trans hown2)
    have h6 := u_fits hfc hkC hkind (Or.inr hlay) hi (c3 k hk) hn hfit
    refine W.putFinK hexec hb hown (hK.word hlk args) hi hst hcf hin (by rw [q2]; exact h6) q1 q3 hlt rfl rfl hdg fun H' z1 z2 z3 => ?_
    rw [hsl] at z1
    exact kk H' _ (Hd.fld hX hK hH hc0 hk hlen hci es es' hfs hN e1 e2 e3 e4 q1 q2 q3 q4 z1 z2 z3) (hS.put z2 z3 (hH.A hX ha))
theorem mapIdx_set {fs fs' : List (Value ⊕ Bool)} {k : Nat} {v : Value} {g g' : Nat → (Value ⊕ Bool) → Value} {f' : Value ⊕ Bool} (hf : fs' = fs.set k f') (hk : k < fs.length) (hv : g' k f' = v) (ho : ∀ j f, j ≠ k → g' j f = g j f) : fs'.mapIdx g' = (fs.mapIdx g).set k v := by
  subst hf
  apply List.ext_getElem?
  intro j
  by_cases hj : k = j
  · subst hj
    rw [List.getElem?_set_self (by rw [List.length_mapIdx]; exact hk), List.getElem?_mapIdx, List.getElem?_set_self hk]
    simp [hv]
  · rw [List.getElem?_set_ne hj, List.getElem?_mapIdx, List.getElem?_mapIdx, List.getElem?_set_ne hj]
    cases fs[j]? with
    | none => rfl
    | some f => simp [ho j f (fun q => hj q.symm)]
theorem set_self {fs : List (Value ⊕ Bool)} {k : Nat} {f : Value ⊕ Bool} (h : fs[k]? = some f) : fs = fs.set k f := by
  obtain ⟨h1, h2⟩ := List.getElem?_eq_some_iff.mp h
  rw [← h2]
  simp
theorem r_ald (hexec : p.tables.exec = Jvm.exec) (hb : c.code = cc) (hK : KK X s) (hH : Hd X h H) {n : Nat} (es : zS h a = some (.inl (.int, n))) {i : Int32} (hin : vp_in i n)
    (hdg : decode cc pc = .ok (.iaload, 1)) (kk : W p X.1 e R s m args below meth c H locs cells slots Q (F0 m (pc + 1) lsA (.int (zI h a i.toNatClampNeg) :: rest))) : W p X.1 e R s m args below meth c H locs cells slots Q (F0 m pc lsA (.int i :: .ref (jA X a) :: rest)) := by
  have hat : (wsOf X h)[a]? = some (jA X a, .inl (jC X .int, n, .inl (zI h a))) := by rw [ws_at (hH.lt es), cE_arr es]; rfl
  exact va_iald (D := jD X) (cl := jcl) hexec hb hK.2.1 hH.2.2.2 a 0 hat rfl hin hdg kk
theorem r_alen (hexec : p.tables.exec = Jvm.exec) (hb : c.code = cc) (hK : KK X s) (hH : Hd X h H) {n : Nat} {sh : JS} (es : zS h a = some sh) (hn : alen sh = some n)
    (hdg : decode cc pc = .ok (.arraylength, 1)) (kk : W p X.1 e R s m args below meth c H locs cells slots Q (F0 m (pc + 1) lsA (.int (Int32.ofNat n) :: rest))) : W p X.1 e R s m args below meth c H locs cells slots Q (F0 m pc lsA (.ref (jA X a) :: rest)) := by
  rcases sh with ⟨ty, n'⟩ | ⟨ci, fs⟩
  · have hnn : n' = n ∧ (ty = .int ∨ ty = .char ∨ ty = .byte) := by
      unfold alen at hn
      cases ty <;> first | (cases hn; done) | (refine ⟨Option.some.inj hn, ?_⟩; simp)
    obtain ⟨hnn, hty⟩ := hnn
    subst hnn
    have hat : (wsOf X h)[a]? = some (jA X a, .inl (jC X ty, cA h a ty n')) := by rw [ws_at (hH.lt es), cE_arr es]
    rcases hty with rfl | rfl | rfl
    · exact va_alen (D := jD X) (cl := jcl) hexec hb hK.2.1 hH.2.2.2 a 0 hat (ty := .int) rfl rfl hdg kk
    · exact va_alen (D := jD X) (cl := jcl) hexec hb hK.2.1 hH.2.2.2 a 1 hat (ty := .char) rfl rfl hdg kk
    · exact va_alen (D := jD X) (cl := jcl) hexec hb hK.2.1 hH.2.2.2 a 2 hat (ty := .byte) rfl rfl hdg kk
  · unfold alen at hn
    by_cases hc : ci = 999
    · subst hc
      simp at hn
      subst hn
      have hat : (wsOf X h)[a]? = some (jA X a, .inl (jC X yT, fs.length, .inr (.inr (.inr (.inr (rA X fs)))))) := by
        rw [ws_at (hH.lt es)]
        unfold cE
        rw [es]
        simp
      exact va_alen (D := jD X) (cl := jcl) hexec hb hK.2.1 hH.2.2.2 a 3 hat (ty := yT) rfl rfl hdg kk
    · simp [hc] at hn
end RW
