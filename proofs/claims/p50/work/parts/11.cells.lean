/-! arrays, fields that a segment does not write, objects that are made -/
section AR
variable {X : JX} {M : JM} {d mc ms : Nat} {Q : JR → Prop} {pc : Nat} {ls : List (Option Value)} {st : List Value} {h : MH}
theorem Ev.cald {a n : Nat} {i : Int32} (es : zS h a = some (.inl (.char, n))) (hin : vp_in i n) (hdg : decode M.2.1 pc = .ok (.caload, 1)) (k : Ev X M d mc ms Q (pc + 1) ls (.int (zI h a i.toNatClampNeg) :: st) h) : Ev X M d mc ms Q pc ls (.int i :: .ref a :: st) h := by
  intro p ev R s m args below meth c H locs cells slots lsA hB hK hH hS hL hR
  have hat : (wsOf X h)[a]? = some (jA X a, .inl (jC X .char, n, .inl (zI h a))) := by rw [ws_at (hH.lt es), cE_arr es]; rfl
  exact va_cald (D := jD X) (cl := jcl) hB.1 hB.2.1 hK.2.1 hH.2.2.2 a 1 hat rfl hin hdg (k p ev R s m args below meth c H locs cells slots lsA hB hK hH hS hL hR)
theorem Ev.bald {a n : Nat} {i : Int32} (es : zS h a = some (.inl (.byte, n))) (hin : vp_in i n) (hdg : decode M.2.1 pc = .ok (.baload, 1)) (k : Ev X M d mc ms Q (pc + 1) ls (.int (zI h a i.toNatClampNeg) :: st) h) : Ev X M d mc ms Q pc ls (.int i :: .ref a :: st) h := by
  intro p ev R s m args below meth c H locs cells slots lsA hB hK hH hS hL hR
  have hat : (wsOf X h)[a]? = some (jA X a, .inl (jC X .byte, n, .inl (zI h a))) := by rw [ws_at (hH.lt es), cE_arr es]; rfl
  exact va_bald (D := jD X) (cl := jcl) hB.1 hB.2.1 hK.2.1 hH.2.2.2 a 2 hat rfl hin hdg (k p ev R s m args below meth c H locs cells slots lsA hB hK hH hS hL hR)
theorem Ev.iast {a n : Nat} {i : Int32} {x : Int32} (hX : JXok X) (es : zS h a = some (.inl (.int, n))) (hin : vp_in i n) (hdg : decode M.2.1 pc = .ok (.iastore, 1)) (k : Ev X M d mc ms Q (pc + 1) ls st (setI h a i.toNatClampNeg x)) : Ev X M d mc ms Q pc ls (.int x :: .int i :: .ref a :: st) h := by
  intro p ev R s m args below meth c H locs cells slots lsA hB hK hH hS hL hR
  have ha := hH.lt es
  have hat := hH.at ha
  rw [cE_arr es] at hat
  have hat : H[jA X a]? = some (arrV (jC X .int) n (fun j => .int (zI h a j))) := hat
  refine W.iast hB.1 hB.2.1 hat ((hK.2.1.2 0 _ rfl).1 n (fun j => .int (zI h a j))) (fun q => by cases q) (by show ¬ (i < 0 ∨ (arrV _ _ _).slots.size ≤ _); rw [arrV_size]; exact hin) rfl rfl hdg fun H1 e z oq => ?_
  refine k p ev R s m args below meth c H1 _ cells slots lsA hB hK ?_ (hS.put z oq (hH.A hX ha)) hL hR
  refine hH.upd (h' := setI h a i.toNatClampNeg x) hX ha rfl (fun _ => rfl) (fun j hj => cE_congr rfl (up2_ne hj) (rfl) (rfl)) ?_ z oq
  rw [cE_arr (h := setI h a i.toNatClampNeg x) (n := n) (ty := .int) es]
  show H1[jA X a]? = some (arrV (jC X .int) n (fun j => .int (up2 (zI h) a i.toNatClampNeg x a j)))
  rw [e, arrV_store]
  congr 2
  funext q
  by_cases hq : q = i.toNatClampNeg
  · subst hq
    simp [updV, up2]
  · simp [updV, up2, hq]
theorem Ev.cast {a n : Nat} {i : Int32} {x : Int32} {y : Int32} (hy : vp_nar .char x = y) (hX : JXok X) (es : zS h a = some (.inl (.char, n))) (hin : vp_in i n) (hdg : decode M.2.1 pc = .ok (.castore, 1)) (k : Ev X M d mc ms Q (pc + 1) ls st (setI h a i.toNatClampNeg y)) : Ev X M d mc ms Q pc ls (.int x :: .int i :: .ref a :: st) h := by
  intro p ev R s m args below meth c H locs cells slots lsA hB hK hH hS hL hR
  have ha := hH.lt es
  have hat := hH.at ha
  rw [cE_arr es] at hat
  have hat : H[jA X a]? = some (arrV (jC X .char) n (fun j => .int (zI h a j))) := hat
  refine W.cast hB.1 hB.2.1 hat ((hK.2.1.2 1 _ rfl).1 n (fun j => .int (zI h a j))) (fun q => by cases q) (by show ¬ (i < 0 ∨ (arrV _ _ _).slots.size ≤ _); rw [arrV_size]; exact hin) rfl rfl hdg fun H1 e z oq => ?_
  refine k p ev R s m args below meth c H1 _ cells slots lsA hB hK ?_ (hS.put z oq (hH.A hX ha)) hL hR
  refine hH.upd (h' := setI h a i.toNatClampNeg y) hX ha rfl (fun _ => rfl) (fun j hj => cE_congr rfl (up2_ne hj) (rfl) (rfl)) ?_ z oq
  rw [cE_arr (h := setI h a i.toNatClampNeg y) (n := n) (ty := .char) es]
  show H1[jA X a]? = some (arrV (jC X .char) n (fun j => .int (up2 (zI h) a i.toNatClampNeg y a j)))
  rw [e, arrV_store]
  congr 2
  funext q
  by_cases hq : q = i.toNatClampNeg
  · subst hq
    subst hy
    simp [updV, up2, vp_nar]
    try rfl
  · simp [updV, up2, hq]
theorem Ev.bast {a n : Nat} {i : Int32} {x : Int32} {y : Int32} (hy : vp_nar .byte x = y) (hX : JXok X) (es : zS h a = some (.inl (.byte, n))) (hin : vp_in i n) (hdg : decode M.2.1 pc = .ok (.bastore, 1)) (k : Ev X M d mc ms Q (pc + 1) ls st (setI h a i.toNatClampNeg y)) : Ev X M d mc ms Q pc ls (.int x :: .int i :: .ref a :: st) h := by
  intro p ev R s m args below meth c H locs cells slots lsA hB hK hH hS hL hR
  have ha := hH.lt es
  have hat := hH.at ha
  rw [cE_arr es] at hat
  have hat : H[jA X a]? = some (arrV (jC X .byte) n (fun j => .int (zI h a j))) := hat
  refine W.bast hB.1 hB.2.1 hat ((hK.2.1.2 2 _ rfl).1 n (fun j => .int (zI h a j))) (fun q => by cases q) (by show ¬ (i < 0 ∨ (arrV _ _ _).slots.size ≤ _); rw [arrV_size]; exact hin) rfl rfl hdg fun H1 e z oq => ?_
  refine k p ev R s m args below meth c H1 _ cells slots lsA hB hK ?_ (hS.put z oq (hH.A hX ha)) hL hR
  refine hH.upd (h' := setI h a i.toNatClampNeg y) hX ha rfl (fun _ => rfl) (fun j hj => cE_congr rfl (up2_ne hj) (rfl) (rfl)) ?_ z oq
  rw [cE_arr (h := setI h a i.toNatClampNeg y) (n := n) (ty := .byte) es]
  show H1[jA X a]? = some (arrV (jC X .byte) n (fun j => .int (up2 (zI h) a i.toNatClampNeg y a j)))
  rw [e, arrV_store]
  congr 2
  funext q
  by_cases hq : q = i.toNatClampNeg
  · subst hq
    subst hy
    simp [updV, up2, vp_nar]
    try rfl
  · simp [updV, up2, hq]
theorem Ev.putI {idx a ci j N : Nat} {C : String} {T : u_T} {ty : Nat → FieldType} {fs : List (Value ⊕ Bool)} {x : Int32} (hX : JXok X) (hc : CI ci C T N ty) (hk : j < N) (hlk : Cond.fieldLink M.1.cls idx (T j).1 (T j).2.1 (T j).2.2.1 ∈ BW) (hfin : (T j).2.2.2 = false ∨ ((T j).2.2.2 = true ∧ M.1.name = "<init>" ∧ (T j).1 = M.1.cls)) (es : zS h a = some (.inr (ci, fs))) (ef : fs[j]? = some (.inr false)) (hn : narrow (ty j) (.int x) = .int x) (hfit : fits (ty j) (.int x) = true) (hdg : decode M.2.1 pc = .ok (.putfield idx, 3)) (k : Ev X M d mc ms Q (pc + 3) ls st (setI h a j x)) : Ev X M d mc ms Q pc ls (.int x :: .ref a :: st) h := by
  intro p ev R s m args below meth c H locs cells slots lsA hB hK hH hS hL hR
  have hlen := (List.getElem?_eq_some_iff.mp ef).1
  refine r_put (h' := setI h a j x) hX hB.1 hB.2.1 hK hB.2.2.2.1 hH hS hc hk hlk (hfin.elim Or.inl (fun q => Or.inr ⟨q.1, hB.2.2.2.2.2.2.2.trans q.2.1, q.2.2⟩)) hn hfit hlen es es (mapIdx_set (set_self ef) hlen ?_ ?_) rfl (fun _ _ => rfl) (fun i hi => up2_ne hi) (fun _ _ => rfl) (fun _ _ => rfl) hdg (fun H1 locs1 hH1 hS1 => k p ev R s m args below meth c H1 locs1 cells slots lsA hB hK hH1 hS1 hL hR)
  · show Value.int (up2 (zI h) a j x a j) = Value.int x
    unfold up2
    simp
  · intro i f hi
    unfold fE
    rcases f with v | b
    · rfl
    · cases b
      · show Value.int (up2 (zI h) a j x a i) = Value.int (zI h a i)
        unfold up2
        simp [hi]
      · rfl
theorem Ev.putL {idx a ci j N : Nat} {C : String} {T : u_T} {ty : Nat → FieldType} {fs : List (Value ⊕ Bool)} {x : Int64} (hX : JXok X) (hc : CI ci C T N ty) (hk : j < N) (hlk : Cond.fieldLink M.1.cls idx (T j).1 (T j).2.1 (T j).2.2.1 ∈ BW) (hfin : (T j).2.2.2 = false ∨ ((T j).2.2.2 = true ∧ M.1.name = "<init>" ∧ (T j).1 = M.1.cls)) (es : zS h a = some (.inr (ci, fs))) (ef : fs[j]? = some (.inr true)) (hn : narrow (ty j) (.long x) = .long x) (hfit : fits (ty j) (.long x) = true) (hdg : decode M.2.1 pc = .ok (.putfield idx, 3)) (k : Ev X M d mc ms Q (pc + 3) ls st (setL h a j x)) : Ev X M d mc ms Q pc ls (.long x :: .ref a :: st) h := by
  intro p ev R s m args below meth c H locs cells slots lsA hB hK hH hS hL hR
  have hlen := (List.getElem?_eq_some_iff.mp ef).1
  refine r_put (h' := setL h a j x) hX hB.1 hB.2.1 hK hB.2.2.2.1 hH hS hc hk hlk (hfin.elim Or.inl (fun q => Or.inr ⟨q.1, hB.2.2.2.2.2.2.2.trans q.2.1, q.2.2⟩)) hn hfit hlen es es (mapIdx_set (set_self ef) hlen ?_ ?_) rfl (fun _ _ => rfl) (fun _ _ => rfl) (fun i hi => up2_ne hi) (fun _ _ => rfl) hdg (fun H1 locs1 hH1 hS1 => k p ev R s m args below meth c H1 locs1 cells slots lsA hB hK hH1 hS1 hL hR)
  · show Value.long (up2 (zL h) a j x a j) = Value.long x
    unfold up2
    simp
  · intro i f hi
    unfold fE
    rcases f with v | b
    · rfl
    · cases b
      · rfl
      · show Value.long (up2 (zL h) a j x a i) = Value.long (zL h a i)
        unfold up2
        simp [hi]
theorem Ev.putR {idx a ci j N : Nat} {C : String} {T : u_T} {ty : Nat → FieldType} {fs : List (Value ⊕ Bool)} {x : Nat} {f0 : Value ⊕ Bool} (hX : JXok X) (hc : CI ci C T N ty) (hk : j < N) (hlk : Cond.fieldLink M.1.cls idx (T j).1 (T j).2.1 (T j).2.2.1 ∈ BW) (hfin : (T j).2.2.2 = false ∨ ((T j).2.2.2 = true ∧ M.1.name = "<init>" ∧ (T j).1 = M.1.cls)) (es : zS h a = some (.inr (ci, fs))) (ef : fs[j]? = some f0) (hn : ∀ q : Nat, narrow (ty j) (.ref q) = .ref q) (hfit : ∀ q : Nat, fits (ty j) (.ref q) = true) (hdg : decode M.2.1 pc = .ok (.putfield idx, 3)) (k : Ev X M d mc ms Q (pc + 3) ls st (setF h a (.inr (ci, fs.set j (.inl (.ref x)))))) : Ev X M d mc ms Q pc ls (.ref x :: .ref a :: st) h := by
  intro p ev R s m args below meth c H locs cells slots lsA hB hK hH hS hL hR
  have hlen := (List.getElem?_eq_some_iff.mp ef).1
  exact r_put (h' := setF h a (.inr (ci, fs.set j (.inl (.ref x))))) hX hB.1 hB.2.1 hK hB.2.2.2.1 hH hS hc hk hlk (hfin.elim Or.inl (fun q => Or.inr ⟨q.1, hB.2.2.2.2.2.2.2.trans q.2.1, q.2.2⟩)) (hn _) (hfit _) hlen es upS_eq (mapIdx_set rfl hlen rfl (fun _ _ _ => rfl)) rfl (fun i hi => upS_ne hi) (fun _ _ => rfl) (fun _ _ => rfl) (fun _ _ => rfl) hdg (fun H1 locs1 hH1 hS1 => k p ev R s m args below meth c H1 locs1 cells slots lsA hB hK hH1 hS1 hL hR)
end AR
