/-! further rows of the mini machine: objects and arrays made, arrays of references, texts, statics, floats, members of the JDK that are rows -/
/-- a new cell's contents are zero -/
def z0 (h : MH) : Prop := (∀ j, zI h (zN h) j = 0) ∧ (∀ j, zL h (zN h) j = 0) ∧ ∀ j, zD h (zN h) j = 0
def dfl (ty : FieldType) : Option (Value ⊕ Bool) := match ty with
  | .int => some (.inr false)
  | .boolean => some (.inr false)
  | .byte => some (.inr false)
  | .char => some (.inr false)
  | .long => some (.inr true)
  | .object _ => some (.inl .null)
  | .array _ => some (.inl .null)
  | _ => none
theorem dfl_ok {X : JX} {h : MH} {a j : Nat} {ty : FieldType} {f : Value ⊕ Bool} (hI : ∀ j, zI h a j = 0) (hL : ∀ j, zL h a j = 0) (e : dfl ty = some f) : defaultValue ty = fE X h a j f := by
  cases ty <;> first | (cases e; done) | (cases e; simp [defaultValue, fE, trV, hI, hL])
section RT
variable {X : JX} {M : JM} {d mc ms : Nat} {Q : JR → Prop} {pc : Nat} {ls : List (Option Value)} {st : List Value} {h : MH}
theorem st_cat (X : JX) (st : List Value) : (st.map (trV X)).map (fun v => v.category) = st.map fun v => v.category := by
  rw [List.map_map]
  exact List.map_congr_left fun v _ => trV_cat X v
theorem Ev.newO {C : String} {T : u_T} {N ci idx : Nat} {ty : Nat → FieldType} {fs : List (Value ⊕ Bool)} (hX : JXok X) (hc : CI ci C T N ty) (hk : Cond.classLink M.1.cls idx C ∈ BW) (hz : z0 h) (hfs : ∀ j, j < N → ∃ f, fs[j]? = some f ∧ dfl (ty j) = some f) (hm : 1 ≤ mc ∧ N ≤ ms) (hB : zN h + 1 < BIG)
    (hdg : decode M.2.1 pc = .ok (.new idx, 3)) (k : Ev X M d (mc - 1) (ms - N) Q (pc + 3) ls (.ref (zN h) :: st) (newS h (.inr (ci, fs)))) : Ev X M d mc ms Q pc ls st h := by
  intro p ev R s m args below meth c H locs cells slots lsA hB9 hK hH hS hL hR
  obtain ⟨c1, c2, c3, c4, c5, c6⟩ := hc
  have hci := jcl_lt c1
  have hKn := hK.2.1.1 ci _ c1
  refine W.newcK hB9.1 hB9.2.1 hB9.2.2.2.1 (hK.word hk args) (hK.word c5 args) (hK.word c6 args) rfl hdg (by omega) (by omega) hKn.2.1 rfl fun H1 kC hkC e1 z1 o1 => ?_
  have hq : H.size = jA X (zN h) := by rw [hH.1, hX.1.2.2 _ hH.2.1.2 (by omega)]
  have hn : Hd X (newS h (.inr (ci, fs))) H1 := by
    refine hH.new hX hB (sh := .inr (ci, fs)) rfl ?_ z1
    have hk : ∀ (k : Nat) (x : Nat × va_E), (wsOf X h)[k]? = some x → H1[x.1]? = H[x.1]? := fun k x hx => o1 x.1 ((hH.2.2.2 k x hx).lt)
    refine (hH.2.2.2.kept hk).app (fun k x hx => ?_)
    have hz9 : k < 1 := (List.getElem?_eq_some_iff.mp hx).1
    rw [show k = 0 by omega] at hx
    cases hx
    rw [cE_obj (h := newS h (.inr (ci, fs))) (ci := ci) (fs := fs) upS_eq (by omega)]
    refine ⟨_, c1, (u_born ty (fun w hw => hK.word hw args) c2 hKn hkC e1 c3).to (fun j hj => ?_)⟩
    obtain ⟨f, f1, f2⟩ := hfs j hj
    unfold vp_V
    rw [List.getD_eq_getElem?_getD, List.getElem?_mapIdx, f1]
    exact dfl_ok (h := newS h (.inr (ci, fs))) hz.1 hz.2.1 f2
  have hS1 : va_S (jF X) s.heap H1 locs := ⟨Nat.le_trans hS.1 (by omega), fun x h1 h2 => (o1 x (Nat.lt_of_lt_of_le h1 hS.1)).trans (hS.2.1 x h1 h2), hS.2.2⟩
  have := k p ev R s m args below meth c H1 locs (cells + 1) (slots + N) lsA hB9 hK hn hS1 hL (by omega)
  rw [hq]
  exact this
theorem Ev.newI {n : Nat} {i : Int32} (hX : JXok X) (hi : i = nI n) (hn : n ≤ 100000) (hz : z0 h) (hm : 1 ≤ mc ∧ n ≤ ms) (hB : zN h + 1 < BIG) (hdg : decode M.2.1 pc = .ok (.newarray .int, 2)) (hac : Cond.arrayClass .int ∈ BW)
    (k : Ev X M d (mc - 1) (ms - n) Q (pc + 2) ls (.ref (zN h) :: st) (newS h (.inl (.int, n)))) : Ev X M d mc ms Q pc ls (.int i :: st) h := by
  intro p ev R s m args below meth c H locs cells slots lsA hB9 hK hH hS hL hR
  subst hi
  have hi0 : ¬ nI n < 0 := nI_pos (by omega)
  refine va_newaK (atype := .int) hB9.1 hB9.2.1 (hK.word hac args) rfl hdg rfl hi0 (nI_clamp (by omega)) (by show n * componentBytes .int ≤ _; simp only [componentBytes]; omega) (by omega) (by omega) rfl fun H1 cA e1 z1 o1 hAr hNm => ?_
  have hcA : cA = jC X .int := Option.some.inj (hNm.symm.trans ((hK.2.1.2 0 _ rfl).2))
  subst hcA
  have hq : H.size = jA X (zN h) := by rw [hH.1, hX.1.2.2 _ hH.2.1.2 (by omega)]
  have hn : Hd X (newS h (.inl (.int, n))) H1 := by
    refine hH.new hX hB (sh := .inl (.int, n)) rfl ?_ z1
    have hk : ∀ (k : Nat) (x : Nat × va_E), (wsOf X h)[k]? = some x → H1[x.1]? = H[x.1]? := fun k x hx => o1 x.1 ((hH.2.2.2 k x hx).lt)
    refine (hH.2.2.2.kept hk).app (fun k x hx => ?_)
    have hz9 : k < 1 := (List.getElem?_eq_some_iff.mp hx).1
    rw [show k = 0 by omega] at hx
    cases hx
    rw [cE_arr (h := newS h (.inl (.int, n))) (n := n) (ty := .int) upS_eq]
    show H1[H.size]? = some (arrV (jC X .int) n (fun j => .int (zI h (zN h) j)))
    rw [e1]
    congr 2
    funext j
    rw [hz.1 j]
    rfl
  have hS1 : va_S (jF X) s.heap H1 locs := ⟨Nat.le_trans hS.1 (by omega), fun x h1 h2 => (o1 x (Nat.lt_of_lt_of_le h1 hS.1)).trans (hS.2.1 x h1 h2), hS.2.2⟩
  have := k p ev R s m args below meth c H1 locs (cells + 1) (slots + n) lsA hB9 hK hn hS1 hL (by omega)
  rw [hq]
  exact this
theorem Ev.newC {n : Nat} {i : Int32} (hX : JXok X) (hi : i = nI n) (hn : n ≤ 100000) (hz : z0 h) (hm : 1 ≤ mc ∧ n ≤ ms) (hB : zN h + 1 < BIG) (hdg : decode M.2.1 pc = .ok (.newarray .char, 2)) (hac : Cond.arrayClass .char ∈ BW)
    (k : Ev X M d (mc - 1) (ms - n) Q (pc + 2) ls (.ref (zN h) :: st) (newS h (.inl (.char, n)))) : Ev X M d mc ms Q pc ls (.int i :: st) h := by
  intro p ev R s m args below meth c H locs cells slots lsA hB9 hK hH hS hL hR
  subst hi
  have hi0 : ¬ nI n < 0 := nI_pos (by omega)
  refine va_newaK (atype := .char) hB9.1 hB9.2.1 (hK.word hac args) rfl hdg rfl hi0 (nI_clamp (by omega)) (by show n * componentBytes .char ≤ _; simp only [componentBytes]; omega) (by omega) (by omega) rfl fun H1 cA e1 z1 o1 hAr hNm => ?_
  have hcA : cA = jC X .char := Option.some.inj (hNm.symm.trans ((hK.2.1.2 1 _ rfl).2))
  subst hcA
  have hq : H.size = jA X (zN h) := by rw [hH.1, hX.1.2.2 _ hH.2.1.2 (by omega)]
  have hn : Hd X (newS h (.inl (.char, n))) H1 := by
    refine hH.new hX hB (sh := .inl (.char, n)) rfl ?_ z1
    have hk : ∀ (k : Nat) (x : Nat × va_E), (wsOf X h)[k]? = some x → H1[x.1]? = H[x.1]? := fun k x hx => o1 x.1 ((hH.2.2.2 k x hx).lt)
    refine (hH.2.2.2.kept hk).app (fun k x hx => ?_)
    have hz9 : k < 1 := (List.getElem?_eq_some_iff.mp hx).1
    rw [show k = 0 by omega] at hx
    cases hx
    rw [cE_arr (h := newS h (.inl (.char, n))) (n := n) (ty := .char) upS_eq]
    show H1[H.size]? = some (arrV (jC X .char) n (fun j => .int (zI h (zN h) j)))
    rw [e1]
    congr 2
    funext j
    rw [hz.1 j]
    rfl
  have hS1 : va_S (jF X) s.heap H1 locs := ⟨Nat.le_trans hS.1 (by omega), fun x h1 h2 => (o1 x (Nat.lt_of_lt_of_le h1 hS.1)).trans (hS.2.1 x h1 h2), hS.2.2⟩
  have := k p ev R s m args below meth c H1 locs (cells + 1) (slots + n) lsA hB9 hK hn hS1 hL (by omega)
  rw [hq]
  exact this
theorem Ev.newB {n : Nat} {i : Int32} (hX : JXok X) (hi : i = nI n) (hn : n ≤ 100000) (hz : z0 h) (hm : 1 ≤ mc ∧ n ≤ ms) (hB : zN h + 1 < BIG) (hdg : decode M.2.1 pc = .ok (.newarray .byte, 2)) (hac : Cond.arrayClass .byte ∈ BW)
    (k : Ev X M d (mc - 1) (ms - n) Q (pc + 2) ls (.ref (zN h) :: st) (newS h (.inl (.byte, n)))) : Ev X M d mc ms Q pc ls (.int i :: st) h := by
  intro p ev R s m args below meth c H locs cells slots lsA hB9 hK hH hS hL hR
  subst hi
  have hi0 : ¬ nI n < 0 := nI_pos (by omega)
  refine va_newaK (atype := .byte) hB9.1 hB9.2.1 (hK.word hac args) rfl hdg rfl hi0 (nI_clamp (by omega)) (by show n * componentBytes .byte ≤ _; simp only [componentBytes]; omega) (by omega) (by omega) rfl fun H1 cA e1 z1 o1 hAr hNm => ?_
  have hcA : cA = jC X .byte := Option.some.inj (hNm.symm.trans ((hK.2.1.2 2 _ rfl).2))
  subst hcA
  have hq : H.size = jA X (zN h) := by rw [hH.1, hX.1.2.2 _ hH.2.1.2 (by omega)]
  have hn : Hd X (newS h (.inl (.byte, n))) H1 := by
    refine hH.new hX hB (sh := .inl (.byte, n)) rfl ?_ z1
    have hk : ∀ (k : Nat) (x : Nat × va_E), (wsOf X h)[k]? = some x → H1[x.1]? = H[x.1]? := fun k x hx => o1 x.1 ((hH.2.2.2 k x hx).lt)
    refine (hH.2.2.2.kept hk).app (fun k x hx => ?_)
    have hz9 : k < 1 := (List.getElem?_eq_some_iff.mp hx).1
    rw [show k = 0 by omega] at hx
    cases hx
    rw [cE_arr (h := newS h (.inl (.byte, n))) (n := n) (ty := .byte) upS_eq]
    show H1[H.size]? = some (arrV (jC X .byte) n (fun j => .int (zI h (zN h) j)))
    rw [e1]
    congr 2
    funext j
    rw [hz.1 j]
    rfl
  have hS1 : va_S (jF X) s.heap H1 locs := ⟨Nat.le_trans hS.1 (by omega), fun x h1 h2 => (o1 x (Nat.lt_of_lt_of_le h1 hS.1)).trans (hS.2.1 x h1 h2), hS.2.2⟩
  have := k p ev R s m args below meth c H1 locs (cells + 1) (slots + n) lsA hB9 hK hn hS1 hL (by omega)
  rw [hq]
  exact this
theorem Ev.newQ {n idx : Nat} {i : Int32} (hX : JXok X) (hi : i = nI n) (hn : n ≤ 100000) (hm : 1 ≤ mc ∧ n ≤ ms) (hB : zN h + 1 < BIG) (hdg : decode M.2.1 pc = .ok (.anewarray idx, 3)) (hk : Cond.classLink M.1.cls idx "ClassificationYard$Yard" ∈ BW)
    (k : Ev X M d (mc - 1) (ms - n) Q (pc + 3) ls (.ref (zN h) :: st) (newS h (.inr (999, List.replicate n (.inl .null))))) : Ev X M d mc ms Q pc ls (.int i :: st) h := by
  intro p ev R s m args below meth c H locs cells slots lsA hB9 hK hH hS hL hR
  subst hi
  have hi0 : ¬ nI n < 0 := nI_pos (by omega)
  have hic : (nI n).toNatClampNeg = n := nI_clamp (by omega)
  refine W.anew hB9.1 hB9.2.1 hB9.2.2.2.1 (hK.word hk args) (va_AO.use hK.2.2.2.1) rfl hdg rfl hi0 (by rw [hic]; omega) (by omega) (by rw [hic]; omega) fun cA kA comp f1 f2 f3 f4 => ?_
  rw [hic]
  have hcA : cA = jC X yT := by
    obtain ⟨kB, cB, g1, g2, g3, g4⟩ := (hK.2.1.2 3 _ rfl).2
    exact Option.some.inj (f1.symm.trans g4)
  subst hcA
  have hq : H.size = jA X (zN h) := by rw [hH.1, hX.1.2.2 _ hH.2.1.2 (by omega)]
  generalize hH1 : H.push ({ cls := jC X yT, slots := Array.replicate n .null, vm := .none } : Cell) = H1
  have z1 : H1.size = H.size + 1 := by rw [← hH1, Array.size_push]
  have e1 : H1[H.size]? = some (arrV (jC X yT) n (fun _ => .null)) := by rw [← hH1, Array.getElem?_push_size, ← arrV_new]
  have o1 : ∀ q : Nat, q < H.size → H1[q]? = H[q]? := fun q hq => by rw [← hH1, Array.getElem?_push, if_neg (Nat.ne_of_lt hq)]
  have hn : Hd X (newS h (.inr (999, List.replicate n (.inl .null)))) H1 := by
    refine hH.new hX hB (sh := .inr (999, List.replicate n (.inl .null))) rfl ?_ z1
    have hk : ∀ (k : Nat) (x : Nat × va_E), (wsOf X h)[k]? = some x → H1[x.1]? = H[x.1]? := fun k x hx => o1 x.1 ((hH.2.2.2 k x hx).lt)
    refine (hH.2.2.2.kept hk).app (fun k x hx => ?_)
    have hz9 : k < 1 := (List.getElem?_eq_some_iff.mp hx).1
    rw [show k = 0 by omega] at hx
    cases hx
    have ec : cE X (newS h (.inr (999, List.replicate n (.inl .null)))) (zN h) = .inl (jC X yT, n, .inr (.inr (.inr (.inr (rA X (List.replicate n (.inl .null))))))) := by
      unfold cE
      rw [show zS (newS h (.inr (999, List.replicate n (.inl .null)))) (zN h) = some (.inr (999, List.replicate n (.inl .null))) from upS_eq]
      simp
    rw [ec]
    show H1[H.size]? = some (arrV (jC X yT) n (fun j => va_rf (rA X (List.replicate n (.inl .null)) j)))
    rw [e1]
    congr 2
    funext j
    unfold rA
    rw [List.getElem?_replicate]
    split <;> first | rfl | (split at * <;> simp_all [va_rf])
  have hS1 : va_S (jF X) s.heap H1 locs := ⟨Nat.le_trans hS.1 (by omega), fun x h1 h2 => (o1 x (Nat.lt_of_lt_of_le h1 hS.1)).trans (hS.2.1 x h1 h2), hS.2.2⟩
  have := k p ev R s m args below meth c H1 locs (cells + 1) (slots + n) lsA hB9 hK hn hS1 hL (by omega)
  rw [hq]
  exact this
theorem Ev.objI {idx b : Nat} (hl : Cond.methodLink M.1.cls idx objectInit ∈ BW) (hd : 1 ≤ d) (hw : (st.map fun v => v.category).sum ≤ 8) (hdg : decode M.2.1 pc = .ok (.invokespecial idx, 3)) (k : Ev X M d mc ms Q (pc + 3) ls st h) : Ev X M d mc ms Q pc ls (.ref b :: st) h := by
  intro p ev R s m args below meth c H locs cells slots lsA hB hK hH hS hL hR
  refine W.objInit hB.1 hB.2.1 hB.2.2.2.1 (hK.word hl args) (hK.word (w := Cond.instanceMethod objectInit) (by decide +kernel) args) (hK.word (w := Cond.code objectInit ⟨#[0xb1]⟩ 1 none) (by decide +kernel) args) rfl (by rw [hB.2.2.1]; exact hL.1) rfl hdg (by omega) ?_ (k p ev R s m args below meth c H locs cells slots lsA hB hK hH hS hL hR)
  show 2 * 0 + ((st.map (trV X)).map fun v => v.category).sum + 12 ≤ R.locals
  rw [st_cat]
  omega
theorem Ev.aald {a b n : Nat} {i : Int32} {fs : List (Value ⊕ Bool)} (es : zS h a = some (.inr (999, fs))) (hi : i = nI n) (hn : fs.length ≤ 100000) (ef : fs[n]? = some (.inl (.ref b))) (hdg : decode M.2.1 pc = .ok (.aaload, 1)) (k : Ev X M d mc ms Q (pc + 1) ls (.ref b :: st) h) : Ev X M d mc ms Q pc ls (.int i :: .ref a :: st) h := by
  intro p ev R s m args below meth c H locs cells slots lsA hB hK hH hS hL hR
  subst hi
  have hat : (wsOf X h)[a]? = some (jA X a, .inl (jC X yT, fs.length, .inr (.inr (.inr (.inr (rA X fs)))))) := by
    rw [ws_at (hH.lt es)]
    unfold cE
    rw [es]
    simp
  refine va_aldq (D := jD X) (cl := jcl) hB.1 hB.2.1 hK.2.1 hH.2.2.2 a 3 hat rfl (vp_in_nI (List.getElem?_eq_some_iff.mp ef).1 (by omega)) hdg ?_
  have hn' : n < fs.length := (List.getElem?_eq_some_iff.mp ef).1
  have e9 : va_rf (rA X fs (nI n).toNatClampNeg) = trV X (.ref b) := by
    rw [nI_clamp (by omega)]
    unfold rA
    rw [ef]
    rfl
  rw [e9]
  exact k p ev R s m args below meth c H locs cells slots lsA hB hK hH hS hL hR
theorem Ev.aast {a b n : Nat} {i : Int32} {fs gs : List (Value ⊕ Bool)} (hX : JXok X) (es : zS h a = some (.inr (999, fs))) (eb : zS h b = some (.inr (5, gs))) (hi : i = nI n) (hn : n < fs.length) (hn1 : fs.length ≤ 100000) (hdg : decode M.2.1 pc = .ok (.aastore, 1)) (k : Ev X M d mc ms Q (pc + 1) ls st (setF h a (.inr (999, fs.set n (.inl (.ref b)))))) : Ev X M d mc ms Q pc ls (.ref b :: .int i :: .ref a :: st) h := by
  intro p ev R s m args below meth c H locs cells slots lsA hB hK hH hS hL hR
  subst hi
  have ha := hH.lt es
  have hat : (wsOf X h)[a]? = some (jA X a, .inl (jC X yT, fs.length, .inr (.inr (.inr (.inr (rA X fs)))))) := by
    rw [ws_at ha]
    unfold cE
    rw [es]
    simp
  have hbt : (wsOf X h)[b]? = some (jA X b, .inr (5, gs.mapIdx (fE X h b))) := by rw [ws_at (hH.lt eb), cE_obj eb (by decide)]
  have hv := hH.2.2.2 b _ hbt
  obtain ⟨r9, hr9, cellV, g1, g2, g3, -⟩ := hv
  have hcls := (hK.2.1.1 5 _ rfl).2
  obtain ⟨kA, comp, k1, k2, k3, -⟩ := (hK.2.1.2 3 _ rfl).2
  have hcomp : comp = (jD X).1 5 := Option.some.inj (k3.symm.trans hcls.1)
  subst hcomp
  obtain ⟨kC, hkC, -⟩ := hcls.2
  have hlt : (nI n).toNatClampNeg < fs.length := by rw [nI_clamp (by omega)]; exact hn
  refine W.aast hB.1 hB.2.1 (hH.2.2.2 a _ hat) (fun q h => by cases h) (fun h => by cases h) k1 k2 rfl hkC ⟨nI_pos (by omega), by show _ < (arrV _ _ _).slots.size; rw [arrV_size]; exact hlt⟩ g1 (fun q h => by rw [g3] at h; cases h) (by rw [g2]; exact hkC) (by rw [g2]; exact va_assign hcls) rfl rfl hdg fun H1 e hsz oq => ?_
  rw [nI_clamp (by omega)] at e
  have h1 : va_P (jD X) jcl ((wsOf X h).set a (jA X a, .inl (jC X yT, fs.length, .inr (.inr (.inr (.inr (va_up (rA X fs) n (some (jA X b)))))))) ) H1 := by
    refine hH.2.2.2.set (hH.D hX) hat ?_ oq
    show H1[jA X a]? = some (vp_cell _ _)
    rw [e, vp_cell_q, vp_cell_q, arrV_store]
    congr 2
    funext q
    by_cases hq : q = n
    · subst hq
      simp [updV, va_up, va_rf]
    · simp [updV, va_up, hq]
  have hn9 : Hd X (setF h a (.inr (999, fs.set n (.inl (.ref b))))) H1 := by
    refine ⟨by rw [hsz]; exact hH.1, hH.2.1, fun j => ?_, ?_⟩
    · show (upS (zS h) a _ j).isSome = true ↔ j < zN h
      by_cases hj : j = a
      · subst hj
        rw [upS_eq]
        simpa using ha
      · rw [upS_ne hj]
        exact hH.2.2.1 j
    · have := ws_set (X := X) (h := h) (h' := setF h a (.inr (999, fs.set n (.inl (.ref b))))) (k := a) rfl (fun j hj => cE_congr (upS_ne hj) rfl rfl rfl)
      rw [← this]
      have ec : cE X (setF h a (.inr (999, fs.set n (.inl (.ref b))))) a = .inl (jC X yT, fs.length, .inr (.inr (.inr (.inr (va_up (rA X fs) n (some (jA X b))))))) := by
        unfold cE
        rw [show zS (setF h a (.inr (999, fs.set n (.inl (.ref b))))) a = some (.inr (999, fs.set n (.inl (.ref b)))) from upS_eq]
        simp only [if_true, List.length_set]
        congr 7
        funext j
        unfold rA va_up
        by_cases hj : j = n
        · subst hj
          rw [List.getElem?_set_self hn]
          simp
        · rw [List.getElem?_set_ne (fun q => hj q.symm)]
          simp [hj]
      rw [ec]
      exact h1
  exact k p ev R s m args below meth c H1 _ cells slots lsA hB hK hn9 (hS.put hsz oq (hH.A hX ha)) hL hR
end RT
