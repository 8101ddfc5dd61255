/-! the law's world: one object is asked, another stays -/
section WLD
variable {X : JX} {M : JM} {d mc ms : Nat} {Q : JR → Prop} {pc : Nat} {ls : List (Option Value)} {h : MH} {b b' K Ky : Nat} {s sy : GS}
theorem OB.keep2 {ex : Nat} {h' : MH} (hb : b = 0 ∨ 396 ≤ b) (hb' : b' = 0 ∨ 396 ≤ b') (hd : DJ b' 395 b 395) (hy : OB Ky b' 395 sy h) (st : STEP b 395 ex h h') (ho : OB K b 395 s h') : OB Ky b' 395 sy h' := hy.keep hb' st hd (ho.fresh hb).2
theorem dj_of (h : b + 396 ≤ b' ∨ b' + 396 ≤ b) : DJ b 395 b' 395 := by
  have e1 : swp b 395 = b + 395 := if_pos (by decide)
  have e2 : swp b' 395 = b' + 395 := if_pos (by decide)
  unfold DJ
  rw [e1, e2]
  omega
/-- a call of the class -/
theorem Ev.askW {q : JD} {idx mc1 ms1 K' : Nat} {As rest : List Value} {xs : List String} {val : Option Value} {s' : GS} (hX : JXok X) (hM : jM X ≤ 396) (hb : b = 0 ∨ 396 ≤ b) (hb' : b' = 0 ∨ 396 ≤ b') (hd : DJ b' 395 b 395) (ho : OB K b 395 s h) (hy : OB Ky b' 395 sy h) (hB : zN h + 4 < BIG) (hq : DV q) (hl : Cond.methodLink M.1.cls idx q.1 ∈ BW) (hcl : q.1.cls = "ClassificationYard") (hdg : decode M.2.1 pc = .ok (.invokevirtual idx, 3)) (hdd : 13 ≤ d) (hlo : q.2.2.1 ≤ 21) (hc : (mc1 ≤ 4 ∧ ms1 ≤ 24) ∧ 4 ≤ mc ∧ 24 ≤ ms) (hn : As.length = q.2.2.2.2) (hw : (rest.map fun v => v.category).sum ≤ 8) (ha : ∀ v ∈ As, nref v) (hv : ∀ π, val.map (piV π) = val) (hxs : xs.length < 100)
    (hC : ∀ X' T I L D, JXok X' → CPs K (zN h) 395 T I L D s → CQ X' K' mc1 ms1 q As xs val 0 s' (zN h) 395 T I L D) (kk : ∀ h' mc' ms', zN h ≤ zN h' → zN h' ≤ zN h + 4 → OB K' b 395 s' h' → OB Ky b' 395 sy h' → mc - 4 ≤ mc' → ms - 24 ≤ ms' → Ev X M d mc' ms' Q (pc + 3) ls (val.toList ++ rest) h') : Ev X M d mc ms Q pc ls (As.reverse ++ .ref b :: rest) h := by
  refine Ev.ask (mc1 := mc1) (ms1 := ms1) hX hM hb ho (by omega) hq hl hcl hdg hdd hlo ⟨by omega, by omega⟩ hn hw ha hv hxs hC (fun h' st ob => ?_)
  exact kk h' _ _ st.1 st.2.1 ob (OB.keep2 hb hb' hd hy st ob) (by omega) (by omega)
/-- a method of the law over the object -/
theorem Ev.lawW {q : JD} {idx d' mc1 ms1 ex K' : Nat} {As rest : List Value} {val : Option Value} {s' : GS} (hb : b = 0 ∨ 396 ≤ b) (hb' : b' = 0 ∨ 396 ≤ b') (hd : DJ b' 395 b 395) (hy : OB Ky b' 395 sy h) (hq : DS q) (hl : Cond.methodLink M.1.cls idx q.1 ∈ BW) (hdg : decode M.2.1 pc = .ok (.invokestatic idx, 3)) (hm : MT X d' mc1 ms1 q As h (fun R => ∃ h', STEP b 395 ex h h' ∧ OB K' b 395 s' h' ∧ R = .inl (val, h'))) (hdd : d' + 1 ≤ d ∧ q.2.2.1 + 19 + 40 * d' ≤ 40 * d) (hc : mc1 ≤ mc ∧ ms1 ≤ ms) (hn : As.length = q.2.2.2.2) (hw : (rest.map fun v => v.category).sum ≤ 8)
    (kk : ∀ h' mc' ms', zN h ≤ zN h' → zN h' ≤ zN h + ex → OB K' b 395 s' h' → OB Ky b' 395 sy h' → mc - mc1 ≤ mc' → ms - ms1 ≤ ms' → Ev X M d mc' ms' Q (pc + 3) ls (val.toList ++ rest) h') : Ev X M d mc ms Q pc ls (As.reverse ++ rest) h := by
  refine Ev.callS hq hl hdg hm hdd hc hn hw (fun v9 h9 e9 => ?_) (fun E9 h9 e9 => ?_)
  · obtain ⟨h', st, ob, e⟩ := e9
    cases e
    exact kk h9 _ _ st.1 st.2.1 ob (OB.keep2 hb hb' hd hy st ob) (Nat.le_refl _) (Nat.le_refl _)
  · obtain ⟨h', st, ob, e⟩ := e9
    cases e
/-- the same, of one with handlers -/
theorem Ev.lawX {q : JD} {hh : JHs} {idx d' mc1 ms1 ex K' : Nat} {As rest : List Value} {val : Option Value} {s' : GS} (hb : b = 0 ∨ 396 ≤ b) (hb' : b' = 0 ∨ 396 ≤ b') (hd : DJ b' 395 b 395) (hy : OB Ky b' 395 sy h) (hq : DSH q hh) (hl : Cond.methodLink M.1.cls idx q.1 ∈ BW) (hdg : decode M.2.1 pc = .ok (.invokestatic idx, 3)) (hm : MTH X d' mc1 ms1 q hh As h (fun R => ∃ h', STEP b 395 ex h h' ∧ OB K' b 395 s' h' ∧ R = .inl (val, h'))) (hdd : d' + 1 ≤ d ∧ q.2.2.1 + 19 + 40 * d' ≤ 40 * d) (hc : mc1 ≤ mc ∧ ms1 ≤ ms) (hn : As.length = q.2.2.2.2) (hw : (rest.map fun v => v.category).sum ≤ 8)
    (kk : ∀ h' mc' ms', zN h ≤ zN h' → zN h' ≤ zN h + ex → OB K' b 395 s' h' → OB Ky b' 395 sy h' → mc - mc1 ≤ mc' → ms - ms1 ≤ ms' → Ev X M d mc' ms' Q (pc + 3) ls (val.toList ++ rest) h') : Ev X M d mc ms Q pc ls (As.reverse ++ rest) h := by
  refine Ev.callSX hq hl hdg hm hdd hc hn hw (fun v9 h9 e9 => ?_) (fun E9 h9 e9 => ?_)
  · obtain ⟨h', st, ob, e⟩ := e9
    cases e
    exact kk h9 _ _ st.1 st.2.1 ob (OB.keep2 hb hb' hd hy st ob) (Nat.le_refl _) (Nat.le_refl _)
  · obtain ⟨h', st, ob, e⟩ := e9
    cases e
/-- an object while cells are made -/
theorem OB.newc {n : Nat} {h' : MH} (hb : b = 0 ∨ 396 ≤ b) (ho : OB K b 395 s h) (hn : NEWC n h h') (hz : Z0 (zN h') (zI h') (zL h') (zD h')) : OB K b 395 s h' := ho.frame hb hn.1 (fun a ha _ => ⟨(hn.2.2 a ha).1, (hn.2.2 a ha).2.1, (hn.2.2 a ha).2.2.1⟩) hz
theorem txt_c (i : Nat) (hi : i < jnS) : ∀ c ∈ jshb.getD i [], vp_nar .char c = c := fun c hc => by
  obtain ⟨k, hk, rfl⟩ := List.getElem_of_mem hc
  have hlen := jsh_len i hi
  have hl40 := jshl_leN i hi
  have q := (chS_all i hi k (by omega)).2.2
  have e : chS i k = (jshb.getD i [])[k] := by
    unfold chS
    rw [List.getD_eq_getElem?_getD, List.getElem?_eq_getElem hk]
    rfl
  rw [e] at q
  exact q
theorem c_put0 {i : Nat} (hX : JXok X) (hM : jM X ≤ 396) (hb : b = 0 ∨ 396 ≤ b) (hi : i < jnS) (ho : OB K b 395 s h) (hq : s.2.2.2.2.1 = 0) (hB : zN h + 200 < BIG) : MT X 13 (4 * (jshb.getD i []).length) (24 * (jshb.getD i []).length) jdL_put [.ref b, .ref (jsh0 + i)] h (fun R => ∃ h', STEP b 395 160 h h' ∧ OB K b 395 ((jshb.getD i []).foldl appS s) h' ∧ R = .inl (none, h')) := by
  have hl40 := jshl_leN i hi
  have hlen := jsh_len i hi
  have C := c_put (v := 395) hX hM hb (strK hX hi) (fun _ _ _ _ => trivial) (txt_c i hi) ho trivial (by omega) (by omega)
  refine C.mono fun R hR => ?_
  obtain ⟨h', st, ob, -, e⟩ := hR
  exact ⟨h', st.le (by omega), ob, e⟩
theorem OB.d8 {v : Nat} (ho : OB K b v s h) : s.2.2.1 ≤ 8 ∧ s.1 0 ≤ 8 := by
  obtain ⟨-, T, -, c⟩ := ho
  obtain ⟨p1, -, -, -, -, d8⟩ := CP.pre c
  exact ⟨d8, p1⟩
/-- what the law's save leaves -/
def svS (s : GS) : GS := (s.1, s.2.1, s.2.2.1, some s.1, s.2.2.2.2)
theorem st_qq (A : Nat → Int32) : (bG A).2.2.2.2.1 = 0 := by
  have g1 : ∀ (n k : Nat) (s : GS) (z : Int32), (fo (fun k s => bF1 z k s) n k s).2.2.2.2.1 = s.2.2.2.2.1 := fun n k s z => fo_inv (P := fun (t : GS) => t.2.2.2.2.1 = s.2.2.2.2.1) (fun k t e => by
    refine Eq.trans ?_ e
    unfold bF1
    split
    · rw [cm_qq]
    · rw [cm_qq, cm_qq]) n k s rfl
  have if0 : ∀ {p : Prop} [Decidable p] {s s' : GS}, s'.2.2.2 = s.2.2.2 → (if p then s' else s).2.2.2 = s.2.2.2 := fun e => by
    split
    · exact e
    · rfl
  have g2 : ∀ (n k : Nat) (s : GS), (fo (fun k s => bF2 (A k) s) n k s).2.2.2.2.1 = s.2.2.2.2.1 := fun n k s => fo_inv (P := fun (t : GS) => t.2.2.2.2.1 = s.2.2.2.2.1) (fun k t e => by
    refine Eq.trans ?_ e
    have q : (bF2 (A k) t).2.2.2 = t.2.2.2 := by
      unfold bF2 bC8 bC7 bC6 bC5 bC4 bC3 bC2 bC1
      rw [if0 cm_qq, if0 cm_qq, if0 cm_qq, if0 cm_qq, if0 cm_qq, if0 cm_qq, cm_qq, cm_qq]
    rw [q]) n k s rfl
  unfold bG bG1
  rw [g2, g1]
  rfl
end WLD
