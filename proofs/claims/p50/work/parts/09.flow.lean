/-! segments, branches, ends -/
abbrev JE : Type := Nat × Instr × Nat × Nat
abbrev DCs (b : ByteArray) (l : List JE) : Prop := ∀ q ∈ l, decode b q.1 = .ok (q.2.1, lenI q.2.1)
def LKs (own : String) : List JE → Prop
  | [] => True
  | q :: l => LK own q.2 ∧ LKs own l
def JSeg (M : JM) (l : List JE) : Prop := DCs M.2.1 l ∧ LKs M.1.cls l
def runS : List JE → JT → Option JT
  | [], t => some t
  | q :: l, t => if t.1 = q.1 then (match stepI q.2.1 q.2.2.1 q.2.2.2 t.1 t.2.1 t.2.2.1 t.2.2.2 with
    | some t' => runS l t'
    | none => none) else none
section CT
variable {X : JX} {M : JM} {d mc ms : Nat} {Q : JR → Prop} {pc : Nat} {ls : List (Option Value)} {st : List Value} {h : MH}
theorem Ev.seg (hX : JXok X) {l : List JE} (sg : JSeg M l) {t : JT} (e : runS l (pc, ls, st, h) = some t) (kk : Ev X M d mc ms Q t.1 t.2.1 t.2.2.1 t.2.2.2) : Ev X M d mc ms Q pc ls st h := by
  induction l generalizing pc ls st h with
  | nil =>
    cases e
    exact kk
  | cons q l ih =>
    unfold runS at e
    have e : (if pc = q.1 then (match stepI q.2.1 q.2.2.1 q.2.2.2 pc ls st h with
      | some t' => runS l t'
      | none => none) else none) = some t := e
    by_cases hp : pc = q.1
    · rw [if_pos hp] at e
      cases ht : stepI q.2.1 q.2.2.1 q.2.2.2 pc ls st h with
      | none =>
        rw [ht] at e
        cases e
      | some t' =>
        rw [ht] at e
        have h1 : decode M.2.1 pc = .ok (q.2.1, lenI q.2.1) := by rw [hp]; exact sg.1 q List.mem_cons_self
        have h2 : LK M.1.cls (q.2.1, q.2.2.1, q.2.2.2) := sg.2.1
        have h3 : JSeg M l := ⟨fun q hq => sg.1 q (List.mem_cons_of_mem _ hq), sg.2.2⟩
        have h4 := ih (pc := t'.1) (ls := t'.2.1) (st := t'.2.2.1) (h := t'.2.2.2) h3 e
        exact step_ok (ins := q.2.1) (ci := q.2.2.1) (k := q.2.2.2) (t := t') hX h1 h2 ht h4
    · rw [if_neg hp] at e
      cases e
theorem Ev.if_eq {x : Int32} {off : Int} {tgt : Nat} (hdg : decode M.2.1 pc = .ok (.ifCond .eq off, 3)) (ht : (pc : Int) + off = (tgt : Int)) (kt : x = 0 → Ev X M d mc ms Q tgt ls st h) (kf : ¬ x = 0 → Ev X M d mc ms Q (pc + 3) ls st h) : Ev X M d mc ms Q pc ls (.int x :: st) h := by
  intro p ev R s m args below meth c H locs cells slots lsA hB hK hH hS hL hR
  exact lv_if_eq hB.1 hB.2.1 hdg ht (fun h9 => kt h9 p ev R s m args below meth c H locs cells slots lsA hB hK hH hS hL hR) (fun h9 => kf h9 p ev R s m args below meth c H locs cells slots lsA hB hK hH hS hL hR)
theorem Ev.icmp_eq {x y : Int32} {off : Int} {tgt : Nat} (hdg : decode M.2.1 pc = .ok (.if_icmp .eq off, 3)) (ht : (pc : Int) + off = (tgt : Int)) (kt : x = y → Ev X M d mc ms Q tgt ls st h) (kf : ¬ x = y → Ev X M d mc ms Q (pc + 3) ls st h) : Ev X M d mc ms Q pc ls (.int y :: .int x :: st) h := by
  intro p ev R s m args below meth c H locs cells slots lsA hB hK hH hS hL hR
  exact lv_icmp_eq hB.1 hB.2.1 hdg ht (fun h9 => kt h9 p ev R s m args below meth c H locs cells slots lsA hB hK hH hS hL hR) (fun h9 => kf h9 p ev R s m args below meth c H locs cells slots lsA hB hK hH hS hL hR)
theorem Ev.if_ne {x : Int32} {off : Int} {tgt : Nat} (hdg : decode M.2.1 pc = .ok (.ifCond .ne off, 3)) (ht : (pc : Int) + off = (tgt : Int)) (kt : ¬ x = 0 → Ev X M d mc ms Q tgt ls st h) (kf : x = 0 → Ev X M d mc ms Q (pc + 3) ls st h) : Ev X M d mc ms Q pc ls (.int x :: st) h := by
  intro p ev R s m args below meth c H locs cells slots lsA hB hK hH hS hL hR
  exact lv_if_ne hB.1 hB.2.1 hdg ht (fun h9 => kt h9 p ev R s m args below meth c H locs cells slots lsA hB hK hH hS hL hR) (fun h9 => kf h9 p ev R s m args below meth c H locs cells slots lsA hB hK hH hS hL hR)
theorem Ev.icmp_ne {x y : Int32} {off : Int} {tgt : Nat} (hdg : decode M.2.1 pc = .ok (.if_icmp .ne off, 3)) (ht : (pc : Int) + off = (tgt : Int)) (kt : ¬ x = y → Ev X M d mc ms Q tgt ls st h) (kf : x = y → Ev X M d mc ms Q (pc + 3) ls st h) : Ev X M d mc ms Q pc ls (.int y :: .int x :: st) h := by
  intro p ev R s m args below meth c H locs cells slots lsA hB hK hH hS hL hR
  exact lv_icmp_ne hB.1 hB.2.1 hdg ht (fun h9 => kt h9 p ev R s m args below meth c H locs cells slots lsA hB hK hH hS hL hR) (fun h9 => kf h9 p ev R s m args below meth c H locs cells slots lsA hB hK hH hS hL hR)
theorem Ev.if_lt {x : Int32} {off : Int} {tgt : Nat} (hdg : decode M.2.1 pc = .ok (.ifCond .lt off, 3)) (ht : (pc : Int) + off = (tgt : Int)) (kt : x < 0 → Ev X M d mc ms Q tgt ls st h) (kf : ¬ x < 0 → Ev X M d mc ms Q (pc + 3) ls st h) : Ev X M d mc ms Q pc ls (.int x :: st) h := by
  intro p ev R s m args below meth c H locs cells slots lsA hB hK hH hS hL hR
  exact lv_if_lt hB.1 hB.2.1 hdg ht (fun h9 => kt h9 p ev R s m args below meth c H locs cells slots lsA hB hK hH hS hL hR) (fun h9 => kf h9 p ev R s m args below meth c H locs cells slots lsA hB hK hH hS hL hR)
theorem Ev.icmp_lt {x y : Int32} {off : Int} {tgt : Nat} (hdg : decode M.2.1 pc = .ok (.if_icmp .lt off, 3)) (ht : (pc : Int) + off = (tgt : Int)) (kt : x < y → Ev X M d mc ms Q tgt ls st h) (kf : ¬ x < y → Ev X M d mc ms Q (pc + 3) ls st h) : Ev X M d mc ms Q pc ls (.int y :: .int x :: st) h := by
  intro p ev R s m args below meth c H locs cells slots lsA hB hK hH hS hL hR
  exact lv_icmp_lt hB.1 hB.2.1 hdg ht (fun h9 => kt h9 p ev R s m args below meth c H locs cells slots lsA hB hK hH hS hL hR) (fun h9 => kf h9 p ev R s m args below meth c H locs cells slots lsA hB hK hH hS hL hR)
theorem Ev.if_ge {x : Int32} {off : Int} {tgt : Nat} (hdg : decode M.2.1 pc = .ok (.ifCond .ge off, 3)) (ht : (pc : Int) + off = (tgt : Int)) (kt : 0 ≤ x → Ev X M d mc ms Q tgt ls st h) (kf : ¬ 0 ≤ x → Ev X M d mc ms Q (pc + 3) ls st h) : Ev X M d mc ms Q pc ls (.int x :: st) h := by
  intro p ev R s m args below meth c H locs cells slots lsA hB hK hH hS hL hR
  exact lv_if_ge hB.1 hB.2.1 hdg ht (fun h9 => kt h9 p ev R s m args below meth c H locs cells slots lsA hB hK hH hS hL hR) (fun h9 => kf h9 p ev R s m args below meth c H locs cells slots lsA hB hK hH hS hL hR)
theorem Ev.icmp_ge {x y : Int32} {off : Int} {tgt : Nat} (hdg : decode M.2.1 pc = .ok (.if_icmp .ge off, 3)) (ht : (pc : Int) + off = (tgt : Int)) (kt : y ≤ x → Ev X M d mc ms Q tgt ls st h) (kf : ¬ y ≤ x → Ev X M d mc ms Q (pc + 3) ls st h) : Ev X M d mc ms Q pc ls (.int y :: .int x :: st) h := by
  intro p ev R s m args below meth c H locs cells slots lsA hB hK hH hS hL hR
  exact lv_icmp_ge hB.1 hB.2.1 hdg ht (fun h9 => kt h9 p ev R s m args below meth c H locs cells slots lsA hB hK hH hS hL hR) (fun h9 => kf h9 p ev R s m args below meth c H locs cells slots lsA hB hK hH hS hL hR)
theorem Ev.if_gt {x : Int32} {off : Int} {tgt : Nat} (hdg : decode M.2.1 pc = .ok (.ifCond .gt off, 3)) (ht : (pc : Int) + off = (tgt : Int)) (kt : 0 < x → Ev X M d mc ms Q tgt ls st h) (kf : ¬ 0 < x → Ev X M d mc ms Q (pc + 3) ls st h) : Ev X M d mc ms Q pc ls (.int x :: st) h := by
  intro p ev R s m args below meth c H locs cells slots lsA hB hK hH hS hL hR
  exact lv_if_gt hB.1 hB.2.1 hdg ht (fun h9 => kt h9 p ev R s m args below meth c H locs cells slots lsA hB hK hH hS hL hR) (fun h9 => kf h9 p ev R s m args below meth c H locs cells slots lsA hB hK hH hS hL hR)
theorem Ev.icmp_gt {x y : Int32} {off : Int} {tgt : Nat} (hdg : decode M.2.1 pc = .ok (.if_icmp .gt off, 3)) (ht : (pc : Int) + off = (tgt : Int)) (kt : y < x → Ev X M d mc ms Q tgt ls st h) (kf : ¬ y < x → Ev X M d mc ms Q (pc + 3) ls st h) : Ev X M d mc ms Q pc ls (.int y :: .int x :: st) h := by
  intro p ev R s m args below meth c H locs cells slots lsA hB hK hH hS hL hR
  exact lv_icmp_gt hB.1 hB.2.1 hdg ht (fun h9 => kt h9 p ev R s m args below meth c H locs cells slots lsA hB hK hH hS hL hR) (fun h9 => kf h9 p ev R s m args below meth c H locs cells slots lsA hB hK hH hS hL hR)
theorem Ev.if_le {x : Int32} {off : Int} {tgt : Nat} (hdg : decode M.2.1 pc = .ok (.ifCond .le off, 3)) (ht : (pc : Int) + off = (tgt : Int)) (kt : x ≤ 0 → Ev X M d mc ms Q tgt ls st h) (kf : ¬ x ≤ 0 → Ev X M d mc ms Q (pc + 3) ls st h) : Ev X M d mc ms Q pc ls (.int x :: st) h := by
  intro p ev R s m args below meth c H locs cells slots lsA hB hK hH hS hL hR
  exact lv_if_le hB.1 hB.2.1 hdg ht (fun h9 => kt h9 p ev R s m args below meth c H locs cells slots lsA hB hK hH hS hL hR) (fun h9 => kf h9 p ev R s m args below meth c H locs cells slots lsA hB hK hH hS hL hR)
theorem Ev.icmp_le {x y : Int32} {off : Int} {tgt : Nat} (hdg : decode M.2.1 pc = .ok (.if_icmp .le off, 3)) (ht : (pc : Int) + off = (tgt : Int)) (kt : x ≤ y → Ev X M d mc ms Q tgt ls st h) (kf : ¬ x ≤ y → Ev X M d mc ms Q (pc + 3) ls st h) : Ev X M d mc ms Q pc ls (.int y :: .int x :: st) h := by
  intro p ev R s m args below meth c H locs cells slots lsA hB hK hH hS hL hR
  exact lv_icmp_le hB.1 hB.2.1 hdg ht (fun h9 => kt h9 p ev R s m args below meth c H locs cells slots lsA hB hK hH hS hL hR) (fun h9 => kf h9 p ev R s m args below meth c H locs cells slots lsA hB hK hH hS hL hR)
theorem Ev.nullR {x : Nat} {off : Int} (hdg : decode M.2.1 pc = .ok (.ifnull off, 3)) (k : Ev X M d mc ms Q (pc + 3) ls st h) : Ev X M d mc ms Q pc ls (.ref x :: st) h := by
  intro p ev R s m args below meth c H locs cells slots lsA hB hK hH hS hL hR
  exact lv_ifnull hB.1 hB.2.1 hdg (k p ev R s m args below meth c H locs cells slots lsA hB hK hH hS hL hR)
theorem Ev.tabOut {x : Int32} {dflt lo hi : Int} {offs : Array Int} {len tgt : Nat} (hdg : decode M.2.1 pc = .ok (.tableswitch dflt lo hi offs, len)) (hx : x.toInt < lo ∨ hi < x.toInt) (ht : (pc : Int) + dflt = (tgt : Int)) (k : Ev X M d mc ms Q tgt ls st h) : Ev X M d mc ms Q pc ls (.int x :: st) h := by
  intro p ev R s m args below meth c H locs cells slots lsA hB hK hH hS hL hR
  exact lv_tableOut hB.1 hB.2.1 hdg hx ht (k p ev R s m args below meth c H locs cells slots lsA hB hK hH hS hL hR)
theorem Ev.tabIn {x : Int32} {dflt lo hi off : Int} {offs : Array Int} {len tgt : Nat} (hdg : decode M.2.1 pc = .ok (.tableswitch dflt lo hi offs, len)) (h1 : ¬ x.toInt < lo) (h2 : ¬ hi < x.toInt) (ho : offs[(x.toInt - lo).toNat]? = some off) (ht : (pc : Int) + off = (tgt : Int)) (k : Ev X M d mc ms Q tgt ls st h) : Ev X M d mc ms Q pc ls (.int x :: st) h := by
  intro p ev R s m args below meth c H locs cells slots lsA hB hK hH hS hL hR
  exact lv_tableIn hB.1 hB.2.1 hdg h1 h2 ho ht (k p ev R s m args below meth c H locs cells slots lsA hB hK hH hS hL hR)
theorem Ev.look {x : Int32} {dflt off : Int} {ps : Array (Int × Int)} {len tgt : Nat} (hdg : decode M.2.1 pc = .ok (.lookupswitch dflt ps, len)) (hp : (ps.toList.zip (ps.toList.drop 1)).all (fun (a, next) => a.1 < next.1) = true) (ho : Op.lookupswitch.offset ps.toList dflt x.toInt = off) (ht : (pc : Int) + off = (tgt : Int)) (k : Ev X M d mc ms Q tgt ls st h) : Ev X M d mc ms Q pc ls (.int x :: st) h := by
  intro p ev R s m args below meth c H locs cells slots lsA hB hK hH hS hL hR
  exact lv_lookup hB.1 hB.2.1 hdg hp ho ht (k p ev R s m args below meth c H locs cells slots lsA hB hK hH hS hL hR)
theorem Ev.idiv {x y : Int32} (hdg : decode M.2.1 pc = .ok (.idiv, 1)) (hne : ¬ y = 0) (k : Ev X M d mc ms Q (pc + 1) ls (.int (x / y) :: st) h) : Ev X M d mc ms Q pc ls (.int y :: .int x :: st) h := by
  intro p ev R s m args below meth c H locs cells slots lsA hB hK hH hS hL hR
  exact lv_idiv hB.1 hB.2.1 hdg hne (k p ev R s m args below meth c H locs cells slots lsA hB hK hH hS hL hR)
theorem Ev.irem {x y : Int32} (hdg : decode M.2.1 pc = .ok (.irem, 1)) (hne : ¬ y = 0) (k : Ev X M d mc ms Q (pc + 1) ls (.int (x - x / y * y) :: st) h) : Ev X M d mc ms Q pc ls (.int y :: .int x :: st) h := by
  intro p ev R s m args below meth c H locs cells slots lsA hB hK hH hS hL hR
  exact lv_irem hB.1 hB.2.1 hdg hne (k p ev R s m args below meth c H locs cells slots lsA hB hK hH hS hL hR)
theorem Ev.iald {a n : Nat} {i : Int32} (es : zS h a = some (.inl (.int, n))) (hin : vp_in i n) (hdg : decode M.2.1 pc = .ok (.iaload, 1)) (k : Ev X M d mc ms Q (pc + 1) ls (.int (zI h a i.toNatClampNeg) :: st) h) : Ev X M d mc ms Q pc ls (.int i :: .ref a :: st) h := by
  intro p ev R s m args below meth c H locs cells slots lsA hB hK hH hS hL hR
  exact r_ald hB.1 hB.2.1 hK hH es hin hdg (k p ev R s m args below meth c H locs cells slots lsA hB hK hH hS hL hR)
theorem Ev.iret {v : Int32} (hdg : decode M.2.1 pc = .ok (.ireturn, 1)) (hr : M.2.2.2.1 = some .int) (hq : Q (.inl (some (.int v), h))) : Ev X M d mc ms Q pc ls [.int v] h := by
  intro p ev R s m args below meth c H locs cells slots lsA hB hK hH hS hL hR
  refine vx_ret ?_
  exact (W.widen (k := R.cells) (n := R.slots) (by omega) (by omega) (W.iret hB.1 hB.2.1 (hB.2.2.2.2.1.trans hr) (fun t ht hW => ⟨⟨some (.int v), h, rfl, hq, by rw [ht]; exact hH⟩, hS.F ht⟩) hS.2.2 hdg hB.2.2.2.2.2.1))
theorem Ev.zret {v : Int32} {ty : FieldType} (hdg : decode M.2.1 pc = .ok (.ireturn, 1)) (hr : M.2.2.2.1 = some ty) (hn : narrow ty (.int v) = .int v) (hq : Q (.inl (some (.int v), h))) : Ev X M d mc ms Q pc ls [.int v] h := by
  intro p ev R s m args below meth c H locs cells slots lsA hB hK hH hS hL hR
  refine vx_ret ?_
  exact (W.widen (k := R.cells) (n := R.slots) (by omega) (by omega) (W.zret hB.1 hB.2.1 (hB.2.2.2.2.1.trans hr) hn (fun t ht hW => ⟨⟨some (.int v), h, rfl, hq, by rw [ht]; exact hH⟩, hS.F ht⟩) hS.2.2 hdg hB.2.2.2.2.2.1))
theorem Ev.lret {v : Int64} (hdg : decode M.2.1 pc = .ok (.lreturn, 1)) (hr : M.2.2.2.1 = some .long) (hq : Q (.inl (some (.long v), h))) : Ev X M d mc ms Q pc ls [.long v] h := by
  intro p ev R s m args below meth c H locs cells slots lsA hB hK hH hS hL hR
  refine vx_ret ?_
  exact (W.widen (k := R.cells) (n := R.slots) (by omega) (by omega) (W.lret hB.1 hB.2.1 (hB.2.2.2.2.1.trans hr) (fun t ht hW => ⟨⟨some (.long v), h, rfl, hq, by rw [ht]; exact hH⟩, hS.F ht⟩) hS.2.2 hdg hB.2.2.2.2.2.1))
theorem Ev.dret {v : UInt64} (hdg : decode M.2.1 pc = .ok (.dreturn, 1)) (hr : M.2.2.2.1 = some .double) (hq : Q (.inl (some (.double v), h))) : Ev X M d mc ms Q pc ls [.double v] h := by
  intro p ev R s m args below meth c H locs cells slots lsA hB hK hH hS hL hR
  refine vx_ret ?_
  exact (W.widen (k := R.cells) (n := R.slots) (by omega) (by omega) (W.dret hB.1 hB.2.1 (hB.2.2.2.2.1.trans hr) (fun t ht hW => ⟨⟨some (.double v), h, rfl, hq, by rw [ht]; exact hH⟩, hS.F ht⟩) hS.2.2 hdg hB.2.2.2.2.2.1))
theorem Ev.fret {v : UInt32} (hdg : decode M.2.1 pc = .ok (.freturn, 1)) (hr : M.2.2.2.1 = some .float) (hq : Q (.inl (some (.float v), h))) : Ev X M d mc ms Q pc ls [.float v] h := by
  intro p ev R s m args below meth c H locs cells slots lsA hB hK hH hS hL hR
  refine vx_ret ?_
  exact (W.widen (k := R.cells) (n := R.slots) (by omega) (by omega) (W.fret hB.1 hB.2.1 (hB.2.2.2.2.1.trans hr) (fun t ht hW => ⟨⟨some (.float v), h, rfl, hq, by rw [ht]; exact hH⟩, hS.F ht⟩) hS.2.2 hdg hB.2.2.2.2.2.1))
theorem Ev.vret (hdg : decode M.2.1 pc = .ok (.return_, 1)) (hr : M.2.2.2.1 = none) (hq : Q (.inl (none, h))) : Ev X M d mc ms Q pc ls [] h := by
  intro p ev R s m args below meth c H locs cells slots lsA hB hK hH hS hL hR
  refine vx_ret ?_
  exact (W.widen (k := R.cells) (n := R.slots) (by omega) (by omega) (W.vret hB.1 hB.2.1 (hB.2.2.2.2.1.trans hr) (fun t ht hW => ⟨⟨none, h, rfl, hq, by rw [ht]; exact hH⟩, hS.F ht⟩) hS.2.2 hdg hB.2.2.2.2.2.1))
theorem Ev.aret {v : Nat} {rt : FieldType} (hdg : decode M.2.1 pc = .ok (.areturn, 1)) (hr : M.2.2.2.1 = some rt) (hrt : (∃ n, rt = .object n) ∨ ∃ t, rt = .array t) (hq : Q (.inl (some (.ref v), h))) : Ev X M d mc ms Q pc ls [.ref v] h := by
  intro p ev R s m args below meth c H locs cells slots lsA hB hK hH hS hL hR
  refine vx_ret ?_
  exact (W.widen (k := R.cells) (n := R.slots) (by omega) (by omega) (W.aret hB.1 hB.2.1 (hB.2.2.2.2.1.trans hr) hrt (Or.inr ⟨_, rfl⟩) (fun t ht hW => ⟨⟨some (.ref v), h, rfl, hq, by rw [ht]; exact hH⟩, hS.F ht⟩) hS.2.2 hdg hB.2.2.2.2.2.1))
end CT
theorem Ev.sg {X : JX} {M : JM} {d mc ms : Nat} {Q : JR → Prop} {pc : Nat} {ls : List (Option Value)} {st : List Value} {h : MH} (hX : JXok X) {l : List JE} (sg : JSeg M l) {pc' : Nat} {ls' : List (Option Value)} {st' : List Value} {h' : MH} (e : runS l (pc, ls, st, h) = some (pc', ls', st', h')) (kk : Ev X M d mc ms Q pc' ls' st' h') : Ev X M d mc ms Q pc ls st h := Ev.seg hX sg e kk
theorem MT.mk {X : JX} {d mc ms : Nat} {q : JD} {av : List Value} {h : MH} {Q : JR → Prop} (hb : DB q) (k : Ev X (jm q) d mc ms Q 0 (entL q.2.2.1 av) [] h) (hc : av.all (fun v => v.category == 1) = true := by rfl) (hn : Nat.ble av.length q.2.2.1 = true := by rfl) : MT X d mc ms q av h Q :=
  MT.of hb (fun v hv => by have := List.all_eq_true.mp hc v hv; simpa using this) (Nat.le_of_ble_eq_true hn) k
