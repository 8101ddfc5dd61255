/-! what the start gives, as the walk wants it -/
section ST3
def g3_L : List Cond := flatC (Jvm.Cond.and given_1 narrow_1)
abbrev g3_ts : List Nat := [355, 390, 406, 422, 438, 657, 704, 713, 735, 758, 776, 783, 804, 834, 849, 1306, 884, 885, 886, 887, 888, 889, 890, 969, 984, 1390, 1001, 1020, 1181, 1223, 1224, 1225, 1242, 1369, 1276, 1293, 884, 885, 886, 887, 888, 889, 890, 1396, 1397, 1398, 1399, 1400, 1401, 1402, 1403, 1404, 1405, 1406, 1407, 1408, 1409, 1410, 1411, 1412, 1417]
abbrev g3_gs : List Nat := [295, 321, 352, 388, 427, 464, 500, 534, 555, 589, 628, 666, 701, 733, 756, 1104, 779, 792, 806, 817, 833, 848, 860, 873, 902, 1165, 922, 954, 985, 992, 1006, 1022, 1027, 1131, 1057, 1082, 779, 792, 806, 817, 833, 848, 860, 1197, 1230, 1235, 1260, 1273, 1280, 1285, 1290, 1305, 1320, 1333, 1337, 1349, 1368, 1382, 1387, 1411, 1448]
abbrev g3_tm (i : Nat) : Term := .string (jstr.getD (36 + i) ("", 0, "")).1 (jstr.getD (36 + i) ("", 0, "")).2.1
abbrev g3_vl (i : Nat) : Term := .field (g3_tm i) "java/lang/String" "value" "[B"
abbrev g3_dO : Term := .static "java/lang/Integer" "DigitOnes" "[B"
abbrev g3_dT : Term := .static "java/lang/Integer" "DigitTens" "[B"
theorem tb_of {w : Cond} (i : Nat) (h : tables_1[i]? = some w) : w ∈ lw_tbl := List.mem_append_right _ (List.mem_of_getElem? h)
set_option maxRecDepth 100000 in
theorem g3_ones : ∀ j, j < 100 → g3_L[14 + j]? = some (Cond.eq (.elem g3_dO (.int (Int32.ofNat j))) (.int (nI (48 + j % 10)))) := by decide +kernel
set_option maxRecDepth 100000 in
theorem g3_tens : ∀ j, j < 100 → g3_L[117 + j]? = some (Cond.eq (.elem g3_dT (.int (Int32.ofNat j))) (.int (nI (48 + j / 10)))) := by decide +kernel
set_option maxRecDepth 100000 in
theorem g3_str : ∀ i, i < 61 → tables_1[g3_ts.getD i 0]? = (jstr[i]?).map (fun q => Cond.stringRef q.1 q.2.1 q.2.2) ∧ g3_L[g3_gs.getD i 0]? = (jstr[i]?).map (fun q => Cond.exactly (.string q.1 q.2.1) "java/lang/String") := by decide +kernel
set_option maxRecDepth 100000 in
theorem g3_sh : ∀ i, i < 25 → g3_L[g3_gs.getD (36 + i) 0 + 1]? = some (Cond.eq (.field (g3_tm i) "java/lang/String" "coder" "B") (.int 0)) ∧ g3_L[g3_gs.getD (36 + i) 0 + 2]? = some (Cond.arrayOf (g3_vl i) .byte) ∧ g3_L[g3_gs.getD (36 + i) 0 + 3]? = some (Cond.eq (.length (g3_vl i)) (.int (Int32.ofNat (jshl.getD i 0)))) := by decide +kernel
set_option maxRecDepth 100000 in
theorem g3_el : ∀ i, i < 25 → ∀ j, j < jshl.getD i 0 → g3_L[g3_gs.getD (36 + i) 0 + 4 + j]? = some (Cond.eq (.elem (g3_vl i) (.int (Int32.ofNat j))) (.int ((jshb.getD i []).getD j 0))) := by decide +kernel
set_option maxRecDepth 100000 in
theorem g3_nc : ∀ E ∈ jexc, ∀ n ∈ jexc, E ≠ n → Cond.not (.castable E n) ∈ g3_L := by decide +kernel
theorem g3_df : ∀ i, i < 25 → ∀ j, j < 25 → i ≠ j → jshb.getD i [] ≠ jshb.getD j [] := by decide +kernel
/-- texts that agree sign by sign are one -/
theorem g3_ext {l m : List Int32} (h : l.length = m.length) (h2 : ∀ p, p < l.length → l.getD p 0 = m.getD p 0) : l = m := by
  refine List.ext_getElem h (fun p q1 q2 => ?_)
  have q := h2 p q1
  rw [List.getD_eq_getElem?_getD, List.getD_eq_getElem?_getD, List.getElem?_eq_getElem q1, List.getElem?_eq_getElem q2] at q
  exact q
theorem g3_one {i j : Nat} (hi : i < 25) (hj : j < 25) (h1 : Int32.ofNat (jshl.getD i 0) = Int32.ofNat (jshl.getD j 0)) (h2 : ∀ p, p < jshl.getD i 0 → p < jshl.getD j 0 → Value.int ((jshb.getD i []).getD p 0) = Value.int ((jshb.getD j []).getD p 0)) : jshb.getD i [] = jshb.getD j [] := by
  have a1 := jsh_len i hi
  have a2 := jsh_len j hj
  have b1 := jshl_leN i hi
  have b2 := jshl_leN j hj
  have e : jshl.getD i 0 = jshl.getD j 0 := nI_inj (by omega) (by omega) h1
  exact g3_ext (by omega) (fun p hp => Value.int.inj (h2 p (by omega) (by omega)))
theorem g3_jm : ∀ i, i < 25 → jstr[36 + i]? = some ((jstr.getD (36 + i) ("", 0, "")).1, (jstr.getD (36 + i) ("", 0, "")).2.1, (jstr.getD (36 + i) ("", 0, "")).2.2) := by decide +kernel
theorem g3_ln : ∀ i, i < 25 → jshl.getD i 0 < 2 ^ 31 := by decide +kernel
theorem g3_big : ∀ i, 61 ≤ i → jstr[i]? = none := fun i hi => List.getElem?_eq_none hi
/-- the addresses -/
def st_ad (N : Nat) (aS aV : Nat → Nat) (d1 d2 d3 b : Nat) : Nat → Nat := fun k => if k < BIG then N + k else if k - BIG < 61 then aS (k - BIG) else if k - BIG < 125 then aV (k - BIG - 100) else if k - BIG = 200 then d1 else if k - BIG = 201 then d2 else if k - BIG = 202 then d3 else b
section AD
variable {N : Nat} {aS aV : Nat → Nat} {d1 d2 d3 b : Nat}
theorem ad_lo {k : Nat} (h : k < BIG) : st_ad N aS aV d1 d2 d3 b k = N + k := by
  unfold st_ad
  rw [if_pos h]
theorem ad_hi {i : Nat} : st_ad N aS aV d1 d2 d3 b (BIG + i) = if i < 61 then aS i else if i < 125 then aV (i - 100) else if i = 200 then d1 else if i = 201 then d2 else if i = 202 then d3 else b := by
  unfold st_ad
  rw [if_neg (Nat.not_lt.mpr (Nat.le_add_right _ _)), Nat.add_sub_cancel_left]
theorem ad_S {i : Nat} (h : i < 61) : st_ad N aS aV d1 d2 d3 b (BIG + i) = aS i := by
  rw [ad_hi, if_pos h]
theorem ad_V {i : Nat} (h : i < 25) : st_ad N aS aV d1 d2 d3 b (BIG + 100 + i) = aV i := by
  rw [Nat.add_assoc, ad_hi, if_neg (by omega), if_pos (by omega), Nat.add_sub_cancel_left]
theorem ad_1 : st_ad N aS aV d1 d2 d3 b (BIG + 200) = d1 := by
  rw [ad_hi, if_neg (by decide), if_neg (by decide), if_pos rfl]
theorem ad_2 : st_ad N aS aV d1 d2 d3 b (BIG + 201) = d2 := by
  rw [ad_hi, if_neg (by decide), if_neg (by decide), if_neg (by decide), if_pos rfl]
theorem ad_3 : st_ad N aS aV d1 d2 d3 b (BIG + 202) = d3 := by
  rw [ad_hi, if_neg (by decide), if_neg (by decide), if_neg (by decide), if_neg (by decide), if_pos rfl]
theorem ad_b : st_ad N aS aV d1 d2 d3 b (BIG + 300) = b := by
  rw [ad_hi, if_neg (by decide), if_neg (by decide), if_neg (by decide), if_neg (by decide), if_neg (by decide)]
end AD
set_option maxRecDepth 100000 in
theorem kn_w : ∀ (c : Nat) (q : vw_C), jcl[c]? = some q → (∀ w ∈ u_ws q.1 q.2.1 q.2.2, w ∈ lw_tbl) ∧ ∃ n, Cond.instantiable q.1 n ∈ lw_tbl := by
  have f : ∀ {ci C T N ty}, CI ci C T N ty → (∀ w ∈ u_ws C T N, w ∈ lw_tbl) ∧ ∃ n, Cond.instantiable C n ∈ lw_tbl := fun h => ⟨fun w hw => (List.mem_filter.mp (h.2.1 w hw)).1, _, (List.mem_filter.mp h.2.2.2.2.1).1⟩
  intro c q h
  match c, h with
  | 0, h => cases h; exact f ci_X0
  | 1, h => cases h; exact f ci_X1
  | 2, h => cases h; exact f ci_X2
  | 3, h => cases h; exact f ci_X3
  | 4, h => cases h; exact f ci_X4
  | 5, h => cases h; exact f ci_X5
  | 6, h => cases h; exact f ci_X6
  | 7, h => cases h; exact f ci_J0
  | 8, h => cases h; exact f ci_J4
  | 9, h => cases h; exact ⟨fun w hw => absurd hw List.not_mem_nil, 6, tb_of 382 (by decide +kernel)⟩
  | 10, h => cases h; exact ⟨fun w hw => absurd hw List.not_mem_nil, 6, tb_of 398 (by decide +kernel)⟩
  | 11, h => cases h; exact ⟨fun w hw => absurd hw List.not_mem_nil, 6, tb_of 310 (by decide +kernel)⟩
  | 12, h => cases h; exact ⟨fun w hw => absurd hw List.not_mem_nil, 6, tb_of 414 (by decide +kernel)⟩
  | 13, h => cases h; exact ⟨fun w hw => absurd hw List.not_mem_nil, 6, tb_of 430 (by decide +kernel)⟩
  | 14, h => cases h; exact ⟨fun w hw => absurd hw List.not_mem_nil, 6, tb_of 826 (by decide +kernel)⟩
  | n + 15, h =>
    have e : jcl[n + 15]? = none := List.getElem?_eq_none (Nat.le_add_left 15 n)
    rw [e] at h
    cases h
theorem kn_arr {args : Array Value} {s : State} {ty : FieldType} (hn : ∀ C, ty ≠ .object C) (h : (Cond.arrayClass ty).before args s = true) : ∃ cA : ClassId, ArrOfT s cA ty ∧ va_RA s cA ty := by
  obtain ⟨cA, kA, comp, h1, h2, h3⟩ := Cond.arrayClass_spec h
  refine ⟨cA, fun n z => ⟨fun k h => (by cases h), kA, h2, comp, h3⟩, ?_⟩
  cases ty with
  | object C => exact absurd rfl (hn C)
  | _ => exact h1
theorem kn_arq {args : Array Value} {s : State} {C : String} (h : (Cond.arrayOver (.object C)).before args s = true) : ∃ cA : ClassId, ArrOfT s cA (.object C) ∧ va_RA s cA (.object C) := by
  obtain ⟨comp, cA, kA, h1, h2, h3, h4, h5⟩ := Cond.arrayOver_spec h
  exact ⟨cA, fun n z => ⟨fun k h => (by cases h), kA, h3, comp, h4⟩, kA, comp, h3, h4, h1, h5⟩
abbrev kn_T : List FieldType := [.int, .char, .byte, yT]
set_option maxRecDepth 100000 in
theorem kn_K {args : Array Value} {s : State} (hts : ∀ w ∈ lw_tbl, w.before args s = true) : ∃ (D : va_G) (C : FieldType → ClassId), va_K D jcl (kn_T.map fun t => (C t, t)) s := by
  have h0 : ∀ c : Nat, ∃ D : ClassId × (Nat → Nat), ∀ q : vw_C, jcl[c]? = some q → u_Kn s q.1 q.2.1 q.2.2 D.1 D.2 := by
    intro c
    cases hq : jcl[c]? with
    | none => exact ⟨(default, fun _ => 0), fun q h => by cases h⟩
    | some q0 =>
      obtain ⟨h1, n, h2⟩ := kn_w c q0 hq
      obtain ⟨a1, a2, a3⟩ := u_known (C := q0.1) (T := q0.2.1) (N := q0.2.2) (n := n) hts h1 (hts _ h2)
      exact ⟨(a1, a2), fun q h => by cases h; exact a3⟩
  obtain ⟨D, hD⟩ := Classical.axiomOfChoice h0
  have h1 : ∀ t : FieldType, ∃ cA : ClassId, t ∈ kn_T → ArrOfT s cA t ∧ va_RA s cA t := by
    intro t
    by_cases ht : t ∈ kn_T
    · have ht2 := ht
      simp only [kn_T, List.mem_cons, List.not_mem_nil, or_false] at ht
      rcases ht with rfl | rfl | rfl | rfl
      · obtain ⟨cA, h⟩ := kn_arr (fun C h => by cases h) (hts (.arrayClass .int) (tb_of 55 (by decide +kernel)))
        exact ⟨cA, fun _ => h⟩
      · obtain ⟨cA, h⟩ := kn_arr (fun C h => by cases h) (hts (.arrayClass .char) (tb_of 239 (by decide +kernel)))
        exact ⟨cA, fun _ => h⟩
      · obtain ⟨cA, h⟩ := kn_arr (fun C h => by cases h) (hts (.arrayClass .byte) (tb_of 272 (by decide +kernel)))
        exact ⟨cA, fun _ => h⟩
      · obtain ⟨cA, h⟩ := kn_arq (hts (.arrayOver yT) (tb_of 185 (by decide +kernel)))
        exact ⟨cA, fun _ => h⟩
    · exact ⟨default, fun h => absurd h ht⟩
  obtain ⟨C, hC⟩ := Classical.axiomOfChoice h1
  refine ⟨(fun c => (D c).1, fun c => (D c).2), C, fun c q hq => hD c q hq, fun k q hk => ?_⟩
  rw [List.getElem?_map] at hk
  cases ht : kn_T[k]? with
  | none => rw [ht] at hk; cases hk
  | some t =>
    rw [ht] at hk
    cases hk
    exact hC t (List.mem_of_getElem? ht)
set_option maxRecDepth 100000 in
theorem kn_str {args : Array Value} {s : State} {A : Nat → Prop} (hg : ∀ w ∈ g3_L, w.before args s = true) (hA : ∀ a : Nat, a < s.heap.size → ¬ A a) : ∃ aS : Nat → Nat, ∀ (i : Nat) (q : String × Nat × String), jstr[i]? = some q → (Term.string q.1 q.2.1).eval args s none [] s = some (.ref (aS i)) ∧ va_O "java/lang/String" (aS i) A s s.heap := by
  have h0 : ∀ i : Nat, ∃ a : Nat, ∀ q : String × Nat × String, jstr[i]? = some q → (Term.string q.1 q.2.1).eval args s none [] s = some (.ref a) ∧ va_O "java/lang/String" a A s s.heap := by
    intro i
    cases hq : jstr[i]? with
    | none => exact ⟨0, fun q h => by cases h⟩
    | some q0 =>
      have hi : i < 61 := (List.getElem?_eq_some_iff.mp hq).1
      have e : g3_L[g3_gs.getD i 0]? = some (Cond.exactly (.string q0.1 q0.2.1) "java/lang/String") := by
        have e := (g3_str i hi).2
        rw [hq] at e
        exact e
      have hex := hg _ (List.mem_of_getElem? e)
      obtain ⟨a, c, cA, kA, q1, q2, q3, q4, q5, q6, -⟩ := Cond.exactly_spec (args := args) (first := s) (o := none) (s := s) (idx := []) (t := .string q0.1 q0.2.1) (cls := "java/lang/String") hex
      exact ⟨a, fun q h => by cases h; exact ⟨q1, cA, q3, q5, by rw [q6]; exact q2, hA a (Array.getElem?_eq_some_iff.mp q3).1⟩⟩
  obtain ⟨aS, h⟩ := Classical.axiomOfChoice h0
  exact ⟨aS, h⟩
theorem kn_val {args : Array Value} {s : State} {A : Nat → Prop} (hg : ∀ w ∈ g3_L, w.before args s = true) (hA : ∀ a : Nat, a < s.heap.size → ¬ A a) : ∃ aV : Nat → Nat, ∀ i : Nat, i < 25 → (g3_vl i).eval args s none [] s = some (.ref (aV i)) ∧ va_T .byte (aV i) (jshl.getD i 0) (fun j => .int ((jshb.getD i []).getD j 0)) A s s.heap := by
  have h0 : ∀ i : Nat, ∃ t : Nat, i < 25 → (g3_vl i).eval args s none [] s = some (.ref t) ∧ va_T .byte t (jshl.getD i 0) (fun j => .int ((jshb.getD i []).getD j 0)) A s s.heap := by
    intro i
    by_cases hi : i < 25
    · obtain ⟨-, e2, e3⟩ := g3_sh i hi
      obtain ⟨t, h1, h2⟩ := va_Tof (f := fun j => .int ((jshb.getD i []).getD j 0)) (A := A) (g3_ln i hi) (hg _ (List.mem_of_getElem? e2)) (va_eqt (hg _ (List.mem_of_getElem? e3))) (fun j hj => va_eqt (hg _ (List.mem_of_getElem? (g3_el i hi j hj)))) hA
      exact ⟨t, fun _ => ⟨h1, h2⟩⟩
    · exact ⟨0, fun h => absurd h hi⟩
  obtain ⟨aV, h⟩ := Classical.axiomOfChoice h0
  exact ⟨aV, h⟩
theorem kn_OFi {o n d : String} {v w : Value} {t : Nat} {A : Nat → Prop} {U : State} {H : Heap} (h1 : va_OF o n d v t A U H) (h2 : va_OF o n d w t A U H) : v = w := by
  obtain ⟨cf, k, i, f, cell, a1, a2, a3, a4, a5, a6⟩ := h1
  obtain ⟨cf', k', i', f', cell', b1, b2, b3, b4, b5, b6⟩ := h2
  cases a1.symm.trans b1
  cases a3.symm.trans b3
  exact Option.some.inj (a5.symm.trans b5)
theorem kn_Ti {ty : FieldType} {t N N' : Nat} {f g : Nat → Value} {A : Nat → Prop} {U : State} {H : Heap} (h1 : va_T ty t N f A U H) (h2 : va_T ty t N' g A U H) : Int32.ofNat N = Int32.ofNat N' ∧ ∀ j, j < N → j < N' → f j = g j := by
  obtain ⟨cell, a1, a2, a3, a4, a5, a6, a7⟩ := h1
  obtain ⟨cell', b1, b2, b3, b4, b5, b6, b7⟩ := h2
  cases a1.symm.trans b1
  exact ⟨a5.symm.trans b5, fun j h h' => Option.some.inj ((a6 j h).symm.trans (b6 j h'))⟩
theorem kn_S {args : Array Value} {s : State} {A : Nat → Prop} {aS aV : Nat → Nat} (hg : ∀ w ∈ g3_L, w.before args s = true) (hA : ∀ a : Nat, a < s.heap.size → ¬ A a)
    (hS : ∀ (i : Nat) (q : String × Nat × String), jstr[i]? = some q → (Term.string q.1 q.2.1).eval args s none [] s = some (.ref (aS i)) ∧ va_O "java/lang/String" (aS i) A s s.heap)
    (hV : ∀ i : Nat, i < 25 → (g3_vl i).eval args s none [] s = some (.ref (aV i)) ∧ va_T .byte (aV i) (jshl.getD i 0) (fun j => .int ((jshb.getD i []).getD j 0)) A s s.heap) : vk_S 25 jshl jshb (fun i => aS (36 + i)) aV A s s.heap := by
  have key : ∀ i : Nat, i < 25 → va_O "java/lang/String" (aS (36 + i)) A s s.heap ∧ va_OF "java/lang/String" "coder" "B" (.int 0) (aS (36 + i)) A s s.heap ∧ va_OF "java/lang/String" "value" "[B" (.ref (aV i)) (aS (36 + i)) A s s.heap ∧ va_T .byte (aV i) (jshl.getD i 0) (fun j => .int ((jshb.getD i []).getD j 0)) A s s.heap := by
    intro i hi
    obtain ⟨q1, q2⟩ := hS (36 + i) _ (g3_jm i hi)
    obtain ⟨v1, v2⟩ := hV i hi
    exact ⟨q2, vk_OFof q1 (va_eqt (hg _ (List.mem_of_getElem? (g3_sh i hi).1))) hA, vk_OFof q1 v1 hA, v2⟩
  refine ⟨key, fun i j hi hj e => ?_⟩
  by_cases hij : i = j
  · exact hij
  · have e : aS (36 + i) = aS (36 + j) := e
    have k1 := (key i hi).2.2
    have k2 := (key j hj).2.2
    rw [e] at k1
    have ev := Value.ref.inj (kn_OFi k1.1 k2.1)
    have t1 := k1.2
    rw [ev] at t1
    obtain ⟨r1, r2⟩ := kn_Ti t1 k2.2
    exact absurd (g3_one hi hj r1 r2) (g3_df i hi j hj hij)
set_option maxRecDepth 100000 in
/-- what a method may take as known, at the law's entry -/
theorem kn_go {s : State} {b L : Nat} {xs : Nat → Int32} (l : Launch) (hts : ∀ w ∈ lw_tbl, w.before #[Value.ref b] s = true) (hx : va_X b L xs s s.heap) (hbl : b < s.heap.size) (hgv : (Jvm.Cond.and given_1 narrow_1).before #[Value.ref b] s = true) : ∃ X : JX, X.1 = l ∧ jM X = 0 ∧ (∀ k, k < BIG → jA X k = jN X + k) ∧ jN X = s.heap.size ∧ jA X (BIG + 300) = b ∧ jSn X = L ∧ KK X s := by
  have hg : ∀ w ∈ g3_L, w.before #[Value.ref b] s = true := flat_of_before _ hgv
  obtain ⟨D, C, hK⟩ := kn_K hts
  have hA : ∀ a : Nat, a < s.heap.size → ¬ (fun q : Nat => s.heap.size ≤ q) a := fun a h => Nat.not_le.mpr h
  obtain ⟨aS, hS⟩ := kn_str hg hA
  obtain ⟨aV, hV⟩ := kn_val hg hA
  have hSS := kn_S hg hA hS hV
  obtain ⟨d1, h1e, h1t⟩ := va_Tof (tm := g3_dO) (ty := .byte) (N := 100) (f := fun j => .int (nI (48 + j % 10))) (A := fun q : Nat => s.heap.size ≤ q) (by decide) (hg (Cond.arrayOf g3_dO .byte) (List.mem_of_getElem? (i := 12) (by decide +kernel))) (va_eqt (hg _ (List.mem_of_getElem? (i := 13) (by decide +kernel)))) (fun j hj => va_eqt (hg _ (List.mem_of_getElem? (g3_ones j hj)))) hA
  obtain ⟨d2, h2e, h2t⟩ := va_Tof (tm := g3_dT) (ty := .byte) (N := 100) (f := fun j => .int (nI (48 + j / 10))) (A := fun q : Nat => s.heap.size ≤ q) (by decide) (hg (Cond.arrayOf g3_dT .byte) (List.mem_of_getElem? (i := 115) (by decide +kernel))) (va_eqt (hg _ (List.mem_of_getElem? (i := 116) (by decide +kernel)))) (fun j hj => va_eqt (hg _ (List.mem_of_getElem? (g3_tens j hj)))) hA
  have z1 := va_Zof (A := fun q : Nat => s.heap.size ≤ q) (hts (.laysStatic "java/lang/Integer" "DigitOnes" "[B") (tb_of 1130 (by decide +kernel))) (hts (.initialized "java/lang/Integer") (tb_of 28 (by decide +kernel))) h1e hA
  have z2 := va_Zof (A := fun q : Nat => s.heap.size ≤ q) (hts (.laysStatic "java/lang/Integer" "DigitTens" "[B") (tb_of 1132 (by decide +kernel))) (hts (.initialized "java/lang/Integer") (tb_of 28 (by decide +kernel))) h2e hA
  have z3 := va_Zof (A := fun q : Nat => s.heap.size ≤ q) (hts (.laysStatic "java/lang/String" "COMPACT_STRINGS" "Z") (tb_of 250 (by decide +kernel))) (hts (.initialized "java/lang/String") (tb_of 10 (by decide +kernel))) (va_eqi (hg (Cond.eq (.static "java/lang/String" "COMPACT_STRINGS" "Z") (.int 1)) (List.mem_of_getElem? (i := 4) (by decide +kernel)))) hA
  have u1 := vx_Zqof (A := fun q : Nat => s.heap.size ≤ q) (hts (.laysStatic "java/lang/Throwable" "UNASSIGNED_STACK" "[Ljava/lang/StackTraceElement;") (tb_of 336 (by decide +kernel))) (hts (.initialized "java/lang/Throwable") (tb_of 12 (by decide +kernel))) (hg (Cond.isRef (.static "java/lang/Throwable" "UNASSIGNED_STACK" "[Ljava/lang/StackTraceElement;")) (List.mem_of_getElem? (i := 5) (by decide +kernel))) hA
  have u2 := vx_Zqof (A := fun q : Nat => s.heap.size ≤ q) (hts (.laysStatic "java/lang/Throwable" "SUPPRESSED_SENTINEL" "Ljava/util/List;") (tb_of 338 (by decide +kernel))) (hts (.initialized "java/lang/Throwable") (tb_of 12 (by decide +kernel))) (hg (Cond.isRef (.static "java/lang/Throwable" "SUPPRESSED_SENTINEL" "Ljava/util/List;")) (List.mem_of_getElem? (i := 6) (by decide +kernel))) hA
  obtain ⟨d3, z4⟩ : ∃ d3 : Nat, va_Z "jdk/internal/util/Preconditions" "SIOOBE_FORMATTER" "Ljava/util/function/BiFunction;" .null (fun q : Nat => s.heap.size ≤ q) s s.heap ∨ va_Z "jdk/internal/util/Preconditions" "SIOOBE_FORMATTER" "Ljava/util/function/BiFunction;" (.ref d3) (fun q : Nat => s.heap.size ≤ q) s s.heap := by
    rcases va_Zqof (A := fun q : Nat => s.heap.size ≤ q) (hts (.laysStatic "jdk/internal/util/Preconditions" "SIOOBE_FORMATTER" "Ljava/util/function/BiFunction;") (tb_of 919 (by decide +kernel))) (hts (.initialized "jdk/internal/util/Preconditions") (tb_of 25 (by decide +kernel))) (hg (Cond.isRef (.static "jdk/internal/util/Preconditions" "SIOOBE_FORMATTER" "Ljava/util/function/BiFunction;")) (List.mem_of_getElem? (i := 7) (by decide +kernel))) hA with h | ⟨t, h⟩
    · exact ⟨0, Or.inl h⟩
    · exact ⟨t, Or.inr h⟩
  refine ⟨(l, D, C, s.heap.size, st_ad s.heap.size aS aV d1 d2 d3 b, L, xs, 0), rfl, rfl, fun k hk => ad_lo (N := s.heap.size) (aS := aS) (aV := aV) (d1 := d1) (d2 := d2) (d3 := d3) (b := b) hk, rfl, ad_b (N := s.heap.size) (aS := aS) (aV := aV) (d1 := d1) (d2 := d2) (d3 := d3) (b := b), rfl, ?_⟩
  refine ⟨fun w hw => word_at (State.WarmedH.refl s) (bw_good hw) (hts w (List.mem_filter.mp hw).1), hK, ?_, va_AO.of (hts _ (tb_of 185 (by decide +kernel))), Nat.le_refl _, ?_⟩
  · intro w hw
    simp only [NW, List.mem_cons, List.not_mem_nil, or_false] at hw
    rcases hw with rfl | rfl | rfl | rfl | rfl
    · exact va_Nw.of rfl (hts _ (tb_of 41 (by decide +kernel)))
    · exact va_Nw.of rfl (hts _ (tb_of 58 (by decide +kernel)))
    · exact va_Nw.of rfl (hts _ (tb_of 186 (by decide +kernel)))
    · exact va_Nw.of rfl (hts _ (tb_of 208 (by decide +kernel)))
    · exact va_Nw.of rfl (hts _ (tb_of 303 (by decide +kernel)))
  · refine ⟨fun i q hq => ?_, ⟨fun i hi => ?_, fun i j hi hj e => ?_⟩, u1, u2, z3, ?_, ?_, ?_, ?_, ?_, fun w hw => ?_, fun E hE n hn hEn => va_Nc.of (hg _ (g3_nc E hE n hn hEn)), ?_⟩
    · have hi : i < 61 := (List.getElem?_eq_some_iff.mp hq).1
      have e : tables_1[g3_ts.getD i 0]? = some (Cond.stringRef q.1 q.2.1 q.2.2) := by
        have e := (g3_str i hi).1
        rw [hq] at e
        exact e
      show vk_R q.1 q.2.1 q.2.2 (st_ad s.heap.size aS aV d1 d2 d3 b (BIG + i)) s
      rw [ad_S hi]
      exact vk_R.of (hts _ (tb_of _ e)) (hS i q hq).1
    · have hi : i < 25 := hi
      have k := hSS.1 i hi
      show va_O "java/lang/String" (st_ad s.heap.size aS aV d1 d2 d3 b (BIG + 36 + i)) (fun q : Nat => s.heap.size ≤ q) s s.heap ∧ va_OF "java/lang/String" "coder" "B" (.int 0) (st_ad s.heap.size aS aV d1 d2 d3 b (BIG + 36 + i)) (fun q : Nat => s.heap.size ≤ q) s s.heap ∧ va_OF "java/lang/String" "value" "[B" (.ref (st_ad s.heap.size aS aV d1 d2 d3 b (BIG + 100 + i))) (st_ad s.heap.size aS aV d1 d2 d3 b (BIG + 36 + i)) (fun q : Nat => s.heap.size ≤ q) s s.heap ∧ va_T .byte (st_ad s.heap.size aS aV d1 d2 d3 b (BIG + 100 + i)) (jshl.getD i 0) (fun j => .int ((jshb.getD i []).getD j 0)) (fun q : Nat => s.heap.size ≤ q) s s.heap
      rw [ad_V hi, Nat.add_assoc, ad_S (i := 36 + i) (by omega)]
      exact k
    · have hi : i < 25 := hi
      have hj : j < 25 := hj
      refine hSS.2 i j hi hj ?_
      have e : st_ad s.heap.size aS aV d1 d2 d3 b (BIG + 36 + i) = st_ad s.heap.size aS aV d1 d2 d3 b (BIG + 36 + j) := e
      rw [Nat.add_assoc, Nat.add_assoc, ad_S (i := 36 + i) (by omega), ad_S (i := 36 + j) (by omega)] at e
      exact e
    · show _ ∨ va_Z "jdk/internal/util/Preconditions" "SIOOBE_FORMATTER" "Ljava/util/function/BiFunction;" (.ref (st_ad s.heap.size aS aV d1 d2 d3 b (BIG + 202))) _ s s.heap
      rw [ad_3]
      exact z4
    · show va_Z "java/lang/Integer" "DigitOnes" "[B" (.ref (st_ad s.heap.size aS aV d1 d2 d3 b (BIG + 200))) _ s s.heap
      rw [ad_1]
      exact z1
    · show va_T .byte (st_ad s.heap.size aS aV d1 d2 d3 b (BIG + 200)) 100 _ _ s s.heap
      rw [ad_1]
      exact h1t
    · show va_Z "java/lang/Integer" "DigitTens" "[B" (.ref (st_ad s.heap.size aS aV d1 d2 d3 b (BIG + 201))) _ s s.heap
      rw [ad_2]
      exact z2
    · show va_T .byte (st_ad s.heap.size aS aV d1 d2 d3 b (BIG + 201)) 100 _ _ s s.heap
      rw [ad_2]
      exact h2t
    · have hw1 := (List.mem_filter.mp hw).1
      have hf : w.faceAtom = true := (List.mem_filter.mp hw).2
      have ho : w.onTables = true := by cases w <;> first | rfl | (simp [Cond.faceAtom] at hf)
      exact va_tabs (u := s) ho rfl (hts w (List.mem_append_right _ hw1))
    · show va_T .int (st_ad s.heap.size aS aV d1 d2 d3 b (BIG + 300)) L (fun j => .int (xs j)) _ s s.heap
      rw [ad_b]
      obtain ⟨scr, h1, h2, h3, h4, h5⟩ := hx
      exact ⟨scr, h1, h2, h3, Nat.le_of_eq h4.symm, by rw [h4], h5, Nat.not_le.mpr hbl⟩
end ST3
