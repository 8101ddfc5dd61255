/-! members of the JDK that are rows, texts, statics, floats -/
def cpyI (h : MH) (a0 a n : Nat) : MH := (zN h, zS h, fun b j => if b = a then (if j < n then zI h a0 j else zI h a j) else zI h b j, zL h, zD h)
section R8
variable {X : JX} {M : JM} {d mc ms : Nat} {Q : JR → Prop} {pc : Nat} {ls : List (Option Value)} {st : List Value} {h : MH}
theorem nfw_le : nativeFrameWords "java/lang/System" "arraycopy" 5 + 11 ≤ 60 := by decide +kernel
set_option maxHeartbeats 4000000 in
theorem Ev.copyA {ty : FieldType} {ti a0 a n0 n1 n idx : Nat} (hty : ty = .int ∧ ti = 0 ∨ ty = .byte ∧ ti = 2) (hX : JXok X) (es0 : zS h a0 = some (.inl (ty, n0))) (es1 : zS h a = some (.inl (ty, n1))) (h0 : n ≤ n0) (h1 : n ≤ n1) (hn : n ≤ 100000) (hfit : ∀ j, j < n → fits ty (.int (zI h a0 j)) = true)
    (hl : Cond.methodLink M.1.cls idx arraycopyName ∈ BW) (hw : (st.map fun v => v.category).sum ≤ 8) (hd : 2 ≤ d) {i : Int32} (hi : i = nI n) (hdg : decode M.2.1 pc = .ok (.invokestatic idx, 3)) (k : Ev X M d mc ms Q (pc + 3) ls st (cpyI h a0 a n)) :
    Ev X M d mc ms Q pc ls (.int i :: .int 0 :: .ref a :: .int 0 :: .ref a0 :: st) h := by
  intro p ev R s m args below meth c H locs cells slots lsA hB hK hH hS hL hR
  subst hi
  have hca : ∀ b n, cA h b ty n = (n, .inl (zI h b)) := by rcases hty with ⟨rfl, -⟩ | ⟨rfl, -⟩ <;> intro b n <;> rfl
  have hca' : ∀ b n, cA (cpyI h a0 a n) b ty n1 = (n1, .inl (zI (cpyI h a0 a n) b)) := by rcases hty with ⟨rfl, -⟩ | ⟨rfl, -⟩ <;> intro b n <;> rfl
  have hrk : refKind ty = false := by rcases hty with ⟨rfl, -⟩ | ⟨rfl, -⟩ <;> rfl
  have htt : (jty X)[ti]? = some (jC X ty, ty) := by rcases hty with ⟨rfl, rfl⟩ | ⟨rfl, rfl⟩ <;> rfl
  have hz : (0 : Int32).toNatClampNeg = 0 := rfl
  have hc : (nI n).toNatClampNeg = n := nI_clamp (by omega)
  have hnI : (nI n).toInt = (n : Int) := nI_toInt (by omega)
  have hnn : ¬ nI n < 0 := nI_pos (by omega)
  have q0 := hH.at (hH.lt es0)
  have q1 := hH.at (hH.lt es1)
  rw [cE_arr es0, hca] at q0
  rw [cE_arr es1, hca] at q1
  have hc0 : H[jA X a0]? = some (vp_cell (jC X ty) (n0, .inl (zI h a0))) := q0
  have hc1 : H[jA X a]? = some (vp_cell (jC X ty) (n1, .inl (zI h a))) := q1
  obtain ⟨-, k0, hk0, cm0, hkk0⟩ := (hK.2.1.2 ti _ htt).1 n0 (fun j => .int (zI h a0 j))
  obtain ⟨-, k1, hk1, cm1, hkk1⟩ := (hK.2.1.2 ti _ htt).1 n1 (fun j => .int (zI h a j))
  have hkk0 : k0.kind = .array cm0 ty := hkk0
  have hkk1 : k1.kind = .array cm1 ty := hkk1
  intro T hT XT
  obtain ⟨vm', X', step⟩ := XT.arraycopy hB.1 hB.2.2.2.1 (hK.word hl args) (hK.word (w := Cond.native arraycopyName) (by decide +kernel) args) (hK.word (w := Cond.static arraycopyName) (by decide +kernel) args) (hK.word (w := Cond.initialized "java/lang/System") (by decide +kernel) args)
    (src := jA X a0) (dst := jA X a) (cs := arrV (jC X ty) n0 (fun j => .int (zI h a0 j))) (cd := arrV (jC X ty) n1 (fun j => .int (zI h a j))) (srcPos := 0) (destPos := 0) (n := nI n) (by rw [hT]; exact hc0) (by rw [hT]; exact hc1)
    (fun _ g => by cases g) (fun _ g => by cases g) (fun g => by cases g) (fun g => by cases g) hk0 hk1 hkk0 hkk1 (by simp [hrk]) (by decide) (by decide) hnn
    (by rw [hnI]; show ¬ (0 : Int) + _ > ((arrV (jC X ty) n0 (fun j => .int (zI h a0 j))).slots.size : Int); rw [arrV_size]; omega)
    (by rw [hnI]; show ¬ (0 : Int) + _ > ((arrV (jC X ty) n1 (fun j => .int (zI h a j))).slots.size : Int); rw [arrV_size]; omega)
    (fun vm₁ _ i hi => by
      rw [hc] at hi
      have e : (arrV (jC X ty) n0 (fun j => .int (zI h a0 j))).slots.getD ((0 : Int32).toNatClampNeg + i) .null = .int (zI h a0 i) := by
        rw [hz, Nat.zero_add, Array.getD_eq_getD_getElem?, arrV_read _ _ (by omega)]
        rfl
      exact ⟨by rw [e]; exact hfit i hi, by rw [e]; exact trivial⟩)
    (g := F0 m pc lsA (.int (nI n) :: .int 0 :: .ref (jA X a) :: .int 0 :: .ref (jA X a0) :: st.map (trV X))) rfl (by rw [hB.2.2.1]; exact hL.1) (rest := st.map (trV X)) rfl (by rw [hB.2.1]; exact hdg) (by omega)
    (by show 2 * 0 + ((st.map (trV X)).map fun v => v.category).sum + _ ≤ _; rw [st_cat]; have := nfw_le; omega)
  have e1 := va_copied (fun z => .int z) (jC X ty) (jC X ty) (zI h a0) (zI h a) (sp := 0) (dp := 0) (n := n) (n0 := n0) (n1 := n1) (by omega)
  have e2 : copied (arrV (jC X ty) n0 (fun j => .int (zI h a0 j))) (arrV (jC X ty) n1 (fun j => .int (zI h a j))) 0 0 (nI n) = vp_cell (jC X ty) (n1, .inl (zI (cpyI h a0 a n) a)) := by
    unfold copied
    rw [hz, hc]
    refine e1.trans ?_
    rw [vp_cell_i]
    congr 1
    funext j
    show Value.int (va_cpy (zI h a0) (zI h a) 0 0 n j) = Value.int (if a = a then (if j < n then zI h a0 j else zI h a j) else zI h a j)
    simp [va_cpy]
  rw [e2] at X' step
  have hl9 : jA X a < H.size := (Array.getElem?_eq_some_iff.mp hc1).1
  generalize hce : vp_cell (jC X ty) (n1, .inl (zI (cpyI h a0 a n) a)) = ce at X' step
  have hheap : ((T.setVm vm').setCell (jA X a) ce).heap = H.setIfInBounds (jA X a) ce := by rw [← hT]; rfl
  have oq : ∀ q : Nat, q ≠ jA X a → (H.setIfInBounds (jA X a) ce)[q]? = H[q]? := fun q hq => by simp [Array.getElem?_setIfInBounds, Ne.symm hq]
  have hn9 : Hd X (cpyI h a0 a n) (H.setIfInBounds (jA X a) ce) := by
    refine hH.upd (h' := cpyI h a0 a n) hX (hH.lt es1) rfl (fun _ => rfl) (fun j hj => cE_congr rfl ?_ rfl rfl) ?_ (by simp) oq
    · funext q
      show (if j = a then _ else zI h j q) = zI h j q
      rw [if_neg hj]
    · rw [cE_arr (h := cpyI h a0 a n) (n := n1) (ty := ty) es1, hca']
      show (H.setIfInBounds (jA X a) ce)[jA X a]? = some (vp_cell (jC X ty) (n1, .inl (zI (cpyI h a0 a n) a)))
      rw [hce]
      simp [Array.getElem?_setIfInBounds, hl9]
  obtain ⟨t, a1, b1⟩ := k p ev R s m args below meth c _ _ cells slots lsA hB hK hn9 ⟨by simp; exact hS.1, fun q g1 g2 => by
      rw [oq q (fun e => g2 (by rw [e]; exact hH.A hX (hH.lt es1)))]
      exact hS.2.1 q g1 g2, fun q hq => by
      rcases List.mem_append.mp hq with g | g
      · exact hS.2.2 q g
      · obtain ⟨z, -, hz⟩ := List.mem_map.mp g
        rw [← hz]
        exact hH.A hX (hH.lt es1)⟩ hL hR _ hheap X'
  exact ⟨t, step t a1, b1⟩
theorem Ev.mmax {idx : Nat} {x y : Int32} (hl : Cond.methodLink M.1.cls idx Lib.Math.max.name ∈ BW) (hd : 1 ≤ d) (hw : (st.map fun v => v.category).sum ≤ 8) (hdg : decode M.2.1 pc = .ok (.invokestatic idx, 3)) (k : Ev X M d mc ms Q (pc + 3) ls (.int (if x < y then y else x) :: st) h) : Ev X M d mc ms Q pc ls (.int y :: .int x :: st) h := by
  intro p ev R s m args below meth c H locs cells slots lsA hB hK hH hS hL hR
  refine va_mmax hB.1 hB.2.1 (by rw [hB.2.2.1]; exact hL.1.symm) hB.2.2.2.1 (hK.word hl args) (hK.word (w := Cond.static Lib.Math.max.name) (by decide +kernel) args) (hK.word (w := Cond.initialized "java/lang/Math") (by decide +kernel) args) (hK.word (w := Cond.code Lib.Math.max.name Lib.Math.max.code 2 (some .int)) (by decide +kernel) args) (by omega) ?_ (by omega) (by omega) hdg (k p ev R s m args below meth c H locs cells slots lsA hB hK hH hS hL hR)
  rw [st_cat]
  omega
theorem Ev.mmin {idx : Nat} {x y : Int32} (hl : Cond.methodLink M.1.cls idx Lib.Math.min.name ∈ BW) (hd : 1 ≤ d) (hw : (st.map fun v => v.category).sum ≤ 8) (hdg : decode M.2.1 pc = .ok (.invokestatic idx, 3)) (k : Ev X M d mc ms Q (pc + 3) ls (.int (if y < x then y else x) :: st) h) : Ev X M d mc ms Q pc ls (.int y :: .int x :: st) h := by
  intro p ev R s m args below meth c H locs cells slots lsA hB hK hH hS hL hR
  refine va_mmin hB.1 hB.2.1 (by rw [hB.2.2.1]; exact hL.1.symm) hB.2.2.2.1 (hK.word hl args) (hK.word (w := Cond.static Lib.Math.min.name) (by decide +kernel) args) (hK.word (w := Cond.initialized "java/lang/Math") (by decide +kernel) args) (hK.word (w := Cond.code Lib.Math.min.name Lib.Math.min.code 2 (some .int)) (by decide +kernel) args) (by omega) ?_ (by omega) (by omega) hdg (k p ev R s m args below meth c H locs cells slots lsA hB hK hH hS hL hR)
  rw [st_cat]
  omega
theorem Ev.ldcS {idx si : Nat} {text : String} (hs : jstr[si]? = some (M.1.cls, idx, text)) (hdg : decode M.2.1 pc = .ok (.ldc idx, 2)) (k : Ev X M d mc ms Q (pc + 2) ls (.ref (BIG + si) :: st) h) : Ev X M d mc ms Q pc ls st h := by
  intro p ev R s m args below meth c H locs cells slots lsA hB hK hH hS hL hR T hT XT
  obtain ⟨t, a1, b1⟩ := k p ev R s m args below meth c H locs cells slots lsA hB hK hH hS hL hR T hT XT
  have hZ := hK.ks.1 si _ hs
  exact ⟨t, XT.ldcString hB.1 hB.2.2.2.1 (text := text) (a := jA X (BIG + si)) hZ.1 hZ.2 (g := F0 m pc lsA (st.map (trV X))) rfl (by rw [hB.2.1]; exact hdg) t a1, b1⟩
theorem Ev.ldcSW {idx si : Nat} {text : String} (hs : jstr[si]? = some (M.1.cls, idx, text)) (hdg : decode M.2.1 pc = .ok (.ldc_w idx, 3)) (k : Ev X M d mc ms Q (pc + 3) ls (.ref (BIG + si) :: st) h) : Ev X M d mc ms Q pc ls st h := by
  intro p ev R s m args below meth c H locs cells slots lsA hB hK hH hS hL hR T hT XT
  obtain ⟨t, a1, b1⟩ := k p ev R s m args below meth c H locs cells slots lsA hB hK hH hS hL hR T hT XT
  have hZ := hK.ks.1 si _ hs
  exact ⟨t, XT.ldcStringW hB.1 hB.2.2.2.1 (text := text) (a := jA X (BIG + si)) hZ.1 hZ.2 (g := F0 m pc lsA (st.map (trV X))) rfl (by rw [hB.2.1]; exact hdg) t a1, b1⟩
theorem Ev.getsCS {idx : Nat} (hl : Cond.fieldLink M.1.cls idx "java/lang/String" "COMPACT_STRINGS" "Z" ∈ BW) (hdg : decode M.2.1 pc = .ok (.getstatic idx, 3)) (k : Ev X M d mc ms Q (pc + 3) ls (.int 1 :: st) h) : Ev X M d mc ms Q pc ls st h := by
  intro p ev R s m args below meth c H locs cells slots lsA hB hK hH hS hL hR
  exact va_gets hB.1 hB.2.1 hK.ks.2.2.2.2.1 hS hB.2.2.2.1 (hK.word hl args) (fun _ h => h) hdg (k p ev R s m args below meth c H locs cells slots lsA hB hK hH hS hL hR)
theorem Ev.getsDO {idx : Nat} (hl : Cond.fieldLink M.1.cls idx "java/lang/Integer" "DigitOnes" "[B" ∈ BW) (hdg : decode M.2.1 pc = .ok (.getstatic idx, 3)) (k : Ev X M d mc ms Q (pc + 3) ls (.ref (BIG + 200) :: st) h) : Ev X M d mc ms Q pc ls st h := by
  intro p ev R s m args below meth c H locs cells slots lsA hB hK hH hS hL hR
  exact va_gets hB.1 hB.2.1 hK.ks.2.2.2.2.2.2.1 hS hB.2.2.2.1 (hK.word hl args) (fun _ h => h) hdg (k p ev R s m args below meth c H locs cells slots lsA hB hK hH hS hL hR)
theorem Ev.getsDT {idx : Nat} (hl : Cond.fieldLink M.1.cls idx "java/lang/Integer" "DigitTens" "[B" ∈ BW) (hdg : decode M.2.1 pc = .ok (.getstatic idx, 3)) (k : Ev X M d mc ms Q (pc + 3) ls (.ref (BIG + 201) :: st) h) : Ev X M d mc ms Q pc ls st h := by
  intro p ev R s m args below meth c H locs cells slots lsA hB hK hH hS hL hR
  exact va_gets hB.1 hB.2.1 hK.ks.2.2.2.2.2.2.2.2.1 hS hB.2.2.2.1 (hK.word hl args) (fun _ h => h) hdg (k p ev R s m args below meth c H locs cells slots lsA hB hK hH hS hL hR)
theorem Ev.baldDO {i : Int32} (hin : vp_in i 100) (hdg : decode M.2.1 pc = .ok (.baload, 1)) (k : Ev X M d mc ms Q (pc + 1) ls (.int (nI (48 + i.toNatClampNeg % 10)) :: st) h) : Ev X M d mc ms Q pc ls (.int i :: .ref (BIG + 200) :: st) h := by
  intro p ev R s m args below meth c H locs cells slots lsA hB hK hH hS hL hR
  exact va_tb hB.1 hB.2.1 hK.ks.2.2.2.2.2.2.2.1 hS hin rfl hdg (k p ev R s m args below meth c H locs cells slots lsA hB hK hH hS hL hR)
theorem Ev.baldDT {i : Int32} (hin : vp_in i 100) (hdg : decode M.2.1 pc = .ok (.baload, 1)) (k : Ev X M d mc ms Q (pc + 1) ls (.int (nI (48 + i.toNatClampNeg / 10)) :: st) h) : Ev X M d mc ms Q pc ls (.int i :: .ref (BIG + 201) :: st) h := by
  intro p ev R s m args below meth c H locs cells slots lsA hB hK hH hS hL hR
  exact va_tb hB.1 hB.2.1 hK.ks.2.2.2.2.2.2.2.2.2.1 hS hin rfl hdg (k p ev R s m args below meth c H locs cells slots lsA hB hK hH hS hL hR)
theorem Ev.getSC {idx i : Nat} (hi : i < jnS) (hl : Cond.fieldLink M.1.cls idx "java/lang/String" "coder" "B" ∈ BW) (hdg : decode M.2.1 pc = .ok (.getfield idx, 3)) (k : Ev X M d mc ms Q (pc + 3) ls (.int 0 :: st) h) : Ev X M d mc ms Q pc ls (.ref (jsh0 + i) :: st) h := by
  intro p ev R s m args below meth c H locs cells slots lsA hB hK hH hS hL hR
  exact vk_getf hB.1 hB.2.1 (hK.ks.2.1.1 i hi).2.1 hS hB.2.2.2.1 (hK.word hl args) (fun _ h => h) hdg (k p ev R s m args below meth c H locs cells slots lsA hB hK hH hS hL hR)
theorem Ev.getSV {idx i : Nat} (hi : i < jnS) (hl : Cond.fieldLink M.1.cls idx "java/lang/String" "value" "[B" ∈ BW) (hdg : decode M.2.1 pc = .ok (.getfield idx, 3)) (k : Ev X M d mc ms Q (pc + 3) ls (.ref (BIG + 100 + i) :: st) h) : Ev X M d mc ms Q pc ls (.ref (jsh0 + i) :: st) h := by
  intro p ev R s m args below meth c H locs cells slots lsA hB hK hH hS hL hR
  exact vk_getf hB.1 hB.2.1 (hK.ks.2.1.1 i hi).2.2.1 hS hB.2.2.2.1 (hK.word hl args) (fun _ h => h) hdg (k p ev R s m args below meth c H locs cells slots lsA hB hK hH hS hL hR)
theorem Ev.alenS {i : Nat} (hi : i < jnS) (hdg : decode M.2.1 pc = .ok (.arraylength, 1)) (k : Ev X M d mc ms Q (pc + 1) ls (.int (nI (jshl.getD i 0)) :: st) h) : Ev X M d mc ms Q pc ls (.ref (BIG + 100 + i) :: st) h := by
  intro p ev R s m args below meth c H locs cells slots lsA hB hK hH hS hL hR
  exact va_tlen hB.1 hB.2.1 (hK.ks.2.1.1 i hi).2.2.2 hS rfl hdg (k p ev R s m args below meth c H locs cells slots lsA hB hK hH hS hL hR)
theorem Ev.baldS {i : Nat} {j : Int32} (hi : i < jnS) (hin : vp_in j (jshl.getD i 0)) (hdg : decode M.2.1 pc = .ok (.baload, 1)) (k : Ev X M d mc ms Q (pc + 1) ls (.int ((jshb.getD i []).getD j.toNatClampNeg 0) :: st) h) : Ev X M d mc ms Q pc ls (.int j :: .ref (BIG + 100 + i) :: st) h := by
  intro p ev R s m args below meth c H locs cells slots lsA hB hK hH hS hL hR
  exact va_tb hB.1 hB.2.1 (hK.ks.2.1.1 i hi).2.2.2 hS hin rfl hdg (k p ev R s m args below meth c H locs cells slots lsA hB hK hH hS hL hR)
theorem Ev.fdiv {x y : UInt32} (hne : vf_n32 (FP.fdiv x y)) (hdg : decode M.2.1 pc = .ok (.fdiv, 1)) (k : Ev X M d mc ms Q (pc + 1) ls (.float (FP.fdiv x y) :: st) h) : Ev X M d mc ms Q pc ls (.float y :: .float x :: st) h := by
  intro p ev R s m args below meth c H locs cells slots lsA hB hK hH hS hL hR
  exact lv_fdiv hB.1 hB.2.1 hdg hne (k p ev R s m args below meth c H locs cells slots lsA hB hK hH hS hL hR)
theorem Ev.ddiv {x y : UInt64} (hne : vf_n64 (FP.ddiv x y)) (hdg : decode M.2.1 pc = .ok (.ddiv, 1)) (k : Ev X M d mc ms Q (pc + 1) ls (.double (FP.ddiv x y) :: st) h) : Ev X M d mc ms Q pc ls (.double y :: .double x :: st) h := by
  intro p ev R s m args below meth c H locs cells slots lsA hB hK hH hS hL hR
  exact lv_ddiv hB.1 hB.2.1 hdg hne (k p ev R s m args below meth c H locs cells slots lsA hB hK hH hS hL hR)
theorem Ev.f2d {x : UInt32} (hne : vf_n64 (FP.f2d x)) (hdg : decode M.2.1 pc = .ok (.f2d, 1)) (k : Ev X M d mc ms Q (pc + 1) ls (.double (FP.f2d x) :: st) h) : Ev X M d mc ms Q pc ls (.float x :: st) h := by
  intro p ev R s m args below meth c H locs cells slots lsA hB hK hH hS hL hR
  exact lv_f2d hB.1 hB.2.1 hdg hne (k p ev R s m args below meth c H locs cells slots lsA hB hK hH hS hL hR)
theorem Ev.dconst0 (hdg : decode M.2.1 pc = .ok (.dconst 0, 1)) (k : Ev X M d mc ms Q (pc + 1) ls (.double FP.dconst0 :: st) h) : Ev X M d mc ms Q pc ls (st) h := by
  intro p ev R s m args below meth c H locs cells slots lsA hB hK hH hS hL hR
  exact lv_dconst0 hB.1 hB.2.1 hdg (k p ev R s m args below meth c H locs cells slots lsA hB hK hH hS hL hR)
theorem Ev.fconst0 (hdg : decode M.2.1 pc = .ok (.fconst 0, 1)) (k : Ev X M d mc ms Q (pc + 1) ls (.float FP.fconst0 :: st) h) : Ev X M d mc ms Q pc ls (st) h := by
  intro p ev R s m args below meth c H locs cells slots lsA hB hK hH hS hL hR
  exact lv_fconst0 hB.1 hB.2.1 hdg (k p ev R s m args below meth c H locs cells slots lsA hB hK hH hS hL hR)
theorem Ev.ior {x y : Int32} (hdg : decode M.2.1 pc = .ok (.ior, 1)) (k : Ev X M d mc ms Q (pc + 1) ls (.int (x ||| y) :: st) h) : Ev X M d mc ms Q pc ls (.int y :: .int x :: st) h := by
  intro p ev R s m args below meth c H locs cells slots lsA hB hK hH hS hL hR
  exact lv_ior hB.1 hB.2.1 hdg (k p ev R s m args below meth c H locs cells slots lsA hB hK hH hS hL hR)
theorem Ev.ialdE {a n N : Nat} {i : Int32} (es : zS h a = some (.inl (.int, N))) (hi : i = nI n) (hn : n < N) (hN : N ≤ 100000) (hdg : decode M.2.1 pc = .ok (.iaload, 1)) (k : Ev X M d mc ms Q (pc + 1) ls (.int (zI h a n) :: st) h) : Ev X M d mc ms Q pc ls (.int i :: .ref a :: st) h := by
  subst hi
  refine Ev.iald es (vp_in_nI hn (by omega)) hdg ?_
  rw [nI_clamp (by omega)]
  exact k
theorem Ev.caldE {a n N : Nat} {i : Int32} (es : zS h a = some (.inl (.char, N))) (hi : i = nI n) (hn : n < N) (hN : N ≤ 100000) (hdg : decode M.2.1 pc = .ok (.caload, 1)) (k : Ev X M d mc ms Q (pc + 1) ls (.int (zI h a n) :: st) h) : Ev X M d mc ms Q pc ls (.int i :: .ref a :: st) h := by
  subst hi
  refine Ev.cald es (vp_in_nI hn (by omega)) hdg ?_
  rw [nI_clamp (by omega)]
  exact k
theorem Ev.baldE {a n N : Nat} {i : Int32} (es : zS h a = some (.inl (.byte, N))) (hi : i = nI n) (hn : n < N) (hN : N ≤ 100000) (hdg : decode M.2.1 pc = .ok (.baload, 1)) (k : Ev X M d mc ms Q (pc + 1) ls (.int (zI h a n) :: st) h) : Ev X M d mc ms Q pc ls (.int i :: .ref a :: st) h := by
  subst hi
  refine Ev.bald es (vp_in_nI hn (by omega)) hdg ?_
  rw [nI_clamp (by omega)]
  exact k
theorem Ev.iastE {a n N : Nat} {i x : Int32} (hX : JXok X) (es : zS h a = some (.inl (.int, N))) (hi : i = nI n) (hn : n < N) (hN : N ≤ 100000) (hdg : decode M.2.1 pc = .ok (.iastore, 1)) (k : Ev X M d mc ms Q (pc + 1) ls st (setI h a n x)) : Ev X M d mc ms Q pc ls (.int x :: .int i :: .ref a :: st) h := by
  subst hi
  refine Ev.iast hX es (vp_in_nI hn (by omega)) hdg ?_
  rw [nI_clamp (by omega)]
  exact k
theorem Ev.castE {a n N : Nat} {i x y : Int32} (hy : vp_nar .char x = y) (hX : JXok X) (es : zS h a = some (.inl (.char, N))) (hi : i = nI n) (hn : n < N) (hN : N ≤ 100000) (hdg : decode M.2.1 pc = .ok (.castore, 1)) (k : Ev X M d mc ms Q (pc + 1) ls st (setI h a n y)) : Ev X M d mc ms Q pc ls (.int x :: .int i :: .ref a :: st) h := by
  subst hi
  refine Ev.cast hy hX es (vp_in_nI hn (by omega)) hdg ?_
  rw [nI_clamp (by omega)]
  exact k
theorem Ev.bastE {a n N : Nat} {i x y : Int32} (hy : vp_nar .byte x = y) (hX : JXok X) (es : zS h a = some (.inl (.byte, N))) (hi : i = nI n) (hn : n < N) (hN : N ≤ 100000) (hdg : decode M.2.1 pc = .ok (.bastore, 1)) (k : Ev X M d mc ms Q (pc + 1) ls st (setI h a n y)) : Ev X M d mc ms Q pc ls (.int x :: .int i :: .ref a :: st) h := by
  subst hi
  refine Ev.bast hy hX es (vp_in_nI hn (by omega)) hdg ?_
  rw [nI_clamp (by omega)]
  exact k
theorem LKs.at {own : String} : ∀ {l : List JE} (_ : LKs own l) (i : Nat) {q : JE} (_ : l[i]? = some q), LK own q.2
  | [], _, _, _, e => by cases e
  | a :: l, h, 0, q, e => by cases e; exact h.1
  | a :: l, h, i + 1, q, e => LKs.at (l := l) h.2 i e
theorem LKs.drop {own : String} : ∀ {l : List JE} (_ : LKs own l) (i : Nat), LKs own (l.drop i)
  | [], _, i => by cases i <;> trivial
  | a :: l, h, 0 => h
  | a :: l, h, i + 1 => LKs.drop (l := l) h.2 i
theorem LKs.take {own : String} : ∀ {l : List JE} (_ : LKs own l) (i : Nat), LKs own (l.take i)
  | [], _, i => by cases i <;> trivial
  | a :: l, h, 0 => trivial
  | a :: l, h, i + 1 => ⟨h.1, LKs.take (l := l) h.2 i⟩
theorem JSeg.dc {l : List JE} (h : JSeg M l) (i : Nat) {q : JE} (e : l[i]? = some q) : decode M.2.1 q.1 = .ok (q.2.1, lenI q.2.1) := h.1 q (List.mem_of_getElem? e)
theorem JSeg.lk {l : List JE} (h : JSeg M l) (i : Nat) {q : JE} (e : l[i]? = some q) : LK M.1.cls q.2 := h.2.at i e
theorem JSeg.sub {l : List JE} (h : JSeg M l) (i n : Nat) : JSeg M ((l.drop i).take n) := ⟨fun q hq => h.1 q (List.mem_of_mem_drop (List.mem_of_mem_take hq)), (h.2.drop i).take n⟩
theorem Ev.getf {idx a ci k : Nat} {fs : List (Value ⊕ Bool)} {f : Value ⊕ Bool} (hl : FL M.1.cls idx ci k) (es : zS h a = some (.inr (ci, fs))) (ef : fs[k]? = some f) (hdg : decode M.2.1 pc = .ok (.getfield idx, 3)) (kk : Ev X M d mc ms Q (pc + 3) ls (fV h a k f :: st) h) : Ev X M d mc ms Q pc ls (.ref a :: st) h := by
  intro p ev R s m args below meth c H locs cells slots lsA hB hK hH hS hL hR
  exact r_get hB.1 hB.2.1 hK hB.2.2.2.1 hH hl es ef hdg (kk p ev R s m args below meth c H locs cells slots lsA hB hK hH hS hL hR)
theorem Ev.alenN {a n : Nat} {sh : JS} (es : zS h a = some sh) (hn : alen sh = some n) (hdg : decode M.2.1 pc = .ok (.arraylength, 1)) (kk : Ev X M d mc ms Q (pc + 1) ls (.int (Int32.ofNat n) :: st) h) : Ev X M d mc ms Q pc ls (.ref a :: st) h := by
  intro p ev R s m args below meth c H locs cells slots lsA hB hK hH hS hL hR
  exact r_alen hB.1 hB.2.1 hK hH es hn hdg (kk p ev R s m args below meth c H locs cells slots lsA hB hK hH hS hL hR)
theorem Ev.putf {idx a ci k : Nat} {fs : List (Value ⊕ Bool)} {x : Int32} (hX : JXok X) (hl : FP0 M.1.cls idx ci k) (es : zS h a = some (.inr (ci, fs))) (ef : fs[k]? = some (.inr false)) (hdg : decode M.2.1 pc = .ok (.putfield idx, 3)) (kk : Ev X M d mc ms Q (pc + 3) ls st (setI h a k x)) : Ev X M d mc ms Q pc ls (.int x :: .ref a :: st) h := by
  obtain ⟨C, T, N, ty, c1, c2, c3, c4, c5⟩ := hl
  exact Ev.putI hX c1 c2 c3 (Or.inl c4) es ef (by rw [c5]; rfl) (by rw [c5]; rfl) hdg kk
end R8
