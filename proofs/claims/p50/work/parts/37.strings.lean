/-! Strings that are constants; the script -/
section STR
variable {X : JX} {M : JM} {d mc ms : Nat} {Q : JR → Prop} {pc : Nat} {ls : List (Option Value)} {st : List Value} {h : MH}
theorem Ev.callVK {q : JD} {idx d' mc1 ms1 i : Nat} {As rest : List Value} {Q' : JR → Prop} (hi : i < jnS) (hc9 : q.1.cls = "java/lang/String") (hq : DV q) (hl : Cond.methodLink M.1.cls idx q.1 ∈ BW) (hdg : decode M.2.1 pc = .ok (.invokevirtual idx, 3)) (hm : MT X d' mc1 ms1 q (.ref (jsh0 + i) :: As) h Q') (hd : d' + 1 ≤ d ∧ q.2.2.1 + 19 + 40 * d' ≤ 40 * d) (hc : mc1 ≤ mc ∧ ms1 ≤ ms) (hn : As.length = q.2.2.2.2) (hw : (rest.map fun v => v.category).sum ≤ 8) (kk : ∀ v h', Q' (.inl (v, h')) → Ev X M d (mc - mc1) (ms - ms1) Q (pc + 3) ls (v.toList ++ rest) h') (kx : ∀ E h', Q' (.inr (E, h')) → EvX X M d (mc - mc1) (ms - ms1) Q pc ls E h') : Ev X M d mc ms Q pc ls (As.reverse ++ .ref (jsh0 + i) :: rest) h := by
  intro p ev R s m args below meth c H locs cells slots lsA hB hK hH hS hL hR
  refine ev_run (a := _) (vx_runV (C := q.1.cls) (b := jA X (jsh0 + i)) (Ts := BW) (As := As.map (trV X)) ⟨hB.1, hB.2.1, hB.2.2.1, hB.2.2.2.1, fun w hw => hK.word hw args⟩ hm ⟨cb_of hK hq.1 hl (by omega) (by omega), hK.word hq.2.1 args, hK.word hq.2.2 args⟩ ⟨fb_MT, by rw [hc9]; exact vk_recv (adK := fun i => jA X (jsh0 + i)) (i := i) hK.ks.2.1 hi hS, fun U hU hW => ⟨rfl, by rw [hU]; exact hH, hK.call hS hU hW⟩⟩ rfl (by rw [List.length_map]; exact hn) (hL.1) (by simp [trV]) (lv_room (by rw [List.map_map]; simpa [Function.comp_def, trV_cat] using hw)) hdg (by omega)) hB hK hS hL hR hc kk kx
theorem Ev.getsFm {idx : Nat} (hl : Cond.fieldLink M.1.cls idx "jdk/internal/util/Preconditions" "SIOOBE_FORMATTER" "Ljava/util/function/BiFunction;" ∈ BW) (hdg : decode M.2.1 pc = .ok (.getstatic idx, 3)) (k : ∀ v : Value, v.category = 1 → Ev X M d mc ms Q (pc + 3) ls (v :: st) h) : Ev X M d mc ms Q pc ls st h := by
  intro p ev R s m args below meth c H locs cells slots lsA hB hK hH hS hL hR
  rcases hK.ks.2.2.2.2.2.1 with g | g
  · exact va_gets hB.1 hB.2.1 g hS hB.2.2.2.1 (hK.word hl args) (fun _ h => h) hdg (k .null rfl p ev R s m args below meth c H locs cells slots lsA hB hK hH hS hL hR)
  · exact va_gets hB.1 hB.2.1 g hS hB.2.2.2.1 (hK.word hl args) (fun _ h => h) hdg (k (.ref (BIG + 202)) rfl p ev R s m args below meth c H locs cells slots lsA hB hK hH hS hL hR)
theorem Ev.alenX (hdg : decode M.2.1 pc = .ok (.arraylength, 1)) (k : Ev X M d mc ms Q (pc + 1) ls (.int (nI (jSn X)) :: st) h) : Ev X M d mc ms Q pc ls (.ref (BIG + 300) :: st) h := by
  intro p ev R s m args below meth c H locs cells slots lsA hB hK hH hS hL hR
  exact va_tlen hB.1 hB.2.1 hK.ks.scr hS rfl hdg (k p ev R s m args below meth c H locs cells slots lsA hB hK hH hS hL hR)
theorem Ev.ialdX {n : Nat} {i : Int32} (hi : i = nI n) (hn : n < jSn X) (hb : n ≤ 100000) (hdg : decode M.2.1 pc = .ok (.iaload, 1)) (k : Ev X M d mc ms Q (pc + 1) ls (.int (jSf X n) :: st) h) : Ev X M d mc ms Q pc ls (.int i :: .ref (BIG + 300) :: st) h := by
  intro p ev R s m args below meth c H locs cells slots lsA hB hK hH hS hL hR
  subst hi
  refine va_ti hB.1 hB.2.1 hK.ks.scr hS ?_ (v := .int (jSf X n)) ?_ hdg (k p ev R s m args below meth c H locs cells slots lsA hB hK hH hS hL hR)
  · have e1 : (nI n).toInt = (n : Int) := nI_toInt (by omega)
    exact vp_in_iff.mpr (by rw [e1]; omega)
  · show Value.int (jSf X (nI n).toNatClampNeg) = _
    rw [nI_clamp (by omega)]
theorem Ev.nonnullR {x : Nat} {off : Int} {tgt : Nat} (hdg : decode M.2.1 pc = .ok (.ifnonnull off, 3)) (ht : (pc : Int) + off = (tgt : Int)) (k : Ev X M d mc ms Q tgt ls st h) : Ev X M d mc ms Q pc ls (.ref x :: st) h := by
  intro p ev R s m args below meth c H locs cells slots lsA hB hK hH hS hL hR
  exact lv_ifnonnull hB.1 hB.2.1 hdg ht (k p ev R s m args below meth c H locs cells slots lsA hB hK hH hS hL hR)
end STR
theorem sJ0_length_8abf5_0 : JSeg (jm jdJ0_length_8abf5) [(0, .aload_n 0, 0, 0)] := ⟨by decide +kernel, trivial, trivial⟩
theorem sJ0_length_8abf5_4 : JSeg (jm jdJ0_length_8abf5) [(4, .arraylength, 0, 0), (5, .aload_n 0, 0, 0)] := ⟨by decide +kernel, trivial, trivial, trivial⟩
theorem sJ0_length_8abf5_9 : JSeg (jm jdJ0_length_8abf5) [(9, .ishr, 0, 0)] := ⟨by decide +kernel, trivial, trivial⟩
theorem dJ0_length_8abf5_1 : decode cJ0_length_8abf5 1 = .ok (.getfield 9, 3) := by decide +kernel
theorem dJ0_length_8abf5_6 : decode cJ0_length_8abf5 6 = .ok (.invokevirtual 335, 3) := by decide +kernel
theorem dJ0_length_8abf5_10 : decode cJ0_length_8abf5 10 = .ok (.ireturn, 1) := by decide +kernel
theorem sJ0_coder_7d493_6 : JSeg (jm jdJ0_coder_7d493) [(6, .aload_n 0, 0, 0)] := ⟨by decide +kernel, trivial, trivial⟩
theorem sJ0_coder_7d493_10 : JSeg (jm jdJ0_coder_7d493) [(10, .goto 4, 0, 0)] := ⟨by decide +kernel, trivial, trivial⟩
theorem sJ0_coder_7d493_13 : JSeg (jm jdJ0_coder_7d493) [(13, .iconst 1, 0, 0)] := ⟨by decide +kernel, trivial, trivial⟩
theorem dJ0_coder_7d493_0 : decode cJ0_coder_7d493 0 = .ok (.getstatic 38, 3) := by decide +kernel
theorem dJ0_coder_7d493_3 : decode cJ0_coder_7d493 3 = .ok (.ifCond .eq 10, 3) := by decide +kernel
theorem dJ0_coder_7d493_7 : decode cJ0_coder_7d493 7 = .ok (.getfield 15, 3) := by decide +kernel
theorem dJ0_coder_7d493_14 : decode cJ0_coder_7d493 14 = .ok (.ireturn, 1) := by decide +kernel
theorem sJ0_isLatin1_aae02_6 : JSeg (jm jdJ0_isLatin1_aae02) [(6, .aload_n 0, 0, 0)] := ⟨by decide +kernel, trivial, trivial⟩
theorem sJ0_isLatin1_aae02_13 : JSeg (jm jdJ0_isLatin1_aae02) [(13, .iconst 1, 0, 0), (14, .goto 4, 0, 0)] := ⟨by decide +kernel, trivial, trivial, trivial⟩
theorem sJ0_isLatin1_aae02_17 : JSeg (jm jdJ0_isLatin1_aae02) [(17, .iconst 0, 0, 0)] := ⟨by decide +kernel, trivial, trivial⟩
theorem dJ0_isLatin1_aae02_0 : decode cJ0_isLatin1_aae02 0 = .ok (.getstatic 38, 3) := by decide +kernel
theorem dJ0_isLatin1_aae02_3 : decode cJ0_isLatin1_aae02 3 = .ok (.ifCond .eq 14, 3) := by decide +kernel
theorem dJ0_isLatin1_aae02_7 : decode cJ0_isLatin1_aae02 7 = .ok (.getfield 15, 3) := by decide +kernel
theorem dJ0_isLatin1_aae02_10 : decode cJ0_isLatin1_aae02 10 = .ok (.ifCond .ne 7, 3) := by decide +kernel
theorem dJ0_isLatin1_aae02_18 : decode cJ0_isLatin1_aae02 18 = .ok (.ireturn, 1) := by decide +kernel
theorem sJ0_charAt_5068e_0 : JSeg (jm jdJ0_charAt_5068e) [(0, .aload_n 0, 0, 0)] := ⟨by decide +kernel, trivial, trivial⟩
theorem sJ0_charAt_5068e_7 : JSeg (jm jdJ0_charAt_5068e) [(7, .aload_n 0, 0, 0)] := ⟨by decide +kernel, trivial, trivial⟩
theorem sJ0_charAt_5068e_11 : JSeg (jm jdJ0_charAt_5068e) [(11, .iload_n 1, 0, 0)] := ⟨by decide +kernel, trivial, trivial⟩
theorem sJ0_charAt_5068e_16 : JSeg (jm jdJ0_charAt_5068e) [(16, .aload_n 0, 0, 0)] := ⟨by decide +kernel, trivial, trivial⟩
theorem sJ0_charAt_5068e_20 : JSeg (jm jdJ0_charAt_5068e) [(20, .iload_n 1, 0, 0)] := ⟨by decide +kernel, trivial, trivial⟩
theorem dJ0_charAt_5068e_1 : decode cJ0_charAt_5068e 1 = .ok (.invokevirtual 492, 3) := by decide +kernel
theorem dJ0_charAt_5068e_4 : decode cJ0_charAt_5068e 4 = .ok (.ifCond .eq 12, 3) := by decide +kernel
theorem dJ0_charAt_5068e_8 : decode cJ0_charAt_5068e 8 = .ok (.getfield 9, 3) := by decide +kernel
theorem dJ0_charAt_5068e_12 : decode cJ0_charAt_5068e 12 = .ok (.invokestatic 495, 3) := by decide +kernel
theorem dJ0_charAt_5068e_15 : decode cJ0_charAt_5068e 15 = .ok (.ireturn, 1) := by decide +kernel
theorem dJ0_charAt_5068e_17 : decode cJ0_charAt_5068e 17 = .ok (.getfield 9, 3) := by decide +kernel
theorem dJ0_charAt_5068e_21 : decode cJ0_charAt_5068e 21 = .ok (.invokestatic 498, 3) := by decide +kernel
theorem dJ0_charAt_5068e_24 : decode cJ0_charAt_5068e 24 = .ok (.ireturn, 1) := by decide +kernel
theorem sJ0_checkIndex_df160_0 : JSeg (jm jdJ0_checkIndex_df160) [(0, .iload_n 0, 0, 0), (1, .iload_n 1, 0, 0)] := ⟨by decide +kernel, trivial, trivial, trivial⟩
theorem sJ0_checkIndex_df160_8 : JSeg (jm jdJ0_checkIndex_df160) [(8, .pop, 0, 0)] := ⟨by decide +kernel, trivial, trivial⟩
theorem dJ0_checkIndex_df160_2 : decode cJ0_checkIndex_df160 2 = .ok (.getstatic 1053, 3) := by decide +kernel
theorem dJ0_checkIndex_df160_5 : decode cJ0_checkIndex_df160 5 = .ok (.invokestatic 1059, 3) := by decide +kernel
theorem dJ0_checkIndex_df160_9 : decode cJ0_checkIndex_df160 9 = .ok (.return_, 1) := by decide +kernel
theorem sJ1_charAt_3b067_0 : JSeg (jm jdJ1_charAt_3b067) [(0, .iload_n 1, 0, 0), (1, .aload_n 0, 0, 0), (2, .arraylength, 0, 0)] := ⟨by decide +kernel, trivial, trivial, trivial, trivial⟩
theorem sJ1_charAt_3b067_6 : JSeg (jm jdJ1_charAt_3b067) [(6, .aload_n 0, 0, 0), (7, .iload_n 1, 0, 0)] := ⟨by decide +kernel, trivial, trivial, trivial⟩
theorem sJ1_charAt_3b067_9 : JSeg (jm jdJ1_charAt_3b067) [(9, .sipush 255, 0, 0), (12, .iand, 0, 0), (13, .i2c, 0, 0)] := ⟨by decide +kernel, trivial, trivial, trivial, trivial⟩
theorem dJ1_charAt_3b067_3 : decode cJ1_charAt_3b067 3 = .ok (.invokestatic 9, 3) := by decide +kernel
theorem dJ1_charAt_3b067_8 : decode cJ1_charAt_3b067 8 = .ok (.baload, 1) := by decide +kernel
theorem dJ1_charAt_3b067_14 : decode cJ1_charAt_3b067 14 = .ok (.ireturn, 1) := by decide +kernel
theorem sJ3_checkIndex_8e157_0 : JSeg (jm jdJ3_checkIndex_8e157) [(0, .iload_n 0, 0, 0)] := ⟨by decide +kernel, trivial, trivial⟩
theorem sJ3_checkIndex_8e157_4 : JSeg (jm jdJ3_checkIndex_8e157) [(4, .iload_n 0, 0, 0), (5, .iload_n 1, 0, 0)] := ⟨by decide +kernel, trivial, trivial, trivial⟩
theorem sJ3_checkIndex_8e157_9 : JSeg (jm jdJ3_checkIndex_8e157) [(9, .aload_n 2, 0, 0), (10, .iload_n 0, 0, 0), (11, .iload_n 1, 0, 0)] := ⟨by decide +kernel, trivial, trivial, trivial, trivial⟩
theorem sJ3_checkIndex_8e157_16 : JSeg (jm jdJ3_checkIndex_8e157) [(16, .iload_n 0, 0, 0)] := ⟨by decide +kernel, trivial, trivial⟩
theorem dJ3_checkIndex_8e157_1 : decode cJ3_checkIndex_8e157 1 = .ok (.ifCond .lt 8, 3) := by decide +kernel
theorem dJ3_checkIndex_8e157_6 : decode cJ3_checkIndex_8e157 6 = .ok (.if_icmp .lt 10, 3) := by decide +kernel
theorem dJ3_checkIndex_8e157_12 : decode cJ3_checkIndex_8e157 12 = .ok (.invokestatic 95, 3) := by decide +kernel
theorem dJ3_checkIndex_8e157_15 : decode cJ3_checkIndex_8e157 15 = .ok (.athrow, 1) := by decide +kernel
theorem dJ3_checkIndex_8e157_17 : decode cJ3_checkIndex_8e157 17 = .ok (.ireturn, 1) := by decide +kernel
section STR2
variable {X : JX} {d i : Nat} {h : MH}
theorem c_coder (hX : JXok X) (hd : 0 ≤ d) (hi : i < jnS) : MT X d 0 0 jdJ0_coder_7d493 [.ref (jsh0 + i)] h (fun R => R = .inl (some (.int 0), h)) := by
  refine MT.mk dvJ0_coder_7d493.1 ?_
  refine Ev.getsCS (by decide +kernel) dJ0_coder_7d493_0 ?_
  refine Ev.if_eq (tgt := 13) dJ0_coder_7d493_3 (by decide) (fun b1 => ?_) (fun b1 => ?_)
  · exact absurd b1 (by decide)
  · refine Ev.sg hX sJ0_coder_7d493_6 (pc' := 7) (ls' := [some (.ref (jsh0 + i))]) (st' := [.ref (jsh0 + i)]) (h' := h) rfl ?_
    refine Ev.getSC hi (by decide +kernel) dJ0_coder_7d493_7 ?_
    refine Ev.sg hX sJ0_coder_7d493_10 (pc' := 14) (ls' := [some (.ref (jsh0 + i))]) (st' := [.int 0]) (h' := h) rfl ?_
    refine Ev.zret dJ0_coder_7d493_14 rfl ?_ ?_
    · rfl
    rfl
theorem c_sLatin1 (hX : JXok X) (hd : 0 ≤ d) (hi : i < jnS) : MT X d 0 0 jdJ0_isLatin1_aae02 [.ref (jsh0 + i)] h (fun R => R = .inl (some (.int 1), h)) := by
  refine MT.mk dvJ0_isLatin1_aae02.1 ?_
  refine Ev.getsCS (by decide +kernel) dJ0_isLatin1_aae02_0 ?_
  refine Ev.if_eq (tgt := 17) dJ0_isLatin1_aae02_3 (by decide) (fun b1 => ?_) (fun b1 => ?_)
  · exact absurd b1 (by decide)
  · refine Ev.sg hX sJ0_isLatin1_aae02_6 (pc' := 7) (ls' := [some (.ref (jsh0 + i))]) (st' := [.ref (jsh0 + i)]) (h' := h) rfl ?_
    refine Ev.getSC hi (by decide +kernel) dJ0_isLatin1_aae02_7 ?_
    refine Ev.if_ne (tgt := 17) dJ0_isLatin1_aae02_10 (by decide) (fun b2 => ?_) (fun b2 => ?_)
    · exact absurd b2 (by decide)
    · refine Ev.sg hX sJ0_isLatin1_aae02_13 (pc' := 18) (ls' := [some (.ref (jsh0 + i))]) (st' := [.int 1]) (h' := h) rfl ?_
      refine Ev.zret dJ0_isLatin1_aae02_18 rfl ?_ ?_
      · rfl
      rfl
theorem shr0 (x : Int32) : x >>> ((0 : Int32) &&& 31) = x := by
  show x >>> (0 : Int32) = x
  simp
theorem c_strLen (hX : JXok X) (hd : 1 ≤ d) (hi : i < jnS) : MT X d 0 0 jdJ0_length_8abf5 [.ref (jsh0 + i)] h (fun R => R = .inl (some (.int (nI (jshl.getD i 0))), h)) := by
  refine MT.mk dvJ0_length_8abf5.1 ?_
  refine Ev.sg hX sJ0_length_8abf5_0 (pc' := 1) (ls' := [some (.ref (jsh0 + i))]) (st' := [.ref (jsh0 + i)]) (h' := h) rfl ?_
  refine Ev.getSV hi (by decide +kernel) dJ0_length_8abf5_1 ?_
  refine Ev.alenS hi (sJ0_length_8abf5_4.dc 0 (q := (4, .arraylength, 0, 0)) rfl) ?_
  refine Ev.sg hX (sJ0_length_8abf5_4.sub 1 1) (pc' := 6) (ls' := [some (.ref (jsh0 + i))]) (st' := [.ref (jsh0 + i), .int (nI (jshl.getD i 0))]) (h' := h) rfl ?_
  refine Ev.callVK (As := []) (rest := [.int (nI (jshl.getD i 0))]) hi rfl dvJ0_coder_7d493 mkJ0_335 dJ0_length_8abf5_6 (c_coder (d := d - 1) hX (Nat.zero_le _) hi) ⟨by omega, by show 1 + 19 + 40 * _ ≤ 40 * _; omega⟩ ⟨by omega, by omega⟩ rfl (Nat.le_of_ble_eq_true rfl) (fun v9 h9 e9 => ?_) (fun E9 h9 e9 => nomatch e9)
  cases e9
  show Ev _ _ _ _ _ _ 9 [some (.ref (jsh0 + i))] [.int 0, .int (nI (jshl.getD i 0))] h
  refine Ev.sg hX sJ0_length_8abf5_9 (pc' := 10) (ls' := [some (.ref (jsh0 + i))]) (st' := [.int ((nI (jshl.getD i 0)) >>> (0 &&& 31))]) (h' := h) rfl ?_
  refine Ev.iret dJ0_length_8abf5_10 rfl ?_
  rw [shr0]
theorem c_pcheck (hX : JXok X) {k n : Nat} (hkn : k < n) (hn : n ≤ 100000) {v3 : Value} (h3 : v3.category = 1) : MT X d 0 0 jdJ3_checkIndex_8e157 [.int (nI k), .int (nI n), v3] h (fun R => R = .inl (some (.int (nI k)), h)) := by
  refine MT.mk dsJ3_checkIndex_8e157.1 ?_ (by simp [show (Value.int (nI k)).category = 1 from rfl, show (Value.int (nI n)).category = 1 from rfl, h3])
  refine Ev.sg hX sJ3_checkIndex_8e157_0 (pc' := 1) (ls' := [some (.int (nI k)), some (.int (nI n)), some (v3)]) (st' := [.int (nI k)]) (h' := h) rfl ?_
  refine Ev.if_lt (tgt := 9) dJ3_checkIndex_8e157_1 (by decide) (fun b1 => ?_) (fun b1 => ?_)
  · exact absurd b1 (nI_pos (by omega))
  · refine Ev.sg hX sJ3_checkIndex_8e157_4 (pc' := 6) (ls' := [some (.int (nI k)), some (.int (nI n)), some (v3)]) (st' := [.int (nI n), .int (nI k)]) (h' := h) rfl ?_
    refine Ev.icmp_lt (tgt := 16) dJ3_checkIndex_8e157_6 (by decide) (fun b2 => ?_) (fun b2 => ?_)
    · refine Ev.sg hX sJ3_checkIndex_8e157_16 (pc' := 17) (ls' := [some (.int (nI k)), some (.int (nI n)), some (v3)]) (st' := [.int (nI k)]) (h' := h) rfl ?_
      refine Ev.iret dJ3_checkIndex_8e157_17 rfl ?_
      rfl
    · exact absurd ((nI_ltI (a := k) (b := n) (by omega) (by omega)).mpr hkn) b2
theorem c_scheck (hX : JXok X) (hd : 1 ≤ d) {k n : Nat} (hkn : k < n) (hn : n ≤ 100000) : MT X d 0 0 jdJ0_checkIndex_df160 [.int (nI k), .int (nI n)] h (fun R => R = .inl (none, h)) := by
  refine MT.mk dsJ0_checkIndex_df160.1 ?_
  refine Ev.sg hX sJ0_checkIndex_df160_0 (pc' := 2) (ls' := [some (.int (nI k)), some (.int (nI n))]) (st' := [.int (nI n), .int (nI k)]) (h' := h) rfl ?_
  refine Ev.getsFm (by decide +kernel) dJ0_checkIndex_df160_2 (fun v3 h3 => ?_)
  refine Ev.callS (As := [.int (nI k), .int (nI n), v3]) (rest := []) dsJ3_checkIndex_8e157 mkJ0_1059 dJ0_checkIndex_df160_5 (c_pcheck (d := d - 1) hX hkn hn h3) ⟨by omega, by show 3 + 19 + 40 * _ ≤ 40 * _; omega⟩ (by decide) rfl (Nat.le_of_ble_eq_true rfl) (fun v9 h9 e9 => ?_) (fun E9 h9 e9 => nomatch e9)
  cases e9
  show Ev _ _ _ _ _ _ 8 [some (.int (nI k)), some (.int (nI n))] [.int (nI k)] h
  refine Ev.sg hX sJ0_checkIndex_df160_8 (pc' := 9) (ls' := [some (.int (nI k)), some (.int (nI n))]) (st' := []) (h' := h) rfl ?_
  refine Ev.vret dJ0_checkIndex_df160_9 rfl ?_
  rfl
def chS (i k : Nat) : Int32 := (jshb.getD i []).getD k 0
theorem chS_all : ∀ i, i < jnS → ∀ k, k < 40 → ((chS i k &&& 255).toUInt32 % 65536).toInt32 = chS i k ∧ narrow .char (.int (chS i k)) = .int (chS i k) ∧ vp_nar .char (chS i k) = chS i k := by decide +kernel
theorem jshl_leN : ∀ i, i < jnS → jshl.getD i 0 ≤ 40 := by decide +kernel
theorem jshl_le : ∀ i, i < 7 → jshl.getD i 0 ≤ 12 := by decide +kernel
theorem c_L1charAt (hX : JXok X) (hd : 2 ≤ d) (hi : i < jnS) {k : Nat} (hk : k < jshl.getD i 0) : MT X d 0 0 jdJ1_charAt_3b067 [.ref (BIG + 100 + i), .int (nI k)] h (fun R => R = .inl (some (.int (chS i k)), h)) := by
  refine MT.mk dsJ1_charAt_3b067.1 ?_
  refine Ev.sg hX (sJ1_charAt_3b067_0.sub 0 2) (pc' := 2) (ls' := [some (.ref (BIG + 100 + i)), some (.int (nI k))]) (st' := [.ref (BIG + 100 + i), .int (nI k)]) (h' := h) rfl ?_
  refine Ev.alenS hi (sJ1_charAt_3b067_0.dc 2 (q := (2, .arraylength, 0, 0)) rfl) ?_
  refine Ev.callS (As := [.int (nI k), .int (nI (jshl.getD i 0))]) (rest := []) dsJ0_checkIndex_df160 mkJ1_9 dJ1_charAt_3b067_3 (c_scheck (d := d - 1) hX (by omega) hk (by have := jshl_leN i hi; omega)) ⟨by omega, by show 2 + 19 + 40 * _ ≤ 40 * _; omega⟩ (by decide) rfl (Nat.le_of_ble_eq_true rfl) (fun v9 h9 e9 => ?_) (fun E9 h9 e9 => nomatch e9)
  cases e9
  show Ev _ _ _ _ _ _ 6 [some (.ref (BIG + 100 + i)), some (.int (nI k))] [] h
  refine Ev.sg hX sJ1_charAt_3b067_6 (pc' := 8) (ls' := [some (.ref (BIG + 100 + i)), some (.int (nI k))]) (st' := [.int (nI k), .ref (BIG + 100 + i)]) (h' := h) rfl ?_
  refine Ev.baldS hi (vp_in_nI hk (by have := jshl_leN i hi; omega)) dJ1_charAt_3b067_8 ?_
  rw [show (nI k).toNatClampNeg = k from nI_clamp (by have := jshl_leN i hi; omega)]
  show Ev _ _ _ _ _ _ 9 [some (.ref (BIG + 100 + i)), some (.int (nI k))] [.int (chS i k)] h
  refine Ev.sg hX sJ1_charAt_3b067_9 (pc' := 14) (ls' := [some (.ref (BIG + 100 + i)), some (.int (nI k))]) (st' := [.int ((((chS i k) &&& 255).toUInt32 % 65536).toInt32)]) (h' := h) rfl ?_
  rw [(chS_all i hi k (by have := jshl_leN i hi; omega)).1]
  refine Ev.zret dJ1_charAt_3b067_14 rfl ?_ ?_
  · exact (chS_all i hi k (by have := jshl_leN i hi; omega)).2.1
  rfl
theorem c_strCharAt (hX : JXok X) (hd : 3 ≤ d) (hi : i < jnS) {k : Nat} (hk : k < jshl.getD i 0) : MT X d 0 0 jdJ0_charAt_5068e [.ref (jsh0 + i), .int (nI k)] h (fun R => R = .inl (some (.int (chS i k)), h)) := by
  refine MT.mk dvJ0_charAt_5068e.1 ?_
  refine Ev.sg hX sJ0_charAt_5068e_0 (pc' := 1) (ls' := [some (.ref (jsh0 + i)), some (.int (nI k))]) (st' := [.ref (jsh0 + i)]) (h' := h) rfl ?_
  refine Ev.callVK (As := []) (rest := []) hi rfl dvJ0_isLatin1_aae02 mkJ0_492 dJ0_charAt_5068e_1 (c_sLatin1 (d := d - 1) hX (Nat.zero_le _) hi) ⟨by omega, by show 1 + 19 + 40 * _ ≤ 40 * _; omega⟩ ⟨by omega, by omega⟩ rfl (Nat.le_of_ble_eq_true rfl) (fun v9 h9 e9 => ?_) (fun E9 h9 e9 => nomatch e9)
  cases e9
  show Ev _ _ _ _ _ _ 4 [some (.ref (jsh0 + i)), some (.int (nI k))] [.int 1] h
  refine Ev.if_eq (tgt := 16) dJ0_charAt_5068e_4 (by decide) (fun b1 => ?_) (fun b1 => ?_)
  · exact absurd b1 (by decide)
  · refine Ev.sg hX sJ0_charAt_5068e_7 (pc' := 8) (ls' := [some (.ref (jsh0 + i)), some (.int (nI k))]) (st' := [.ref (jsh0 + i)]) (h' := h) rfl ?_
    refine Ev.getSV hi (by decide +kernel) dJ0_charAt_5068e_8 ?_
    refine Ev.sg hX sJ0_charAt_5068e_11 (pc' := 12) (ls' := [some (.ref (jsh0 + i)), some (.int (nI k))]) (st' := [.int (nI k), .ref (BIG + 100 + i)]) (h' := h) rfl ?_
    refine Ev.callS (As := [.ref (BIG + 100 + i), .int (nI k)]) (rest := []) dsJ1_charAt_3b067 mkJ0_495 dJ0_charAt_5068e_12 (c_L1charAt (d := d - 1) hX (by omega) hi hk) ⟨by omega, by show 2 + 19 + 40 * _ ≤ 40 * _; omega⟩ (by decide) rfl (Nat.le_of_ble_eq_true rfl) (fun v9 h9 e9 => ?_) (fun E9 h9 e9 => nomatch e9)
    cases e9
    show Ev _ _ _ _ _ _ 15 [some (.ref (jsh0 + i)), some (.int (nI k))] [.int (chS i k)] h
    refine Ev.zret dJ0_charAt_5068e_15 rfl ?_ ?_
    · exact (chS_all i hi k (by have := jshl_leN i hi; omega)).2.1
    rfl
end STR2
