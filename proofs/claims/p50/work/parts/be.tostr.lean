/-! a builder's text made a text -/
/-- a made text: its cell, its bytes in the next one -/
def strS (r : Nat) : JS := .inr (7, [.inl (.ref (r + 1)), .inr false, .inr false, .inr false])
def TS (r : Nat) (cs : List Int32) (h : MH) : Prop := zS h r = some (strS r) ∧ zS h (r + 1) = some (.inl (.byte, cs.length)) ∧ (∀ j, j < cs.length → zI h (r + 1) j = cs.getD j 0) ∧ zI h r 1 = 0 ∧ r + 2 ≤ zN h
/-- a builder anywhere: its bytes, their room, its text -/
def BU (b v cap : Nat) (w : List Int32) (h : MH) : Prop := zS h b = some (.inr (8, [.inl (.ref v), .inr false, .inr false, .inr false])) ∧ zS h v = some (.inl (.byte, cap)) ∧ zI h b 3 = nI w.length ∧ zI h b 1 = 0 ∧ (w.length ≤ cap ∧ cap ≤ 700) ∧ (∀ j, j < w.length → zI h v j = w.getD j 0) ∧ (∀ j, j < cap → fits .byte (.int (zI h v j)) = true) ∧ b < zN h ∧ v < zN h
section STG
variable {X : JX} {d b v cap n r : Nat} {h : MH} {w cs : List Int32}
theorem c_isL1G (hX : JXok X) (hd : 0 ≤ d) (hu : BU b v cap w h) : MT X d 0 0 jdJ5_isLatin1_aae02 [.ref b] h (fun R => R = .inl (some (.int (1)), h)) := by
  refine MT.mk dbJ5_isLatin1_aae02 ?_
  refine Ev.getsCS (by decide +kernel) dJ5_isLatin1_aae02_0 ?_
  refine Ev.if_eq (tgt := 17) dJ5_isLatin1_aae02_3 (by decide) (fun b1 => ?_) (fun b1 => ?_)
  · exact absurd b1 (by decide)
  · refine Ev.sg hX (sJ5_isLatin1_aae02_6.sub 0 1) (pc' := 7) (ls' := [some (.ref b)]) (st' := [.ref b]) (h' := h) rfl ?_
    refine Ev.getf (sJ5_isLatin1_aae02_6.lk 1 (q := (7, .getfield 22, 8, 1)) rfl) hu.1 rfl (sJ5_isLatin1_aae02_6.dc 1 (q := (7, .getfield 22, 8, 1)) rfl) ?_
    show Ev _ _ _ _ _ _ 10 [some (.ref b)] [.int (zI h b 1)] h
    rw [hu.2.2.2.1]
    refine Ev.if_ne (tgt := 17) dJ5_isLatin1_aae02_10 (by decide) (fun b2 => ?_) (fun b2 => ?_)
    · exact absurd rfl b2
    · refine Ev.sg hX (sJ5_isLatin1_aae02_13.sub 0 2) (pc' := 18) (ls' := [some (.ref b)]) (st' := [.int 1]) (h' := h) rfl ?_
      refine Ev.zret dJ5_isLatin1_aae02_18 rfl ?_ ?_
      · rfl
      rfl
theorem c_len5G (hX : JXok X) (hd : 0 ≤ d) (hu : BU b v cap w h) : MT X d 0 0 jdJ5_length_8abf5 [.ref b] h (fun R => R = .inl (some (.int (nI w.length)), h)) := by
  refine MT.mk dbJ5_length_8abf5 ?_
  refine Ev.sg hX (sJ5_length_8abf5_0.sub 0 1) (pc' := 1) (ls' := [some (.ref b)]) (st' := [.ref b]) (h' := h) rfl ?_
  refine Ev.getf (sJ5_length_8abf5_0.lk 1 (q := (1, .getfield 79, 8, 3)) rfl) hu.1 rfl (sJ5_length_8abf5_0.dc 1 (q := (1, .getfield 79, 8, 3)) rfl) ?_
  show Ev _ _ _ _ _ _ 4 [some (.ref b)] [.int (zI h b 3)] h
  rw [hu.2.2.1]
  refine Ev.iret dJ5_length_8abf5_4 rfl ?_
  rfl
theorem c_lenG (hX : JXok X) (hd : 1 ≤ d) (hu : BU b v cap w h) : MT X d 0 0 jdJ4_length_8abf5 [.ref b] h (fun R => R = .inl (some (.int (nI w.length)), h)) := by
  refine MT.mk dvJ4_length_8abf5.1 ?_
  refine Ev.sg hX sJ4_length_8abf5_0 (pc' := 1) (ls' := [some (.ref b)]) (st' := [.ref b]) (h' := h) rfl ?_
  refine Ev.callSU (As := []) (rest := []) dbJ5_length_8abf5 dnJ5_length_8abf5 dmJ5_length_8abf5 dJ45 (by decide) mkJ4_343 hu.1 rfl dJ4_length_8abf5_1 (c_len5G (d := d - 1) hX (by omega) hu) ⟨by omega, by show 1 + 19 + 40 * _ ≤ 40 * _; omega⟩ ⟨Nat.zero_le _, Nat.zero_le _⟩ rfl (Nat.le_of_ble_eq_true rfl) (fun v9 h9 e9 => ?_) (fun E9 h9 e9 => nomatch e9)
  cases e9
  show Ev _ _ _ _ _ _ 4 [some (.ref b)] [.int (nI w.length)] h
  refine Ev.iret dJ4_length_8abf5_4 rfl ?_
  rfl
theorem c_valG (hX : JXok X) (hd : 0 ≤ d) (hu : BU b v cap w h) : MT X d 0 0 jdJ5_getValue_6d5f1 [.ref b] h (fun R => R = .inl (some (.ref v), h)) := by
  refine MT.mk dbJ5_getValue_6d5f1 ?_
  refine Ev.sg hX (sJ5_getValue_6d5f1_0.sub 0 1) (pc' := 1) (ls' := [some (.ref b)]) (st' := [.ref b]) (h' := h) rfl ?_
  refine Ev.getf (sJ5_getValue_6d5f1_0.lk 1 (q := (1, .getfield 15, 8, 0)) rfl) hu.1 rfl (sJ5_getValue_6d5f1_0.dc 1 (q := (1, .getfield 15, 8, 0)) rfl) ?_
  show Ev _ _ _ _ _ _ 4 [some (.ref b)] [.ref v] h
  refine Ev.aret dJ5_getValue_6d5f1_4 rfl (Or.inr ⟨_, rfl⟩) ?_
  rfl
theorem c_chkLen (hX : JXok X) (hn : n ≤ 100000) : MT X d 0 0 jdJ7_checkLength_df160 [.int 0, .int (nI n)] h (fun R => R = .inl (none, h)) := by
  refine MT.mk dsJ7_checkLength_df160.1 ?_
  refine Ev.sg hX sJ7_checkLength_df160_0 (pc' := 2) (ls' := [some (.int 0), some (.int (nI n))]) (st' := [.int 0, .int (nI n)]) (h' := h) rfl ?_
  refine Ev.icmp_ge (tgt := 37) dJ7_checkLength_df160_2 (by decide) (fun b1 => ?_) (fun b1 => ?_)
  · refine Ev.vret dJ7_checkLength_df160_37 rfl ?_
    rfl
  · exact absurd (nI_pos' (by omega)) b1
theorem sub0 (x : Int32) : x - 0 = x := by simp
theorem c_cpRB (hX : JXok X) (hd : 2 ≤ d) (hv : zS h v = some (.inl (.byte, cap))) (hcap : cap ≤ 700) (hn : n ≤ cap) (hvN : v < zN h) (hB : zN h + 1 < BIG) (hz : z0 h) (hfit : ∀ j, j < cap → fits .byte (.int (zI h v j)) = true) : MT X d 1 n jdJ7_copyOfRangeByte_39247 [.ref v, .int 0, .int (nI n)] h (fun R => R = .inl (some (.ref (zN h)), cpyI (newS h (.inl (.byte, n))) v (zN h) n)) := by
  refine MT.mk dsJ7_copyOfRangeByte_39247.1 ?_
  refine Ev.sg hX sJ7_copyOfRangeByte_39247_0 (pc' := 2) (ls' := [some (.ref v), some (.int 0), some (.int (nI n)), none, none]) (st' := [.int (nI n), .int 0]) (h' := h) rfl ?_
  refine Ev.callS (As := [.int 0, .int (nI n)]) (rest := []) dsJ7_checkLength_df160 mkJ7_343 dJ7_copyOfRangeByte_39247_2 (c_chkLen (d := d - 1) hX (by omega)) ⟨by omega, by show 2 + 19 + 40 * _ ≤ 40 * _; omega⟩ ⟨Nat.zero_le _, Nat.zero_le _⟩ rfl (Nat.le_of_ble_eq_true rfl) (fun v9 h9 e9 => ?_) (fun E9 h9 e9 => nomatch e9)
  cases e9
  show Ev _ _ _ _ _ _ 5 [some (.ref v), some (.int 0), some (.int (nI n)), none, none] [] h
  refine Ev.sg hX sJ7_copyOfRangeByte_39247_5 (pc' := 10) (ls' := [some (.ref v), some (.int 0), some (.int (nI n)), some (.int (nI n - 0)), none]) (st' := [.int (nI n - 0)]) (h' := h) rfl ?_
  rw [sub0]
  refine Ev.newB (n := n) hX rfl (by omega) hz ⟨Nat.le_refl _, Nat.le_refl _⟩ hB dJ7_copyOfRangeByte_39247_10 (by decide +kernel) ?_
  obtain ⟨h1, eh1⟩ : ∃ h1, h1 = newS h (.inl (.byte, n)) := ⟨_, rfl⟩
  have hv1 : zS h1 v = some (.inl (.byte, cap)) := by
    rw [eh1]
    exact (upS_ne (by omega)).trans hv
  have hw1 : zS h1 (zN h) = some (.inl (.byte, n)) := by
    rw [eh1]
    exact upS_eq
  have hI1 : zI h1 = zI h := by rw [eh1]; rfl
  rw [← eh1]
  show Ev _ _ _ _ _ _ 12 [some (.ref v), some (.int 0), some (.int (nI n)), some (.int (nI n)), none] [.ref (zN h)] h1
  refine Ev.sg hX (sJ7_copyOfRangeByte_39247_12.sub 0 6) (pc' := 20) (ls' := [some (.ref v), some (.int 0), some (.int (nI n)), some (.int (nI n)), some (.ref (zN h))]) (st' := [.ref v, .int 0, .ref (zN h), .int 0, .ref v]) (h' := h1) rfl ?_
  refine Ev.alenN hv1 rfl (sJ7_copyOfRangeByte_39247_12.dc 6 (q := (20, .arraylength, 0, 0)) rfl) ?_
  refine Ev.sg hX (sJ7_copyOfRangeByte_39247_12.sub 7 3) (pc' := 24) (ls' := [some (.ref v), some (.int 0), some (.int (nI n)), some (.int (nI n)), some (.ref (zN h))]) (st' := [.int (nI n), .int (nI cap - 0), .int 0, .ref (zN h), .int 0, .ref v]) (h' := h1) rfl ?_
  rw [sub0]
  refine Ev.mmin (bw_of 1059 (by decide +kernel) (by decide +kernel)) (by omega) (Nat.le_of_ble_eq_true rfl) dJ7_copyOfRangeByte_39247_24 ?_
  refine Ev.copyA (ti := 2) (n := n) (Or.inr ⟨rfl, rfl⟩) hX hv1 hw1 hn (Nat.le_refl _) (by omega) (fun j hj => by rw [hI1]; exact hfit j (by omega)) (bw_of 1060 (by decide +kernel) (by decide +kernel)) (by decide) (by omega) ?_ dJ7_copyOfRangeByte_39247_27 ?_
  · by_cases c : nI n < nI cap
    · exact if_pos c
    · rw [if_neg c]
      by_cases c2 : n = cap
      · rw [c2]
      · exact absurd ((nI_ltI (a := n) (b := cap) (by omega) (by omega)).mpr (by omega)) c
  · refine Ev.sg hX sJ7_copyOfRangeByte_39247_30 (pc' := 32) (ls' := [some (.ref v), some (.int 0), some (.int (nI n)), some (.int (nI n)), some (.ref (zN h))]) (st' := [.ref (zN h)]) (h' := cpyI h1 v (zN h) n) rfl ?_
    refine Ev.aret dJ7_copyOfRangeByte_39247_32 rfl (Or.inr ⟨_, rfl⟩) ?_
    rw [eh1]
theorem c_cpRG (hX : JXok X) (hd : 3 ≤ d) (hv : zS h v = some (.inl (.byte, cap))) (hcap : cap ≤ 700) (hn : n < cap) (hvN : v < zN h) (hB : zN h + 1 < BIG) (hz : z0 h) (hfit : ∀ j, j < cap → fits .byte (.int (zI h v j)) = true) : MT X d 1 n jdJ7_copyOfRange_39247 [.ref v, .int 0, .int (nI n)] h (fun R => R = .inl (some (.ref (zN h)), cpyI (newS h (.inl (.byte, n))) v (zN h) n)) := by
  refine MT.mk dsJ7_copyOfRange_39247.1 ?_
  refine Ev.sg hX sJ7_copyOfRange_39247_0 (pc' := 1) (ls' := [some (.ref v), some (.int 0), some (.int (nI n))]) (st' := [.int 0]) (h' := h) rfl ?_
  refine Ev.if_ne (tgt := 10) dJ7_copyOfRange_39247_1 (by decide) (fun b1 => absurd rfl b1) (fun b1 => ?_)
  refine Ev.sg hX (sJ7_copyOfRange_39247_4.sub 0 2) (pc' := 6) (ls' := [some (.ref v), some (.int 0), some (.int (nI n))]) (st' := [.ref v, .int (nI n)]) (h' := h) rfl ?_
  refine Ev.alenN hv rfl (sJ7_copyOfRange_39247_4.dc 2 (q := (6, .arraylength, 0, 0)) rfl) ?_
  show Ev _ _ _ _ _ _ 7 [some (.ref v), some (.int 0), some (.int (nI n))] [.int (nI cap), .int (nI n)] h
  refine Ev.icmp_eq (tgt := 17) dJ7_copyOfRange_39247_7 (by decide) (fun b2 => ?_) (fun b2 => ?_)
  · exact absurd (nI_inj (by omega) (by omega) b2) (by omega)
  · refine Ev.sg hX sJ7_copyOfRange_39247_10 (pc' := 13) (ls' := [some (.ref v), some (.int 0), some (.int (nI n))]) (st' := [.int (nI n), .int 0, .ref v]) (h' := h) rfl ?_
    refine Ev.callS (As := [.ref v, .int 0, .int (nI n)]) (rest := []) dsJ7_copyOfRangeByte_39247 mkJ7_339 dJ7_copyOfRange_39247_13 (c_cpRB (d := d - 1) hX (by omega) hv hcap (by omega) hvN hB hz hfit) ⟨by omega, by show 5 + 19 + 40 * _ ≤ 40 * _; omega⟩ ⟨Nat.le_refl _, Nat.le_refl _⟩ rfl (Nat.le_of_ble_eq_true rfl) (fun v9 h9 e9 => ?_) (fun E9 h9 e9 => nomatch e9)
    cases e9
    show Ev _ _ _ _ _ _ 16 [some (.ref v), some (.int 0), some (.int (nI n))] [.ref (zN h)] _
    refine Ev.aret dJ7_copyOfRange_39247_16 rfl (Or.inr ⟨_, rfl⟩) ?_
    rfl
/-- the heap behind the making of a text -/
def mkH (h : MH) (v : Nat) (w : List Int32) : MH := (zN h + 2, upS (upS (upS (zS h) (zN h) (.inr (7, [.inl .null, .inr false, .inr false, .inr false]))) (zN h + 1) (.inl (.byte, w.length))) (zN h) (strS (zN h)), zI (cpyI (setI (newS h (.inr (7, [.inl .null, .inr false, .inr false, .inr false]))) (zN h) 1 0) v (zN h + 1) w.length), zL h, zD h)
theorem c_init2 (hX : JXok X) (hd : 4 ≤ d) (hu : BU b v cap w h) (hlt : w.length < cap) (hB : zN h + 2 < BIG) (hz : Z0 (zN h) (zI h) (zL h) (zD h)) : MT X d 1 w.length jdJ0_init_db425 [.ref (zN h), .ref b, .null] (newS h (.inr (7, [.inl .null, .inr false, .inr false, .inr false]))) (fun R => R = .inl (none, mkH h v w)) := by
  obtain ⟨s0, es0⟩ : ∃ s0 : JS, s0 = .inr (7, [.inl .null, .inr false, .inr false, .inr false]) := ⟨_, rfl⟩
  obtain ⟨h1, eh1⟩ : ∃ h1, h1 = newS h (.inr (7, [.inl .null, .inr false, .inr false, .inr false])) := ⟨_, rfl⟩
  obtain ⟨r, er⟩ : ∃ r, r = zN h := ⟨_, rfl⟩
  have hbN := hu.2.2.2.2.2.2.2.1
  have hvN := hu.2.2.2.2.2.2.2.2
  have n1 : zN h1 = r + 1 := by rw [eh1, er]; rfl
  have s1 : zS h1 r = some (.inr (7, [.inl .null, .inr false, .inr false, .inr false])) := by rw [eh1, er]; exact upS_eq
  have i1 : zI h1 = zI h := by rw [eh1]; rfl
  have o1 : ∀ a, a < r → zS h1 a = zS h a := fun a ha => by rw [eh1]; exact upS_ne (by omega)
  have hu1 : BU b v cap w h1 := by
    obtain ⟨u1, u2, u3, u4, u5, u6, u7, u8, u9⟩ := hu
    exact ⟨(o1 b (by omega)).trans u1, (o1 v (by omega)).trans u2, by rw [i1]; exact u3, by rw [i1]; exact u4, u5, by rw [i1]; exact u6, by rw [i1]; exact u7, by omega, by omega⟩
  rw [← eh1, ← er]
  refine MT.mk diJ0_init_db425.1 ?_
  refine Ev.sg hX sJ0_init_db425_0 (pc' := 1) (ls' := [some (.ref r), some (.ref b), some .null, none, none]) (st' := [.ref r]) (h' := h1) rfl ?_
  refine Ev.objI (bw_of 1153 (by decide +kernel) (by decide +kernel)) (by omega) (by decide) dJ0_init_db425_1 ?_
  refine Ev.sg hX sJ0_init_db425_4 (pc' := 5) (ls' := [some (.ref r), some (.ref b), some .null, none, none]) (st' := [.ref b]) (h' := h1) rfl ?_
  refine Ev.callVU (As := []) (rest := []) dbJ5_getValue_6d5f1 dnJ5_getValue_6d5f1 dlJ5_getValue_6d5f1 mkJ0_552 hu1.1 rfl dJ0_init_db425_5 (c_valG (d := d - 1) hX (by omega) hu1) ⟨by omega, by show 1 + 19 + 40 * _ ≤ 40 * _; omega⟩ ⟨Nat.zero_le _, Nat.zero_le _⟩ rfl (Nat.le_of_ble_eq_true rfl) (fun v9 h9 e9 => ?_) (fun E9 h9 e9 => nomatch e9)
  cases e9
  show Ev _ _ _ _ _ _ 8 [some (.ref r), some (.ref b), some .null, none, none] [.ref v] h1
  refine Ev.sg hX sJ0_init_db425_8 (pc' := 10) (ls' := [some (.ref r), some (.ref b), some .null, some (.ref v), none]) (st' := [.ref b]) (h' := h1) rfl ?_
  refine Ev.callVO (q := jdJ4_length_8abf5) (x := yJ5_length_8abf5) (owner := RJ5) (As := []) (rest := []) dvJ4_length_8abf5.1 dvJ4_length_8abf5.2.1 dlJ54_length dmJ5_length_8abf5 dnJ5_length_8abf5 dbJ5_length_8abf5.1 (by decide +kernel) (by decide +kernel) mkJ0_549 hu1.1 rfl dJ0_init_db425_10 (c_lenG (d := d - 1) hX (by omega) hu1) ⟨by omega, by show 1 + 19 + 40 * _ ≤ 40 * _; omega⟩ ⟨Nat.zero_le _, Nat.zero_le _⟩ rfl (Nat.le_of_ble_eq_true rfl) (fun v9 h9 e9 => ?_) (fun E9 h9 e9 => nomatch e9)
  cases e9
  show Ev _ _ _ _ _ _ 13 [some (.ref r), some (.ref b), some .null, some (.ref v), none] [.int (nI w.length)] h1
  refine Ev.sg hX sJ0_init_db425_13 (pc' := 16) (ls' := [some (.ref r), some (.ref b), some .null, some (.ref v), some (.int (nI w.length))]) (st' := [.ref b]) (h' := h1) rfl ?_
  refine Ev.callVU (As := []) (rest := []) dbJ5_isLatin1_aae02 dnJ5_isLatin1_aae02 dlJ5_isLatin1_aae02 mkJ0_1047 hu1.1 rfl dJ0_init_db425_16 (c_isL1G (d := d - 1) hX (by omega) hu1) ⟨by omega, by show 1 + 19 + 40 * _ ≤ 40 * _; omega⟩ ⟨Nat.zero_le _, Nat.zero_le _⟩ rfl (Nat.le_of_ble_eq_true rfl) (fun v9 h9 e9 => ?_) (fun E9 h9 e9 => nomatch e9)
  cases e9
  show Ev _ _ _ _ _ _ 19 [some (.ref r), some (.ref b), some .null, some (.ref v), some (.int (nI w.length))] [.int 1] h1
  refine Ev.if_eq (tgt := 41) dJ0_init_db425_19 (by decide) (fun b1 => absurd b1 (by decide)) (fun b1 => ?_)
  refine Ev.sg hX sJ0_init_db425_22 (pc' := 24) (ls' := [some (.ref r), some (.ref b), some .null, some (.ref v), some (.int (nI w.length))]) (st' := [.int 0, .ref r]) (h' := h1) rfl ?_
  refine Ev.putI (j := 1) hX ci_J0 (by decide) (bw_of 1196 (by decide +kernel) (by decide +kernel)) (Or.inr ⟨rfl, rfl, rfl⟩) s1 rfl rfl rfl dJ0_init_db425_24 ?_
  obtain ⟨h2, eh2⟩ : ∃ h2, h2 = setI h1 r 1 0 := ⟨_, rfl⟩
  rw [← eh2]
  have n2 : zN h2 = r + 1 := by rw [eh2]; exact n1
  have s2 : zS h2 = zS h1 := by rw [eh2]; rfl
  have i2 : ∀ a, a < r → zI h2 a = zI h a := fun a ha => by
    rw [eh2]
    exact (up2_ne (by omega)).trans (congrFun i1 a)
  show Ev _ _ _ _ _ _ 27 [some (.ref r), some (.ref b), some .null, some (.ref v), some (.int (nI w.length))] [] h2
  refine Ev.sg hX sJ0_init_db425_27 (pc' := 32) (ls' := [some (.ref r), some (.ref b), some .null, some (.ref v), some (.int (nI w.length))]) (st' := [.int (nI w.length), .int 0, .ref v, .ref r]) (h' := h2) rfl ?_
  refine Ev.callS (As := [.ref v, .int 0, .int (nI w.length)]) (rest := [.ref r]) dsJ7_copyOfRange_39247 mkJ0_54 dJ0_init_db425_32 (c_cpRG (d := d - 1) (cap := cap) hX (by omega) (by rw [s2]; exact hu1.2.1) hu.2.2.2.2.1.2 hlt (by omega) (by omega) ?_ (fun j hj => by rw [i2 v (by omega)]; exact hu.2.2.2.2.2.2.1 j hj)) ⟨by omega, by show 3 + 19 + 40 * _ ≤ 40 * _; omega⟩ ⟨Nat.le_refl _, Nat.le_refl _⟩ rfl (Nat.le_of_ble_eq_true rfl) (fun v9 h9 e9 => ?_) (fun E9 h9 e9 => nomatch e9)
  · refine ⟨fun j => ?_, fun j => ?_, fun j => ?_⟩
    · rw [n2, eh2]
      show up2 (zI h1) r 1 0 (r + 1) j = 0
      rw [up2_ne (by omega), i1]
      exact (hz (r + 1) (by omega) j).1
    · rw [n2, eh2, eh1]
      exact (hz (r + 1) (by omega) j).2.1
    · rw [n2, eh2, eh1]
      exact (hz (r + 1) (by omega) j).2.2
  · cases e9
    rw [n2]
    obtain ⟨h3, eh3⟩ : ∃ h3, h3 = cpyI (newS h2 (.inl (.byte, w.length))) v (r + 1) w.length := ⟨_, rfl⟩
    rw [← eh3]
    show Ev _ _ _ _ _ _ 35 [some (.ref r), some (.ref b), some .null, some (.ref v), some (.int (nI w.length))] [.ref (r + 1), .ref r] h3
    have s3 : zS h3 r = some (.inr (7, [.inl .null, .inr false, .inr false, .inr false])) := by
      rw [eh3]
      show upS (zS h2) (zN h2) _ r = _
      rw [upS_ne (by omega), s2]
      exact s1
    refine Ev.putR (j := 0) hX ci_J0 (by decide) (bw_of 1195 (by decide +kernel) (by decide +kernel)) (Or.inr ⟨rfl, rfl, rfl⟩) s3 rfl (fun _ => rfl) (fun _ => rfl) dJ0_init_db425_35 ?_
    obtain ⟨h4, eh4⟩ : ∃ h4, h4 = setF h3 r (.inr (7, ([.inl .null, .inr false, .inr false, .inr false] : List (Value ⊕ Bool)).set 0 (.inl (.ref (r + 1))))) := ⟨_, rfl⟩
    rw [← eh4]
    show Ev _ _ _ _ _ _ 38 [some (.ref r), some (.ref b), some .null, some (.ref v), some (.int (nI w.length))] [] h4
    refine Ev.sg hX sJ0_init_db425_38 (pc' := 97) (ls' := [some (.ref r), some (.ref b), some .null, some (.ref v), some (.int (nI w.length))]) (st' := []) (h' := h4) rfl ?_
    refine Ev.vret dJ0_init_db425_97 rfl ?_
    have e4 : h4 = mkH h v w := by
      rw [eh4, eh3, eh2, eh1, er]
      rfl
    rw [e4]
theorem fs_J0 : ∀ j, j < 4 → ∃ f, ([.inl .null, .inr false, .inr false, .inr false] : List (Value ⊕ Bool))[j]? = some f ∧ dfl (tyJ0 j) = some f := by
  intro j hj
  rcases j with _ | _ | _ | _ | j
  · exact ⟨_, rfl, rfl⟩
  · exact ⟨_, rfl, rfl⟩
  · exact ⟨_, rfl, rfl⟩
  · exact ⟨_, rfl, rfl⟩
  · omega
theorem c_init1 {h1 : MH} (hX : JXok X) (hd : 5 ≤ d) (hu : BU b v cap w h) (hlt : w.length < cap) (hB : zN h + 2 < BIG) (hz : Z0 (zN h) (zI h) (zL h) (zD h)) (e1 : h1 = newS h (.inr (7, [.inl .null, .inr false, .inr false, .inr false]))) : MT X d 1 w.length jdJ0_init_81219 [.ref (zN h), .ref b] h1 (fun R => R = .inl (none, mkH h v w)) := by
  refine MT.mk diJ0_init_81219.1 ?_
  refine Ev.sg hX sJ0_init_81219_0 (pc' := 3) (ls' := [some (.ref (zN h)), some (.ref b)]) (st' := [.null, .ref b, .ref (zN h)]) (h' := h1) rfl ?_
  rw [e1]
  refine Ev.callI (As := [.ref b, .null]) (rest := []) diJ0_init_db425 rfl mkJ0_489 dJ0_init_81219_3 (c_init2 (d := d - 1) hX (by omega) hu hlt hB hz) ⟨by omega, by show 5 + 19 + 40 * _ ≤ 40 * _; omega⟩ ⟨Nat.le_refl _, Nat.le_refl _⟩ rfl (Nat.le_of_ble_eq_true rfl) (fun v9 h9 e9 => ?_) (fun E9 h9 e9 => nomatch e9)
  cases e9
  show Ev _ _ _ _ _ _ 6 [some (.ref (zN h)), some (.ref b)] [] (mkH h v w)
  refine Ev.vret dJ0_init_81219_6 rfl ?_
  rfl
theorem c_toStr (hX : JXok X) (hd : 6 ≤ d) (hu : BU b v cap w h) (hlt : w.length < cap) (hB : zN h + 2 < BIG) (hz : Z0 (zN h) (zI h) (zL h) (zD h)) : MT X d 2 (w.length + 4) jdJ4_toString_0e30d [.ref b] h (fun R => R = .inl (some (.ref (zN h)), mkH h v w)) := by
  refine MT.mk dvJ4_toString_0e30d.1 ?_
  refine Ev.newO (ci := 7) (fs := [.inl .null, .inr false, .inr false, .inr false]) hX ci_J0 (bw_of 1145 (by decide +kernel) (by decide +kernel)) ⟨fun j => (hz _ (Nat.le_refl _) j).1, fun j => (hz _ (Nat.le_refl _) j).2.1, fun j => (hz _ (Nat.le_refl _) j).2.2⟩ fs_J0 ⟨by omega, by omega⟩ (by omega) dJ4_toString_0e30d_0 ?_
  obtain ⟨h1, eh1⟩ : ∃ h1, h1 = newS h (.inr (7, [.inl .null, .inr false, .inr false, .inr false])) := ⟨_, rfl⟩
  rw [← eh1]
  show Ev _ _ _ _ _ _ 3 [some (.ref b)] [.ref (zN h)] h1
  refine Ev.sg hX sJ4_toString_0e30d_3 (pc' := 5) (ls' := [some (.ref b)]) (st' := [.ref b, .ref (zN h), .ref (zN h)]) (h' := h1) rfl ?_
  refine Ev.callI (As := [.ref b]) (rest := [.ref (zN h)]) diJ0_init_81219 rfl mkJ4_137 dJ4_toString_0e30d_5 (c_init1 (d := d - 1) hX (by omega) hu hlt hB hz eh1) ⟨by omega, by show 2 + 19 + 40 * _ ≤ 40 * _; omega⟩ ⟨by omega, by omega⟩ rfl (Nat.le_of_ble_eq_true rfl) (fun v9 h9 e9 => ?_) (fun E9 h9 e9 => nomatch e9)
  cases e9
  show Ev _ _ _ _ _ _ 8 [some (.ref b)] [.ref (zN h)] (mkH h v w)
  refine Ev.aret dJ4_toString_0e30d_8 rfl (Or.inl ⟨_, rfl⟩) ?_
  rfl
/-- what that heap is -/
theorem mk_TS (hu : BU b v cap w h) (hz : Z0 (zN h) (zI h) (zL h) (zD h)) : TS (zN h) w (mkH h v w) ∧ NEWC 2 h (mkH h v w) := by
  obtain ⟨u1, u2, u3, u4, u5, u6, u7, u8, u9⟩ := hu
  refine ⟨⟨upS_eq, (upS_ne (by omega)).trans upS_eq, fun j hj => ?_, ?_, Nat.le_refl _⟩, Nat.le_add_right _ _, Nat.le_refl _, fun a ha => ⟨?_, ?_, rfl, rfl⟩⟩
  · show (if zN h + 1 = zN h + 1 then (if j < w.length then up2 (zI h) (zN h) 1 0 v j else _) else _) = _
    rw [if_pos rfl, if_pos hj, up2_ne (by omega)]
    exact u6 j hj
  · show (if zN h = zN h + 1 then _ else up2 (zI h) (zN h) 1 0 (zN h) 1) = 0
    rw [if_neg (by omega)]
    exact up2_hit
  · show upS (upS (upS (zS h) _ _) _ _) _ _ a = _
    rw [upS_ne (by omega), upS_ne (by omega), upS_ne (by omega)]
  · funext j
    show (if a = zN h + 1 then _ else up2 (zI h) (zN h) 1 0 a j) = _
    rw [if_neg (by omega), up2_ne (by omega)]
end STG
/-! a made text, asked -/
section STQ
variable {X : JX} {d r k : Nat} {h : MH} {cs : List Int32}
theorem c_coderT (hX : JXok X) (hd : 0 ≤ d) (ht : TS r cs h) : MT X d 0 0 jdJ0_coder_7d493 [.ref r] h (fun R => R = .inl (some (.int 0), h)) := by
  refine MT.mk dvJ0_coder_7d493.1 ?_
  refine Ev.getsCS (by decide +kernel) dJ0_coder_7d493_0 ?_
  refine Ev.if_eq (tgt := 13) dJ0_coder_7d493_3 (by decide) (fun b1 => absurd b1 (by decide)) (fun b1 => ?_)
  refine Ev.sg hX sJ0_coder_7d493_6 (pc' := 7) (ls' := [some (.ref r)]) (st' := [.ref r]) (h' := h) rfl ?_
  refine Ev.getf fkJ0_15 ht.1 rfl dJ0_coder_7d493_7 ?_
  show Ev _ _ _ _ _ _ 10 [some (.ref r)] [.int (zI h r 1)] h
  rw [ht.2.2.2.1]
  refine Ev.sg hX sJ0_coder_7d493_10 (pc' := 14) (ls' := [some (.ref r)]) (st' := [.int 0]) (h' := h) rfl ?_
  refine Ev.zret dJ0_coder_7d493_14 rfl ?_ ?_
  · rfl
  rfl
theorem c_lat1T (hX : JXok X) (hd : 0 ≤ d) (ht : TS r cs h) : MT X d 0 0 jdJ0_isLatin1_aae02 [.ref r] h (fun R => R = .inl (some (.int 1), h)) := by
  refine MT.mk dvJ0_isLatin1_aae02.1 ?_
  refine Ev.getsCS (by decide +kernel) dJ0_isLatin1_aae02_0 ?_
  refine Ev.if_eq (tgt := 17) dJ0_isLatin1_aae02_3 (by decide) (fun b1 => absurd b1 (by decide)) (fun b1 => ?_)
  refine Ev.sg hX sJ0_isLatin1_aae02_6 (pc' := 7) (ls' := [some (.ref r)]) (st' := [.ref r]) (h' := h) rfl ?_
  refine Ev.getf fkJ0_15 ht.1 rfl dJ0_isLatin1_aae02_7 ?_
  show Ev _ _ _ _ _ _ 10 [some (.ref r)] [.int (zI h r 1)] h
  rw [ht.2.2.2.1]
  refine Ev.if_ne (tgt := 17) dJ0_isLatin1_aae02_10 (by decide) (fun b2 => absurd rfl b2) (fun b2 => ?_)
  refine Ev.sg hX sJ0_isLatin1_aae02_13 (pc' := 18) (ls' := [some (.ref r)]) (st' := [.int 1]) (h' := h) rfl ?_
  refine Ev.zret dJ0_isLatin1_aae02_18 rfl ?_ ?_
  · rfl
  rfl
theorem c_lenT (hX : JXok X) (hd : 1 ≤ d) (ht : TS r cs h) : MT X d 0 0 jdJ0_length_8abf5 [.ref r] h (fun R => R = .inl (some (.int (nI cs.length)), h)) := by
  refine MT.mk dvJ0_length_8abf5.1 ?_
  refine Ev.sg hX sJ0_length_8abf5_0 (pc' := 1) (ls' := [some (.ref r)]) (st' := [.ref r]) (h' := h) rfl ?_
  refine Ev.getf fkJ0_9 ht.1 rfl dJ0_length_8abf5_1 ?_
  show Ev _ _ _ _ _ _ 4 [some (.ref r)] [.ref (r + 1)] h
  refine Ev.alenN ht.2.1 rfl (sJ0_length_8abf5_4.dc 0 (q := (4, .arraylength, 0, 0)) rfl) ?_
  refine Ev.sg hX (sJ0_length_8abf5_4.sub 1 1) (pc' := 6) (ls' := [some (.ref r)]) (st' := [.ref r, .int (nI cs.length)]) (h' := h) rfl ?_
  refine Ev.callV (As := []) (rest := [.int (nI cs.length)]) dvJ0_coder_7d493 mkJ0_335 ht.1 rfl dJ0_length_8abf5_6 (c_coderT (d := d - 1) hX (Nat.zero_le _) ht) ⟨by omega, by show 1 + 19 + 40 * _ ≤ 40 * _; omega⟩ ⟨by omega, by omega⟩ rfl (Nat.le_of_ble_eq_true rfl) (fun v9 h9 e9 => ?_) (fun E9 h9 e9 => nomatch e9)
  cases e9
  show Ev _ _ _ _ _ _ 9 [some (.ref r)] [.int 0, .int (nI cs.length)] h
  refine Ev.sg hX sJ0_length_8abf5_9 (pc' := 10) (ls' := [some (.ref r)]) (st' := [.int ((nI cs.length) >>> (0 &&& 31))]) (h' := h) rfl ?_
  refine Ev.iret dJ0_length_8abf5_10 rfl ?_
  rw [shr0]
def tOK (c : Int32) : Prop := ((c &&& 255).toUInt32 % 65536).toInt32 = c ∧ narrow .char (.int c) = .int c
theorem c_L1T (hX : JXok X) (hd : 2 ≤ d) (ht : TS r cs h) (hl : cs.length ≤ 100) (hk : k < cs.length) (hc : tOK (cs.getD k 0)) : MT X d 0 0 jdJ1_charAt_3b067 [.ref (r + 1), .int (nI k)] h (fun R => R = .inl (some (.int (cs.getD k 0)), h)) := by
  refine MT.mk dsJ1_charAt_3b067.1 ?_
  refine Ev.sg hX (sJ1_charAt_3b067_0.sub 0 2) (pc' := 2) (ls' := [some (.ref (r + 1)), some (.int (nI k))]) (st' := [.ref (r + 1), .int (nI k)]) (h' := h) rfl ?_
  refine Ev.alenN ht.2.1 rfl (sJ1_charAt_3b067_0.dc 2 (q := (2, .arraylength, 0, 0)) rfl) ?_
  refine Ev.callS (As := [.int (nI k), .int (nI cs.length)]) (rest := []) dsJ0_checkIndex_df160 mkJ1_9 dJ1_charAt_3b067_3 (c_scheck (d := d - 1) hX (by omega) hk (by omega)) ⟨by omega, by show 2 + 19 + 40 * _ ≤ 40 * _; omega⟩ (by decide) rfl (Nat.le_of_ble_eq_true rfl) (fun v9 h9 e9 => ?_) (fun E9 h9 e9 => nomatch e9)
  cases e9
  show Ev _ _ _ _ _ _ 6 [some (.ref (r + 1)), some (.int (nI k))] [] h
  refine Ev.sg hX sJ1_charAt_3b067_6 (pc' := 8) (ls' := [some (.ref (r + 1)), some (.int (nI k))]) (st' := [.int (nI k), .ref (r + 1)]) (h' := h) rfl ?_
  refine Ev.baldE ht.2.1 rfl hk (by omega) dJ1_charAt_3b067_8 ?_
  rw [ht.2.2.1 k hk]
  show Ev _ _ _ _ _ _ 9 [some (.ref (r + 1)), some (.int (nI k))] [.int (cs.getD k 0)] h
  refine Ev.sg hX sJ1_charAt_3b067_9 (pc' := 14) (ls' := [some (.ref (r + 1)), some (.int (nI k))]) (st' := [.int ((((cs.getD k 0) &&& 255).toUInt32 % 65536).toInt32)]) (h' := h) rfl ?_
  rw [hc.1]
  refine Ev.zret dJ1_charAt_3b067_14 rfl ?_ ?_
  · exact hc.2
  rfl
theorem c_chT (hX : JXok X) (hd : 3 ≤ d) (ht : TS r cs h) (hl : cs.length ≤ 100) (hk : k < cs.length) (hc : tOK (cs.getD k 0)) : MT X d 0 0 jdJ0_charAt_5068e [.ref r, .int (nI k)] h (fun R => R = .inl (some (.int (cs.getD k 0)), h)) := by
  refine MT.mk dvJ0_charAt_5068e.1 ?_
  refine Ev.sg hX sJ0_charAt_5068e_0 (pc' := 1) (ls' := [some (.ref r), some (.int (nI k))]) (st' := [.ref r]) (h' := h) rfl ?_
  refine Ev.callV (As := []) (rest := []) dvJ0_isLatin1_aae02 mkJ0_492 ht.1 rfl dJ0_charAt_5068e_1 (c_lat1T (d := d - 1) hX (Nat.zero_le _) ht) ⟨by omega, by show 1 + 19 + 40 * _ ≤ 40 * _; omega⟩ ⟨by omega, by omega⟩ rfl (Nat.le_of_ble_eq_true rfl) (fun v9 h9 e9 => ?_) (fun E9 h9 e9 => nomatch e9)
  cases e9
  show Ev _ _ _ _ _ _ 4 [some (.ref r), some (.int (nI k))] [.int 1] h
  refine Ev.if_eq (tgt := 16) dJ0_charAt_5068e_4 (by decide) (fun b1 => absurd b1 (by decide)) (fun b1 => ?_)
  refine Ev.sg hX sJ0_charAt_5068e_7 (pc' := 8) (ls' := [some (.ref r), some (.int (nI k))]) (st' := [.ref r]) (h' := h) rfl ?_
  refine Ev.getf fkJ0_9 ht.1 rfl dJ0_charAt_5068e_8 ?_
  show Ev _ _ _ _ _ _ 11 [some (.ref r), some (.int (nI k))] [.ref (r + 1)] h
  refine Ev.sg hX sJ0_charAt_5068e_11 (pc' := 12) (ls' := [some (.ref r), some (.int (nI k))]) (st' := [.int (nI k), .ref (r + 1)]) (h' := h) rfl ?_
  refine Ev.callS (As := [.ref (r + 1), .int (nI k)]) (rest := []) dsJ1_charAt_3b067 mkJ0_495 dJ0_charAt_5068e_12 (c_L1T (d := d - 1) hX (by omega) ht hl hk hc) ⟨by omega, by show 2 + 19 + 40 * _ ≤ 40 * _; omega⟩ (by decide) rfl (Nat.le_of_ble_eq_true rfl) (fun v9 h9 e9 => ?_) (fun E9 h9 e9 => nomatch e9)
  cases e9
  show Ev _ _ _ _ _ _ 15 [some (.ref r), some (.int (nI k))] [.int (cs.getD k 0)] h
  refine Ev.zret dJ0_charAt_5068e_15 rfl ?_ ?_
  · exact hc.2
  rfl
theorem TS.new {n : Nat} {h' : MH} (ht : TS r cs h) (hn : NEWC n h h') : TS r cs h' := by
  obtain ⟨t1, t2, t3, t4, t5⟩ := ht
  have e0 := hn.2.2 r (by omega)
  have e1 := hn.2.2 (r + 1) (by omega)
  exact ⟨e0.1.trans t1, e1.1.trans t2, fun j hj => by rw [e1.2.1]; exact t3 j hj, by rw [e0.2.1]; exact t4, Nat.le_trans t5 hn.1⟩
/-- a text stays while an object is called -/
theorem TS.step {b v ex : Nat} {h' : MH} (ht : TS r cs h) (st : STEP b v ex h h') (h1 : b + 396 ≤ r) (h2 : swp b v < r ∨ r + 2 ≤ swp b v) : TS r cs h' := by
  obtain ⟨t1, t2, t3, t4, t5⟩ := ht
  have e0 := st.2.2 r (by omega) (by omega)
  have e1 := st.2.2 (r + 1) (by omega) (by omega)
  exact ⟨e0.1.trans t1, e1.1.trans t2, fun j hj => by rw [e1.2.1 (by omega)]; exact t3 j hj, by rw [e0.2.1 (by omega)]; exact t4, Nat.le_trans t5 st.1⟩
theorem str_ok (hX : JXok X) (hl : cs.length ≤ 100) (hc : ∀ c ∈ cs, tOK c) : StrOK X r cs (TS r cs) := by
  intro h ht
  refine ⟨fun M d mc ms Q pc ls rest hcl hd dd hw kk => ?_, fun M d mc ms Q pc ls rest k hcl hd dd hw hk kk => ?_⟩
  · refine Ev.callV (As := []) (rest := rest) dvJ0_length_8abf5 (by rw [hcl]; exact mkL_7) ht.1 rfl dd (c_lenT (d := d - 1) hX (by omega) ht) ⟨by omega, by show 1 + 19 + 40 * _ ≤ 40 * _; omega⟩ ⟨Nat.zero_le _, Nat.zero_le _⟩ rfl hw (fun v9 h9 e9 => ?_) (fun E9 h9 e9 => nomatch e9)
    cases e9
    exact kk
  · refine Ev.callV (As := [.int (nI k)]) (rest := rest) dvJ0_charAt_5068e (by rw [hcl]; exact mkL_13) ht.1 rfl dd (c_chT (d := d - 1) hX (by omega) ht hl hk (hc _ (getD_mem hk))) ⟨by omega, by show 2 + 19 + 40 * _ ≤ 40 * _; omega⟩ ⟨Nat.zero_le _, Nat.zero_le _⟩ rfl hw (fun v9 h9 e9 => ?_) (fun E9 h9 e9 => nomatch e9)
    cases e9
    exact kk
end STQ
