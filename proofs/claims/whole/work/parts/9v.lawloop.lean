/-! the law's loop: pieces -/
abbrev jdL_law : JD := (yL_law, cL_law, 9, ret, 1)
abbrev lsW (i : Nat) (l6 l7 l8 : Option Value) : List (Option Value) := [some (.ref (BIG + 300)), some (.ref 0), some (.ref 396), some (.ref 405), some (.ref 406), some (.int (nI i)), l6, l7, l8]
section LPI
variable {X : JX} {M : JM} {K K' N v mc ms mc1 ms1 dd pc i : Nat} {T : Nat → Option JS} {I : HI} {L : HL} {Dd : HD} {Q Q' : JR → Prop} {ls : List (Option Value)} {st : List Value} {h : MH} {jx jy : JD} {ax ay : List Value} {xs : List String} {P : Option Value → Option Value → Prop} {R : JR} {cd : String → Int32}
theorem Ev.roomL (hc : mc1 ≤ mc) (hs : ms1 ≤ ms) (k : Ev X M dd mc1 ms1 Q pc ls st h) : Ev X M dd mc ms Q pc ls st h := by
  intro p e R s m args below meth c H locs cells slots lsA hB hK hH hS hL hR
  exact k p e R s m args below meth c H locs cells slots lsA hB hK hH hS hL ⟨hR.1, hR.2.1, by omega, by omega⟩
theorem INV.mono (h : INV K N v T I L Dd) (hK : K ≤ K') (h5 : K' ≤ 5000) : INV K' N v T I L Dd := by
  obtain ⟨g, gs, d, sv, q, tx, er, fl, w, a, b⟩ := h
  exact ⟨g, gs, d, sv, q, tx, er, fl, w, a.mono hK h5, b⟩
/-- what a call of the class leaves -/
def CR (X : JX) (K : Nat) (jy : JD) (ay : List Value) (xs : List String) (P : Option Value → Option Value → Prop) (N v : Nat) (T : Nat → Option JS) (I : HI) (L : HL) (Dd : HD) (R : JR) : Prop :=
  ∃ N1 v1 T1 I1 L1, 407 ≤ N1 ∧ N1 ≤ N + 1160 ∧
    ((∃ x, R = .inl (x, (N1, SH v1 T1, I1, L1, Dd)) ∧ (∃ b, P x b) ∧ ∀ L' Dd', (∀ a, a ≠ 405 → L' a = L1 a) → (∀ a, a ≠ 406 → Dd' a = Dd a) → MOD X K jy ay 0 (P x) N1 v1 T1 I1 L' Dd') ∨
     (∃ k E, xs[k]? = some E ∧ R = .inr (E, (N1, SH v1 T1, I1, L1, Dd)) ∧ MOD X K jy ay (nI (k + 1)) (fun b => ∃ x, P x b) N1 v1 T1 I1 L1 Dd))
theorem CLS.cr (h : CLS X K mc ms jx ax jy ay xs P N v T I L Dd) : ∃ Q', MT X 12 mc ms jx (.ref 0 :: ax) (N, SH v T, I, L, Dd) Q' ∧ ∀ R, Q' R → CR X K jy ay xs P N v T I L Dd R := h
theorem cr_in (hC : ∀ R, Q' R → CR X K jy ay xs P N v T I L Dd R) {x : Option Value} {h' : MH} (e : Q' (.inl (x, h'))) : (∃ b, P x b) ∧ ∃ N1 v1 T1 I1 L1, h' = (N1, SH v1 T1, I1, L1, Dd) ∧ 407 ≤ N1 := by
  obtain ⟨N1, v1, T1, I1, L1, h1, h2, ⟨x', e1, hb, -⟩ | ⟨k, E, -, e1, -⟩⟩ := hC _ e
  · cases e1
    exact ⟨hb, N1, v1, T1, I1, L1, rfl, h1⟩
  · cases e1
theorem cr_ex (hC : ∀ R, Q' R → CR X K jy ay xs P N v T I L Dd R) {E : String} {h' : MH} (e : Q' (.inr (E, h'))) : ∃ k : Nat, xs[k]? = some E := by
  obtain ⟨N1, v1, T1, I1, L1, h1, h2, ⟨x', e1, hb, -⟩ | ⟨k, E', h3, e1, -⟩⟩ := hC _ e
  · cases e1
  · cases e1
    exact ⟨k, h3⟩
theorem cr_hI (hC : ∀ R, Q' R → CR X K jy ay xs PIv N v T I L Dd R) : ∀ v h', Q' (.inl (v, h')) → ∃ x, v = some (.int x) ∧ zS h' 405 = some (.inl (.long, 1)) := fun v h' e => by
  obtain ⟨⟨b, w, e1, -⟩, N1, v1, T1, I1, L1, e2, -⟩ := cr_in hC e
  subst e2
  exact ⟨w, e1, rfl⟩
theorem cr_hD (hC : ∀ R, Q' R → CR X K jy ay xs PDv N v T I L Dd R) : ∀ v h', Q' (.inl (v, h')) → ∃ x, v = some (.double x) ∧ zS h' 406 = some (.inl (.double, 1)) := fun v h' e => by
  obtain ⟨⟨b, w, e1, -⟩, N1, v1, T1, I1, L1, e2, -⟩ := cr_in hC e
  subst e2
  exact ⟨w, e1, rfl⟩
theorem cr_hF (hC : ∀ R, Q' R → CR X K jy ay xs PFv N v T I L Dd R) : ∀ v h', Q' (.inl (v, h')) → ∃ x, v = some (.float x) ∧ zS h' 406 = some (.inl (.double, 1)) ∧ vf_n64 (FP.f2d x) := fun v h' e => by
  obtain ⟨⟨b, w, e1, -, e3⟩, N1, v1, T1, I1, L1, e2, -⟩ := cr_in hC e
  subst e2
  exact ⟨w, e1, rfl, e3⟩
theorem cr_hV (hC : ∀ R, Q' R → CR X K jy ay xs PNv N v T I L Dd R) : ∀ v h', Q' (.inl (v, h')) → v = none := fun v h' e => by
  obtain ⟨⟨b, e1, -⟩, -⟩ := cr_in hC e
  exact e1
/-- the law's method behind a call of the class: its answer, and the model's call -/
theorem wq_g {Wp : Option Value → MH → MH → Prop} {G : Option Value → HL → HD → Prop} (hC : ∀ R, Q' R → CR X K jy ay xs P N v T I L Dd R) (hcd : ∀ k E, xs[k]? = some E → cd E = nI (k + 1) ∧ k < 100)
    (hW : ∀ x N1 v1 T1 I1 L1 h2, (∃ b, P x b) → Wp x (N1, SH v1 T1, I1, L1, Dd) h2 → ∃ Lw Dw, h2 = (N1, SH v1 T1, I1, Lw, Dw) ∧ (∀ a, a ≠ 405 → Lw a = L1 a) ∧ (∀ a, a ≠ 406 → Dw a = Dd a) ∧ G x Lw Dw)
    (e : wQ cd Wp Q' R) : ∃ N1 v1 T1 I1 Lw Dw c, 407 ≤ N1 ∧ N1 ≤ N + 1160 ∧ R = .inl (some (.int c), (N1, SH v1 T1, I1, Lw, Dw)) ∧ MOD X K jy ay c (fun b => (∃ x, P x b) ∧ (c = 0 → ∃ x, P x b ∧ G x Lw Dw)) N1 v1 T1 I1 Lw Dw := by
  rcases e with ⟨x, h', h2, q, hw, e⟩ | ⟨E, h', q, e⟩
  · obtain ⟨N1, v1, T1, I1, L1, h3, h4, ⟨x', e1, hb, hM⟩ | ⟨k, E, -, e1, -⟩⟩ := hC _ q
    · cases e1
      obtain ⟨Lw, Dw, e2, hL, hD, hG⟩ := hW _ _ _ _ _ _ _ hb hw
      subst e2
      refine ⟨N1, v1, T1, I1, Lw, Dw, 0, h3, h4, e, (hM Lw Dw hL hD).mono (fun R hR => ?_)⟩
      obtain ⟨b, J, f1, f2, f3⟩ := hR
      exact ⟨b, J, f1, ⟨⟨_, f2⟩, fun _ => ⟨_, f2, hG⟩⟩, f3⟩
    · cases e1
  · obtain ⟨N1, v1, T1, I1, L1, h3, h4, ⟨x', e1, -, -⟩ | ⟨k, E', hx, e1, hM⟩⟩ := hC _ q
    · cases e1
    · cases e1
      obtain ⟨c1, c2⟩ := hcd k _ hx
      refine ⟨N1, v1, T1, I1, L1, Dd, cd _, h3, h4, e, ?_⟩
      rw [c1]
      refine hM.mono (fun R hR => ?_)
      obtain ⟨b, J, f1, f2, f3⟩ := hR
      exact ⟨b, J, f1, ⟨f2, fun q => absurd (nI_inj (b := 0) (by omega) (by omega) q) (by omega)⟩, f3⟩
def GI (x : Option Value) (Lw : HL) (_ : HD) : Prop := ∃ w, x = some (.int w) ∧ Lw 405 0 = w.toInt64
def GZ (x : Option Value) (Lw : HL) (_ : HD) : Prop := ∃ w, x = some (.int w) ∧ Lw 405 0 = if w = 0 then 0 else 1
def GD (x : Option Value) (_ : HL) (Dw : HD) : Prop := ∃ w, x = some (.double w) ∧ Dw 406 0 = w
def GF (x : Option Value) (_ : HL) (Dw : HD) : Prop := ∃ w, x = some (.float w) ∧ Dw 406 0 = FP.f2d w
theorem w_I {x : Option Value} {N1 v1 : Nat} {T1 : Nat → Option JS} {I1 : HI} {L1 : HL} {h2 : MH} (hw : wI x (N1, SH v1 T1, I1, L1, Dd) h2) : ∃ Lw Dw, h2 = (N1, SH v1 T1, I1, Lw, Dw) ∧ (∀ a, a ≠ 405 → Lw a = L1 a) ∧ (∀ a, a ≠ 406 → Dw a = Dd a) ∧ GI x Lw Dw := by
  obtain ⟨w, e1, e2⟩ := hw
  refine ⟨up2 L1 405 0 w.toInt64, Dd, e2, fun a ha => up2_ne ha, fun _ _ => rfl, w, e1, ?_⟩
  rw [up2_v, if_pos rfl]
theorem w_Z {x : Option Value} {N1 v1 : Nat} {T1 : Nat → Option JS} {I1 : HI} {L1 : HL} {h2 : MH} (hw : wZ x (N1, SH v1 T1, I1, L1, Dd) h2) : ∃ Lw Dw, h2 = (N1, SH v1 T1, I1, Lw, Dw) ∧ (∀ a, a ≠ 405 → Lw a = L1 a) ∧ (∀ a, a ≠ 406 → Dw a = Dd a) ∧ GZ x Lw Dw := by
  obtain ⟨w, e1, e2⟩ := hw
  refine ⟨up2 L1 405 0 (if w = 0 then 0 else 1), Dd, e2, fun a ha => up2_ne ha, fun _ _ => rfl, w, e1, ?_⟩
  rw [up2_v, if_pos rfl]
theorem w_D {x : Option Value} {N1 v1 : Nat} {T1 : Nat → Option JS} {I1 : HI} {L1 : HL} {h2 : MH} (hw : wD x (N1, SH v1 T1, I1, L1, Dd) h2) : ∃ Lw Dw, h2 = (N1, SH v1 T1, I1, Lw, Dw) ∧ (∀ a, a ≠ 405 → Lw a = L1 a) ∧ (∀ a, a ≠ 406 → Dw a = Dd a) ∧ GD x Lw Dw := by
  obtain ⟨w, e1, e2⟩ := hw
  refine ⟨L1, up2 Dd 406 0 w, e2, fun _ _ => rfl, fun a ha => up2_ne ha, w, e1, ?_⟩
  rw [up2_v, if_pos rfl]
theorem w_F {x : Option Value} {N1 v1 : Nat} {T1 : Nat → Option JS} {I1 : HI} {L1 : HL} {h2 : MH} (hw : wF x (N1, SH v1 T1, I1, L1, Dd) h2) : ∃ Lw Dw, h2 = (N1, SH v1 T1, I1, Lw, Dw) ∧ (∀ a, a ≠ 405 → Lw a = L1 a) ∧ (∀ a, a ≠ 406 → Dw a = Dd a) ∧ GF x Lw Dw := by
  obtain ⟨w, e1, e2⟩ := hw
  refine ⟨L1, up2 Dd 406 0 (FP.f2d w), e2, fun _ _ => rfl, fun a ha => up2_ne ha, w, e1, ?_⟩
  rw [up2_v, if_pos rfl]
theorem w_V {x : Option Value} {N1 v1 : Nat} {T1 : Nat → Option JS} {I1 : HI} {L1 : HL} {h2 : MH} (hw : wV x (N1, SH v1 T1, I1, L1, Dd) h2) : ∃ Lw Dw, h2 = (N1, SH v1 T1, I1, Lw, Dw) ∧ (∀ a, a ≠ 405 → Lw a = L1 a) ∧ (∀ a, a ≠ 406 → Dw a = Dd a) ∧ (fun (_ : Option Value) (_ : HL) (_ : HD) => True) x Lw Dw := ⟨L1, Dd, hw.2, fun _ _ => rfl, fun _ _ => rfl, trivial⟩
theorem wq_no {Wp : Option Value → MH → MH → Prop} {E : String} {h' : MH} (e : wQ cd Wp Q' (.inr (E, h'))) : False := by
  rcases e with ⟨x, h', h2, q, hw, e⟩ | ⟨E, h', q, e⟩ <;> cases e
/-- the handlers' numbers -/
theorem cd_of {l : List String} (h : ∀ k, k < l.length → cdE l (l.getD k "") = nI (k + 1)) (h9 : l.length ≤ 9) : ∀ k E, l[k]? = some E → cdE l E = nI (k + 1) ∧ k < 100 := fun k E e => by
  have hk : k < l.length := by
    by_cases c : k < l.length
    · exact c
    · rw [List.getElem?_eq_none (by omega)] at e
      cases e
  have e2 : l.getD k "" = E := by
    rw [List.getD_eq_getElem?_getD, e]
    rfl
  have := h k hk
  rw [e2] at this
  exact ⟨this, by omega⟩
/-- the calls that never throw -/
theorem cr_d (hC : ∀ R, Q' R → CR X K jy ay [] P N v T I L Dd R) (e : Q' R) : ∃ N1 v1 T1 I1 L1 x, 407 ≤ N1 ∧ N1 ≤ N + 1160 ∧ R = .inl (x, (N1, SH v1 T1, I1, L1, Dd)) ∧ (∃ b, P x b) ∧ MOD X K jy ay 0 (P x) N1 v1 T1 I1 L1 Dd := by
  obtain ⟨N1, v1, T1, I1, L1, h1, h2, ⟨x, e1, hb, hM⟩ | ⟨k, E, h3, -, -⟩⟩ := hC _ e
  · exact ⟨N1, v1, T1, I1, L1, x, h1, h2, e1, hb, hM L1 Dd (fun _ _ => rfl) (fun _ _ => rfl)⟩
  · cases h3
theorem lcmp_self (x : Int64) : lg_cmp x x = 0 := by
  unfold lg_cmp
  rw [if_neg (fun q => absurd (Int64.lt_iff_toInt_lt.mp q) (Int.lt_irrefl _)), if_pos rfl]
theorem xor1 {k : Nat} {a E : String} (h : [a][k]? = some E) : E = a := match k, h with
  | 0, h => (Option.some.inj h).symm
theorem xor2 {k : Nat} {a b E : String} (h : [a, b][k]? = some E) : E = a ∨ E = b := match k, h with
  | 0, h => Or.inl (Option.some.inj h).symm
  | 1, h => Or.inr (Option.some.inj h).symm
theorem xor3 {k : Nat} {a b c E : String} (h : [a, b, c][k]? = some E) : E = a ∨ E = b ∨ E = c := match k, h with
  | 0, h => Or.inl (Option.some.inj h).symm
  | 1, h => Or.inr (Or.inl (Option.some.inj h).symm)
  | 2, h => Or.inr (Or.inr (Option.some.inj h).symm)
theorem xor4 {k : Nat} {a b c d E : String} (h : [a, b, c, d][k]? = some E) : E = a ∨ E = b ∨ E = c ∨ E = d := match k, h with
  | 0, h => Or.inl (Option.some.inj h).symm
  | 1, h => Or.inr (Or.inl (Option.some.inj h).symm)
  | 2, h => Or.inr (Or.inr (Or.inl (Option.some.inj h).symm))
  | 3, h => Or.inr (Or.inr (Or.inr (Option.some.inj h).symm))
theorem xor5 {k : Nat} {a b c d e E : String} (h : [a, b, c, d, e][k]? = some E) : E = a ∨ E = b ∨ E = c ∨ E = d ∨ E = e := match k, h with
  | 0, h => Or.inl (Option.some.inj h).symm
  | 1, h => Or.inr (Or.inl (Option.some.inj h).symm)
  | 2, h => Or.inr (Or.inr (Or.inl (Option.some.inj h).symm))
  | 3, h => Or.inr (Or.inr (Or.inr (Or.inl (Option.some.inj h).symm)))
  | 4, h => Or.inr (Or.inr (Or.inr (Or.inr (Option.some.inj h).symm)))
theorem gi_eq {w : Int32} (h : ∃ x, PIv x (some (.int w)) ∧ GI x L Dd) : L 405 0 = w.toInt64 := by
  obtain ⟨x, ⟨w1, e1, e2⟩, w2, e3, e4⟩ := h
  cases e2
  rw [e1] at e3
  cases e3
  exact e4
theorem gz_eq {w : Int32} (h : ∃ x, PIv x (some (.int w)) ∧ GZ x L Dd) : L 405 0 = if w = 0 then 0 else 1 := by
  obtain ⟨x, ⟨w1, e1, e2⟩, w2, e3, e4⟩ := h
  cases e2
  rw [e1] at e3
  cases e3
  exact e4
theorem gd_eq {w : UInt64} (h : ∃ x, PDv x (some (.double w)) ∧ GD x L Dd) : Dd 406 0 = w := by
  obtain ⟨x, ⟨w1, e1, e2⟩, w2, e3, e4⟩ := h
  cases e2
  rw [e1] at e3
  cases e3
  exact e4
theorem gf_eq {w : UInt32} (h : ∃ x, PFv x (some (.float w)) ∧ GF x L Dd) : Dd 406 0 = FP.f2d w ∧ vf_n64 (FP.f2d w) := by
  obtain ⟨x, ⟨w1, e1, e2, e5⟩, w2, e3, e4⟩ := h
  cases e2
  rw [e1] at e3
  cases e3
  exact ⟨e4, e5⟩
theorem dcmp_nn {u : UInt64} (h : vf_n64 u) : Op.cmpValue (FP.dcmp u u) .l = 0 := by
  have h2 : FP.Core.val64 u ≠ .nan := (FP.Core.ne_nan u).mpr (by
    unfold vf_n64 at h
    rw [UInt64.le_iff_toNat_le, UInt64.toNat_and] at h
    have e : (0x7fffffffffffffff : UInt64).toNat = 2 ^ 63 - 1 := by decide
    have e2 : (0x7ff0000000000000 : UInt64).toNat = 9218868437227405312 := by decide
    rw [e, e2, Nat.and_two_pow_sub_one_eq_mod] at h
    exact h)
  show Op.cmpValue (FP.Core.dcmp u u) .l = 0
  rw [FP.Core.dcmp_self h2]
  rfl
theorem nar_c (x : Int32) : vp_nar .char ((x.toUInt32 % 65536).toInt32) = (x.toUInt32 % 65536).toInt32 := by
  show ((x.toUInt32 % 65536) % 65536).toInt32 = (x.toUInt32 % 65536).toInt32
  congr 1
  apply UInt32.toNat_inj.mp
  rw [UInt32.toNat_mod, UInt32.toNat_mod]
  exact Nat.mod_mod _ _
/-- the law goes on -/
def BK (X : JX) (mc ms N K i : Nat) : Prop := ∀ N' v' T' I' L' Dd' l6 l7 l8, 407 ≤ N' → N' ≤ N + 1160 → INV K N' v' T' I' L' Dd' → Ev X (jm jdL_law) 20 (mc - 1160) (ms - 1160) lwR 2699 (lsW i l6 l7 l8) [] (N', SH v' T', I', L', Dd')
end LPI
