/-! reading the whole program -/
theorem chA_no {tx : Nat → Int32} {q p : Nat} {c : Int32} (h : chA tx q p = c) (hc : c ≠ -1) : p < q := by
  unfold chA at h
  split at h
  · assumption
  · exact absurd h.symm hc
theorem dgF_q {tx : Nat → Int32} {q : Nat} : ∀ (n p : Nat) (a : Int32), p ≤ q → (dgF tx q n p a).1 ≤ q
  | 0, p, a, h => h
  | n + 1, p, a, h => by
    rw [dgF]
    split
    · rename_i h1
      refine dgF_q n (p + 1) _ ?_
      have : chA tx q p ≠ -1 := by
        intro e
        rw [e] at h1
        exact absurd h1.1 (by decide)
      exact chA_no rfl this
    · exact h
def nb (c : Int32) : Nat := if c = 33 then 0 else 1
def cntS (i : Nat) : Nat → Nat → Nat
  | 0, _ => 0
  | n + 1, j => nb (chS i j) + cntS i n (j + 1)
theorem cntS_7 : ∀ i, i < 7 → 7 ≤ cntS i (jshl.getD i 0) 0 := by decide +kernel
theorem chS_no : ∀ i, i < 7 → ∀ k, k < 12 → chS i k ≠ -1 := by decide +kernel
theorem partF_q {tx : Nat → Int32} {q ct p vt : Nat} {c : Int32} {V : Nat → Int32} (hp : p ≤ q) (hc : c ≠ -1) : (partF tx q ct c p vt V).2.1 ≤ q := by
  unfold partF
  split
  · exact dgF_q 1 p 0 hp
  · split
    · exact dgF_q 2 p 0 hp
    · split
      · show (if chA tx q p = 33 then p + 1 else p) ≤ q
        split
        · rename_i h1
          exact chA_no h1 (by decide)
        · exact hp
      · split
        · rename_i h1
          exact chA_no h1 hc
        · exact hp
theorem partF_ok {tx : Nat → Int32} {q ct p vt : Nat} {c : Int32} {V : Nat → Int32} (h : ¬ (partF tx q ct c p vt V).1 = 0) : p + nb c ≤ (partF tx q ct c p vt V).2.1 := by
  unfold partF at *
  by_cases h1 : c = 68
  · rw [if_pos h1] at *
    have h2 : p < (dgF tx q 1 p 0).1 := bi_1.mp h
    have : nb c = 1 := by rw [h1]; rfl
    rw [this]
    exact h2
  · rw [if_neg h1] at *
    by_cases h2 : c = 78
    · rw [if_pos h2] at *
      have h3 : p < (dgF tx q 2 p 0).1 := bi_1.mp h
      have : nb c = 1 := by rw [h2]; rfl
      rw [this]
      exact h3
    · rw [if_neg h2] at *
      by_cases h3 : c = 33
      · rw [if_pos h3] at *
        have : nb c = 0 := by rw [h3]; rfl
        rw [this]
        show p ≤ if chA tx q p = 33 then p + 1 else p
        split <;> omega
      · rw [if_neg h3] at *
        have : nb c = 1 := if_neg h3
        rw [this]
        split at h
        · rename_i h4
          rw [if_pos h4]
          exact Nat.le_refl _
        · exact absurd rfl h
theorem fitL_ok {tx : Nat → Int32} {q ct i : Nat} : ∀ (n j p vt : Nat) (V : Nat → Int32), ¬ (fitL tx q ct i n j p vt V).1 = 0 → p + cntS i n j ≤ (fitL tx q ct i n j p vt V).2.1
  | 0, _, p, vt, V, _ => Nat.le_refl _
  | n + 1, j, p, vt, V, h => by
    rw [fitL] at *
    by_cases h1 : (partF tx q ct (chS i j) p vt V).1 = 0
    · rw [if_pos h1] at h
      exact absurd rfl h
    · rw [if_neg h1] at *
      have := fitL_ok n _ _ _ _ h
      have h2 := partF_ok h1
      rw [cntS]
      omega
theorem fitL_q {tx : Nat → Int32} {q ct i : Nat} (hi : i < 7) : ∀ (n j p vt : Nat) (V : Nat → Int32), p ≤ q → j + n ≤ 12 → (fitL tx q ct i n j p vt V).2.1 ≤ q
  | 0, _, p, vt, V, h, _ => h
  | n + 1, j, p, vt, V, h, hj => by
    have h1 := partF_q (tx := tx) (ct := ct) (vt := vt) (V := V) h (chS_no i hi j (by omega))
    rw [fitL]
    split
    · exact h1
    · exact fitL_q hi n (j + 1) _ _ _ h1 (by omega)
theorem rcL_ok {tx : Nat → Int32} {q ct p0 : Nat} (hp : p0 ≤ q) : ∀ (n k f vt : Nat) (V : Nat → Int32), k + n = 7 → f ≤ q → (rcL tx q ct p0 n k f vt V).2.2.1 ≤ q ∧ (¬ (rcL tx q ct p0 n k f vt V).1 = 0 → p0 + 7 ≤ (rcL tx q ct p0 n k f vt V).2.2.1)
  | 0, _, f, vt, V, _, hf => ⟨hf, fun h => absurd rfl h⟩
  | n + 1, k, f, vt, V, hk, hf => by
    have h1 := fitL_q (tx := tx) (ct := ct) (i := k) (by omega) (jshl.getD k 0) 0 p0 0 V hp (by have := jshl_le k (by omega); omega)
    rw [rcL]
    split
    · exact rcL_ok hp n (k + 1) _ _ _ (by omega) (by omega)
    · rename_i h2
      refine ⟨h1, fun _ => ?_⟩
      have := fitL_ok _ _ _ _ _ h2
      have := cntS_7 k (by omega)
      show p0 + 7 ≤ (fitL tx q ct k (jshl.getD k 0) 0 p0 0 V).2.1
      omega
def paL (tx : Nat → Int32) (q : Nat) : Nat → Nat → Nat → (Nat → Int32) → Nat → (Nat → Int32) → Int32 × PS
  | 0, p, vt, V, ct, K => (nI p, p, vt, V, ct, K)
  | n + 1, p, vt, V, ct, K =>
    if (rcL tx q ct p 7 0 p vt V).1 = 0 then (nI (rcL tx q ct p 7 0 p vt V).2.2.1, (rcL tx q ct p 7 0 p vt V).2.2.1, (rcL tx q ct p 7 0 p vt V).2.2.2.1, (rcL tx q ct p 7 0 p vt V).2.2.2.2, ct, K)
    else if q ≤ (rcL tx q ct p 7 0 p vt V).2.2.1 then (-1, (rcL tx q ct p 7 0 p vt V).2.2.1, (rcL tx q ct p 7 0 p vt V).2.2.2.1, (rcL tx q ct p 7 0 p vt V).2.2.2.2, ct + 1, upV K ct (nI (rcL tx q ct p 7 0 p vt V).2.1))
    else if chA tx q (rcL tx q ct p 7 0 p vt V).2.2.1 = 59 then paL tx q n ((rcL tx q ct p 7 0 p vt V).2.2.1 + 1) (rcL tx q ct p 7 0 p vt V).2.2.2.1 (rcL tx q ct p 7 0 p vt V).2.2.2.2 (ct + 1) (upV K ct (nI (rcL tx q ct p 7 0 p vt V).2.1))
    else (nI (rcL tx q ct p 7 0 p vt V).2.2.1, (rcL tx q ct p 7 0 p vt V).2.2.1, (rcL tx q ct p 7 0 p vt V).2.2.2.1, (rcL tx q ct p 7 0 p vt V).2.2.2.2, ct + 1, upV K ct (nI (rcL tx q ct p 7 0 p vt V).2.1))
section PROG3
variable {X : JX} {d N v : Nat} {T : Nat → Option JS} {I : Nat → Nat → Int32} {L : Nat → Nat → Int64} {Dd : Nat → Nat → UInt64} {q p vt ct : Nat} {V K : Nat → Int32}
theorem l_parse (hX : JXok X) (hd : 7 ≤ d) (hq : q ≤ 60) : ∀ (n p vt : Nat) (V : Nat → Int32) (ct : Nat) (K : Nat → Int32), (ct + n = 60 ∧ 8 * ct ≤ p ∧ p ≤ q) → Ev X (jm jdX3_parse) d 0 0 (fun R => R = .inl (some (.int (paL (I 389) q n p vt V ct K).1), (N, SH v T, PI I q (paL (I 389) q n p vt V ct K).2, L, Dd))) 12 [some (.ref 388), some (.int (nI ct))] [] (N, SH v T, PI I q (p, vt, V, ct, K), L, Dd) := by
  intro n
  induction n with
  | zero =>
    intro p vt V ct K hk
    refine Ev.sg hX sX3_parse_12 (pc' := 15) (ls' := [some (.ref 388), some (.int (nI ct))]) (st' := [.int 60, .int (nI ct)]) (h' := (N, SH v T, PI I q (p, vt, V, ct, K), L, Dd)) rfl ?_
    refine Ev.icmp_ge (tgt := 77) dX3_parse_15 (by decide) (fun b1 => ?_) (fun b1 => ?_)
    · omega
    · exact absurd ((nI_leI (a := 60) (b := ct) (by omega) (by omega)).mpr (by omega)) b1
  | succ n ih =>
    intro p vt V ct K hk
    refine Ev.sg hX sX3_parse_12 (pc' := 15) (ls' := [some (.ref 388), some (.int (nI ct))]) (st' := [.int 60, .int (nI ct)]) (h' := (N, SH v T, PI I q (p, vt, V, ct, K), L, Dd)) rfl ?_
    refine Ev.icmp_ge (tgt := 77) dX3_parse_15 (by decide) (fun b1 => ?_) (fun b1 => ?_)
    · exact absurd ((nI_leI (a := 60) (b := ct) (by omega) (by omega)).mp b1) (by omega)
    · refine Ev.sg hX sX3_parse_18 (pc' := 19) (ls' := [some (.ref 388), some (.int (nI ct))]) (st' := [.ref 388]) (h' := (N, SH v T, PI I q (p, vt, V, ct, K), L, Dd)) rfl ?_
      refine Ev.callV (As := []) (rest := []) dvX3_readCommand mkX3_41 rfl rfl dX3_parse_19 (c_readCommand (d := d - 1) (p := p) (vt := vt) (V := V) (ct := ct) (K := K) hX (by omega) hq (by omega) (by omega)) ⟨by omega, by show 4 + 19 + 40 * _ ≤ 40 * _; omega⟩ (by decide) rfl (Nat.le_of_ble_eq_true rfl) (fun v9 h9 e9 => ?_) (fun E9 h9 e9 => nomatch e9)
      cases e9
      show Ev _ _ _ _ _ _ 22 [some (.ref 388), some (.int (nI ct))] [.int ((rcL (I 389) q ct p 7 0 p vt V).1)] (N, SH v T, PI I q ((rcL (I 389) q ct p 7 0 p vt V).2.2.1, (rcL (I 389) q ct p 7 0 p vt V).2.2.2.1, (rcL (I 389) q ct p 7 0 p vt V).2.2.2.2, if (rcL (I 389) q ct p 7 0 p vt V).1 = 0 then ct else ct + 1, if (rcL (I 389) q ct p 7 0 p vt V).1 = 0 then K else upV K ct (nI (rcL (I 389) q ct p 7 0 p vt V).2.1)), L, Dd)
      refine Ev.if_ne (tgt := 30) dX3_parse_22 (by decide) (fun b2 => ?_) (fun b2 => ?_)
      · rw [if_neg b2, if_neg b2]
        have hr := rcL_ok (tx := I 389) (ct := ct) hk.2.2 7 0 p vt V rfl hk.2.2
        have hr2 := hr.2 b2
        refine Ev.sg hX sX3_parse_30 (pc' := 38) (ls' := [some (.ref 388), some (.int (nI ct))]) (st' := [.int (nI q), .int (nI ((rcL (I 389) q ct p 7 0 p vt V).2.2.1))]) (h' := (N, SH v T, PI I q ((rcL (I 389) q ct p 7 0 p vt V).2.2.1, (rcL (I 389) q ct p 7 0 p vt V).2.2.2.1, (rcL (I 389) q ct p 7 0 p vt V).2.2.2.2, ct + 1, upV K ct (nI (rcL (I 389) q ct p 7 0 p vt V).2.1)), L, Dd)) rfl ?_
        refine Ev.icmp_lt (tgt := 43) dX3_parse_38 (by decide) (fun b3 => ?_) (fun b3 => ?_)
        · have hq5 : ¬ q ≤ (rcL (I 389) q ct p 7 0 p vt V).2.2.1 := by have := (nI_ltI (a := (rcL (I 389) q ct p 7 0 p vt V).2.2.1) (b := q) (by omega) (by omega)).mp b3; omega
          refine Ev.sg hX sX3_parse_43 (pc' := 48) (ls' := [some (.ref 388), some (.int (nI ct))]) (st' := [.int (nI ((rcL (I 389) q ct p 7 0 p vt V).2.2.1)), .ref 388]) (h' := (N, SH v T, PI I q ((rcL (I 389) q ct p 7 0 p vt V).2.2.1, (rcL (I 389) q ct p 7 0 p vt V).2.2.2.1, (rcL (I 389) q ct p 7 0 p vt V).2.2.2.2, ct + 1, upV K ct (nI (rcL (I 389) q ct p 7 0 p vt V).2.1)), L, Dd)) rfl ?_
          refine Ev.callV (As := [.int (nI ((rcL (I 389) q ct p 7 0 p vt V).2.2.1))]) (rest := []) dvX3_signAt mkX3_45 rfl rfl dX3_parse_48 (c_signAt (d := d - 1) (p := ((rcL (I 389) q ct p 7 0 p vt V).2.2.1)) (vt := ((rcL (I 389) q ct p 7 0 p vt V).2.2.2.1)) (V := ((rcL (I 389) q ct p 7 0 p vt V).2.2.2.2)) (ct := (ct + 1)) (K := (upV K ct (nI (rcL (I 389) q ct p 7 0 p vt V).2.1))) hX (Nat.zero_le _) hq (by omega)) ⟨by omega, by show 2 + 19 + 40 * _ ≤ 40 * _; omega⟩ (by decide) rfl (Nat.le_of_ble_eq_true rfl) (fun v9 h9 e9 => ?_) (fun E9 h9 e9 => nomatch e9)
          cases e9
          show Ev _ _ _ _ _ _ 51 [some (.ref 388), some (.int (nI ct))] [.int (chA (I 389) q ((rcL (I 389) q ct p 7 0 p vt V).2.2.1))] (N, SH v T, PI I q ((rcL (I 389) q ct p 7 0 p vt V).2.2.1, (rcL (I 389) q ct p 7 0 p vt V).2.2.2.1, (rcL (I 389) q ct p 7 0 p vt V).2.2.2.2, ct + 1, upV K ct (nI (rcL (I 389) q ct p 7 0 p vt V).2.1)), L, Dd)
          refine Ev.sg hX sX3_parse_51 (pc' := 53) (ls' := [some (.ref 388), some (.int (nI ct))]) (st' := [.int 59, .int (chA (I 389) q ((rcL (I 389) q ct p 7 0 p vt V).2.2.1))]) (h' := (N, SH v T, PI I q ((rcL (I 389) q ct p 7 0 p vt V).2.2.1, (rcL (I 389) q ct p 7 0 p vt V).2.2.2.1, (rcL (I 389) q ct p 7 0 p vt V).2.2.2.2, ct + 1, upV K ct (nI (rcL (I 389) q ct p 7 0 p vt V).2.1)), L, Dd)) rfl ?_
          refine Ev.icmp_eq (tgt := 61) dX3_parse_53 (by decide) (fun b4 => ?_) (fun b4 => ?_)
          · refine Ev.sg hX sX3_parse_61 (pc' := 12) (ls' := [some (.ref 388), some (.int ((nI ct) + 1))]) (st' := []) (h' := (N, SH v T, up2 (PI I q ((rcL (I 389) q ct p 7 0 p vt V).2.2.1, (rcL (I 389) q ct p 7 0 p vt V).2.2.2.1, (rcL (I 389) q ct p 7 0 p vt V).2.2.2.2, ct + 1, upV K ct (nI (rcL (I 389) q ct p 7 0 p vt V).2.1))) 388 5 ((nI ((rcL (I 389) q ct p 7 0 p vt V).2.2.1)) + 1), L, Dd)) rfl ?_
            rw [nI_1, nI_1, PI_at, paL, if_neg b2, if_neg hq5, if_pos b4]
            exact ih ((rcL (I 389) q ct p 7 0 p vt V).2.2.1 + 1) (rcL (I 389) q ct p 7 0 p vt V).2.2.2.1 (rcL (I 389) q ct p 7 0 p vt V).2.2.2.2 (ct + 1) (upV K ct (nI (rcL (I 389) q ct p 7 0 p vt V).2.1)) ⟨by omega, by omega, by omega⟩
          · refine Ev.sg hX sX3_parse_56 (pc' := 60) (ls' := [some (.ref 388), some (.int (nI ct))]) (st' := [.int (nI ((rcL (I 389) q ct p 7 0 p vt V).2.2.1))]) (h' := (N, SH v T, PI I q ((rcL (I 389) q ct p 7 0 p vt V).2.2.1, (rcL (I 389) q ct p 7 0 p vt V).2.2.2.1, (rcL (I 389) q ct p 7 0 p vt V).2.2.2.2, ct + 1, upV K ct (nI (rcL (I 389) q ct p 7 0 p vt V).2.1)), L, Dd)) rfl ?_
            refine Ev.iret dX3_parse_60 rfl ?_
            rw [paL, if_neg b2, if_neg hq5, if_neg b4]
        · refine Ev.sg hX sX3_parse_41 (pc' := 42) (ls' := [some (.ref 388), some (.int (nI ct))]) (st' := [.int (-1)]) (h' := (N, SH v T, PI I q ((rcL (I 389) q ct p 7 0 p vt V).2.2.1, (rcL (I 389) q ct p 7 0 p vt V).2.2.2.1, (rcL (I 389) q ct p 7 0 p vt V).2.2.2.2, ct + 1, upV K ct (nI (rcL (I 389) q ct p 7 0 p vt V).2.1)), L, Dd)) rfl ?_
          refine Ev.iret dX3_parse_42 rfl ?_
          rw [paL, if_neg b2, if_pos (by have := mt (nI_ltI (a := (rcL (I 389) q ct p 7 0 p vt V).2.2.1) (b := q) (by omega) (by omega)).mpr b3; omega)]
      · rw [if_pos b2, if_pos b2]
        refine Ev.sg hX sX3_parse_25 (pc' := 29) (ls' := [some (.ref 388), some (.int (nI ct))]) (st' := [.int (nI ((rcL (I 389) q ct p 7 0 p vt V).2.2.1))]) (h' := (N, SH v T, PI I q ((rcL (I 389) q ct p 7 0 p vt V).2.2.1, (rcL (I 389) q ct p 7 0 p vt V).2.2.2.1, (rcL (I 389) q ct p 7 0 p vt V).2.2.2.2, ct, K), L, Dd)) rfl ?_
        refine Ev.iret dX3_parse_29 rfl ?_
        rw [paL, if_pos b2]
theorem c_parse (hX : JXok X) (hd : 7 ≤ d) (hq : q ≤ 60) : MT X d 0 0 jdX3_parse [.ref 388] (N, SH v T, PI I q (p, vt, V, ct, K), L, Dd) (fun R => R = .inl (some (.int (paL (I 389) q 60 0 vt V 0 K).1), (N, SH v T, PI I q (paL (I 389) q 60 0 vt V 0 K).2, L, Dd))) := by
  refine MT.mk dvX3_parse.1 ?_
  refine Ev.sg hX sX3_parse_0 (pc' := 12) (ls' := [some (.ref 388), some (.int 0)]) (st' := []) (h' := (N, SH v T, up2 (up2 (PI I q (p, vt, V, ct, K)) 388 5 0) 388 2 0, L, Dd)) rfl ?_
  rw [PI_at0, PI_ct0]
  exact l_parse hX hd hq 60 0 vt V 0 K ⟨rfl, Nat.zero_le _, Nat.zero_le _⟩
theorem c_pclear (hX : JXok X) (hd : 0 ≤ d) : MT X d 0 0 jdX3_clear [.ref 388] (N, SH v T, I, L, Dd) (fun R => R = .inl (none, (N, SH v T, up2 I 388 1 0, L, Dd))) := by
  refine MT.mk dvX3_clear.1 ?_
  refine Ev.sg hX sX3_clear_0 (pc' := 5) (ls' := [some (.ref 388)]) (st' := []) (h' := (N, SH v T, up2 I 388 1 0, L, Dd)) rfl ?_
  refine Ev.vret dX3_clear_5 rfl ?_
  rfl
end PROG3
