/-! the runs of the law's texts -/
section RUN
variable {I J : HI} {z m a b n k d : Nat} {c e : Int32} {g : Nat → Nat} {R R' : Nat → Int32} {s : GS} {K : Nat} {M : Nat → Int32}
/-- a track more, in a row -/
def rT (R : Nat → Int32) (z : Nat) (c e : Int32) : Nat → Int32 := fun k => if k = 0 then nI z + 1 else if k = 15 + z then e else if k = 7 + z then c else R k
/-- two tracks linked, in a row -/
def rC (R : Nat → Int32) (a b : Nat) : Nat → Int32 := fun k => if k = 23 + b then R (23 + b) ^^^ (1 <<< (nI a &&& 31)) else if k = 23 + a then R (23 + a) ^^^ (1 <<< (nI b &&& 31)) else R k
/-- numbers as a row -/
def RJ (g : Nat → Nat) : Nat → Int32 := fun k => nI (g k)
theorem adt_ok (hz : ¬ z = 8) (h : (10 ≤ c ∧ c ≤ 200) ∧ (0 ≤ e ∧ e ≤ 5)) : (adtM I z c e).1 = nI z ∧ (adtM I z c e).2 396 12 = 0 ∧ (adtM I z c e).2 397 = rT (I 397) z c e ∧ (adtM I z c e).2 404 = I 404 := by
  unfold adtM
  rw [if_neg (fun q => q h), if_neg hz]
  refine ⟨rfl, by dsimp only; exact up2_hit, ?_, ?_⟩
  · dsimp only
    rw [up2_ne (by decide)]
    funext k
    unfold rT
    rw [up2_v, up2_v, up2_v]
  · dsimp only
    rw [up2_ne (by decide), up2_ne (by decide), up2_ne (by decide), up2_ne (by decide)]
theorem tl_row (hab : a ≠ b) : tlM I a b 397 = rC (I 397) a b := by
  funext k
  unfold tlM rC
  unfold tl1
  rw [up2_v]
  by_cases c1 : k = 23 + b
  · rw [if_pos c1, if_pos c1, up2_v, if_neg (by omega)]
  · rw [if_neg c1, if_neg c1, up2_v]
theorem cn_ok (ha : tkM I (nI a)) (hb : tkM I (nI b)) (hab : a ≠ b) (a8 : a < 8) (b8 : b < 8) (hl : ¬ lkM I a b) : (cnM I z (nI a) (nI b)).1 = liM (tlM I a b) z ∧ (cnM I z (nI a) (nI b)).2 396 12 = 0 ∧ (cnM I z (nI a) (nI b)).2 397 = rC (I 397) a b := by
  unfold cnM
  rw [if_neg (fun q => q ⟨ha, hb⟩), if_neg (fun q => hab (nI_inj (by omega) (by omega) q)), nI_clamp (by omega), nI_clamp (by omega), if_neg hl]
  refine ⟨rfl, by dsimp only; exact up2_hit, ?_⟩
  dsimp only
  rw [up2_ne (by decide), tl_row hab]
theorem liM_1 {i j : Nat} (h : lkM I i j) (hj : j < i) (hi : i < z) (hz : z ≤ 8) : ∃ q, 1 ≤ q ∧ q ≤ 64 ∧ liM I z = nI q := by
  refine ⟨sN (fun i => sN (fun j => if lkM I i j then 1 else 0) i) z, ?_, ?_, ?_⟩
  · have p2 : (fun i => sN (fun j => if lkM I i j then 1 else 0) i) i ≤ sN (fun i => sN (fun j => if lkM I i j then 1 else 0) i) z := sN_pick (f := fun i => sN (fun j => if lkM I i j then 1 else 0) i) hi
    have p1 : (fun j => if lkM I i j then 1 else 0) j ≤ sN (fun j => if lkM I i j then 1 else 0) i := sN_pick (f := fun j => if lkM I i j then 1 else 0) hj
    dsimp only at p1 p2
    rw [if_pos h] at p1
    omega
  · have p : sN (fun i => sN (fun j => if lkM I i j then 1 else 0) i) z ≤ 8 * z := sN_le (fun i hi => by
      have p : sN (fun j => if lkM I i j then 1 else 0) i ≤ 1 * i := sN_le (fun j hj => by split <;> omega)
      omega)
    omega
  · unfold liM
    refine fo_at (e := z) (P := fun i acc => acc = nI (sN (fun i => sN (fun j => if lkM I i j then 1 else 0) i) i)) (f := fun i acc => fo (lisS I i) i 0 acc) (fun i acc hi ha => ?_) z 0 0 (by omega) rfl
    rw [ha]
    refine fo_sum2 (w := fun j => if lkM I i j then 1 else 0) (fun j a hj => ?_)
    unfold lisS
    by_cases c : lkM I i j
    · rw [if_pos c, if_pos c]; rfl
    · rw [if_neg c, if_neg c]; rfl
theorem mr_step (h : (coM J (6 * k)).2 396 12 = 0) : mrL (n + 1) k J = mrL n (k + 1) (coM J (6 * k)).2 := if_pos h
theorem mr_fail (h : ¬ (coM J (6 * k)).2 396 12 = 0) : mrL (n + 1) k J = (some (k, (coM J (6 * k)).1), (coM J (6 * k)).2) := if_neg h
theorem coM_t (h : J 404 k = 116) : coM J k = adtM J (zO J) (J 404 (k + 1)) (J 404 (k + 2)) := if_pos h
theorem coM_s (h : J 404 k = 115) : coM J k = cnM J (zO J) (J 404 (k + 1)) (J 404 (k + 2)) := by
  unfold coM
  rw [if_neg (by rw [h]; decide), if_pos h]
theorem coM_r (h : J 404 k = 114) : coM J k = repM J (mO J) (J 404 (k + 1)) := by
  unfold coM
  rw [if_neg (by rw [h]; decide), if_neg (by rw [h]; decide), if_neg (by rw [h]; decide), if_neg (by rw [h]; decide), if_neg (by rw [h]; decide), if_pos h]
/-- numbers that are read back as they are -/
def cano (g : Nat → Nat) : Prop := ∀ k, g k < 2 ^ 31 ∧ (179 ≤ k → g k = 0)
theorem cano_G {G : Nat → Int32} : cano (canonG G) := fun k => by
  unfold canonG
  refine ⟨?_, fun h => if_neg (by omega)⟩
  split
  · have h1 : (G k).toNatClampNeg = (G k).toInt.toNat := rfl
    have h2 := Int32.toInt_lt (G k)
    omega
  · decide
theorem rj_canon {k : Nat} {x : Nat} (hk : k < 179) (hx : R k = nI x) (h : x < 2 ^ 31) : RJ (canonG R) k = R k := by
  unfold RJ canonG
  rw [if_pos hk, hx, nI_clamp h]
theorem canon_congr (h : ∀ k, k < 179 → R k = R' k) : canonG R = canonG R' := by
  funext k
  unfold canonG
  by_cases c : k < 179
  · rw [if_pos c, if_pos c, h k c]
  · rw [if_neg c, if_neg c]
theorem rT_congr (h : ∀ k, k < 179 → R k = R' k) : ∀ k, k < 179 → rT R z c e k = rT R' z c e k := fun k hk => by
  unfold rT
  rw [h k hk]
theorem rC_congr (a8 : a < 8) (b8 : b < 8) (h : ∀ k, k < 179 → R k = R' k) : ∀ k, k < 179 → rC R a b k = rC R' a b k := fun k hk => by
  unfold rC
  rw [h k hk, h (23 + a) (by omega), h (23 + b) (by omega)]
/-- tracks n and n + 1, and their link, in a row -/
def r3 (g : Nat → Nat) (n : Nat) : Nat → Int32 := rC (rT (rT (RJ g) n 30 1) (n + 1) 99 5) n (n + 1)
theorem rT_1 (hg : cano g) (hn : n < 7) : ∀ k, k < 179 → RJ (canonG (rT (RJ g) n 30 1)) k = rT (RJ g) n 30 1 k := fun k hk => by
  have hx : ∃ x, x < 2 ^ 31 ∧ rT (RJ g) n 30 1 k = nI x := by
    unfold rT
    by_cases c0 : k = 0
    · exact ⟨n + 1, by omega, by rw [if_pos c0, nI_1]⟩
    · rw [if_neg c0]
      by_cases c1 : k = 15 + n
      · exact ⟨1, by decide, by rw [if_pos c1]; rfl⟩
      · rw [if_neg c1]
        by_cases c2 : k = 7 + n
        · exact ⟨30, by decide, by rw [if_pos c2]; rfl⟩
        · exact ⟨g k, (hg k).1, by rw [if_neg c2]; rfl⟩
  obtain ⟨x, h1, h2⟩ := hx
  exact rj_canon hk h2 h1
theorem rT_2 (hg : cano g) (hn : n < 7) : ∀ k, k < 179 → RJ (canonG (rT (RJ g) (n + 1) 99 5)) k = rT (RJ g) (n + 1) 99 5 k := fun k hk => by
  have hx : ∃ x, x < 2 ^ 31 ∧ rT (RJ g) (n + 1) 99 5 k = nI x := by
    unfold rT
    by_cases c0 : k = 0
    · exact ⟨n + 2, by omega, by rw [if_pos c0, nI_1]⟩
    · rw [if_neg c0]
      by_cases c1 : k = 15 + (n + 1)
      · exact ⟨5, by decide, by rw [if_pos c1]; rfl⟩
      · rw [if_neg c1]
        by_cases c2 : k = 7 + (n + 1)
        · exact ⟨99, by decide, by rw [if_pos c2]; rfl⟩
        · exact ⟨g k, (hg k).1, by rw [if_neg c2]; rfl⟩
  obtain ⟨x, h1, h2⟩ := hx
  exact rj_canon hk h2 h1
theorem tk_n {x : Nat} (h0 : I 397 0 = nI x) (hx : x ≤ 9) (ha : a < x) : tkM I (nI a) := by
  unfold tkM
  rw [h0, nI_m1 (by omega)]
  exact ⟨nI_pos' (by omega), (nI_leI (by omega) (by omega)).mpr (by omega)⟩
/-- no link between a new track and any other -/
theorem no_lk (W : WG K g) (h0 : g 0 = n) (hn : n < 7) : (g (23 + n)).testBit (n + 1) = false ∧ (g (23 + (n + 1))).testBit n = false := by
  obtain ⟨w1, w2, w3, w4, -⟩ := W.2
  constructor
  · cases q : (g (23 + n)).testBit (n + 1) with
    | false => rfl
    | true =>
      have := (w4 n (n + 1) (by omega) (by omega) q).1.1
      omega
  · cases q : (g (23 + (n + 1))).testBit n with
    | false => rfl
    | true =>
      have := (w4 (n + 1) n (by omega) (by omega) q).1.1
      omega
/-- the link of n and n + 1, at a row that has the numbers there -/
theorem cn_n (W : WG K g) (h0 : g 0 = n) (hn : n < 7) (e0 : I 397 0 = nI (n + 2)) (e1 : I 397 (23 + n) = nI (g (23 + n))) (e2 : I 397 (23 + (n + 1)) = nI (g (23 + (n + 1)))) : (∃ q, 1 ≤ q ∧ q ≤ 64 ∧ (cnM I (n + 2) (nI n) (nI (n + 1))).1 = nI q) ∧ (cnM I (n + 2) (nI n) (nI (n + 1))).2 396 12 = 0 ∧ (cnM I (n + 2) (nI n) (nI (n + 1))).2 397 = rC (I 397) n (n + 1) := by
  obtain ⟨w1, w2, w3, w4, -⟩ := W.2
  have nl := no_lk W h0 hn
  have c := cn_ok (z := n + 2) (tk_n e0 (by omega) (show n < n + 2 by omega)) (tk_n e0 (by omega) (show n + 1 < n + 2 by omega)) (by omega : n ≠ n + 1) (by omega) (by omega) (fun q => by
    unfold lkM at q
    rw [e1, lk_dec _ (w3 n (by omega)) _ (by omega), nl.1] at q
    cases q)
  refine ⟨?_, c.2.1, c.2.2⟩
  rw [c.1]
  refine liM_1 (i := n + 1) (j := n) ?_ (by omega) (by omega) (by omega)
  unfold lkM
  rw [tl_row (by omega)]
  unfold rC
  rw [if_pos rfl, e2]
  have x := xr_dec _ (w3 (n + 1) (by omega)) n (by omega)
  rw [x.1, lk_dec _ x.2.1 _ (by omega), x.2.2 n (by omega), nl.2, decide_eq_true rfl]
  rfl
/-- the text of two tracks and their link -/
def T1 (n : Nat) : List Int32 := jshb.getD 7 [] ++ ([nI (48 + n)] ++ (jshb.getD 8 [] ++ [nI (48 + (n + 1))]))
theorem T1_rd : ∀ n, n < 7 → ((rdT (T1 n)).1 = 3 ∧ (rdT (T1 n)).2.2.1 = 0 ∧ ¬ (rdT (T1 n)).2.1 < (T1 n).length) ∧ (rdT (T1 n)).2.2.2 0 = 116 ∧ (rdT (T1 n)).2.2.2 1 = 30 ∧ (rdT (T1 n)).2.2.2 2 = 1 ∧ (rdT (T1 n)).2.2.2 6 = 116 ∧ (rdT (T1 n)).2.2.2 7 = 99 ∧ (rdT (T1 n)).2.2.2 8 = 5 ∧ (rdT (T1 n)).2.2.2 12 = 115 ∧ (rdT (T1 n)).2.2.2 13 = nI n ∧ (rdT (T1 n)).2.2.2 14 = nI (n + 1) := by decide +kernel
theorem T9_rd : ((rdT (jshb.getD 9 [])).1 = 2 ∧ (rdT (jshb.getD 9 [])).2.2.1 = 0 ∧ ¬ (rdT (jshb.getD 9 [])).2.1 < (jshb.getD 9 []).length) ∧ (rdT (jshb.getD 9 [])).2.2.2 0 = 116 ∧ (rdT (jshb.getD 9 [])).2.2.2 1 = 30 ∧ (rdT (jshb.getD 9 [])).2.2.2 2 = 1 ∧ (rdT (jshb.getD 9 [])).2.2.2 6 = 115 ∧ (rdT (jshb.getD 9 [])).2.2.2 7 = 0 ∧ (rdT (jshb.getD 9 [])).2.2.2 8 = 0 := by decide +kernel
theorem T10_rd : ((rdT (jshb.getD 10 [])).1 = 1 ∧ (rdT (jshb.getD 10 [])).2.2.1 = 0 ∧ ¬ (rdT (jshb.getD 10 [])).2.1 < (jshb.getD 10 []).length) ∧ (rdT (jshb.getD 10 [])).2.2.2 0 = 114 ∧ (rdT (jshb.getD 10 [])).2.2.2 1 = 99 := by decide +kernel
theorem zO_n {x : Nat} (h0 : I 397 0 = nI x) (hx : x < 100) : zO I = x := by
  unfold zO
  rw [h0, nI_clamp (by omega)]
theorem GR_0 : GR g d M 397 = RJ g := rfl
/-- the run of that text -/
theorem run_T1 (W : WG K g) (h0 : g 0 = n) (hn : n < 7) : (mrL 3 0 (GR g d (rdT (T1 n)).2.2.2)).1 = none ∧ (mrL 3 0 (GR g d (rdT (T1 n)).2.2.2)).2 397 = r3 g n := by
  obtain ⟨-, m0, m1, m2, m6, m7, m8, m12, m13, m14⟩ := T1_rd n hn
  obtain ⟨M, hM⟩ : ∃ M, M = (rdT (T1 n)).2.2.2 := ⟨_, rfl⟩
  rw [← hM] at m0 m1 m2 m6 m7 m8 m12 m13 m14 ⊢
  obtain ⟨J0, hJ0⟩ : ∃ J0, J0 = GR g d M := ⟨_, rfl⟩
  rw [← hJ0]
  have j4 : J0 404 = M := by rw [hJ0]; exact GR_404
  have j7 : J0 397 = RJ g := by rw [hJ0]; exact GR_0
  have z0 : zO J0 = n := zO_n (by rw [j7, ← h0]; rfl) (by omega)
  have A1 := adt_ok (I := J0) (z := n) (c := 30) (e := 1) (by omega) (by decide)
  have k0 : coM J0 (6 * 0) = adtM J0 n 30 1 := by
    rw [coM_t (by rw [j4]; exact m0), z0, j4]
    show adtM J0 n (M 1) (M 2) = _
    rw [m1, m2]
  obtain ⟨J1, hJ1⟩ : ∃ J1, J1 = (coM J0 (6 * 0)).2 := ⟨_, rfl⟩
  rw [← k0, ← hJ1] at A1
  rw [mr_step (by rw [← hJ1]; exact A1.2.1), ← hJ1]
  have j4' : J1 404 = M := A1.2.2.2.trans j4
  have j7' : J1 397 = rT (RJ g) n 30 1 := by rw [A1.2.2.1, j7]
  have z1 : zO J1 = n + 1 := zO_n (by rw [j7']; unfold rT; rw [if_pos rfl, nI_1]) (by omega)
  have A2 := adt_ok (I := J1) (z := n + 1) (c := 99) (e := 5) (by omega) (by decide)
  have k1 : coM J1 (6 * (0 + 1)) = adtM J1 (n + 1) 99 5 := by
    rw [coM_t (by rw [j4']; exact m6), z1, j4']
    show adtM J1 (n + 1) (M 7) (M 8) = _
    rw [m7, m8]
  obtain ⟨J2, hJ2⟩ : ∃ J2, J2 = (coM J1 (6 * (0 + 1))).2 := ⟨_, rfl⟩
  rw [← k1, ← hJ2] at A2
  rw [mr_step (by rw [← hJ2]; exact A2.2.1), ← hJ2]
  have j4'' : J2 404 = M := A2.2.2.2.trans j4'
  have j7'' : J2 397 = rT (rT (RJ g) n 30 1) (n + 1) 99 5 := by rw [A2.2.2.1, j7']
  have e0 : J2 397 0 = nI (n + 2) := by rw [j7'']; unfold rT; rw [if_pos rfl, nI_1]
  have eo : ∀ k, 23 ≤ k → k < 31 → J2 397 k = nI (g k) := fun k h1 h2 => by
    rw [j7'']
    unfold rT
    rw [if_neg (by omega), if_neg (by omega), if_neg (by omega), if_neg (by omega), if_neg (by omega), if_neg (by omega)]
    rfl
  have z2 : zO J2 = n + 2 := zO_n e0 (by omega)
  have A3 := cn_n W h0 hn e0 (eo _ (by omega) (by omega)) (eo _ (by omega) (by omega))
  have k2 : coM J2 (6 * (0 + 1 + 1)) = cnM J2 (n + 2) (nI n) (nI (n + 1)) := by
    rw [coM_s (by rw [j4'']; exact m12), z2, j4'']
    show cnM J2 (n + 2) (M 13) (M 14) = _
    rw [m13, m14]
  rw [← k2] at A3
  rw [mr_step A3.2.1]
  refine ⟨rfl, ?_⟩
  show (coM J2 (6 * (0 + 1 + 1))).2 397 = _
  rw [A3.2.2, j7'']
  rfl
/-- the second text fails at its second command -/
theorem run_T9 (h8 : g 0 < 8) : ∃ x J, mrL 2 0 (GR g d (rdT (jshb.getD 9 [])).2.2.2) = (some (1, x), J) := by
  obtain ⟨-, m0, m1, m2, m6, m7, m8⟩ := T9_rd
  obtain ⟨M, hM⟩ : ∃ M, M = (rdT (jshb.getD 9 [])).2.2.2 := ⟨_, rfl⟩
  rw [← hM] at m0 m1 m2 m6 m7 m8 ⊢
  obtain ⟨J0, hJ0⟩ : ∃ J0, J0 = GR g d M := ⟨_, rfl⟩
  rw [← hJ0]
  have j4 : J0 404 = M := by rw [hJ0]; exact GR_404
  have j7 : J0 397 = RJ g := by rw [hJ0]; exact GR_0
  have z0 : zO J0 = g 0 := zO_n (by rw [j7]; rfl) (by omega)
  have A1 := adt_ok (I := J0) (z := g 0) (c := 30) (e := 1) (by omega) (by decide)
  have k0 : coM J0 (6 * 0) = adtM J0 (g 0) 30 1 := by
    rw [coM_t (by rw [j4]; exact m0), z0, j4]
    show adtM J0 (g 0) (M 1) (M 2) = _
    rw [m1, m2]
  obtain ⟨J1, hJ1⟩ : ∃ J1, J1 = (coM J0 (6 * 0)).2 := ⟨_, rfl⟩
  rw [← k0, ← hJ1] at A1
  rw [mr_step (by rw [← hJ1]; exact A1.2.1), ← hJ1]
  have j4' : J1 404 = M := A1.2.2.2.trans j4
  have j7' : J1 397 0 = nI (g 0 + 1) := by rw [A1.2.2.1]; unfold rT; rw [if_pos rfl, nI_1]
  have k1 : coM J1 (6 * (0 + 1)) = (0, up2 J1 396 12 2) := by
    rw [coM_s (by rw [j4']; exact m6), j4']
    show cnM J1 (zO J1) (M 7) (M 8) = _
    rw [m7, m8]
    unfold cnM
    have tk : tkM J1 0 := tk_n (a := 0) j7' (by omega) (by omega)
    rw [if_neg (fun q => q ⟨tk, tk⟩), if_pos rfl]
  refine ⟨_, _, mr_fail (by rw [k1]; dsimp only; rw [up2_hit]; decide)⟩
/-- there is no car of that number to be repaired -/
theorem run_T10 (W : WG K g) (h2 : g 2 ≤ 99) : ∃ x J, mrL 1 0 (GR g d (rdT (jshb.getD 10 [])).2.2.2) = (some (0, x), J) := by
  obtain ⟨-, m0, m1⟩ := T10_rd
  obtain ⟨M, hM⟩ : ∃ M, M = (rdT (jshb.getD 10 [])).2.2.2 := ⟨_, rfl⟩
  rw [← hM] at m0 m1 ⊢
  obtain ⟨J0, hJ0⟩ : ∃ J0, J0 = GR g d M := ⟨_, rfl⟩
  rw [← hJ0]
  have j4 : J0 404 = M := by rw [hJ0]; exact GR_404
  have j7 : J0 397 = RJ g := by rw [hJ0]; exact GR_0
  have m20 : g 1 ≤ 20 := W.1.2.1
  have mO0 : mO J0 = g 1 := by
    unfold mO
    rw [j7]
    exact nI_clamp (show g 1 < 2 ^ 31 by omega)
  have sl : slOM J0 (g 1) 99 = -1 := by
    unfold slOM
    rcases fnd_or (p := fun s => J0 397 (39 + s) = 99) (g 1) 0 with q | ⟨j, q1, q2, q3, -⟩
    · exact q.1
    · exfalso
      have c := W.2.2.2.2.2.2.1 j (by omega)
      rw [j7] at q3
      have q4 : nI (g (39 + j)) = nI 99 := q3
      have c1 : g (39 + j) < g 2 := by omega
      have := nI_inj (by omega) (by omega) q4
      omega
  have k0 : coM J0 (6 * 0) = (0, up2 J0 396 12 1) := by
    rw [coM_r (by rw [j4]; exact m0), mO0, j4]
    show repM J0 (g 1) (M 1) = _
    rw [m1]
    unfold repM
    rw [if_pos sl]
  refine ⟨_, _, mr_fail (by rw [k0]; dsimp only; rw [up2_hit]; decide)⟩
end RUN
