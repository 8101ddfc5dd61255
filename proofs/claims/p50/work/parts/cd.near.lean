/-! the nearest free track, for rows that agree but at 6 and 79 -/
section NEA
variable {I J : HI} {m z x : Nat} {t : Int32}
theorem fo_rp {f1 f2 : Nat → Int32 × HI → Int32 × HI} : ∀ (n k : Nat) (A B : Int32 × HI), (∀ i A B, k ≤ i → i < k + n → (A.1 = B.1 ∧ A.1.toNatClampNeg < 8 ∧ E6 A.2 B.2) → ((f1 i A).1 = (f2 i B).1 ∧ (f1 i A).1.toNatClampNeg < 8 ∧ E6 (f1 i A).2 (f2 i B).2)) → (A.1 = B.1 ∧ A.1.toNatClampNeg < 8 ∧ E6 A.2 B.2) → ((fo f1 n k A).1 = (fo f2 n k B).1 ∧ (fo f1 n k A).1.toNatClampNeg < 8 ∧ E6 (fo f1 n k A).2 (fo f2 n k B).2)
  | 0, _, _, _, _, h => h
  | n + 1, k, A, B, h, e => fo_rp n (k + 1) _ _ (fun i A B h1 h2 e => h i A B (by omega) (by omega) e) (h k A B (Nat.le_refl _) (by omega) e)
theorem be_c (h : E6 I J) (hm : m ≤ 20) (hz : z ≤ 8) {y1 y2 : Nat} (hx : x < 8) (h1 : y1 < 8) (h2 : y2 < 8) : beM I m z x y1 y2 = beM J m z x y1 y2 := by
  have e2 := ex_c (u := y2) h hz
  have e1 := ex_c (u := y1) e2 hz
  unfold beM beL
  rw [mi_c h hm hz hx h2, mi_c e2 hm hz hx h1, ro_c e1 hm h2, ro_c e1 hm h1]
theorem nf_c (h : E6 I J) (hm : m ≤ 20) (hz : z ≤ 8) (ht : t.toNatClampNeg < 8) : (nfM I m z t).1 = (nfM J m z t).1 ∧ (nfM I m z t).2 396 12 = (nfM J m z t).2 396 12 := by
  have r : (fo (nfS m z t.toNatClampNeg) z 0 (-1, I)).1 = (fo (nfS m z t.toNatClampNeg) z 0 (-1, J)).1 ∧ (fo (nfS m z t.toNatClampNeg) z 0 (-1, I)).1.toNatClampNeg < 8 ∧ E6 (fo (nfS m z t.toNatClampNeg) z 0 (-1, I)).2 (fo (nfS m z t.toNatClampNeg) z 0 (-1, J)).2 := by
    refine fo_rp _ _ _ _ (fun i A B _ hi e => ?_) ⟨rfl, (by decide : (-1 : Int32).toNatClampNeg < 8), h⟩
    obtain ⟨e1, e2, e3⟩ := e
    have ci : (nI i).toNatClampNeg = i := nI_clamp (by omega)
    have ct : (nI t.toNatClampNeg).toNatClampNeg = t.toNatClampNeg := nI_clamp (by omega)
    have w := wh_c (m := m) (z := z) (a := nI t.toNatClampNeg) (b := nI i) (c := 1) e3 hm hz (by omega) (by omega)
    unfold nfS
    simp only [w.1, e1, be_c w.2 hm hz ht (show i < 8 by omega) (show B.1.toNatClampNeg < 8 by rw [← e1]; exact e2)]
    have b8 : B.1.toNatClampNeg < 8 := by rw [← e1]; exact e2
    (repeat' split) <;> first | exact ⟨rfl, b8, w.2⟩ | exact ⟨rfl, by rw [ci]; omega, w.2⟩ | exact ⟨rfl, b8, ex_c (ex_c w.2 hz) hz⟩ | exact ⟨rfl, by rw [ci]; omega, ex_c (ex_c w.2 hz) hz⟩
  unfold nfM
  simp only [tk_c h, r.1]
  (repeat' split) <;> exact ⟨rfl, by dsimp only; exact up2_hit.trans up2_hit.symm⟩
end NEA
