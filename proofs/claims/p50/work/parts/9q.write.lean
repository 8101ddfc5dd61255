/-! writing a track: class and model -/
section YWT
variable {X : JX} {K N v d qq nx cap cap' : Nat} {T : Nat → Option JS} {I I1 I2 J : HI} {L L2 : HL} {Dd : HD} {g g' σ : Nat → Nat} {gs : Nat → Nat → Nat} {sv : Option (Nat → Nat)} {tx : Nat → Int32} {er fl : Int32} {w w' : List Int32} {a b c e f i0 t : Int32} {x : Nat} {P : PF}
theorem CP.wr {N' v' : Nat} {T' : Nat → Option JS} (h : CP K N v T I L Dd g gs d sv qq tx er fl w) (hf : Fr I I1) (ln : Ln P0 w' cap' N' v' T' I1 L Dd) (c9 : cap' ≤ 590) : CP K N' v' T' I1 L Dd g gs d sv qq tx er fl w' := by
  obtain ⟨⟨σ, y⟩, ⟨nx, hs⟩, sc, tc, -⟩ := h
  have o : ∀ a, a < 394 → I1 a = I a := fun a ha => hf a (Or.inl ha)
  exact ⟨⟨σ, y.eq (fun a ha _ _ _ _ => o a (by omega)) rfl⟩, ⟨nx, hs.fr (fun a h1 h2 => o a (by omega)) (fun _ _ => rfl)⟩, sc.fr (fun a h1 h2 => o a (by omega)) (fun _ _ => rfl), tc.fr (o 0 (by omega)) (by rw [o 388 (by omega)]) (o 389 (by omega)), cap', ln, c9⟩
/-- what the model's walk asks -/
theorem wt_ok {x : Nat} (hK : K ≤ 5000) (W : WG K g) (V : GV (J 397) g) (hx : x < g 0) (et : t = nI x) : ∃ sl us ca c0, J 397 (15 + t.toNatClampNeg) = nI sl ∧ sl < 10000 ∧ smM J (g 1) (nI t.toNatClampNeg) 59 = nI us ∧ us < 10000 ∧ J 397 (7 + t.toNatClampNeg) = nI ca ∧ ca < 10000 ∧ c0 ≤ 20 ∧ J 397 (31 + t.toNatClampNeg) = nI c0 ∧ ∀ p, p < c0 → ∃ s num de, s < g 1 ∧ slAM J (g 1) (nI t.toNatClampNeg) (nI p) = nI s ∧ J 397 (39 + s) = nI num ∧ num < 10000 ∧ J 397 (99 + s) = nI de ∧ de < 10000 := by
  have z8 := W.1.1
  have m20 := W.1.2.1
  have b1 := W.2.1 x (by omega)
  have u := usN_le hK W (t := x)
  have us : smM J (g 1) (nI x) 59 = nI (usN g x) := smM_g hK W V (by omega) (by decide)
  have h20 := W.h20 (t := x) (by omega)
  rw [et, nI_clamp (by omega)]
  refine ⟨g (15 + x), usN g x, g (7 + x), g (31 + x), V _ (by omega), by omega, us, by omega, V _ (by omega), by omega, h20, V _ (by omega), fun p hp => ?_⟩
  have a := atS_spec W (t := x) (by omega) hp
  have b := W.car hK a.1
  exact ⟨atS g x p, g (39 + atS g x p), g (99 + atS g x p), a.1, slAM_s hK W V (by omega) hp, V _ (by omega), by omega, V _ (by omega), by omega⟩
theorem wt_car (y : YC K I L g σ) {x : Nat} (hx : x < 8) : ∀ p, p < g (31 + x) → ∃ s num de, s < 20 ∧ slotAt I (nI x) (nI p) = nI s ∧ I 17 s = nI num ∧ num < 10000 ∧ I 19 s = nI de ∧ de < 10000 := fun p hp => by
  obtain ⟨hK, W, S, TT, Jj, C⟩ := y
  have a := atS_spec W hx hp
  have b := W.car hK a.1
  have q := C.1 _ a.1
  exact ⟨σ (atS g x p), g (39 + atS g x p), g (99 + atS g x p), q.1, slotAt_s hK W C hx hp, q.2.1, by omega, q.2.2.2.2.1, by omega⟩
end YWT
