theorem ld_some {ls : List (Option Value)} {i : Nat} {v : Value} (e : ld ls i = some v) : ls[i]? = some (some v) := by
  unfold ld at e
  split at e
  · rename_i h
    cases e
    exact h
  · cases e
section ST
variable {X : JX} {M : JM} {d mc ms : Nat} {Q : JR → Prop} {pc : Nat} {ls : List (Option Value)} {st : List Value} {h : MH}
set_option maxHeartbeats 4000000 in
theorem step_ok (hX : JXok X) {ins : Instr} {ci k : Nat} {t : JT} (hdg : decode M.2.1 pc = .ok (ins, lenI ins)) (hl : LK M.1.cls (ins, ci, k)) (e : stepI ins ci k pc ls st h = some t) (kk : Ev X M d mc ms Q t.1 t.2.1 t.2.2.1 t.2.2.2) : Ev X M d mc ms Q pc ls st h := by
  intro p ev R s m args below meth c H locs cells slots lsA hB hK hH hS hL hR
  have hx := hB.1
  have hb := hB.2.1
  have hown := hB.2.2.2.1
  unfold stepI at e
  split at e
  · cases e
    exact lv_iconst hx hb hdg rfl (kk p ev R s m args below meth c H locs cells slots lsA hB hK hH hS hL hR)
  · cases e
    exact lv_bipush hx hb hdg rfl (kk p ev R s m args below meth c H locs cells slots lsA hB hK hH hS hL hR)
  · cases e
    exact lv_sipush hx hb hdg rfl (kk p ev R s m args below meth c H locs cells slots lsA hB hK hH hS hL hR)
  · cases e
    exact lv_lconst hx hb hdg rfl (kk p ev R s m args below meth c H locs cells slots lsA hB hK hH hS hL hR)
  · cases e
    exact lv_null hx hb hdg (kk p ev R s m args below meth c H locs cells slots lsA hB hK hH hS hL hR)
  · split at e
    · rename_i h9
      cases e
      exact lv_iload_n hx hb hdg rfl (ld_at hL h9) (kk p ev R s m args below meth c H locs cells slots lsA hB hK hH hS hL hR)
    · cases e
  · split at e
    · rename_i h9
      cases e
      exact lv_iload hx hb hdg (ld_at hL h9) (kk p ev R s m args below meth c H locs cells slots lsA hB hK hH hS hL hR)
    · cases e
  · split at e
    · rename_i h9
      cases e
      exact lv_aload_n hx hb hdg rfl (ld_at hL h9) (kk p ev R s m args below meth c H locs cells slots lsA hB hK hH hS hL hR)
    · rename_i h9
      cases e
      exact lv_aload_nN hx hb hdg rfl (ld_at hL h9) (kk p ev R s m args below meth c H locs cells slots lsA hB hK hH hS hL hR)
    · cases e
  · split at e
    · rename_i h9
      cases e
      exact lv_aload hx hb hdg (ld_at hL h9) (kk p ev R s m args below meth c H locs cells slots lsA hB hK hH hS hL hR)
    · rename_i h9
      cases e
      exact lv_aloadN hx hb hdg (ld_at hL h9) (kk p ev R s m args below meth c H locs cells slots lsA hB hK hH hS hL hR)
    · cases e
  · split at e
    · rename_i h9
      cases e
      exact lv_lload_n hx hb hdg rfl (ld_at hL h9) (kk p ev R s m args below meth c H locs cells slots lsA hB hK hH hS hL hR)
    · cases e
  · split at e
    · rename_i h9
      cases e
      exact lv_lload hx hb hdg (ld_at hL h9) (kk p ev R s m args below meth c H locs cells slots lsA hB hK hH hS hL hR)
    · cases e
  · split at e
    · rename_i h9
      cases e
      exact lv_dload_n hx hb hdg rfl (ld_at hL h9) (kk p ev R s m args below meth c H locs cells slots lsA hB hK hH hS hL hR)
    · cases e
  · split at e
    · rename_i h9
      cases e
      exact lv_dload hx hb hdg (ld_at hL h9) (kk p ev R s m args below meth c H locs cells slots lsA hB hK hH hS hL hR)
    · cases e
  · split at e
    · rename_i h9
      cases e
      exact lv_fload_n hx hb hdg rfl (ld_at hL h9) (kk p ev R s m args below meth c H locs cells slots lsA hB hK hH hS hL hR)
    · cases e
  · split at e
    · rename_i h9
      cases e
      exact lv_fload hx hb hdg (ld_at hL h9) (kk p ev R s m args below meth c H locs cells slots lsA hB hK hH hS hL hR)
    · cases e
  · split at e
    · obtain ⟨ls9, e1, rfl⟩ := Option.map_eq_some_iff.mp e
      obtain ⟨h1, h2⟩ := lh_st1 hL e1
      exact lv_istore_n hx hb hdg rfl hL.has h1 rfl (fun lsB hb9 => kk p ev R s m args below meth c H locs cells slots lsB hB hK hH hS (h2 lsB hb9) hR)
    · cases e
  · split at e
    · obtain ⟨ls9, e1, rfl⟩ := Option.map_eq_some_iff.mp e
      obtain ⟨h1, h2⟩ := lh_st1 hL e1
      exact lv_istore hx hb hdg hL.has h1 rfl (fun lsB hb9 => kk p ev R s m args below meth c H locs cells slots lsB hB hK hH hS (h2 lsB hb9) hR)
    · cases e
  · split at e
    · obtain ⟨ls9, e1, rfl⟩ := Option.map_eq_some_iff.mp e
      obtain ⟨h1, h2⟩ := lh_st1 hL e1
      exact lv_astore_n hx hb hdg rfl hL.has h1 rfl (fun lsB hb9 => kk p ev R s m args below meth c H locs cells slots lsB hB hK hH hS (h2 lsB hb9) hR)
    · obtain ⟨ls9, e1, rfl⟩ := Option.map_eq_some_iff.mp e
      obtain ⟨h1, h2⟩ := lh_st1 hL e1
      exact lv_astore_nN hx hb hdg rfl hL.has h1 rfl (fun lsB hb9 => kk p ev R s m args below meth c H locs cells slots lsB hB hK hH hS (h2 lsB hb9) hR)
    · cases e
  · split at e
    · obtain ⟨ls9, e1, rfl⟩ := Option.map_eq_some_iff.mp e
      obtain ⟨h1, h2⟩ := lh_st1 hL e1
      exact lv_astore hx hb hdg hL.has h1 rfl (fun lsB hb9 => kk p ev R s m args below meth c H locs cells slots lsB hB hK hH hS (h2 lsB hb9) hR)
    · obtain ⟨ls9, e1, rfl⟩ := Option.map_eq_some_iff.mp e
      obtain ⟨h1, h2⟩ := lh_st1 hL e1
      exact lv_astoreN hx hb hdg hL.has h1 rfl (fun lsB hb9 => kk p ev R s m args below meth c H locs cells slots lsB hB hK hH hS (h2 lsB hb9) hR)
    · cases e
  · split at e
    · obtain ⟨ls9, e1, rfl⟩ := Option.map_eq_some_iff.mp e
      obtain ⟨h1, h2⟩ := lh_st2 hL e1
      exact lv_lstore_n hx hb hdg rfl hL.has h1 rfl (fun lsB hb9 => kk p ev R s m args below meth c H locs cells slots lsB hB hK hH hS (h2 lsB hb9) hR)
    · cases e
  · split at e
    · obtain ⟨ls9, e1, rfl⟩ := Option.map_eq_some_iff.mp e
      obtain ⟨h1, h2⟩ := lh_st2 hL e1
      exact lv_lstore hx hb hdg hL.has h1 rfl (fun lsB hb9 => kk p ev R s m args below meth c H locs cells slots lsB hB hK hH hS (h2 lsB hb9) hR)
    · cases e
  · split at e
    · obtain ⟨ls9, e1, rfl⟩ := Option.map_eq_some_iff.mp e
      obtain ⟨h1, h2⟩ := lh_st2 hL e1
      exact lv_dstore_n hx hb hdg rfl hL.has h1 rfl (fun lsB hb9 => kk p ev R s m args below meth c H locs cells slots lsB hB hK hH hS (h2 lsB hb9) hR)
    · cases e
  · split at e
    · obtain ⟨ls9, e1, rfl⟩ := Option.map_eq_some_iff.mp e
      obtain ⟨h1, h2⟩ := lh_st2 hL e1
      exact lv_dstore hx hb hdg hL.has h1 rfl (fun lsB hb9 => kk p ev R s m args below meth c H locs cells slots lsB hB hK hH hS (h2 lsB hb9) hR)
    · cases e
  · split at e
    · obtain ⟨ls9, e1, rfl⟩ := Option.map_eq_some_iff.mp e
      obtain ⟨h1, h2⟩ := lh_st1 hL e1
      exact lv_fstore hx hb hdg hL.has h1 rfl (fun lsB hb9 => kk p ev R s m args below meth c H locs cells slots lsB hB hK hH hS (h2 lsB hb9) hR)
    · cases e
  · split at e
    · obtain ⟨ls9, e1, rfl⟩ := Option.map_eq_some_iff.mp e
      obtain ⟨h1, h2⟩ := lh_st1 hL e1
      exact lv_fstore_n hx hb hdg rfl hL.has h1 rfl (fun lsB hb9 => kk p ev R s m args below meth c H locs cells slots lsB hB hK hH hS (h2 lsB hb9) hR)
    · cases e
  · split at e
    · rename_i x9 h9
      obtain ⟨ls9, e1, rfl⟩ := Option.map_eq_some_iff.mp e
      obtain ⟨h1, h2⟩ := lh_st1 hL e1
      have hm : (_, Value.int x9) ∈ lsL X ls := lsL_mem.mpr ⟨.int x9, ld_some h9, rfl⟩
      obtain ⟨j9, hj⟩ := List.getElem?_of_mem hm
      exact lv_iinc hx hb hdg hL.has hj rfl h1 rfl (fun lsB hb9 => kk p ev R s m args below meth c H locs cells slots lsB hB hK hH hS (h2 lsB hb9) hR)
    · cases e
  · split at e
    · cases e
      exact lv_iadd hx hb hdg (kk p ev R s m args below meth c H locs cells slots lsA hB hK hH hS hL hR)
    · cases e
  · split at e
    · cases e
      exact lv_isub hx hb hdg (kk p ev R s m args below meth c H locs cells slots lsA hB hK hH hS hL hR)
    · cases e
  · split at e
    · cases e
      exact lv_imul hx hb hdg (kk p ev R s m args below meth c H locs cells slots lsA hB hK hH hS hL hR)
    · cases e
  · split at e
    · cases e
      exact lv_iand hx hb hdg (kk p ev R s m args below meth c H locs cells slots lsA hB hK hH hS hL hR)
    · cases e
  · split at e
    · cases e
      exact lv_ixor hx hb hdg (kk p ev R s m args below meth c H locs cells slots lsA hB hK hH hS hL hR)
    · cases e
  · split at e
    · cases e
      exact lv_ineg hx hb hdg (kk p ev R s m args below meth c H locs cells slots lsA hB hK hH hS hL hR)
    · cases e
  · split at e
    · cases e
      exact lv_ishl hx hb hdg (kk p ev R s m args below meth c H locs cells slots lsA hB hK hH hS hL hR)
    · cases e
  · split at e
    · cases e
      exact lv_ishr hx hb hdg (kk p ev R s m args below meth c H locs cells slots lsA hB hK hH hS hL hR)
    · cases e
  · split at e
    · cases e
      exact lv_i2l hx hb hdg rfl (kk p ev R s m args below meth c H locs cells slots lsA hB hK hH hS hL hR)
    · cases e
  · split at e
    · cases e
      exact lv_i2c hx hb hdg rfl (kk p ev R s m args below meth c H locs cells slots lsA hB hK hH hS hL hR)
    · cases e
  · split at e
    · cases e
      exact lv_i2b hx hb hdg rfl (kk p ev R s m args below meth c H locs cells slots lsA hB hK hH hS hL hR)
    · cases e
  · split at e
    · cases e
      exact lv_ladd hx hb hdg (kk p ev R s m args below meth c H locs cells slots lsA hB hK hH hS hL hR)
    · cases e
  · split at e
    · cases e
      exact W.lcmp hx hb hdg (kk p ev R s m args below meth c H locs cells slots lsA hB hK hH hS hL hR)
    · cases e
  · split at e
    · cases e
      exact lv_i2d hx hb hdg (kk p ev R s m args below meth c H locs cells slots lsA hB hK hH hS hL hR)
    · cases e
  · split at e
    · cases e
      exact lv_l2d hx hb hdg (kk p ev R s m args below meth c H locs cells slots lsA hB hK hH hS hL hR)
    · cases e
  · split at e
    · cases e
      exact lv_i2f hx hb hdg (kk p ev R s m args below meth c H locs cells slots lsA hB hK hH hS hL hR)
    · cases e
  · split at e
    · cases e
      exact lv_dcmp hx hb hdg (kk p ev R s m args below meth c H locs cells slots lsA hB hK hH hS hL hR)
    · cases e
  · split at e
    · cases e
      exact lv_fcmp hx hb hdg (kk p ev R s m args below meth c H locs cells slots lsA hB hK hH hS hL hR)
    · cases e
  · split at e
    · cases e
      exact lv_dup hx hb hdg rfl (kk p ev R s m args below meth c H locs cells slots lsA hB hK hH hS hL hR)
    · cases e
      exact lv_dup hx hb hdg rfl (kk p ev R s m args below meth c H locs cells slots lsA hB hK hH hS hL hR)
    · cases e
  · split at e
    · cases e
      exact lv_pop hx hb hdg rfl (kk p ev R s m args below meth c H locs cells slots lsA hB hK hH hS hL hR)
    · cases e
      exact lv_pop hx hb hdg rfl (kk p ev R s m args below meth c H locs cells slots lsA hB hK hH hS hL hR)
    · cases e
  · split at e
    · cases e
      exact lv_dup2_11 hx hb hdg rfl rfl (kk p ev R s m args below meth c H locs cells slots lsA hB hK hH hS hL hR)
    · cases e
  · split at e
    · rename_i h9
      cases e
      exact lv_goto hx hb hdg h9 (kk p ev R s m args below meth c H locs cells slots lsA hB hK hH hS hL hR)
    · cases e
  · split at e
    · split at e
      · rename_i es
        split at e
        · rename_i hn
          cases e
          exact r_alen hx hb hK hH es hn hdg (kk p ev R s m args below meth c H locs cells slots lsA hB hK hH hS hL hR)
        · cases e
      · cases e
    · cases e
  · split at e
    · split at e
      · rename_i es
        split at e
        · rename_i hn
          cases e
          exact r_ald hx hb hK hH es (inB_vp hn) hdg (kk p ev R s m args below meth c H locs cells slots lsA hB hK hH hS hL hR)
        · cases e
      · cases e
    · cases e
  · split at e
    · split at e
      · rename_i es
        split at e
        · rename_i hc
          subst hc
          split at e
          · rename_i ef
            cases e
            exact r_get hx hb hK hown hH hl es ef hdg (kk p ev R s m args below meth c H locs cells slots lsA hB hK hH hS hL hR)
          · cases e
        · cases e
      · cases e
    · cases e
  · split at e
    · rename_i x9 a9 st9
      split at e
      · rename_i c9 fs9 es
        split at e
        · rename_i hc
          subst hc
          split at e
          · rename_i ef
            cases e
            obtain ⟨C, T, N, ty, hc, hk, hlk, hfin, hty⟩ := hl
            have hlen := (List.getElem?_eq_some_iff.mp ef).1
            refine r_put (h' := setI h a9 k x9) hX hx hb hK hown hH hS hc hk hlk (Or.inl hfin) (by rw [hty]; rfl) (by rw [hty]; rfl) hlen es es (mapIdx_set (set_self ef) hlen ?_ ?_) rfl (fun _ _ => rfl) (fun j hj => up2_ne hj) (fun _ _ => rfl) (fun _ _ => rfl) hdg (fun H1 locs1 hH1 hS1 => kk p ev R s m args below meth c H1 locs1 cells slots lsA hB hK hH1 hS1 hL hR)
            · show Value.int (up2 (zI h) a9 k x9 a9 k) = Value.int x9
              unfold up2
              simp
            · intro j f hj
              unfold fE
              rcases f with v | b
              · rfl
              · cases b
                · have hj : j ≠ k := hj
                  show Value.int (up2 (zI h) a9 k x9 a9 j) = Value.int (zI h a9 j)
                  unfold up2
                  simp [hj]
                · rfl
          · cases e
        · cases e
      · cases e
    · cases e
  · cases e
end ST
