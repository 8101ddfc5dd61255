/-! floats, class and model: the walks of the model -/
section YFA
variable {X : JX} {d N v : Nat} {T : Nat → Option JS} {I : Nat → Nat → Int32} {L : Nat → Nat → Int64} {Dd : Nat → Nat → UInt64} {c e i0 t : Int32} {m z x q c0 s k : Nat}
theorem m_mean2 (hX : JXok X) (hd : 0 ≤ d) (hne : ¬ I 397 3 = 0 → vf_n64 (FP.ddiv (FP.i2d (I 397 5)) (FP.i2d (I 397 3)))) : MT X d 0 0 jdX7_meanMoveTime [.ref 396] (N, SH v T, I, L, Dd) (fun R => R = .inl (some (.double (meanM I).1), (N, SH v T, (meanM I).2, L, Dd))) := by
  refine MT.mk dvX7_meanMoveTime.1 ?_
  refine Ev.sg hX (sX7_meanMoveTime_0.sub 0 2) (pc' := 2) (ls' := [some (.ref 396)]) (st' := [.ref 396, .ref 396]) (h' := (N, SH v T, I, L, Dd)) rfl ?_
  refine Ev.getf (sX7_meanMoveTime_0.lk 2 (q := (2, .getfield 7, 7, 0)) rfl) rfl rfl (sX7_meanMoveTime_0.dc 2 (q := (2, .getfield 7, 7, 0)) rfl) ?_
  show Ev _ _ _ _ _ _ 5 [some (.ref 396)] [.ref 397, .ref 396] (N, SH v T, I, L, Dd)
  refine Ev.sg hX (sX7_meanMoveTime_0.sub 3 1) (pc' := 6) (ls' := [some (.ref 396)]) (st' := [.int 3, .ref 397, .ref 396]) (h' := (N, SH v T, I, L, Dd)) rfl ?_
  refine Ev.ialdE (n := 3) (N := 179) rfl rfl (by omega) (by decide) (sX7_meanMoveTime_0.dc 4 (q := (6, .iaload, 0, 0)) rfl) ?_
  show Ev _ _ _ _ _ _ 7 [some (.ref 396)] [.int (I 397 3), .ref 396] (N, SH v T, I, L, Dd)
  refine Ev.if_ne (tgt := 14) dX7_meanMoveTime_7 (by decide) (fun b1 => ?_) (fun b1 => ?_)
  · refine Ev.sg hX (sX7_meanMoveTime_14.sub 0 1) (pc' := 15) (ls' := [some (.ref 396)]) (st' := [.int 0, .ref 396]) (h' := (N, SH v T, I, L, Dd)) rfl ?_
    refine Ev.putf hX (sX7_meanMoveTime_15.lk 0 (q := (15, .putfield 42, 7, 12)) rfl) rfl rfl (sX7_meanMoveTime_15.dc 0 (q := (15, .putfield 42, 7, 12)) rfl) ?_
    show Ev _ _ _ _ _ _ 18 [some (.ref 396)] [] (N, SH v T, up2 I 396 12 0, L, Dd)
    refine Ev.sg hX (sX7_meanMoveTime_15.sub 1 1) (pc' := 19) (ls' := [some (.ref 396)]) (st' := [.ref 396]) (h' := (N, SH v T, up2 I 396 12 0, L, Dd)) rfl ?_
    refine Ev.getf (sX7_meanMoveTime_15.lk 2 (q := (19, .getfield 42, 7, 12)) rfl) rfl rfl (sX7_meanMoveTime_15.dc 2 (q := (19, .getfield 42, 7, 12)) rfl) ?_
    show Ev _ _ _ _ _ _ 22 [some (.ref 396)] [.int ((up2 I 396 12 0) 396 12)] (N, SH v T, up2 I 396 12 0, L, Dd)
    refine Ev.eqst (st' := [.int 0]) (by rw [show (up2 I 396 12 0) 396 12 = 0 from (up2_hit)]) ?_
    refine Ev.if_ne (tgt := 43) dX7_meanMoveTime_22 (by decide) (fun b2 => ?_) (fun b2 => ?_)
    · exact absurd rfl b2
    · refine Ev.sg hX (sX7_meanMoveTime_25.sub 0 1) (pc' := 26) (ls' := [some (.ref 396)]) (st' := [.ref 396]) (h' := (N, SH v T, up2 I 396 12 0, L, Dd)) rfl ?_
      refine Ev.getf (sX7_meanMoveTime_25.lk 1 (q := (26, .getfield 7, 7, 0)) rfl) rfl rfl (sX7_meanMoveTime_25.dc 1 (q := (26, .getfield 7, 7, 0)) rfl) ?_
      show Ev _ _ _ _ _ _ 29 [some (.ref 396)] [.ref 397] (N, SH v T, up2 I 396 12 0, L, Dd)
      refine Ev.sg hX (sX7_meanMoveTime_25.sub 2 1) (pc' := 30) (ls' := [some (.ref 396)]) (st' := [.int 5, .ref 397]) (h' := (N, SH v T, up2 I 396 12 0, L, Dd)) rfl ?_
      refine Ev.ialdE (n := 5) (N := 179) rfl rfl (by omega) (by decide) (sX7_meanMoveTime_25.dc 3 (q := (30, .iaload, 0, 0)) rfl) ?_
      show Ev _ _ _ _ _ _ 31 [some (.ref 396)] [.int ((up2 I 396 12 0) 397 5)] (N, SH v T, up2 I 396 12 0, L, Dd)
      refine Ev.eqst (st' := [.int (I 397 5)]) (by rw [show (up2 I 396 12 0) 397 5 = I 397 5 from ((congrFun (up2_ne (by decide)) 5))]) ?_
      refine Ev.sg hX (sX7_meanMoveTime_25.sub 4 2) (pc' := 33) (ls' := [some (.ref 396)]) (st' := [.ref 396, .double (FP.i2d (I 397 5))]) (h' := (N, SH v T, up2 I 396 12 0, L, Dd)) rfl ?_
      refine Ev.getf (sX7_meanMoveTime_25.lk 6 (q := (33, .getfield 7, 7, 0)) rfl) rfl rfl (sX7_meanMoveTime_25.dc 6 (q := (33, .getfield 7, 7, 0)) rfl) ?_
      show Ev _ _ _ _ _ _ 36 [some (.ref 396)] [.ref 397, .double (FP.i2d (I 397 5))] (N, SH v T, up2 I 396 12 0, L, Dd)
      refine Ev.sg hX (sX7_meanMoveTime_25.sub 7 1) (pc' := 37) (ls' := [some (.ref 396)]) (st' := [.int 3, .ref 397, .double (FP.i2d (I 397 5))]) (h' := (N, SH v T, up2 I 396 12 0, L, Dd)) rfl ?_
      refine Ev.ialdE (n := 3) (N := 179) rfl rfl (by omega) (by decide) (sX7_meanMoveTime_25.dc 8 (q := (37, .iaload, 0, 0)) rfl) ?_
      show Ev _ _ _ _ _ _ 38 [some (.ref 396)] [.int ((up2 I 396 12 0) 397 3), .double (FP.i2d (I 397 5))] (N, SH v T, up2 I 396 12 0, L, Dd)
      refine Ev.eqst (st' := [.int (I 397 3), .double (FP.i2d (I 397 5))]) (by rw [show (up2 I 396 12 0) 397 3 = I 397 3 from ((congrFun (up2_ne (by decide)) 3))]) ?_
      refine Ev.sg hX (sX7_meanMoveTime_25.sub 9 1) (pc' := 39) (ls' := [some (.ref 396)]) (st' := [.double (FP.i2d (I 397 3)), .double (FP.i2d (I 397 5))]) (h' := (N, SH v T, up2 I 396 12 0, L, Dd)) rfl ?_
      refine Ev.ddiv (hne b1) dX7_meanMoveTime_39 ?_
      refine Ev.sg hX (sX7_meanMoveTime_40.sub 0 1) (pc' := 44) (ls' := [some (.ref 396)]) (st' := [.double (FP.ddiv (FP.i2d (I 397 5)) (FP.i2d (I 397 3)))]) (h' := (N, SH v T, up2 I 396 12 0, L, Dd)) rfl ?_
      refine Ev.dret dX7_meanMoveTime_44 rfl ?_
      rw [meanM, if_neg b1]
  · refine Ev.sg hX (sX7_meanMoveTime_10.sub 0 2) (pc' := 15) (ls' := [some (.ref 396)]) (st' := [.int 1, .ref 396]) (h' := (N, SH v T, I, L, Dd)) rfl ?_
    refine Ev.putf hX (sX7_meanMoveTime_15.lk 0 (q := (15, .putfield 42, 7, 12)) rfl) rfl rfl (sX7_meanMoveTime_15.dc 0 (q := (15, .putfield 42, 7, 12)) rfl) ?_
    show Ev _ _ _ _ _ _ 18 [some (.ref 396)] [] (N, SH v T, up2 I 396 12 1, L, Dd)
    refine Ev.sg hX (sX7_meanMoveTime_15.sub 1 1) (pc' := 19) (ls' := [some (.ref 396)]) (st' := [.ref 396]) (h' := (N, SH v T, up2 I 396 12 1, L, Dd)) rfl ?_
    refine Ev.getf (sX7_meanMoveTime_15.lk 2 (q := (19, .getfield 42, 7, 12)) rfl) rfl rfl (sX7_meanMoveTime_15.dc 2 (q := (19, .getfield 42, 7, 12)) rfl) ?_
    show Ev _ _ _ _ _ _ 22 [some (.ref 396)] [.int ((up2 I 396 12 1) 396 12)] (N, SH v T, up2 I 396 12 1, L, Dd)
    refine Ev.eqst (st' := [.int 1]) (by rw [show (up2 I 396 12 1) 396 12 = 1 from (up2_hit)]) ?_
    refine Ev.if_ne (tgt := 43) dX7_meanMoveTime_22 (by decide) (fun b3 => ?_) (fun b3 => ?_)
    · refine Ev.dconst0 dX7_meanMoveTime_43 ?_
      refine Ev.dret dX7_meanMoveTime_44 rfl ?_
      rw [meanM, if_pos b1]
    · exact absurd b3 (show ¬ (1 : Int32) = 0 by decide)
theorem m_share2 (hX : JXok X) (hd : 3 ≤ d) (hm20 : m ≤ 20) (hm : I 397 1 = nI m) (hz8 : z ≤ 8) (hz : I 397 0 = nI z) (hne : ¬ nI z = 0 → vf_n32 (FP.fdiv (FP.i2f (fo (usS I m) z 0 (0, 0)).1) (FP.i2f (fo (usS I m) z 0 (0, 0)).2))) : MT X d 0 0 jdX7_usedShare [.ref 396] (N, SH v T, I, L, Dd) (fun R => R = .inl (some (.float (shareM I m z).1), (N, SH v T, (shareM I m z).2, L, Dd))) := by
  refine MT.mk dvX7_usedShare.1 ?_
  refine Ev.sg hX (sX7_usedShare_0.sub 0 6) (pc' := 6) (ls' := [some (.ref 396), some (.int 0), some (.int 0), some (.int 0)]) (st' := []) (h' := (N, SH v T, I, L, Dd)) rfl ?_
  refine l_us hX hd hm20 hm hz8 hz z 0 (0, 0) (Nat.zero_add z) ?_
  refine Ev.sg hX (sX7_usedShare_44.sub 0 2) (pc' := 46) (ls' := [some (.ref 396), some (.int ((fo (usS I m) z 0 (0, 0)).1)), some (.int ((fo (usS I m) z 0 (0, 0)).2)), some (.int (nI z))]) (st' := [.ref 396, .ref 396]) (h' := (N, SH v T, I, L, Dd)) rfl ?_
  refine Ev.getf (sX7_usedShare_44.lk 2 (q := (46, .getfield 7, 7, 0)) rfl) rfl rfl (sX7_usedShare_44.dc 2 (q := (46, .getfield 7, 7, 0)) rfl) ?_
  show Ev _ _ _ _ _ _ 49 [some (.ref 396), some (.int ((fo (usS I m) z 0 (0, 0)).1)), some (.int ((fo (usS I m) z 0 (0, 0)).2)), some (.int (nI z))] [.ref 397, .ref 396] (N, SH v T, I, L, Dd)
  refine Ev.sg hX (sX7_usedShare_44.sub 3 1) (pc' := 50) (ls' := [some (.ref 396), some (.int ((fo (usS I m) z 0 (0, 0)).1)), some (.int ((fo (usS I m) z 0 (0, 0)).2)), some (.int (nI z))]) (st' := [.int 0, .ref 397, .ref 396]) (h' := (N, SH v T, I, L, Dd)) rfl ?_
  refine Ev.ialdE (n := 0) (N := 179) rfl rfl (by omega) (by decide) (sX7_usedShare_44.dc 4 (q := (50, .iaload, 0, 0)) rfl) ?_
  show Ev _ _ _ _ _ _ 51 [some (.ref 396), some (.int ((fo (usS I m) z 0 (0, 0)).1)), some (.int ((fo (usS I m) z 0 (0, 0)).2)), some (.int (nI z))] [.int (I 397 0), .ref 396] (N, SH v T, I, L, Dd)
  refine Ev.eqst (st' := [.int (nI z), .ref 396]) (by rw [show I 397 0 = nI z from (hz)]) ?_
  refine Ev.if_ne (tgt := 58) dX7_usedShare_51 (by decide) (fun b1 => ?_) (fun b1 => ?_)
  · refine Ev.sg hX (sX7_usedShare_58.sub 0 1) (pc' := 59) (ls' := [some (.ref 396), some (.int ((fo (usS I m) z 0 (0, 0)).1)), some (.int ((fo (usS I m) z 0 (0, 0)).2)), some (.int (nI z))]) (st' := [.int 0, .ref 396]) (h' := (N, SH v T, I, L, Dd)) rfl ?_
    refine Ev.putf hX (sX7_usedShare_59.lk 0 (q := (59, .putfield 42, 7, 12)) rfl) rfl rfl (sX7_usedShare_59.dc 0 (q := (59, .putfield 42, 7, 12)) rfl) ?_
    show Ev _ _ _ _ _ _ 62 [some (.ref 396), some (.int ((fo (usS I m) z 0 (0, 0)).1)), some (.int ((fo (usS I m) z 0 (0, 0)).2)), some (.int (nI z))] [] (N, SH v T, up2 I 396 12 0, L, Dd)
    refine Ev.sg hX (sX7_usedShare_59.sub 1 1) (pc' := 63) (ls' := [some (.ref 396), some (.int ((fo (usS I m) z 0 (0, 0)).1)), some (.int ((fo (usS I m) z 0 (0, 0)).2)), some (.int (nI z))]) (st' := [.ref 396]) (h' := (N, SH v T, up2 I 396 12 0, L, Dd)) rfl ?_
    refine Ev.getf (sX7_usedShare_59.lk 2 (q := (63, .getfield 42, 7, 12)) rfl) rfl rfl (sX7_usedShare_59.dc 2 (q := (63, .getfield 42, 7, 12)) rfl) ?_
    show Ev _ _ _ _ _ _ 66 [some (.ref 396), some (.int ((fo (usS I m) z 0 (0, 0)).1)), some (.int ((fo (usS I m) z 0 (0, 0)).2)), some (.int (nI z))] [.int ((up2 I 396 12 0) 396 12)] (N, SH v T, up2 I 396 12 0, L, Dd)
    refine Ev.eqst (st' := [.int 0]) (by rw [show (up2 I 396 12 0) 396 12 = 0 from (up2_hit)]) ?_
    refine Ev.if_ne (tgt := 77) dX7_usedShare_66 (by decide) (fun b2 => ?_) (fun b2 => ?_)
    · exact absurd rfl b2
    · refine Ev.sg hX (sX7_usedShare_69.sub 0 4) (pc' := 73) (ls' := [some (.ref 396), some (.int ((fo (usS I m) z 0 (0, 0)).1)), some (.int ((fo (usS I m) z 0 (0, 0)).2)), some (.int (nI z))]) (st' := [.float (FP.i2f ((fo (usS I m) z 0 (0, 0)).2)), .float (FP.i2f ((fo (usS I m) z 0 (0, 0)).1))]) (h' := (N, SH v T, up2 I 396 12 0, L, Dd)) rfl ?_
      refine Ev.fdiv (hne b1) dX7_usedShare_73 ?_
      refine Ev.sg hX (sX7_usedShare_74.sub 0 1) (pc' := 78) (ls' := [some (.ref 396), some (.int ((fo (usS I m) z 0 (0, 0)).1)), some (.int ((fo (usS I m) z 0 (0, 0)).2)), some (.int (nI z))]) (st' := [.float (FP.fdiv (FP.i2f (fo (usS I m) z 0 (0, 0)).1) (FP.i2f (fo (usS I m) z 0 (0, 0)).2))]) (h' := (N, SH v T, up2 I 396 12 0, L, Dd)) rfl ?_
      refine Ev.fret dX7_usedShare_78 rfl ?_
      rw [shareM, if_neg (fun w => b1 (by rw [w]; rfl))]
  · refine Ev.sg hX (sX7_usedShare_54.sub 0 2) (pc' := 59) (ls' := [some (.ref 396), some (.int ((fo (usS I m) z 0 (0, 0)).1)), some (.int ((fo (usS I m) z 0 (0, 0)).2)), some (.int (nI z))]) (st' := [.int 1, .ref 396]) (h' := (N, SH v T, I, L, Dd)) rfl ?_
    refine Ev.putf hX (sX7_usedShare_59.lk 0 (q := (59, .putfield 42, 7, 12)) rfl) rfl rfl (sX7_usedShare_59.dc 0 (q := (59, .putfield 42, 7, 12)) rfl) ?_
    show Ev _ _ _ _ _ _ 62 [some (.ref 396), some (.int ((fo (usS I m) z 0 (0, 0)).1)), some (.int ((fo (usS I m) z 0 (0, 0)).2)), some (.int (nI z))] [] (N, SH v T, up2 I 396 12 1, L, Dd)
    refine Ev.sg hX (sX7_usedShare_59.sub 1 1) (pc' := 63) (ls' := [some (.ref 396), some (.int ((fo (usS I m) z 0 (0, 0)).1)), some (.int ((fo (usS I m) z 0 (0, 0)).2)), some (.int (nI z))]) (st' := [.ref 396]) (h' := (N, SH v T, up2 I 396 12 1, L, Dd)) rfl ?_
    refine Ev.getf (sX7_usedShare_59.lk 2 (q := (63, .getfield 42, 7, 12)) rfl) rfl rfl (sX7_usedShare_59.dc 2 (q := (63, .getfield 42, 7, 12)) rfl) ?_
    show Ev _ _ _ _ _ _ 66 [some (.ref 396), some (.int ((fo (usS I m) z 0 (0, 0)).1)), some (.int ((fo (usS I m) z 0 (0, 0)).2)), some (.int (nI z))] [.int ((up2 I 396 12 1) 396 12)] (N, SH v T, up2 I 396 12 1, L, Dd)
    refine Ev.eqst (st' := [.int 1]) (by rw [show (up2 I 396 12 1) 396 12 = 1 from (up2_hit)]) ?_
    refine Ev.if_ne (tgt := 77) dX7_usedShare_66 (by decide) (fun b3 => ?_) (fun b3 => ?_)
    · refine Ev.fconst0 dX7_usedShare_77 ?_
      refine Ev.fret dX7_usedShare_78 rfl ?_
      rw [shareM, if_pos ((nI_eq (a := z) (b := 0) (by omega) (by decide)).mp b1)]
    · exact absurd b3 (show ¬ (1 : Int32) = 0 by decide)
end YFA
