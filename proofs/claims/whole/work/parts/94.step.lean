/-! a turn keeps the relation; the new objects have it; the law -/
theorem hstep : ∀ (v4 k0 k1 : Int32) (u : SX) (v : SM) (f : Nat → Int64), KK u v f → pL_body v4 k0 k1 u v f KK := by
  rintro v4 k0 k1 u v f ⟨q, qs, L, n, m, c, h⟩
  unfold pL_body
  intro x1 e1
  by_cases c0 : x1 = 0
  · exact ifp c0 (t_give (k1 := k1) h)
  refine ifn c0 ?_
  by_cases c1 : x1 = 1
  · exact ifp c1 (t_place (k1 := k1) h)
  refine ifn c1 ?_
  by_cases c2 : x1 = 2
  · exact ifp c2 (t_restart (k1 := k1) h)
  refine ifn c2 ?_
  by_cases c3 : x1 = 3
  · exact ifp c3 (t_type (k1 := k1) h)
  refine ifn c3 ?_
  by_cases c4 : x1 = 4
  · exact ifp c4 (t_clear (k1 := k1) h)
  refine ifn c4 ?_
  by_cases c5 : x1 = 5
  · exact ifp c5 (t_error (k1 := k1) h)
  refine ifn c5 ?_
  by_cases c6 : x1 = 6
  · exact ifp c6 (t_impossible (k1 := k1) h)
  refine ifn c6 ?_
  by_cases c7 : x1 = 7
  · exact ifp c7 (t_carry (k1 := k1) h)
  refine ifn c7 ?_
  by_cases c8 : x1 = 8
  · exact ifp c8 (t_undo (k1 := k1) h)
  refine ifn c8 ?_
  by_cases c9 : x1 = 9
  · exact ifp c9 (t_take (k1 := k1) h)
  refine ifn c9 ?_
  by_cases c10 : x1 = 10
  · exact ifp c10 (t_restore (k1 := k1) h)
  refine ifn c10 ?_
  by_cases c11 : x1 = 11
  · exact ifp c11 (t_mover (k1 := k1) h)
  refine ifn c11 ?_
  by_cases c12 : x1 = 12
  · exact ifp c12 (t_gift (k1 := k1) h)
  refine ifn c12 ?_
  by_cases c13 : x1 = 13
  · exact ifp c13 (t_pieceOn (k1 := k1) h)
  refine ifn c13 ?_
  by_cases c14 : x1 = 14
  · exact ifp c14 (t_cellOf (k1 := k1) h)
  refine ifn c14 ?_
  by_cases c15 : x1 = 15
  · exact ifp c15 (t_placed (k1 := k1) h)
  refine ifn c15 ?_
  by_cases c16 : x1 = 16
  · exact ifp c16 (t_winner (k1 := k1) h)
  refine ifn c16 ?_
  by_cases c17 : x1 = 17
  · exact ifp c17 (t_isOver (k1 := k1) h)
  refine ifn c17 ?_
  by_cases c18 : x1 = 18
  · exact ifp c18 (t_lines (k1 := k1) h)
  refine ifn c18 ?_
  by_cases c19 : x1 = 19
  · exact ifp c19 (t_piecesOn (k1 := k1) h)
  refine ifn c19 ?_
  by_cases c20 : x1 = 20
  · exact ifp c20 (t_sharedOn (k1 := k1) h)
  refine ifn c20 ?_
  by_cases c21 : x1 = 21
  · exact ifp c21 (t_wonLines (k1 := k1) h)
  refine ifn c21 ?_
  by_cases c22 : x1 = 22
  · exact ifp c22 (t_winsOf (k1 := k1) h)
  refine ifn c22 ?_
  by_cases c23 : x1 = 23
  · exact ifp c23 (t_winningCell (k1 := k1) h)
  refine ifn c23 ?_
  by_cases c24 : x1 = 24
  · exact ifp c24 (t_safeT (k1 := k1) h)
  refine ifn c24 ?_
  by_cases c25 : x1 = 25
  · exact ifp c25 (t_safeL (k1 := k1) h)
  refine ifn c25 ?_
  by_cases c26 : x1 = 26
  · exact ifp c26 (t_outcome (k1 := k1) h)
  refine ifn c26 ?_
  by_cases c27 : x1 = 27
  · exact ifp c27 (t_bestMove (k1 := k1) h)
  refine ifn c27 ?_
  by_cases c28 : x1 = 28
  · exact ifp c28 (t_rule (k1 := k1) h)
  refine ifn c28 ?_
  by_cases c29 : x1 = 29
  · exact ifp c29 (t_recorded (k1 := k1) h)
  refine ifn c29 ?_
  exact fun x190 _ => ⟨q, qs, L, n, m, c, h⟩
def q_0 : PG := (fun _ => 0, 0, 0, 0, 0, 0)
theorem RG_0 : RG iG q_0 := ⟨pm_0.symm, pm_0.symm, rfl, rfl, RB_0 0 rfl rfl rfl (fun _ _ => rfl)⟩
theorem RA_0 : RA (fun _ => 0) q_0 := ⟨fun _ _ => rfl, rfl, rfl, rfl, rfl, rfl⟩
theorem OG_0 : OG q_0 := OG_ng (Nat.zero_le 1) q_0
theorem hinit : KK iX iM (fun _ => 0) := ⟨q_0, q_0, fun _ => q_0, 0, 0, fun _ => 0, ⟨RG_0, RA_0, OG_0⟩, ⟨⟨0, by omega, rfl, rfl, by omega, fun j hj => absurd hj (by omega)⟩, ⟨by omega, fun j hj => absurd hj (by omega)⟩, rfl, fun j hj => absurd hj (by omega)⟩, ⟨rfl, fun z => absurd rfl z⟩, ⟨rfl, by omega, fun i hi => absurd hi (by omega)⟩, ⟨rfl, by omega, fun i hi => absurd hi (by omega)⟩⟩
/-- the law from its entry -/
theorem whole_start {p : Program} {e : Env} {s : State} {m : MethodId} {below : List Frame} {meth : Method} {c : Code} (l : Launch) (hflags : l.flags = flags0) {b L : Nat} {xs : Nat → Int32} (hL : L ≤ 1024) (C0 : lw_At p s m meth c b L xs) : W p l e room_1 s m #[Value.ref b] below meth c s.heap [] 0 0 (lw_Z below #[Value.ref b] s) (entryFrame m ([Value.ref b] : List Value).toArray 7) := whole_open l hflags hL C0 KK hstep hinit
