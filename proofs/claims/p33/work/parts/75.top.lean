/-! a turn keeps the relation; the end answers true; the new objects have it; the law -/
theorem hstep : ∀ (v4 : Int32) (u ub : SX), KK u ub → pL_body v4 u ub KK := by
  intro v4 u ub h
  unfold pL_body
  intro r2 r3
  refine t_isStep (fun u1 w1 h1 => ifn (by decide) ?_) h r2 (r3 >>> (2 &&& 31))
  by_cases c : (0 : Int32) < (v4 - v4 / 4 * 4)
  · exact ifp c fun _ _ => h1
  · refine ifn c ?_
    obtain ⟨hs, q, qs, L, n, hu, hw, ho, hL, hS⟩ := h1
    exact t_isWell ho (fun s hs' => ifn (by decide) fun _ _ => ⟨hs, q, qs, L, n, hs', hw, ho, hL, hS⟩) hu
theorem hend : ∀ (u ub : SX), KK u ub → pL_end u ub := by
  intro u ub h
  unfold pL_end
  obtain ⟨hs, q, qs, L, n, hu, hw, ho, hL, hS⟩ := h
  exact t_isWell ho (fun s hs' => ifn (by decide) (t_areAlike (fun _ => ifn (by decide) trivial) ⟨hs, q, qs, L, n, hs', hw, ho, hL, hS⟩)) hu
def q_0 : PG := (fun _ => 0, 0, 0, 0, 0, 0)
theorem RG_0 : RG iG q_0 := ⟨pm_0.symm, pm_0.symm, rfl, rfl, RB_0 0 rfl rfl rfl (fun _ _ => rfl)⟩
theorem OG_0 : OG q_0 := OG_ng (Nat.zero_le 1) q_0
theorem mg_0 : mg q_0 = q_0 := rfl
theorem RX_0 : RX iX 0 q_0 q_0 (fun _ => q_0) 0 := ⟨rfl, RG_0, fun z => absurd rfl z, ⟨0, by omega, rfl, rfl, by omega, fun j hj => absurd hj (by omega)⟩, fun _ => 0, 0, rfl, by omega, fun i hi => absurd hi (by omega)⟩
theorem hinit : KK iX iX := ⟨0, q_0, q_0, fun _ => q_0, 0, RX_0, by rw [mg_0]; exact RX_0, ⟨OG_0, fun z => absurd rfl z⟩, fun j hj => absurd hj (by omega), fun z => absurd rfl z⟩
/-- the law from its entry -/
theorem whole_start {p : Program} {e : Env} {s : State} {m : MethodId} {below : List Frame} {meth : Method} {c : Code} (l : Launch) (hflags : l.flags = flags0) {b L : Nat} {xs : Nat → Int32} (hL : L ≤ 260) (C0 : lw_At p s m meth c b L xs) : W p l e room_1 s m #[Value.ref b] below meth c s.heap [] 0 0 (lw_Z below #[Value.ref b] s) (entryFrame m ([Value.ref b] : List Value).toArray 5) := whole_open l hflags hL C0 KK hstep hend hinit
