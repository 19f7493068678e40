/-! what is told of the game -/
section Top3
variable {u : SX} {v : SM} {q qs : PG} {L : Nat → PG} {n m : Nat} {c : Nat → Nat} {v4 k1 : Int32} {f : Nat → Int64}
theorem t_mover (h : Rs u v q qs L n m c) : pL_c11 v4 k1 u v f KK := by
  have ho := h.1.2.2
  unfold pL_c11 pX5_playerToMove pX6_playerToMove
  refine p_mover h.1.1 ho (m_isOver h.1.2.1 ho ?_)
  have hr : Rel u v := ⟨q, qs, L, n, m, c, h⟩
  unfold mvI
  cases e : ov q
  · exact ifp rfl (m_mover h.1.2.1 ho (m_told (cl2 rfl ⟨q, qs, L, n, m, c, h⟩)))
  · exact ifn (by decide) (m_told (cl2 rfl ⟨q, qs, L, n, m, c, h⟩))
theorem t_gift (h : Rs u v q qs L n m c) : pL_c12 v4 k1 u v f KK := by
  unfold pL_c12 pX5_gift pX6_gift
  refine p_pending (m_told (cl2 ?_ ⟨q, qs, L, n, m, c, h⟩))
  rw [h.1.1.1, h.1.2.1.2.1]
  rfl
theorem t_pieceOn (h : Rs u v q qs L n m c) : pL_c13 v4 k1 u v f KK := by
  have ho := h.1.2.2
  unfold pL_c13 pL_pieceOn pX5_pieceOn pX6_pieceOn
  rcases out16 k1 (n := 16) (by omega) with hx | ⟨p, hp4, rfl⟩
  · exact p_cellO hx (ifp rfl (m_placeO hx (ifp rfl (m_fails (m_thr (cl rfl (fun z => absurd z (by decide)) ⟨q, qs, L, n, m, c, h⟩))))))
  · refine p_cellY hp4 (p_pieceAt h.1.1.2.2.2.2 ho.1 hp4 (m_placeY hp4 (ifn (by decide) ?_)))
    rw [z0, nI_clamp (by omega)]
    refine ⟨vp_in_nI (by omega) (by omega), m_told (m_thr (cl rfl (fun _ => ?_) ⟨q, qs, L, n, m, c, h⟩))⟩
    show vp_updL f 0 (pm (q.1 p)).toInt64 0 = (v.1 p - 1).toInt64
    rw [pk_uLs, h.1.2.1.1 p hp4]
    rfl
theorem t_cellOf (h : Rs u v q qs L n m c) : pL_c14 v4 k1 u v f KK := by
  have ho := h.1.2.2
  unfold pL_c14 pL_cellOf pX5_cellOf pX6_cellOf
  rcases out16 k1 (n := 16) (by omega) with hx | ⟨p, hp4, rfl⟩
  · exact p_pieceO hx (ifp rfl (m_placeO hx (ifp rfl (m_fails (m_thr (cl rfl (fun z => absurd z (by decide)) ⟨q, qs, L, n, m, c, h⟩))))))
  · exact p_pieceY hp4 (p_cellWith h.1.1.2.2.2.2 ho.1 hp4 (m_placeY hp4 (ifn (by decide) (m_cell h.1.2.1 ho.1 hp4 (m_told (m_thr (cl rfl (fun _ => uL0 f _) ⟨q, qs, L, n, m, c, h⟩)))))))
theorem t_placed (h : Rs u v q qs L n m c) : pL_c15 v4 k1 u v f KK := by
  unfold pL_c15 pX5_placed pX6_placed
  exact p_count h.1.1.2.2.2.2 (m_count h.1.2.1 h.1.2.2.1 (m_told (cl2 rfl ⟨q, qs, L, n, m, c, h⟩)))
theorem p_victor {s : SG} {Z : Int32 → Prop} (h : Z s.2.1) : pX2_victor s Z := h
theorem t_winner (h : Rs u v q qs L n m c) : pL_c16 v4 k1 u v f KK := by
  unfold pL_c16 pX5_winner pX6_winner
  refine p_victor (m_told (cl2 ?_ ⟨q, qs, L, n, m, c, h⟩))
  rw [h.1.1.2.1, h.1.2.1.2.2.2.2.2]
  rfl
theorem t_isOver (h : Rs u v q qs L n m c) : pL_c17 v4 k1 u v f KK := by
  have ho := h.1.2.2
  unfold pL_c17 pX5_isOver pX6_isOver
  exact p_hasEnded h.1.1 ho ⟨bI_n _, m_isOver (q := q) h.1.2.1 ho ⟨bI_n _, cl2 rfl ⟨q, qs, L, n, m, c, h⟩⟩⟩
theorem t_lines (h : Rs u v q qs L n m c) : pL_c18 v4 k1 u v f KK := by
  have ho := h.1.2.2
  unfold pL_c18 pX5_lines pX6_lines
  exact p_lineCount h.1.1.2.2.2.2 ho.2.2.1 (m_linesNow h.1.2.1 ho.2.2.1 (m_told (cl2 rfl ⟨q, qs, L, n, m, c, h⟩)))
theorem lnp (r : Nat) : 10 ≤ ln r := by unfold ln; split <;> omega
/-- a line: for both -/
theorem p_lineO (h : Rs u v q qs L n m c) {x : Int32} (hx : Out x (ln q.2.2.1)) {Z : SX → Prop} {X : String → SX → Prop} (hz : X "java/lang/IndexOutOfBoundsException" u) : pX5_requireLine x u Z X := by
  unfold pX5_requireLine
  rcases hx with h1 | ⟨h1, h2, -⟩
  · exact ifp h1 hz
  · exact ifn h1 (p_lineCount h.1.1.2.2.2.2 h.1.2.2.2.2.1 (ifn h2 hz))
theorem p_lineY (h : Rs u v q qs L n m c) {p : Nat} (hp4 : p < ln q.2.2.1) {Z : SX → Prop} {X : String → SX → Prop} (hz : Z u) : pX5_requireLine (nI p) u Z X := by
  have hl := ln_le q.2.2.1
  unfold pX5_requireLine
  exact ifn (nI_pos (by omega)) (p_lineCount h.1.1.2.2.2.2 h.1.2.2.2.2.1 (ifp ((nI_ltI (by omega) (by omega)).mpr hp4) hz))
theorem ln64 (r : Nat) : (nI (ln r)).toInt64 - 1 = lN (ln r - 1) := by
  have hl := ln_le r
  have h2 := lnp r
  rw [nI_l (by omega)]
  exact lN_sub (b := 1) (by omega)
theorem t_piecesOn (h : Rs u v q qs L n m c) : pL_c19 v4 k1 u v f KK := by
  have ho := h.1.2.2
  have hl := ln_le q.2.2.1
  have hl2 := lnp q.2.2.1
  unfold pL_c19 pL_piecesOn pX5_piecesOn pX6_piecesOn
  rcases out16 k1 (n := ln q.2.2.1) (by omega) with hx | ⟨p, hp4, rfl⟩
  · refine p_lineO h hx (ifp rfl (m_linesNow h.1.2.1 ho.2.2.1 ?_))
    rw [ln64]
    rw [show ln q.2.2.1 = ln q.2.2.1 - 1 + 1 by omega] at hx
    exact m_inO (by omega) hx (ifp rfl (m_fails (m_thr (cl rfl (fun z => absurd z (by decide)) ⟨q, qs, L, n, m, c, h⟩))))
  · refine p_lineY h hp4 (p_countOn h.1.1.2.2.2.2 (by omega) (m_linesNow h.1.2.1 ho.2.2.1 ?_))
    rw [ln64]
    exact m_inY (by omega) (by omega) (ifn (by decide) (m_many h.1.2.1 ho.1 (by omega) (m_told (m_thr (cl rfl (fun _ => uL0 f _) ⟨q, qs, L, n, m, c, h⟩)))))
theorem t_sharedOn (h : Rs u v q qs L n m c) : pL_c20 v4 k1 u v f KK := by
  have ho := h.1.2.2
  have hl := ln_le q.2.2.1
  have hl2 := lnp q.2.2.1
  unfold pL_c20 pL_sharedOn pX5_sharedOn pX6_sharedOn
  rcases out16 k1 (n := ln q.2.2.1) (by omega) with hx | ⟨p, hp4, rfl⟩
  · refine p_lineO h hx (ifp rfl (m_linesNow h.1.2.1 ho.2.2.1 ?_))
    rw [ln64]
    rw [show ln q.2.2.1 = ln q.2.2.1 - 1 + 1 by omega] at hx
    exact m_inO (by omega) hx (ifp rfl (m_fails (m_thr (cl rfl (fun z => absurd z (by decide)) ⟨q, qs, L, n, m, c, h⟩))))
  · refine p_lineY h hp4 (p_sharedTraits h.1.1.2.2.2.2 (by omega) (m_linesNow h.1.2.1 ho.2.2.1 ?_))
    rw [ln64]
    exact m_inY (by omega) (by omega) (ifn (by decide) (m_shared h.1.2.1 ho.1 (by omega) (m_told (m_thr (cl rfl (fun _ => uL0 f _) ⟨q, qs, L, n, m, c, h⟩)))))
theorem t_wonLines (h : Rs u v q qs L n m c) : pL_c21 v4 k1 u v f KK := by
  have ho := h.1.2.2
  unfold pL_c21 pX5_wonLines pX6_wonLines
  exact p_wonCount h.1.1.2.2.2.2 ho.2.2.1 (m_won h.1.2.1 ho.1 ho.2.2.1 (m_told (cl2 rfl ⟨q, qs, L, n, m, c, h⟩)))
theorem t_winsOf (h : Rs u v q qs L n m c) : pL_c22 v4 k1 u v f KK := by
  unfold pL_c22 pL_winsOf pX5_winsOf pX6_winsOf
  rcases out16 k1 (n := 2) (by omega) with hx | ⟨p, hp4, rfl⟩
  · have hx2 := hx
    rcases hx2 with h1 | ⟨h1, h2, -⟩
    · exact ifp h1 (ifp rfl (m_inO (n := 1) (by omega) hx (ifp rfl (m_fails (m_thr (cl rfl (fun z => absurd z (by decide)) ⟨q, qs, L, n, m, c, h⟩))))))
    · exact ifn h1 (ifn h2 (ifp rfl (m_inO (n := 1) (by omega) hx (ifp rfl (m_fails (m_thr (cl rfl (fun z => absurd z (by decide)) ⟨q, qs, L, n, m, c, h⟩)))))))
  · refine ifn (nI_pos (by omega)) (ifp ((nI_ltI (b := 2) (by omega) (by omega)).mpr hp4) ?_)
    unfold pX2_victoriesOf
    refine ifn (nI_pos (by omega)) (ifn (mt (ile 2 (k := 2) rfl (by omega) (by omega)).mp (by omega)) ⟨vp_in_nI (by omega) (by omega), ?_⟩)
    refine m_inY (n := 1) (by omega) (by omega) (ifn (by decide) ?_)
    rw [show (18 : Int32) + nI p = nI (18 + p) from nI_add 18 p]
    refine ⟨vp_in_nI (by omega) (by omega), m_told (m_thr (cl rfl (fun _ => ?_) ⟨q, qs, L, n, m, c, h⟩))⟩
    show vp_updL f 0 (u.2.1.2.2.1 (nI p).toNatClampNeg).toInt64 0 = (v.1 (nI (18 + p)).toNatClampNeg).toInt64
    rw [pk_uLs, nI_clamp (by omega), nI_clamp (by omega)]
    rcases (show p = 0 ∨ p = 1 by omega) with rfl | rfl
    · rw [h.1.1.2.2.1, h.1.2.1.2.2.2.1]
    · rw [h.1.1.2.2.2.1, h.1.2.1.2.2.2.2.1]
theorem t_winningCell (h : Rs u v q qs L n m c) : pL_c23 v4 k1 u v f KK := by
  have ho := h.1.2.2
  unfold pL_c23 pL_winningCell pX5_winningCell pX6_winningCell
  rcases out16 k1 (n := 16) (by omega) with hx | ⟨p, hp4, rfl⟩
  · exact p_pieceO hx (ifp rfl (m_placeO hx (ifp rfl (m_fails (m_thr (cl rfl (fun z => absurd z (by decide)) ⟨q, qs, L, n, m, c, h⟩))))))
  · refine p_pieceY hp4 (p_hasEnded h.1.1 ho ?_)
    cases e : ov q
    · refine ifp rfl (p_holds h.1.1.2.2.2.2 hp4 ?_)
      cases e2 : hp q.1 p
      · refine ifp rfl (p_copyG h.1.1 fun w7 h7 => p_firstWinningCell h7.2.2.2.2 ho.2.2.1 ho.1 hp4 e2 fun w9 h9 => m_placeY hp4 (ifn (by decide) (m_winning h.1.2.1 ho hp4 (m_told (m_thr (cl rfl (fun _ => ?_) ⟨q, qs, L, n, m, c, h⟩))))))
        refine (uL0 f _).trans ?_
        unfold wcI
        rw [e, e2]
        rfl
      · refine ifn (by decide) (m_placeY hp4 (ifn (by decide) (m_winning h.1.2.1 ho hp4 (m_told (m_thr (cl rfl (fun _ => ?_) ⟨q, qs, L, n, m, c, h⟩))))))
        refine (uL0 f _).trans ?_
        unfold wcI
        rw [e, e2]
        rfl
    · refine ifn (by decide) (m_placeY hp4 (ifn (by decide) (m_winning h.1.2.1 ho hp4 (m_told (m_thr (cl rfl (fun _ => ?_) ⟨q, qs, L, n, m, c, h⟩))))))
      refine (uL0 f _).trans ?_
      unfold wcI
      rw [e]
      rfl
theorem p_lineRule {s : SB} {Z : Int32 → Prop} (h : Z s.1) : pX0_lineRule s Z := h
theorem p_size {s : SH} {Z : Int32 → Prop} (h : Z s.2.1) : pX3_size s Z := h
theorem t_rule (h : Rs u v q qs L n m c) : pL_c28 v4 k1 u v f KK := by
  unfold pL_c28 pX5_rule pX6_rule
  exact p_lineRule (m_told (cl2 (h.1.1.2.2.2.2.1.trans h.1.2.1.2.2.1.symm) ⟨q, qs, L, n, m, c, h⟩))
theorem t_recorded (h : Rs u v q qs L n m c) : pL_c29 v4 k1 u v f KK := by
  unfold pL_c29 pX5_recordedStates pX6_recordedStates
  have hsz : u.2.2.2.2.1.2.1 = nI n := by
    obtain ⟨x, _, _, e2, _⟩ := h.2.1.1
    exact e2
  exact p_size (m_told (cl2 (hsz.trans h.2.1.2.2.1.symm) ⟨q, qs, L, n, m, c, h⟩))
/-! the end -/
theorem nd_of {q : PG} (ho : OG q) (hov : ov q = false) {k : Nat} (hk : 16 - ct q.1 = k + 1) (hk3 : k ≤ 3) : ND q k := by
  have h1 := ov_f.mp hov
  have hc := ct_le q.1
  exact ⟨ho.1, ho.2.2.1, ho.2.1, fun z => (ho.2.2.2.2.1 z).1, by omega, hk3⟩
theorem t_outcome (h : Rs u v q qs L n m c) : pL_c26 v4 k1 u v f KK := by
  have ho := h.1.2.2
  have hc := ct_le q.1
  unfold pL_c26 pL_outcome pX5_outcome pX5_requireSearchable pX6_outcome pX6_canSearch
  refine p_hasEnded h.1.1 ho ?_
  cases e : ov q
  · have h1 := ov_f.mp e
    refine ifp rfl (p_emptyCount h.1.1.2.2.2.2 ?_)
    have sub : (16 : Int32) - nI (ct q.1) = nI (16 - ct q.1) := pk_sub (a := 16) hc
    by_cases e4 : 16 - ct q.1 ≤ 4
    · obtain ⟨k, hk⟩ : ∃ k, 16 - ct q.1 = k + 1 := ⟨16 - ct q.1 - 1, by omega⟩
      refine ifp ((ige 4 (k := 4) rfl (by omega) (by omega)).mpr e4) (p_copyG h.1.1 fun w2 h2 => p_valueOf h2 ho (n := k) (by omega) hk fun w3 h3 => ?_)
      refine m_isOver h.1.2.1 ho ?_
      rw [e]
      refine ifp rfl (m_count h.1.2.1 ho.1 ?_)
      rw [sub]
      refine ifn (mt (igt 4 (k := 4) rfl (by omega) (by omega)).mp (by omega)) (ifn (by decide) (m_searches h.1.2.1 (nd_of ho e hk (by omega)) fun A O B H hA => m_told (m_thr (cl rfl (fun _ => uL0 f _) ?_))))
      exact ⟨q, qs, L, n, m, c, ⟨h.1.1, hA, ho⟩, h.2⟩
    · refine ifn (mt (ige 4 (k := 4) rfl (by omega) (by omega)).mp e4) (ifp rfl (m_isOver h.1.2.1 ho ?_))
      rw [e]
      refine ifp rfl (m_count h.1.2.1 ho.1 ?_)
      rw [sub]
      exact ifp ((igt 4 (k := 4) rfl (by omega) (by omega)).mpr (by omega)) (ifp rfl (m_fails (m_thr (cl rfl (fun z => absurd z (by decide)) ⟨q, qs, L, n, m, c, h⟩))))
  · refine ifn (by decide) (ifp rfl (m_isOver h.1.2.1 ho ?_))
    rw [e]
    exact ifn (by decide) (ifp rfl (m_fails (m_thr (cl rfl (fun z => absurd z (by decide)) ⟨q, qs, L, n, m, c, h⟩))))
theorem t_bestMove (h : Rs u v q qs L n m c) : pL_c27 v4 k1 u v f KK := by
  have ho := h.1.2.2
  have hc := ct_le q.1
  unfold pL_c27 pL_bestMove pX5_bestMove pX5_requireSearchable pX6_bestMove pX6_canSearch
  refine p_hasEnded h.1.1 ho ?_
  cases e : ov q
  · have h1 := ov_f.mp e
    refine ifp rfl (p_emptyCount h.1.1.2.2.2.2 ?_)
    have sub : (16 : Int32) - nI (ct q.1) = nI (16 - ct q.1) := pk_sub (a := 16) hc
    by_cases e4 : 16 - ct q.1 ≤ 4
    · obtain ⟨k, hk⟩ : ∃ k, 16 - ct q.1 = k + 1 := ⟨16 - ct q.1 - 1, by omega⟩
      refine ifp ((ige 4 (k := 4) rfl (by omega) (by omega)).mpr e4) (p_copyG h.1.1 fun w2 h2 => p_leastBestMove h2 ho e (n := k) (by omega) hk fun w3 h3 => ?_)
      refine m_isOver h.1.2.1 ho ?_
      rw [e]
      refine ifp rfl (m_count h.1.2.1 ho.1 ?_)
      rw [sub]
      refine ifn (mt (igt 4 (k := 4) rfl (by omega) (by omega)).mp (by omega)) (ifn (by decide) (m_searches h.1.2.1 (nd_of ho e hk (by omega)) fun A O B H hA => m_told (m_thr (cl rfl (fun _ => uL0 f _) ?_))))
      exact ⟨q, qs, L, n, m, c, ⟨h.1.1, hA, ho⟩, h.2⟩
    · refine ifn (mt (ige 4 (k := 4) rfl (by omega) (by omega)).mp e4) (ifp rfl (m_isOver h.1.2.1 ho ?_))
      rw [e]
      refine ifp rfl (m_count h.1.2.1 ho.1 ?_)
      rw [sub]
      exact ifp ((igt 4 (k := 4) rfl (by omega) (by omega)).mpr (by omega)) (ifp rfl (m_fails (m_thr (cl rfl (fun z => absurd z (by decide)) ⟨q, qs, L, n, m, c, h⟩))))
  · refine ifn (by decide) (ifp rfl (m_isOver h.1.2.1 ho ?_))
    rw [e]
    exact ifn (by decide) (ifp rfl (m_fails (m_thr (cl rfl (fun z => absurd z (by decide)) ⟨q, qs, L, n, m, c, h⟩))))
end Top3
