/-! an object of the class between two calls, and what each method does to it -/
/-- hs: a snapshot; the game q, the snapshot qs, the history L of n states -/
def RX (u : SX) (hs : Int32) (q qs : PG) (L : Nat → PG) (n : Nat) : Prop :=
  u.1 = hs ∧ RG u.2.1 q ∧ (hs ≠ 0 → RG u.2.2.2.1 qs) ∧ RHc u.2.2.2.2.1 L n ∧ ∃ c m, RT u.2.2.2.2.2 c m
theorem p_pieceY {p : Nat} (h : p < 16) {Z : Unit → Prop} {X : String → Unit → Prop} (hz : Z ()) : pX5_requirePiece (nI p) Z X := ifn (nI_pos (by omega)) (ifp ((nI_ltI (b := 16) (by omega) (by omega)).mpr h) hz)
theorem p_cellY {p : Nat} (h : p < 16) {Z : Unit → Prop} {X : String → Unit → Prop} (hz : Z ()) : pX5_requireCell (nI p) Z X := p_pieceY h hz
theorem iis {A B C : Prop} (a : B) : if "java/lang/IllegalStateException" = "java/lang/IndexOutOfBoundsException" then A else (if "java/lang/IllegalStateException" = "java/lang/IllegalStateException" then B else C) := ifn (by decide +kernel) (ifp rfl a)
theorem fe_VT {c : Nat → Nat} {m : Nat} (hm : m ≤ 60) (hf : fe c m m 0 0 = -1) : VT c m (m + 1) 0 := VT_of c m hm (m + 1) 0 (Nat.zero_le _) (by omega) hf
/-- the outcome, or that it can't be searched -/
def ocI (q : PG) : Int32 := if ov q || decide (4 < 16 - ct q.1) then 90001 else vO q (15 - ct q.1)
section Spec
variable {u : SX} {hs : Int32} {q qs : PG} {L : Nat → PG} {n : Nat} {Z : Int32 → Prop} {Y : Int32 → SX → Prop}
theorem s_placed (h : RX u hs q qs L n) (hz : Z (nI (ct q.1))) : pX5_placed u Z := by
  unfold pX5_placed
  exact p_count h.2.1.2.2.2.2 hz
theorem s_gift (h : RX u hs q qs L n) (hz : Z (pm q.2.1)) : pX5_gift u Z := by
  unfold pX5_gift
  refine p_pending ?_
  rw [h.2.1.1]
  exact hz
theorem s_mover (h : RX u hs q qs L n) (ho : OG q) (hz : Z (mvI q)) : pX5_playerToMove u Z := by
  unfold pX5_playerToMove
  exact p_mover h.2.1 ho hz
theorem s_winner (h : RX u hs q qs L n) (hz : Z (pm q.2.2.2.1)) : pX5_winner u Z := by
  unfold pX5_winner
  refine p_victor ?_
  rw [h.2.1.2.1]
  exact hz
theorem s_over (h : RX u hs q qs L n) (ho : OG q) (hz : Z (bI (ov q))) : pX5_isOver u Z := by
  unfold pX5_isOver
  exact p_hasEnded h.2.1 ho ⟨bI_n _, hz⟩
theorem s_lines (h : RX u hs q qs L n) (ho : OG q) (hz : Z (nI (ln q.2.2.1))) : pX5_lines u Z := by
  unfold pX5_lines
  exact p_lineCount h.2.1.2.2.2.2 ho.2.2.1 hz
theorem s_won (h : RX u hs q qs L n) (ho : OG q) (hz : Z (nI (wC q.1 q.2.2.1))) : pX5_wonLines u Z := by
  unfold pX5_wonLines
  exact p_wonCount h.2.1.2.2.2.2 ho.2.2.1 hz
theorem s_rule (h : RX u hs q qs L n) (hz : Z (nI q.2.2.1)) : pX5_rule u Z := by
  unfold pX5_rule
  refine p_lineRule ?_
  rw [h.2.1.2.2.2.2.1]
  exact hz
theorem s_sz (h : RX u hs q qs L n) : u.2.2.2.2.1.2.1 = nI n ∧ n ≤ 4 := by
  obtain ⟨x, _, _, e2, e3, _⟩ := h.2.2.2.1
  exact ⟨e2, e3⟩
theorem s_rec (h : RX u hs q qs L n) (hz : Z (nI n)) : pX5_recordedStates u Z := by
  unfold pX5_recordedStates
  refine p_size ?_
  rw [(s_sz h).1]
  exact hz
theorem s_pieceOn (h : RX u hs q qs L n) (ho : OG q) {k : Nat} (hk : k < 16) (hz : Y (pm (q.1 k)) u) : pL_pieceOn (nI k) u Y := by
  unfold pL_pieceOn pX5_pieceOn
  exact p_cellY hk (p_pieceAt h.2.1.2.2.2.2 ho.1 hk hz)
theorem s_cellOf (h : RX u hs q qs L n) (ho : OG q) {p : Nat} (hp4 : p < 16) (hz : Y (oI (fU (fun k => q.1 k == p + 1) 16 0)) u) : pL_cellOf (nI p) u Y := by
  unfold pL_cellOf pX5_cellOf
  exact p_pieceY hp4 (p_cellWith h.2.1.2.2.2.2 ho.1 hp4 hz)
theorem s_lineY (h : RX u hs q qs L n) (ho : OG q) {l : Nat} (hl : l < ln q.2.2.1) {Z : SX → Prop} {X : String → SX → Prop} (hz : Z u) : pX5_requireLine (nI l) u Z X := by
  have hl2 := ln_le q.2.2.1
  unfold pX5_requireLine
  exact ifn (nI_pos (by omega)) (p_lineCount h.2.1.2.2.2.2 ho.2.2.1 (ifp ((nI_ltI (by omega) (by omega)).mpr hl) hz))
theorem s_piecesOn (h : RX u hs q qs L n) (ho : OG q) {l : Nat} (hl : l < ln q.2.2.1) (hz : Y (nI (mn q.1 l)) u) : pL_piecesOn (nI l) u Y := by
  have hl2 := ln_le q.2.2.1
  unfold pL_piecesOn pX5_piecesOn
  exact s_lineY h ho hl (p_countOn h.2.1.2.2.2.2 (by omega) hz)
theorem s_shared (h : RX u hs q qs L n) (ho : OG q) {l : Nat} (hl : l < ln q.2.2.1) (hz : Y (iN (shF q.1 l)) u) : pL_shared (nI l) u Y := by
  have hl2 := ln_le q.2.2.1
  unfold pL_shared pX5_sharedOn
  exact s_lineY h ho hl (p_sharedTraits h.2.1.2.2.2.2 (by omega) hz)
theorem s_wins0 (h : RX u hs q qs L n) (hz : Y q.2.2.2.2.1 u) : pL_wins 0 u Y := by
  unfold pL_wins pX5_winsOf pX2_victoriesOf
  refine ifn (by decide) (ifp (by decide) (ifn (by decide) (ifn (by decide) ⟨(vp_in_nI (show 0 < 2 by omega) (by omega) : vp_in (nI 0) 2), ?_⟩)))
  have e : u.2.1.2.2.1 (0 : Int32).toNatClampNeg = q.2.2.2.2.1 := h.2.1.2.2.1
  rw [e]
  exact hz
theorem s_wins1 (h : RX u hs q qs L n) (hz : Y q.2.2.2.2.2 u) : pL_wins 1 u Y := by
  unfold pL_wins pX5_winsOf pX2_victoriesOf
  refine ifn (by decide) (ifp (by decide) (ifn (by decide) (ifn (by decide) ⟨(vp_in_nI (show 1 < 2 by omega) (by omega) : vp_in (nI 1) 2), ?_⟩)))
  have e : u.2.1.2.2.1 (1 : Int32).toNatClampNeg = q.2.2.2.2.2 := h.2.1.2.2.2.1
  rw [e]
  exact hz
/-- another trial game, all else as it was -/
theorem RX_t (h : RX u hs q qs L n) (t : SG) : RX (u.1, u.2.1, t, u.2.2.2.1, u.2.2.2.2.1, u.2.2.2.2.2) hs q qs L n := h
theorem s_winCell (h : RX u hs q qs L n) (ho : OG q) {p : Nat} (hp4 : p < 16) (hz : ∀ u', RX u' hs q qs L n → Y (wcI p q) u') : pL_winningCell (nI p) u Y := by
  unfold pL_winningCell pX5_winningCell
  unfold wcI at hz
  refine p_pieceY hp4 (p_hasEnded h.2.1 ho ?_)
  cases e : ov q
  · rw [e] at hz
    refine ifp rfl (p_holds h.2.1.2.2.2.2 hp4 ?_)
    cases e2 : hp q.1 p
    · rw [e2] at hz
      exact ifp rfl (p_copyG h.2.1 fun w7 h7 => p_firstWinningCell h7.2.2.2.2 ho.2.2.1 ho.1 hp4 e2 fun w9 h9 => hz _ (RX_t h _))
    · rw [e2] at hz
      exact ifn (by decide) (hz u h)
  · rw [e] at hz
    exact ifn (by decide) (hz u h)
theorem s_safeT (h : RX u hs q qs L n) (ho : OG q) (hz : ∀ u', RX u' hs q qs L n → Y (svI q) u') : pX5_safeByTrying u Y := by
  unfold pX5_safeByTrying
  unfold svI at hz
  refine p_hasEnded h.2.1 ho ?_
  cases e : ov q
  · rw [e] at hz
    have hz : ∀ u', RX u' hs q qs L n → Y (iN (sfT q)) u' := hz
    refine ifp rfl (p_copyG h.2.1 fun w3 h3 => ?_)
    refine pk_loop (fun n i (s : Int32 × SG) => pX5_safeByTrying_27 _ n s.1 (nI i) (u.1, u.2.1, s.2, u.2.2.2)) (fun i s => s.1 = iN (upB (sfT q) i) ∧ RB s.2.2.2.2 q.1 q.2.2.1) 16 0 (0, w3) (by omega) ⟨(upB_0 _).symm, h3.2.2.2.2⟩ ?_ ?_
    · rintro k ⟨x, s⟩ ⟨h1, h2⟩
      show pX5_safeByTrying_27 _ (k + 1) x (nI 16) (u.1, u.2.1, s, u.2.2.2)
      rw [pX5_safeByTrying_27]
      have h1 : x = iN (upB (sfT q) 16) := h1
      rw [h1, upB_16]
      exact ifp ((ile 16 (k := 16) rfl (by omega) (by omega)).mpr (by omega)) (hz _ (RX_t h s))
    · rintro k i ⟨x, s⟩ hi ⟨h1, h2⟩ hk
      show pX5_safeByTrying_27 _ (k + 1) x (nI i) (u.1, u.2.1, s, u.2.2.2)
      have h1 : x = iN (upB (sfT q) i) := h1
      rw [pX5_safeByTrying_27]
      refine ifn (mt (ile 16 (k := 16) rfl (by omega) (by omega)).mp (by omega)) (p_isFree h.2.1 ho hi ?_)
      cases e2 : fr i q
      · refine ifp rfl ?_
        intro x7 e7
        rw [e7, nI_1]
        refine hk (x, s) ⟨?_, h2⟩
        show x = _
        rw [h1]
        refine upB_f ?_
        unfold sfT
        rw [e2]
        rfl
      · have e3 : hp q.1 i = false := fr_hp e2
        refine ifn (by decide) (p_firstWinningCell h2 ho.2.2.1 ho.1 hi e3 fun w9 h9 => ?_)
        cases e6 : exU (wF q.1 q.2.2.1 i) 16 0
        · refine ifp (oI_ex.mpr e6) ?_
          intro x12 e12 x13 e13
          rw [e13, nI_1, e12]
          refine hk (_, (s.1, s.2.1, s.2.2.1, w9)) ⟨?_, h9⟩
          show x ||| _ = _
          rw [h1]
          refine upB_t hi ?_
          unfold sfT
          rw [e2, e6]
          rfl
        · refine ifn (fun z => by rw [oI_ex.mp z] at e6; cases e6) ?_
          intro x11 e11
          rw [e11, nI_1]
          refine hk (x, (s.1, s.2.1, s.2.2.1, w9)) ⟨?_, h9⟩
          show x = _
          rw [h1]
          refine upB_f ?_
          unfold sfT
          rw [e6]
          simp
  · rw [e] at hz
    exact ifn (by decide) (hz u h)
theorem p_traitsOf {i : Nat} (hi : i < 16) {Z : Int32 → Prop} (hz : Z (iN (tF i))) : pX5_traitsOf (nI i) Z := by
  unfold pX5_traitsOf
  rw [tF_cl i hi]
  exact hz
theorem s_safeL (h : RX u hs q qs L n) (ho : OG q) (hz : Z (svI q)) : pX5_safeByLines u Z := by
  unfold pX5_safeByLines
  unfold svI at hz
  refine p_hasEnded h.2.1 ho ?_
  cases e : ov q
  · rw [e] at hz
    have hz : Z (iN (sfT q)) := hz
    have hnw : hw q.1 q.2.2.1 = false := ho.2.2.2.2.2 (ov_f.mp e).1
    refine ifp rfl (p_dangerousTraits h.2.1.2.2.2.2 ho.2.2.1 ?_)
    refine pk_loop (fun n i (s : Int32) => pX5_safeByLines_27 _ (iN (dG q.1 (ln q.2.2.1))) u n s (nI i)) (fun i s => s = iN (upB (sfT q) i)) 16 0 0 (by omega) (upB_0 _).symm ?_ ?_
    · intro k x h1
      show pX5_safeByLines_27 _ _ u (k + 1) x (nI 16)
      rw [pX5_safeByLines_27, h1, upB_16]
      exact ifp ((ile 16 (k := 16) rfl (by omega) (by omega)).mpr (by omega)) hz
    · intro k i x hi h1 hk
      show pX5_safeByLines_27 _ _ u (k + 1) x (nI i)
      rw [pX5_safeByLines_27]
      refine ifn (mt (ile 16 (k := 16) rfl (by omega) (by omega)).mp (by omega)) (p_isFree h.2.1 ho hi ?_)
      cases e2 : fr i q
      · refine ifp rfl ?_
        intro x8 e8
        rw [e8, nI_1]
        refine hk x ?_
        rw [h1]
        refine upB_f ?_
        unfold sfT
        rw [e2]
        rfl
      · refine ifn (by decide) (p_traitsOf hi ?_)
        rw [iN_and]
        have ex : iN (fun j => tF i j && dG q.1 (ln q.2.2.1) j) = 0 ↔ exU (wF q.1 q.2.2.1 i) 16 0 = false := by
          rw [← safe_eq (p := i) hnw, iN_eq0, Bool.eq_false_iff, Ne, exU_iff]
          constructor
          · rintro z ⟨j, _, hj, y⟩
            rw [z j (by omega)] at y
            cases y
          · intro z j hj
            cases y : (tF i j && dG q.1 (ln q.2.2.1) j)
            · rfl
            · exact absurd ⟨j, by omega, by omega, y⟩ z
        cases e6 : exU (wF q.1 q.2.2.1 i) 16 0
        · refine ifp (ex.mpr e6) ?_
          intro x12 e12 x13 e13
          rw [e13, nI_1, e12]
          refine hk _ ?_
          rw [h1]
          refine upB_t hi ?_
          unfold sfT
          rw [e2, e6]
          rfl
        · refine ifn (fun z => by rw [ex.mp z] at e6; cases e6) ?_
          intro x11 e11
          rw [e11, nI_1]
          refine hk x ?_
          rw [h1]
          refine upB_f ?_
          unfold sfT
          rw [e6]
          simp
  · rw [e] at hz
    exact ifn (by decide) hz
theorem s_outcome (h : RX u hs q qs L n) (ho : OG q) (hz : ∀ u', RX u' hs q qs L n → Y (ocI q) u') : pL_outcome u Y := by
  have hc := ct_le q.1
  unfold pL_outcome pX5_outcome pX5_requireSearchable
  unfold ocI at hz
  refine p_hasEnded h.2.1 ho ?_
  cases e : ov q
  · have h1 := ov_f.mp e
    rw [e, Bool.false_or] at hz
    refine ifp rfl (p_emptyCount h.2.1.2.2.2.2 ?_)
    by_cases e4 : 16 - ct q.1 ≤ 4
    · rw [if_neg (show ¬ decide (4 < 16 - ct q.1) = true by simp; omega)] at hz
      refine ifp ((ige 4 (k := 4) rfl (by omega) (by omega)).mpr e4) (p_copyG h.2.1 fun w2 h2 => p_valueOf h2 ho (n := 15 - ct q.1) (by omega) (by omega) fun w3 h3 => hz _ (RX_t h _))
    · rw [if_pos (show decide (4 < 16 - ct q.1) = true by simp; omega)] at hz
      exact ifn (mt (ige 4 (k := 4) rfl (by omega) (by omega)).mp e4) (ifp rfl (hz u h))
  · rw [e, Bool.true_or, if_pos rfl] at hz
    exact ifn (by decide) (ifp rfl (hz u h))
theorem s_restart (h : RX u hs q qs L n) {r : Nat} (hr : r < 2) (hz : ∀ u', RX u' hs (ng r q) qs (psh q L) (min (n + 1) 4) → Y (nI (ct q.1)) u') : pL_restart (nI r) u Y := by
  unfold pL_restart pX5_restart
  rcases (show r = 0 ∨ r = 1 by omega) with rfl | rfl
  · exact ifp rfl (p_count h.2.1.2.2.2.2 (p_record h.2.2.2.1 h.2.1 fun h' hh' => p_begin h.2.1 0 fun w5 h5 => hz _ ⟨h.1, h5, h.2.2.1, hh', h.2.2.2.2⟩))
  · exact ifn (by decide) (ifp rfl (p_count h.2.1.2.2.2.2 (p_record h.2.2.2.1 h.2.1 fun h' hh' => p_begin h.2.1 1 fun w5 h5 => hz _ ⟨h.1, h5, h.2.2.1, hh', h.2.2.2.2⟩)))
theorem s_take (h : RX u hs q qs L n) (hz : ∀ u', RX u' 1 q q L n → Y (nI (ct q.1)) u') : pX5_takeSnapshot u Y := by
  unfold pX5_takeSnapshot
  exact p_copyG h.2.1 fun w1 h1 => p_count h.2.1.2.2.2.2 (hz _ ⟨rfl, h.2.1, fun _ => h1, h.2.2.2.1, h.2.2.2.2⟩)
theorem s_restore (h : RX u hs q qs L n) (h0 : hs = 0 → Y 90001 u) (h1 : hs ≠ 0 → ∀ u', RX u' hs qs qs (psh q L) (min (n + 1) 4) → Y (nI (ct qs.1)) u') : pL_restore u Y := by
  unfold pL_restore pX5_restoreSnapshot
  rw [h.1]
  by_cases e : hs = 0
  · exact ifp e (ifp rfl (h0 e))
  · have s1 := h.2.2.1 e
    exact ifn e (p_record h.2.2.2.1 h.2.1 fun h' hh' => p_copyG s1 fun w3 h3 => p_count h3.2.2.2.2 (h1 e _ ⟨rfl, h3, fun _ => s1, hh', h.2.2.2.2⟩))
theorem s_undo0 (h : RX u hs q qs L 0) (hz : Y 90001 u) : pL_undo u Y := by
  unfold pL_undo pX5_undo pX3_size
  exact ifp (s_sz h).1 (ifp rfl hz)
theorem s_undo1 (h : RX u hs q qs L (n + 1)) (hz : ∀ u', RX u' hs (L 0) qs (fun j => L (j + 1)) n → Y (nI n) u') : pL_undo u Y := by
  have hn := (s_sz h).2
  unfold pL_undo pX5_undo pX3_size
  refine ifn (by rw [(s_sz h).1]; exact nI_ne0 (by omega) (by omega)) (p_takeBack h.2.2.2.1 fun h' s' hh' hs' => ?_)
  have hsz2 : h'.2.1 = nI n := by
    obtain ⟨x, _, _, e2, _⟩ := hh'
    exact e2
  show Y h'.2.1 _
  rw [hsz2]
  exact hz _ ⟨h.1, hs', h.2.2.1, hh', h.2.2.2.2⟩
theorem s_give (h : RX u hs q qs L n) (ho : OG q) {p : Nat} (hp4 : p < 16) (h0 : cg p q = false → Y 90002 u) (h1 : cg p q = true → ∀ u', RX u' hs (gv p q) qs (psh q L) (min (n + 1) 4) → Y (mvI (gv p q)) u') : pL_give (nI p) u Y := by
  unfold pL_give pX5_give
  refine p_pieceY hp4 (p_canGive h.2.1 ho hp4 ?_)
  cases e : cg p q
  · exact ifp rfl (iis (h0 e))
  · refine ifn (by decide) (p_record h.2.2.2.1 h.2.1 fun h' hh' => p_setGift h.2.1 fun w5 h5 => p_mover h5 (OG_gv ho hp4 e) (h1 e _ ⟨h.1, h5, h.2.2.1, hh', h.2.2.2.2⟩))
theorem s_place (h : RX u hs q qs L n) (ho : OG q) {c : Nat} (hc : c < 16) (h0 : cp c q = false → Y 90002 u) (h1 : cp c q = true → ∀ u', RX u' hs (pt c q) qs (psh q L) (min (n + 1) 4) → Y (bI (pw c q)) u') : pL_place (nI c) u Y := by
  unfold pL_place pX5_place
  refine p_cellY hc (p_canPut h.2.1 ho hc ?_)
  cases e : cp c q
  · exact ifp rfl (iis (h0 e))
  · refine ifn (by decide) (p_record h.2.2.2.1 h.2.1 fun h' hh' => p_putGift h.2.1 ho hc e fun w5 h5 => ⟨bI_n _, ?_⟩)
    have h2 := h1 e (u.1, w5, u.2.2.1, u.2.2.2.1, h', u.2.2.2.2.2) ⟨h.1, h5, h.2.2.1, hh', h.2.2.2.2⟩
    cases eb : pw c q
    · rw [eb] at h2
      exact ifp rfl h2
    · rw [eb] at h2
      exact ifn (by decide) h2
/-! texts -/
theorem s_type {c : Nat → Nat} {m ch : Nat} (hT : RT u.2.2.2.2.2 c m) (hm : m < 60) (hch : ch < 65536) (hz : ∀ t, RT t (fu c m ch) (m + 1) → Y (nI (m + 1)) (u.1, u.2.1, u.2.2.1, u.2.2.2.1, u.2.2.2.2.1, t)) : pL_type (nI ch) u Y := by
  have hvc := pk_vc (nI ch)
  have e0 : (nI ch).toBitVec.toNat % 65536 = ch := by
    have : (nI ch).toBitVec.toNat = ch := by
      show (BitVec.ofNat 32 ch).toNat = ch
      rw [BitVec.toNat_ofNat]
      omega
    rw [this]
    omega
  unfold pL_type pX5_type pX4_isFull
  rw [pk_char, e0] at hvc ⊢
  have t1 : u.2.2.2.2.2.1 = nI m := hT.1
  refine ifp (by rw [t1]; exact (ilt 60 (k := 60) rfl (by omega) (by omega)).mpr (by omega)) (ifp rfl ?_)
  unfold pX4_append
  refine ifn (by rw [t1]; exact nI_pos (by omega)) (ifn (by rw [t1]; exact mt (ile 60 (k := 60) rfl (by omega) (by omega)).mp (by omega)) ⟨by rw [t1]; exact vp_in_nI (by omega) (by omega), fun x4 e4 => ?_⟩)
  rw [t1, nI_1] at e4
  refine p_len ?_
  show Y x4 _
  rw [e4]
  refine hz _ ⟨rfl, by omega, fun i hi => ?_⟩
  show fu c m ch i < 65536 ∧ upd u.2.2.2.2.2.2 (u.2.2.2.2.2.1).toNatClampNeg (vp_nar .char (nI ch)) i = nI (fu c m ch i)
  rw [t1, nI_clamp (by omega), hvc]
  by_cases z : i = m
  · rw [z, fu_s, pk_us]
    exact ⟨hch, rfl⟩
  · rw [fu_n z, pk_un z]
    exact hT.2.2 i (by omega)
/-- a text of one move is carried out -/
theorem s_carry {c : Nat → Nat} {m : Nat} (h : RX u hs q qs L n) (ho : OG q) (hT : RT u.2.2.2.2.2 c m) (hf : fe c m m 0 0 = -1) (he : ed c m 0 = m) (h0 : mkB c m 0 q = false → ∀ u', RX u' hs q qs L n → Y 90001 u') (h1 : mkB c m 0 q = true → ∀ u', RX u' hs (mkG c m 0 q) qs (psh q L) (min (n + 1) 4) → Y 1 u') : pL_carryOut u Y := by
  unfold pL_carryOut pX5_carryOut pX5_requireValidText
  refine p_firstError hT ?_
  have hv := fe_VT hT.2.1 hf
  refine ifp hf ?_
  unfold pX5_tryText
  refine p_copyG h.2.1 fun w1 hw1 => ⟨m + 2, p_try u c m hT _ (m + 1) 0 q 0 w1 hv (Nat.zero_le _) ho hw1 (fun w' hw' => ?_) (m + 2) (by omega)⟩
  rw [rn] at hw' ⊢
  by_cases e : mkB c m 0 q = true
  · rw [if_pos e, if_pos he] at hw' ⊢
    refine ifp rfl (p_record h.2.2.2.1 h.2.1 fun h' hh' => p_copyG hw' fun g2 hg2 => p_moves hT ?_)
    rw [nm_c c m (m + 1) 0 hv, nm, if_pos he]
    exact h1 e _ ⟨h.1, hg2, h.2.2.1, hh', c, m, hT⟩
  · rw [if_neg e] at hw' ⊢
    exact ifn (show ¬ (nI 0 : Int32) = -1 by decide) (ifp rfl (h0 (Bool.eq_false_iff.mpr e) _ ⟨h.1, h.2.1, h.2.2.1, h.2.2.2.1, c, m, hT⟩))
/-- the text of a move, typed and carried out -/
theorem s_text (h : RX u hs q qs L n) (ho : OG q) {sg N : Nat} (hsg : sg = 103 ∨ sg = 112) (hN : N < 16) (h0 : (if sg = 103 then cg N q else cp N q) = false → ∀ u', RX u' hs q qs L n → Y 90001 u') (h1 : (if sg = 103 then cg N q else cp N q) = true → ∀ u', RX u' hs (if sg = 103 then gv N q else pt N q) qs (psh q L) (min (n + 1) 4) → Y 1 u') : pL_text (nI sg) (nI N) u Y := by
  obtain ⟨c0, m0, hT0⟩ := h.2.2.2.2
  have hm0 := hT0.2.1
  have hsg2 : sg < 65536 := by omega
  have rem : nI N - nI N / 10 * 10 = nI (N % 10) := pk_rem (d := 10) (by omega) (by omega) (by omega)
  have dg : (48 : Int32) + (nI N - nI N / 10 * 10) = nI (48 + N % 10) := by rw [rem]; exact nI_add 48 _
  unfold pL_text pX5_clearText
  refine p_len ?_
  rw [hT0.1]
  unfold pX4_empty
  refine ifn (nI_pos (by omega)) ?_
  refine s_type (m := 0) (c := c0) ⟨rfl, by omega, fun i hi => absurd hi (by omega)⟩ (by omega) hsg2 fun t4 ht4 => ifp rfl ?_
  rw [dg]
  by_cases h10 : N < 10
  · refine ifp ((ilt 10 (k := 10) rfl (by omega) (by omega)).mpr h10) ?_
    refine s_type (m := 1) ht4 (by omega) (by omega) fun t8 ht8 => ifn (by decide) ?_
    have c0e : fu (fu c0 0 sg) 1 (48 + N % 10) 0 = sg := by rw [fu_n (by omega), fu_s]
    have c1e : fu (fu c0 0 sg) 1 (48 + N % 10) 1 = 48 + N % 10 := fu_s
    generalize fu (fu c0 0 sg) 1 (48 + N % 10) = c at ht8 c0e c1e
    have hk : kd c 2 0 = true := kd_iff.mpr ⟨by omega, by rw [c0e]; exact hsg⟩
    have hd : hr c 2 48 57 (0 + 1) = true := hr_iff.mpr ⟨by omega, by show 48 ≤ c 1; rw [c1e]; omega, by show c 1 ≤ 57; rw [c1e]; omega⟩
    have hsd : sd c 2 0 = false := Bool.eq_false_iff.mpr fun z => by have := sd_iff.mp z; omega
    have hed : ed c 2 0 = 2 := by unfold ed; rw [hsd]; rfl
    have hnv : nv c 2 0 = N := by unfold nv; rw [hsd]; show c 1 - 48 = N; rw [c1e]; omega
    have hfe : fe c 2 2 0 0 = -1 := by
      have := fe_step c 2 (i := 0) (by omega)
      rw [if_pos hk, if_pos hd, if_pos hed] at this
      exact this
    refine s_carry (c := c) (m := 2) ⟨h.1, h.2.1, h.2.2.1, h.2.2.2.1, c, 2, ht8⟩ ho ht8 hfe hed (fun e u' hu' => h0 ?_ u' hu') (fun e u' hu' => h1 ?_ u' ?_)
    · unfold mkB at e; rw [c0e, hnv] at e; exact e
    · unfold mkB at e; rw [c0e, hnv] at e; exact e
    · unfold mkG at hu'; rw [c0e, hnv] at hu'; exact hu'
  · refine ifn (mt (ilt 10 (k := 10) rfl (by omega) (by omega)).mp h10) ?_
    refine s_type (m := 1) (ch := 49) ht4 (by omega) (by omega) fun t13 ht13 => ifp rfl ?_
    refine s_type (m := 2) ht13 (by omega) (by omega) fun t16 ht16 => ifn (by decide) ?_
    have c0e : fu (fu (fu c0 0 sg) 1 49) 2 (48 + N % 10) 0 = sg := by rw [fu_n (by omega), fu_n (by omega), fu_s]
    have c1e : fu (fu (fu c0 0 sg) 1 49) 2 (48 + N % 10) 1 = 49 := by rw [fu_n (by omega), fu_s]
    have c2e : fu (fu (fu c0 0 sg) 1 49) 2 (48 + N % 10) 2 = 48 + N % 10 := fu_s
    generalize fu (fu (fu c0 0 sg) 1 49) 2 (48 + N % 10) = c at ht16 c0e c1e c2e
    have hk : kd c 3 0 = true := kd_iff.mpr ⟨by omega, by rw [c0e]; exact hsg⟩
    have hd : hr c 3 48 57 (0 + 1) = true := hr_iff.mpr ⟨by omega, by show 48 ≤ c 1; rw [c1e]; omega, by show c 1 ≤ 57; rw [c1e]; omega⟩
    have hsd : sd c 3 0 = true := sd_iff.mpr ⟨c1e, by omega, by show 48 ≤ c 2; rw [c2e]; omega, by show c 2 ≤ 53; rw [c2e]; omega⟩
    have hed : ed c 3 0 = 3 := by unfold ed; rw [hsd]; rfl
    have hnv : nv c 3 0 = N := by unfold nv; rw [hsd]; show c 2 - 38 = N; rw [c2e]; omega
    have hfe : fe c 3 3 0 0 = -1 := by
      have := fe_step c 3 (i := 0) (by omega)
      rw [if_pos hk, if_pos hd, if_pos hed] at this
      exact this
    refine s_carry (c := c) (m := 3) ⟨h.1, h.2.1, h.2.2.1, h.2.2.2.1, c, 3, ht16⟩ ho ht16 hfe hed (fun e u' hu' => h0 ?_ u' hu') (fun e u' hu' => h1 ?_ u' ?_)
    · unfold mkB at e; rw [c0e, hnv] at e; exact e
    · unfold mkB at e; rw [c0e, hnv] at e; exact e
    · unfold mkG at hu'; rw [c0e, hnv] at hu'; exact hu'
/-! the law's own small methods -/
theorem s_up (x : Int32) {k : Nat} (hk0 : 0 < k) (hk : k < 1000) (hz : ∀ j, j < k → Z (nI j)) : pL_up x (nI k) Z := by
  unfold pL_up
  refine ⟨nI_ne0 hk0 (by omega), ?_⟩
  obtain ⟨a, ha, e⟩ : ∃ a, a < 2 ^ 31 ∧ x &&& 2147483647 = nI a := by
    refine nI_of fun hlt => ?_
    have h1 := Int32.lt_iff_toInt_lt.mp hlt
    have h2 : bt (x &&& 2147483647) 31 = false := by
      rw [b_and, show bt 2147483647 31 = false by decide +kernel, Bool.and_false]
    have h3 : (x &&& 2147483647).toBitVec.msb = false := by
      rw [BitVec.msb_eq_getLsbD_last]
      exact h2
    have h4 : 0 ≤ (x &&& 2147483647).toBitVec.toInt := BitVec.toInt_nonneg_of_msb_false h3
    have h5 : (x &&& 2147483647).toInt = (x &&& 2147483647).toBitVec.toInt := rfl
    rw [h5, Int32.toInt_zero] at h1
    omega
  rw [e, pk_rem ha hk0 (by omega)]
  exact hz _ (Nat.mod_lt _ hk0)
theorem s_turned {i : Nat} (hi : i < 16) (hz : Z (nI (tn i))) : pL_turned (nI i) Z := by
  unfold pL_turned
  have e1 : nI i - nI i / 4 * 4 = nI (i % 4) := pk_rem (d := 4) (by omega) (by omega) (by omega)
  have e2 : nI i / 4 = nI (i / 4) := pk_div (d := 4) (by omega) (by omega) (by omega)
  rw [e1, e2, show (4 : Int32) = nI 4 from rfl, pk_mul, nI_add, ← tn_v hi]
  exact hz
theorem lineI : ∀ l, l < 19 → (if (4 : Int32) ≤ nI l then (if (8 : Int32) ≤ nI l then (if (10 : Int32) ≤ nI l then ((10 + (((nI l - 10) - (nI l - 10) / 3 * 3) * 3)) + ((nI l - 10) / 3)) else nI l) else (nI l - 4)) else (nI l + 4)) = nI (lm l) := by decide +kernel
theorem s_line {l : Nat} (hl : l < 19) (hz : Z (nI (lm l))) : pL_line (nI l) Z := by
  unfold pL_line
  rw [← lineI l hl] at hz
  by_cases c4 : (4 : Int32) ≤ nI l
  · rw [if_pos c4] at hz ⊢
    by_cases c8 : (8 : Int32) ≤ nI l
    · rw [if_pos c8] at hz ⊢
      by_cases c10 : (10 : Int32) ≤ nI l
      · rw [if_pos c10] at hz ⊢; exact hz
      · rw [if_neg c10] at hz ⊢; exact hz
    · rw [if_neg c8] at hz ⊢; exact hz
  · rw [if_neg c4] at hz ⊢; exact hz
/-- a set told the other way about -/
theorem s_other (p : Nat → Bool) (hz : Z (iN (fun i => p (15 - i)))) : pL_other (iN p) Z := by
  unfold pL_other
  refine pk_loop (fun n i (s : Int32) => pL_other_4 Z (iN p) n s (nI i)) (fun i s => s = iN (fun j => decide (15 < j + i) && p (15 - j))) 16 0 0 (by omega) ?_ ?_ ?_
  · rw [← iN_0]
    refine iN_ext fun i hi => ?_
    rw [show decide (15 < i + 0) = false from decide_eq_false (by omega)]
    rfl
  · intro n s hs
    show pL_other_4 Z (iN p) (n + 1) s (nI 16)
    rw [pL_other_4, hs]
    refine ifp ((ile 16 (k := 16) rfl (by omega) (by omega)).mpr (by omega)) ?_
    rw [show iN (fun j => decide (15 < j + 16) && p (15 - j)) = iN (fun i => p (15 - i)) from iN_ext fun i _ => by
      rw [show decide (15 < i + 16) = true from decide_eq_true (by omega), Bool.true_and]]
    exact hz
  · intro n i s hi hs hk
    show pL_other_4 Z (iN p) (n + 1) s (nI i)
    rw [pL_other_4]
    refine ifn (mt (ile 16 (k := 16) rfl (by omega) (by omega)).mp (by omega)) ?_
    intro x2 e2 x3 e3
    rw [e3, nI_1]
    refine hk x2 ?_
    have e15 : (15 : Int32) - nI i = nI (15 - i) := pk_sub (a := 15) (by omega)
    rw [e2, hs, iN_bit p hi, e15, bitc (15 - i) (by omega), iN_or]
    refine iN_ext fun j hj => ?_
    by_cases z : j = 15 - i
    · subst z
      rw [show decide (15 < 15 - i + i) = false from decide_eq_false (by omega), show decide (15 < 15 - i + (i + 1)) = true from decide_eq_true (by omega), show 15 - (15 - i) = i by omega]
      simp
    · rw [show decide (j = 15 - i) = false from decide_eq_false z, Bool.and_false, Bool.or_false, show decide (15 < j + i) = decide (15 < j + (i + 1)) from decide_eq_decide.mpr (by omega)]
end Spec
