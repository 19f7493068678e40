/-! what holds of the class's object and of the model between two calls -/
def Rs (u : SX) (v : SM) (q qs : PG) (L : Nat → PG) (n m : Nat) (c : Nat → Nat) : Prop :=
  (RG u.2.1 q ∧ RA v.1 q ∧ OG q) ∧ (RHc u.2.2.2.2.1 L n ∧ RHm v.2.2.1 L n ∧ v.2.2.2.2.2.2.2.2.1 = nI n ∧ ∀ j, j < n → OG (L j)) ∧ (u.1 = v.2.2.2.2.2.2.2.2.2.1 ∧ (u.1 ≠ 0 → RG u.2.2.2.1 qs ∧ RA v.2.2.2.1 qs ∧ OG qs)) ∧ (RT u.2.2.2.2.2 c m ∧ RTm v c m)
def Rel (u : SX) (v : SM) : Prop := ∃ q qs L n m c, Rs u v q qs L n m c
def KK : SX → SM → (Nat → Int64) → Prop := fun u v _ => Rel u v
theorem cl {r5 r3 : Int32} {a b : Int64} {P : Prop} {v4 : Int32} (h : r5 = r3) (h2 : r3 = 0 → a = b) (hP : P) : if r5 = r3 then (if r3 = 0 then (if (lg_cmp a b) = 0 then (∀ x10 : Int32, x10 = (v4 + 2) → P) else False) else (∀ x8 : Int32, x8 = (v4 + 2) → P)) else False := by
  refine ifp h ?_
  by_cases z : r3 = 0
  · exact ifp z (ifp (by rw [h2 z]; exact cmp_eq) fun _ _ => hP)
  · exact ifn z fun _ _ => hP
theorem cl2 {r5 r3 : Int32} {P : Prop} {v4 : Int32} (h : r5 = r3) (hP : P) : if r5 = r3 then (∀ x8 : Int32, x8 = (v4 + 2) → P) else False := ifp h fun _ _ => hP
theorem m_thr {w : SM} {Z : Int32 → Prop} (h : Z w.2.2.2.2.2.2.2.2.2.2.1) : pX6_thrown w Z := h
def sTh (w : SM) (x : Int32) : SM := (w.1, w.2.1, w.2.2.1, w.2.2.2.1, w.2.2.2.2.1, w.2.2.2.2.2.1, w.2.2.2.2.2.2.1, w.2.2.2.2.2.2.2.1, w.2.2.2.2.2.2.2.2.1, w.2.2.2.2.2.2.2.2.2.1, x, w.2.2.2.2.2.2.2.2.2.2.2)
theorem m_fails {x : Int32} {w : SM} {Z : Int32 → SM → Prop} (h : Z 0 (sTh w x)) : pX6_fails x w Z := h
theorem m_told {x : Int32} {w : SM} {Z : Int32 → SM → Prop} (h : Z x (sTh w 0)) : pX6_told x w Z := h
theorem uL0 (f : Nat → Int64) (x : Int64) : vp_updL f 0 x 0 = x := pk_uLs
theorem i01 {P : Prop} (h : (0 : Int32) = 1) : P := absurd h (by decide)
theorem io {A B : Prop} (a : A) : if "java/lang/IndexOutOfBoundsException" = "java/lang/IndexOutOfBoundsException" then A else B := ifp rfl a
theorem is {A B C : Prop} (a : B) : if "java/lang/IllegalStateException" = "java/lang/IndexOutOfBoundsException" then A else (if "java/lang/IllegalStateException" = "java/lang/IllegalStateException" then B else C) := ifn (by decide +kernel) (ifp rfl a)
/-- an argument outside 0 .. n - 1, for both -/
def Out (x : Int32) (n : Nat) : Prop := x < 0 ∨ (¬ x < 0 ∧ ¬ x < nI n ∧ ∃ j, n ≤ j ∧ j < 2 ^ 31 ∧ x = nI j)
theorem m_inO {x : Int32} {n : Nat} (hn : n < 2 ^ 31) (h : Out x (n + 1)) {Z : Int32 → Prop} (hz : Z 0) : pX6_in x.toInt64 0 (lN n) Z := by
  rcases h with h | ⟨-, -, j, hj, hj2, rfl⟩
  · exact m_inS h hz
  · rw [nI_l hj2]
    refine m_inN (b := 0) hj2 (by omega) hn ?_
    rw [decide_eq_false (show ¬ j ≤ n by omega), Bool.and_false]
    exact hz
theorem m_inY {p n : Nat} (hp4 : p < n + 1) (hn : n < 2 ^ 31) {Z : Int32 → Prop} (hz : Z 1) : pX6_in (nI p).toInt64 0 (lN n) Z := by
  rw [nI_l (by omega)]
  refine m_inN (b := 0) (by omega) (by omega) hn ?_
  rw [decide_eq_true (show p ≤ n by omega), decide_eq_true (Nat.zero_le p)]
  exact hz
theorem m_placeO {x : Int32} (h : Out x 16) {Z : Int32 → Prop} (hz : Z 0) : pX6_isPlace x Z := m_inO (n := 15) (by omega) h ⟨bI_n false, hz⟩
theorem m_placeY {p : Nat} (h : p < 16) {Z : Int32 → Prop} (hz : Z 1) : pX6_isPlace (nI p) Z := m_inY (n := 15) h (by omega) ⟨bI_n true, hz⟩
theorem p_pieceO {x : Int32} (h : Out x 16) {Z : Unit → Prop} {X : String → Unit → Prop} (hx : X "java/lang/IndexOutOfBoundsException" ()) : pX5_requirePiece x Z X := by
  unfold pX5_requirePiece
  rcases h with h | ⟨h1, h2, -⟩
  · exact ifp h hx
  · exact ifn h1 (ifn h2 hx)
theorem p_pieceY {p : Nat} (h : p < 16) {Z : Unit → Prop} {X : String → Unit → Prop} (hz : Z ()) : pX5_requirePiece (nI p) Z X := ifn (nI_pos (by omega)) (ifp ((nI_ltI (b := 16) (by omega) (by omega)).mpr h) hz)
theorem p_cellO {x : Int32} (h : Out x 16) {Z : Unit → Prop} {X : String → Unit → Prop} (hx : X "java/lang/IndexOutOfBoundsException" ()) : pX5_requireCell x Z X := p_pieceO h hx
theorem p_cellY {p : Nat} (h : p < 16) {Z : Unit → Prop} {X : String → Unit → Prop} (hz : Z ()) : pX5_requireCell (nI p) Z X := p_pieceY h hz
theorem out16 (x : Int32) {n : Nat} (hn : n < 2 ^ 31) : Out x n ∨ ∃ p, p < n ∧ x = nI p := by
  rcases ix3 x hn with h | h | h
  · exact Or.inl (Or.inl h)
  · exact Or.inl (Or.inr h)
  · exact Or.inr h
theorem OG_psh {q : PG} {L : Nat → PG} {n : Nat} (h : OG q) (hL : ∀ j, j < n → OG (L j)) : ∀ j, j < min (n + 1) 4 → OG (psh q L j)
  | 0, _ => h
  | j + 1, hj => hL j (by omega)
theorem mvI_n {q : PG} (h : ov q = false) : mvI q = nI (mvN q) := by unfold mvI; rw [h]; rfl
theorem cg_ov {p : Nat} {q : PG} (h : cg p q = true) : ov q = false := by
  unfold cg at h
  cases e : ov q
  · rfl
  · rw [e] at h; cases h
section Top
variable {u : SX} {v : SM} {q qs : PG} {L : Nat → PG} {n m : Nat} {c : Nat → Nat} {v4 k1 : Int32} {f : Nat → Int64}
theorem t_give (h : Rs u v q qs L n m c) : pL_c0 v4 k1 u v f KK := by
  have ho := h.1.2.2
  unfold pL_c0 pL_give pX5_give pX6_give
  rcases out16 k1 (n := 16) (by omega) with hx | ⟨p, hp4, rfl⟩
  · exact p_pieceO hx (io (m_placeO hx (ifp rfl (m_fails (m_thr (cl rfl (fun z => absurd z (by decide)) ⟨q, qs, L, n, m, c, h⟩))))))
  · refine p_pieceY hp4 (p_canGive h.1.1 ho hp4 ?_)
    cases e : cg p q
    · exact ifp rfl (is (m_placeY hp4 (ifn (by decide) (m_canGive h.1.2.1 ho hp4 (by
        rw [e]
        exact ifp rfl (m_fails (m_thr (cl rfl (fun z => absurd z (by decide)) ⟨q, qs, L, n, m, c, h⟩))))))))
    · have ho2 := OG_gv ho hp4 e
      have hov : ov (gv p q) = false := (show ov q = false from cg_ov e)
      refine ifn (by decide) (p_record h.2.1.1 h.1.1 fun h' hh' => p_setGift h.1.1 fun w5 h5 => p_mover h5 ho2 ?_)
      refine m_placeY hp4 (ifn (by decide) (m_canGive h.1.2.1 ho hp4 ?_))
      rw [e]
      refine ifn (by decide) (m_records h.1.2.1 h.2.1.2.1 h.2.1.2.2.1 fun s hs => m_gives (u := sRec v s (nI (min (n + 1) 4)) 0) h.1.2.1 ho hp4 e fun a ha => m_thr (cl rfl (fun _ => ?_) ?_))
      · show vp_updL f 0 (mvI (gv p q)).toInt64 0 = _
        rw [pk_uLs, mvI_n hov]
      · exact ⟨gv p q, qs, psh q L, min (n + 1) 4, m, c, ⟨h5, ha, ho2⟩, ⟨hh', hs, rfl, OG_psh ho h.2.1.2.2.2⟩, h.2.2.1, h.2.2.2⟩
theorem t_place (h : Rs u v q qs L n m c) : pL_c1 v4 k1 u v f KK := by
  have ho := h.1.2.2
  unfold pL_c1 pL_place pX5_place pX6_place
  rcases out16 k1 (n := 16) (by omega) with hx | ⟨p, hp4, rfl⟩
  · exact p_cellO hx (io (m_placeO hx (ifp rfl (m_thr (ifp rfl (ifn (by decide) fun _ _ => ⟨q, qs, L, n, m, c, h⟩))))))
  · refine p_cellY hp4 (p_canPut h.1.1 ho hp4 ?_)
    cases e : cp p q
    · exact ifp rfl (is (m_placeY hp4 (ifn (by decide) (m_canPlace h.1.2.1 ho hp4 (by
        rw [e]
        exact ifp rfl (m_thr (ifp rfl (ifn (by decide) fun _ _ => ⟨q, qs, L, n, m, c, h⟩))))))))
    · have ho2 := OG_pt ho hp4 e
      refine ifn (by decide) (p_record h.2.1.1 h.1.1 fun h' hh' => p_putGift h.1.1 ho hp4 e fun w5 h5 => ⟨bI_n _, ?_⟩)
      cases eb : pw p q
      · refine ifp rfl ?_
        refine m_placeY hp4 (ifn (by decide) (m_canPlace h.1.2.1 ho hp4 ?_))
        rw [e]
        refine ifn (by decide) (m_records (u := (v.1, v.2.1, v.2.2.1, v.2.2.2.1, v.2.2.2.2.1, v.2.2.2.2.2.1, v.2.2.2.2.2.2.1, v.2.2.2.2.2.2.2.1, v.2.2.2.2.2.2.2.2.1, v.2.2.2.2.2.2.2.2.2.1, 0, v.2.2.2.2.2.2.2.2.2.2.2)) h.1.2.1 h.2.1.2.1 h.2.1.2.2.1 fun s hs => m_places (u := sRec v s (nI (min (n + 1) 4)) 0) h.1.2.1 ho hp4 e fun a ha => ⟨bI_n _, m_thr ?_⟩)
        rw [eb]
        refine ifp rfl (ifp rfl (ifp rfl (ifp ?_ fun _ _ => ?_)))
        · show lg_cmp (vp_updL f 0 0 0) 0 = 0
          rw [pk_uLs]
          exact cmp_eq
        · exact ⟨pt p q, qs, psh q L, min (n + 1) 4, m, c, ⟨h5, ha, ho2⟩, ⟨hh', hs, rfl, OG_psh ho h.2.1.2.2.2⟩, h.2.2.1, h.2.2.2⟩
      · refine ifn (by decide) ?_
        refine m_placeY hp4 (ifn (by decide) (m_canPlace h.1.2.1 ho hp4 ?_))
        rw [e]
        refine ifn (by decide) (m_records (u := (v.1, v.2.1, v.2.2.1, v.2.2.2.1, v.2.2.2.2.1, v.2.2.2.2.2.1, v.2.2.2.2.2.2.1, v.2.2.2.2.2.2.2.1, v.2.2.2.2.2.2.2.2.1, v.2.2.2.2.2.2.2.2.2.1, 0, v.2.2.2.2.2.2.2.2.2.2.2)) h.1.2.1 h.2.1.2.1 h.2.1.2.2.1 fun s hs => m_places (u := sRec v s (nI (min (n + 1) 4)) 0) h.1.2.1 ho hp4 e fun a ha => ⟨bI_n _, m_thr ?_⟩)
        rw [eb]
        refine ifp rfl (ifp rfl (ifn (by decide) (ifp ?_ fun _ _ => ?_)))
        · show lg_cmp (vp_updL f 0 1 0) 1 = 0
          rw [pk_uLs]
          exact cmp_eq
        · exact ⟨pt p q, qs, psh q L, min (n + 1) 4, m, c, ⟨h5, ha, ho2⟩, ⟨hh', hs, rfl, OG_psh ho h.2.1.2.2.2⟩, h.2.2.1, h.2.2.2⟩
theorem m_restartO {x : Int32} (hx : Out x 2) {Z : Int32 → SM → Prop} (hz : pX6_fails 1 v Z) : pX6_restart x v Z := by
  unfold pX6_restart
  exact m_inO (n := 1) (by omega) hx (ifp rfl hz)
theorem m_restartY (h : Rs u v q qs L n m c) {p : Nat} (hp4 : p < 2) {Z : Int32 → SM → Prop} (hz : ∀ s a, RHm s (psh q L) (min (n + 1) 4) → RA a (ng p q) → Z (nI (ct q.1)) (a, (sRec v s (nI (min (n + 1) 4)) 0).2)) : pX6_restart (nI p) v Z := by
  unfold pX6_restart
  exact m_inY (n := 1) hp4 (by omega) (ifn (by decide) (m_records h.1.2.1 h.2.1.2.1 h.2.1.2.2.1 fun s hs => m_count (u := sRec v s (nI (min (n + 1) 4)) 0) h.1.2.1 h.1.2.2.1 (m_restart (u := sRec v s (nI (min (n + 1) 4)) 0) h.1.2.1 p _ fun a ha => hz s a hs ha)))
theorem t_restart (h : Rs u v q qs L n m c) : pL_c2 v4 k1 u v f KK := by
  have ho := h.1.2.2
  unfold pL_c2 pL_restart pX5_restart
  rcases out16 k1 (n := 2) (by omega) with hx | ⟨p, hp4, rfl⟩
  · have n0 : ¬ k1 = 0 := fun z => by
      rcases hx with hx | ⟨-, h2, -⟩
      · rw [z] at hx
        exact absurd hx (by decide)
      · rw [z] at h2
        exact absurd h2 (by decide)
    have n1 : ¬ k1 = 1 := fun z => by
      rcases hx with hx | ⟨-, h2, -⟩
      · rw [z] at hx
        exact absurd hx (by decide)
      · rw [z] at h2
        exact absurd h2 (by decide)
    refine ifn n0 (ifn n1 (ifp rfl (m_restartO hx (m_fails ?_))))
    exact m_thr (cl rfl (fun z => absurd z (by decide)) ⟨q, qs, L, n, m, c, h⟩)
  · have ho2 : OG (ng p q) := OG_ng (by omega) q
    rcases (show p = 0 ∨ p = 1 by omega) with rfl | rfl
    · refine ifp rfl (p_count h.1.1.2.2.2.2 (p_record h.2.1.1 h.1.1 fun h' hh' => p_begin h.1.1 0 fun w5 h5 => m_restartY h hp4 fun s a hs ha => m_thr (cl rfl (fun _ => uL0 f _) ?_)))
      exact ⟨ng 0 q, qs, psh q L, min (n + 1) 4, m, c, ⟨h5, ha, ho2⟩, ⟨hh', hs, rfl, OG_psh ho h.2.1.2.2.2⟩, h.2.2.1, h.2.2.2⟩
    · refine ifn (by decide) (ifp rfl (p_count h.1.1.2.2.2.2 (p_record h.2.1.1 h.1.1 fun h' hh' => p_begin h.1.1 1 fun w5 h5 => m_restartY h hp4 fun s a hs ha => m_thr (cl rfl (fun _ => uL0 f _) ?_))))
      exact ⟨ng 1 q, qs, psh q L, min (n + 1) 4, m, c, ⟨h5, ha, ho2⟩, ⟨hh', hs, rfl, OG_psh ho h.2.1.2.2.2⟩, h.2.2.1, h.2.2.2⟩
end Top
