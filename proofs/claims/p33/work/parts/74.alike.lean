/-! the two games, side by side -/
theorem mg_svI {q : PG} (ho : OG q) : iN (fun i => sB q (15 - i)) = svI (mg q) := by
  rw [svI_iN]
  refine iN_ext fun i hi => ?_
  have h := mg_sfT (q := q) (p := 15 - i) (by omega) ho
  rw [show 15 - (15 - i) = i by omega] at h
  unfold sB
  rw [mg_ov, h]
theorem mg_ocI {q : PG} (ho : OG q) : ocI (mg q) = ocI q := by
  unfold ocI
  rw [mg_ov, mg_ct, vO_mg ho]
theorem mg_wcI {q : PG} {p : Nat} (ho : OG q) (hp4 : p < 16) : (wcI p q = -1 ∧ wcI (15 - p) (mg q) = -1) ∨ ∃ a c, a < 16 ∧ c < 16 ∧ wcI p q = nI a ∧ wcI (15 - p) (mg q) = nI c := by
  unfold wcI
  rw [mg_ov, mg_hp hp4]
  cases e : ov q
  · cases e2 : hp q.1 p
    · have h := exW_mb (r := q.2.2.1) ho.1 hp4 e2
      rw [if_neg (by decide), if_neg (by decide)]
      show (oI (fU (wF q.1 q.2.2.1 p) 16 0) = -1 ∧ oI (fU (wF (mb q.1) q.2.2.1 (15 - p)) 16 0) = -1) ∨ ∃ a c, a < 16 ∧ c < 16 ∧ oI (fU (wF q.1 q.2.2.1 p) 16 0) = nI a ∧ oI (fU (wF (mb q.1) q.2.2.1 (15 - p)) 16 0) = nI c
      rcases oI_c (wF q.1 q.2.2.1 p) with x | ⟨a, ha, x1, _, x⟩
      · refine Or.inl ⟨x, oI_ex.mpr ?_⟩
        rw [h]
        exact oI_ex.mp x
      · rcases oI_c (wF (mb q.1) q.2.2.1 (15 - p)) with y | ⟨c, hc, _, _, y⟩
        · have h2 := oI_ex.mp y
          rw [h] at h2
          have h3 := (oI_ex.mpr h2).symm.trans x
          exact absurd h3.symm (nI_m1 (by omega))
        · exact Or.inr ⟨a, c, ha, hc, x, y⟩
    · exact Or.inl ⟨rfl, rfl⟩
  · exact Or.inl ⟨rfl, rfl⟩
section Alike
variable {u w : SX} {hs : Int32} {q qs : PG} {L : Nat → PG} {n : Nat} {Z : Int32 → SX × SX → Prop}
/-- both objects, as they stand between two calls -/
def R2 (hs : Int32) (q qs : PG) (L : Nat → PG) (n : Nat) (s : SX × SX) : Prop := RX s.1 hs q qs L n ∧ RX s.2 hs (mg q) (mg qs) (fun j => mg (L j)) n
theorem j246 (ho : OG q) {K : Int32 → Int32 → SX → SX → Prop} {i : Nat} (hi : i < 16) (hk : ∀ s, R2 hs q qs L n s → K 1 (nI (i + 1)) s.1 s.2) (hu : RX u hs q qs L n) (hw : RX w hs (mg q) (mg qs) (fun j => mg (L j)) n) : ∃ n9, pL_areAlike_246 Z K n9 (nI i) u w := ⟨1, by
  have hom := OG_mg ho
  have fin : ∀ u' w', RX u' hs q qs L n → RX w' hs (mg q) (mg qs) (fun j => mg (L j)) n → ∀ x : Int32, x = nI i + 1 → K 1 x u' w' := fun u' w' h1 h2 x e => by
    rw [e, nI_1]
    exact hk (u', w') ⟨h1, h2⟩
  rw [pL_areAlike_246]
  refine s_winCell hu ho hi fun u1 h1 => ?_
  rcases mg_wcI ho hi with ⟨e1, e2⟩ | ⟨a, c, ha, hc, e1, e2⟩
  · rw [e1]
    refine ifn (by decide) ?_
    rw [i15 hi]
    refine s_winCell hw hom (show 15 - i < 16 by omega) fun w1 h2 => ?_
    rw [e2]
    exact ifn (by decide) (fin u1 w1 h1 h2)
  · rw [e1]
    refine ifp (nn_le (by omega)) ?_
    rw [i15 hi]
    refine s_winCell hw hom (show 15 - i < 16 by omega) fun w1 h2 => ?_
    rw [e2]
    exact ifp (nn_le (by omega)) (fin u1 w1 h1 h2)⟩
theorem cell_at {b : Nat → Nat} {c p : Nat} (h : WB b) (hc : c < 16) (e : b c = p + 1) : oI (fU (fun k => b k == p + 1) 16 0) = nI c := by
  rw [fU_one (p := fun k => b k == p + 1) hc (by simp [e]) (fun k hk z => by
    rw [beq_iff_eq] at z
    exact h.2 k c hk hc (by omega) (by rw [z, e]))]
  rfl
theorem j221 (ho : OG q) {K : Int32 → Int32 → SX → SX → Prop} {i : Nat} (hi : i < 16) (hk : ∀ s, R2 hs q qs L n s → K 1 (nI (i + 1)) s.1 s.2) (hu : RX u hs q qs L n) (hw : RX w hs (mg q) (mg qs) (fun j => mg (L j)) n) : ∃ n9, pL_areAlike_221 Z K n9 (nI i) (oI (fU (fun k => q.1 k == i + 1) 16 0)) u w := ⟨1, by
  have hom := OG_mg ho
  rw [pL_areAlike_221, i15 hi]
  refine s_cellOf hw hom (show 15 - i < 16 by omega) ?_
  cases e : hp q.1 i
  · have e2 : hp (mg q).1 (15 - i) = false := by rw [mg_hp hi]; exact e
    rw [oI_no e, oI_no e2]
    exact ifn (by decide) (ifp rfl (j246 ho hi hk hu hw))
  · obtain ⟨c, hc, e3⟩ := hp_iff.mp e
    have e4 : (mg q).1 (tn c) = 15 - i + 1 := by
      show mb q.1 (tn c) = _
      rw [mb_t, e3, mx_p hi]
    rw [cell_at ho.1 hc e3, cell_at hom.1 (tn_lt hc) e4]
    exact ifp (nn_le (by omega)) (s_turned hc (ifp rfl (j246 ho hi hk hu hw)))⟩
theorem loop292 (ho : OG q) (hz : ∀ s, Z 1 s) (hu : RX u hs q qs L n) (hw : RX w hs (mg q) (mg qs) (fun j => mg (L j)) n) : ∃ n9, pL_areAlike_292 Z n9 1 0 u w := by
  have hom := OG_mg ho
  have hl := ln_le q.2.2.1
  refine pk_loop (fun k i (s : SX × SX) => pL_areAlike_292 Z k 1 (nI i) s.1 s.2) (fun _ s => R2 hs q qs L n s) (ln q.2.2.1) 0 (u, w) (by omega) ⟨hu, hw⟩ ?_ ?_
  · rintro k ⟨u1, w1⟩ ⟨h1, h2⟩
    show pL_areAlike_292 Z (k + 1) 1 (nI (ln q.2.2.1)) u1 w1
    rw [pL_areAlike_292]
    exact s_lines h1 ho (ifp ((nI_leI (by omega) (by omega)).mpr (Nat.le_refl _)) ⟨rfl, hz _⟩)
  · rintro k i ⟨u1, w1⟩ hi ⟨h1, h2⟩ hk
    show pL_areAlike_292 Z (k + 1) 1 (nI i) u1 w1
    have h1 : RX u1 hs q qs L n := h1
    have h2 : RX w1 hs (mg q) (mg qs) (fun j => mg (L j)) n := h2
    have hlm : lm i < ln (mg q).2.2.1 := lm_ln hi
    rw [pL_areAlike_292]
    refine s_lines h1 ho (ifn (mt (nI_leI (by omega) (by omega)).mp (by omega)) (s_shared h1 ho hi (ifn (by decide) (s_piecesOn h1 ho hi (s_line (by omega) (s_piecesOn h2 hom hlm (ifp ?_ (s_line (by omega) (s_shared h2 hom hlm (ifp ?_ ?_))))))))))
    · rw [show mn (mg q).1 (lm i) = mn q.1 i from mn_mb (by omega)]
    · exact (sh_sw (f := shF q.1 i) (g := shF (mb q.1) (lm i)) (fun j hj => shF_no hj) (fun j hj => shF_no hj) (fun t ht => ⟨shF_m1 (by omega) ho.1 ht, shF_m2 (by omega) ho.1 ht⟩)).symm
    · intro x ex
      rw [ex, nI_1]
      exact hk (u1, w1) ⟨h1, h2⟩
theorem loop172 (ho : OG q) (hz : ∀ s, Z 1 s) (hu : RX u hs q qs L n) (hw : RX w hs (mg q) (mg qs) (fun j => mg (L j)) n) : ∃ n9, pL_areAlike_172 Z n9 1 0 u w := by
  have hom := OG_mg ho
  refine pk_loop (fun k i (s : SX × SX) => pL_areAlike_172 Z k 1 (nI i) s.1 s.2) (fun _ s => R2 hs q qs L n s) 16 0 (u, w) (by omega) ⟨hu, hw⟩ ?_ ?_
  · rintro k ⟨u1, w1⟩ ⟨h1, h2⟩
    show pL_areAlike_172 Z (k + 1) 1 (nI 16) u1 w1
    rw [pL_areAlike_172]
    exact ifp ((ile 16 (k := 16) rfl (by omega) (by omega)).mpr (by omega)) (loop292 ho hz h1 h2)
  · rintro k i ⟨u1, w1⟩ hi ⟨h1, h2⟩ hk
    show pL_areAlike_172 Z (k + 1) 1 (nI i) u1 w1
    have h1 : RX u1 hs q qs L n := h1
    have h2 : RX w1 hs (mg q) (mg qs) (fun j => mg (L j)) n := h2
    have h16 := ho.1.1 i hi
    rw [pL_areAlike_172]
    refine ifn (mt (ile 16 (k := 16) rfl (by omega) (by omega)).mp (by omega)) (s_pieceOn h1 ho hi (s_cellOf h1 ho hi (ifn (by decide) (s_turned hi (s_pieceOn h2 hom (tn_lt hi) ?_)))))
    rw [show (mg q).1 (tn i) = mx (q.1 i) from mb_t q.1 i]
    by_cases e : q.1 i = 0
    · rw [e, mx_0, pm_0]
      exact ifn (by decide) (ifp rfl (j221 ho hi (fun s hs' => hk s hs') h1 h2))
    · obtain ⟨p, hp⟩ : ∃ p, q.1 i = p + 1 := ⟨q.1 i - 1, by omega⟩
      rw [hp, mx_p (by omega), pm_s, pm_s]
      exact ifp (nn_le (by omega)) (ifp (i15 (show p < 16 by omega)).symm (j221 ho hi (fun s hs' => hk s hs') h1 h2))
theorem j47 (ho : OG q) (hz : ∀ s, Z 1 s) (hu : RX u hs q qs L n) (hw : RX w hs (mg q) (mg qs) (fun j => mg (L j)) n) : ∃ n9, pL_areAlike_47 Z n9 u w := ⟨1, by
  have hom := OG_mg ho
  rw [pL_areAlike_47]
  refine s_mover hu ho (s_mover hw hom (ifp (mg_mvI q).symm (s_winner hu (s_winner hw (ifp rfl (s_over hu ho (s_over hw hom (ifp (by rw [mg_ov]) (s_lines hu ho (s_lines hw hom (ifp rfl (s_won hu ho (s_won hw hom (ifp ?_ (s_wins0 hu (s_wins0 hw (ifp rfl (s_wins1 hu (s_wins1 hw (ifp rfl (s_rec hu (s_rec hw (ifp rfl (s_safeT hu ho fun u1 h1 => ?_))))))))))))))))))))))))
  · exact congrArg nI (wC_mb q.2.2.1 ho.1).symm
  · rw [svI_iN]
    refine s_other (sB q) (s_safeL hw hom (ifp (mg_svI ho) (s_outcome h1 ho fun u2 h2 => s_outcome hw hom fun w2 h3 => ifp (mg_ocI ho).symm (loop172 ho hz h2 h3))))⟩
theorem t_areAlike (hz : ∀ s, Z 1 s) (h : KK u w) : pL_areAlike u w Z := by
  obtain ⟨hs, q, qs, L, n, hu, hw, ho, hL, hS⟩ := h
  have ho := ho.1
  have hg16 := ho.2.1
  have hj := j47 ho hz hu hw
  unfold pL_areAlike
  refine s_rule hu (s_rule hw (ifp rfl (s_placed hu (s_placed hw (ifp (by rw [mg_ct]) (s_gift hu (s_gift hw ?_)))))))
  show (if (0 : Int32) ≤ pm (mx q.2.1) then _ else _)
  by_cases e : q.2.1 = 0
  · rw [e, mx_0, pm_0]
    exact ifn (by decide) (ifp rfl hj)
  · obtain ⟨p, hp⟩ : ∃ p, q.2.1 = p + 1 := ⟨q.2.1 - 1, by omega⟩
    have e1 : pm (mx q.2.1) = nI (15 - p) := by rw [hp, mx_p (by omega), pm_s]
    rw [e1]
    refine ifp (nn_le (by omega)) (s_gift hw (ifp ?_ hj))
    show pm q.2.1 = 15 - pm (mx q.2.1)
    rw [e1, hp, pm_s, i15 (show 15 - p < 16 by omega), show 15 - (15 - p) = p by omega]
end Alike
