/-! a game by itself: cells by pieces, lines by cells, safe pieces, whose move it is -/
/-- the numbers of eight bits -/
theorem bN_lo {f : Nat → Bool} (hf : ∀ i, 8 ≤ i → f i = false) : bN f 16 = bN f 8 := by
  refine Nat.eq_of_testBit_eq fun i => ?_
  rw [bN_bit, bN_bit]
  by_cases h8 : i < 8
  · rw [decide_eq_true h8, decide_eq_true (show i < 16 by omega)]
  · rw [hf i (by omega), Bool.and_false, Bool.and_false]
theorem iN_lo {f : Nat → Bool} (hf : ∀ i, 8 ≤ i → f i = false) : iN f = nI (bN f 8) ∧ bN f 8 < 256 := ⟨congrArg nI (bN_lo hf), bN_lt f 8⟩
theorem sw8 : ∀ s, s < 256 → (((nI s &&& 15) * 16) + (nI s / 16)) = nI (s % 16 * 16 + s / 16) ∧ ((nI s &&& 15) &&& (nI s / 16)) = nI (Nat.land (s % 16) (s / 16)) := by decide +kernel
def b8 (a0 a1 a2 a3 a4 a5 a6 a7 : Bool) : Nat := ((((((((0 ||| (if a0 then 1 else 0)) ||| (if a1 then 2 else 0)) ||| (if a2 then 4 else 0)) ||| (if a3 then 8 else 0)) ||| (if a4 then 16 else 0)) ||| (if a5 then 32 else 0)) ||| (if a6 then 64 else 0)) ||| (if a7 then 128 else 0))
theorem b8_sw : ∀ a0 a1 a2 a3 a4 a5 a6 a7 : Bool, b8 a0 a1 a2 a3 a4 a5 a6 a7 % 16 * 16 + b8 a0 a1 a2 a3 a4 a5 a6 a7 / 16 = b8 a4 a5 a6 a7 a0 a1 a2 a3 := by decide +kernel
theorem b8_an : ∀ a0 a1 a2 a3 a4 a5 a6 a7 : Bool, Nat.land (b8 a0 a1 a2 a3 a4 a5 a6 a7 % 16) (b8 a0 a1 a2 a3 a4 a5 a6 a7 / 16) = b8 (a0 && a4) (a1 && a5) (a2 && a6) (a3 && a7) false false false false := by decide +kernel
theorem bN_8 (f : Nat → Bool) : bN f 8 = b8 (f 0) (f 1) (f 2) (f 3) (f 4) (f 5) (f 6) (f 7) := rfl
theorem sh_sw {f g : Nat → Bool} (hf : ∀ i, 8 ≤ i → f i = false) (hg : ∀ i, 8 ≤ i → g i = false) (h : ∀ i, i < 4 → g i = f (4 + i) ∧ g (4 + i) = f i) : (((iN f &&& 15) * 16) + (iN f / 16)) = iN g := by
  obtain ⟨e1, e2⟩ := iN_lo hf
  rw [e1, (iN_lo hg).1, (sw8 _ e2).1, bN_8, bN_8, b8_sw, (h 0 (by omega)).1, (h 1 (by omega)).1, (h 2 (by omega)).1, (h 3 (by omega)).1, show g 4 = f 0 from (h 0 (by omega)).2, show g 5 = f 1 from (h 1 (by omega)).2, show g 6 = f 2 from (h 2 (by omega)).2, show g 7 = f 3 from (h 3 (by omega)).2]
theorem sh_an {f : Nat → Bool} (hf : ∀ i, 8 ≤ i → f i = false) : ((iN f &&& 15) &&& (iN f / 16)) = nI (b8 (f 0 && f 4) (f 1 && f 5) (f 2 && f 6) (f 3 && f 7) false false false false) := by
  obtain ⟨e1, e2⟩ := iN_lo hf
  rw [e1, (sw8 _ e2).2, bN_8, b8_an]
theorem i255 : (255 : Int32) = iN (fun i => decide (i < 8)) := by decide +kernel
section Lines
variable {b : Nat → Nat} {l : Nat}
theorem sh_emp (h : mn b l = 0) : ∀ i, i < 8 → shF b l i = true := by
  have hn : ∀ k, k < 4 → ne b (lc l k) = false := fun k hk => by
    cases e : ne b (lc l k)
    · rfl
    · have : 0 < mn b l := cN_pos.mpr ⟨k, hk, e⟩
      omega
  have ht : ∀ t k, k < 4 → tr b t (lc l k) = false := fun t k hk => by rw [← tr_imp, hn k hk]; rfl
  intro i hi
  by_cases h4 : i < 4
  · rw [shF_lo h4]
    exact al_iff.mpr ⟨by rw [hn 0 (by omega)]; rfl, by rw [hn 1 (by omega)]; rfl, by rw [hn 2 (by omega)]; rfl, by rw [hn 3 (by omega)]; rfl⟩
  · obtain ⟨t, rfl⟩ : ∃ t, i = 4 + t := ⟨i - 4, by omega⟩
    rw [shF_hi (by omega)]
    exact al_iff.mpr ⟨by rw [ht t 0 (by omega)]; rfl, by rw [ht t 1 (by omega)]; rfl, by rw [ht t 2 (by omega)]; rfl, by rw [ht t 3 (by omega)]; rfl⟩
theorem al_at {f : Nat → Bool} (h : al f = true) : ∀ k, k < 4 → f k = true := fun k hk => by
  have := al_iff.mp h
  rcases (show k = 0 ∨ k = 1 ∨ k = 2 ∨ k = 3 by omega) with rfl | rfl | rfl | rfl
  · exact this.1
  · exact this.2.1
  · exact this.2.2.1
  · exact this.2.2.2
theorem sh_one (h : mn b l ≠ 0) : ∀ t, t < 4 → (shF b l t && shF b l (4 + t)) = false := fun t ht => by
  obtain ⟨k, hk, e⟩ : ∃ k, k < 4 ∧ ne b (lc l k) = true := cN_pos.mp (show 0 < mn b l by omega)
  cases e1 : shF b l t
  · rfl
  · cases e2 : shF b l (4 + t)
    · rfl
    · rw [shF_lo ht] at e1
      rw [shF_hi ht] at e2
      have a1 : (!ne b (lc l k) || tr b t (lc l k)) = true := al_at e1 k hk
      have a2 : (!tr b t (lc l k)) = true := al_at e2 k hk
      rw [e] at a1
      cases z : tr b t (lc l k)
      · rw [z] at a1; cases a1
      · rw [z] at a2; cases a2
theorem sh_255 : iN (shF b l) = 255 ↔ mn b l = 0 := by
  rw [i255, iN_inj]
  constructor
  · intro h
    by_cases z : mn b l = 0
    · exact z
    · have h1 := sh_one z 0 (by omega)
      rw [h 0 (by omega), h 4 (by omega)] at h1
      cases h1
  · intro h i hi
    by_cases h8 : i < 8
    · rw [sh_emp h i h8, decide_eq_true h8]
    · rw [shF_no (by omega), decide_eq_false h8]
theorem sh_15 (h : mn b l = 0) : ((iN (shF b l) &&& 15) &&& (iN (shF b l) / 16)) = 15 := by
  rw [sh_an (fun i hi => shF_no hi), sh_emp h 0 (by omega), sh_emp h 1 (by omega), sh_emp h 2 (by omega), sh_emp h 3 (by omega), sh_emp h 4 (by omega), sh_emp h 5 (by omega), sh_emp h 6 (by omega), sh_emp h 7 (by omega)]
  decide
theorem sh_00 (h : mn b l ≠ 0) : ((iN (shF b l) &&& 15) &&& (iN (shF b l) / 16)) = 0 := by
  rw [sh_an (fun i hi => shF_no hi), show (shF b l 0 && shF b l 4) = false from sh_one h 0 (by omega), show (shF b l 1 && shF b l 5) = false from sh_one h 1 (by omega), show (shF b l 2 && shF b l 6) = false from sh_one h 2 (by omega), show (shF b l 3 && shF b l 7) = false from sh_one h 3 (by omega)]
  decide
end Lines
/-- safe pieces by their bits -/
def sB (q : PG) (i : Nat) : Bool := !ov q && sfT q i
theorem svI_iN (q : PG) : svI q = iN (sB q) := by
  unfold svI sB
  cases ov q
  · rfl
  · exact iN_0.symm
theorem sB_bit (q : PG) {i : Nat} (hi : i < 16) : ((svI q >>> (nI i &&& 31)) &&& 1) = if sB q i then 1 else 0 := by rw [svI_iN, iN_bit _ hi]
theorem sB_hp {q : PG} {i : Nat} (h : hp q.1 i = true) : sB q i = false := by
  unfold sB sfT fr
  rw [h]
  simp
theorem sB_wc {q : PG} {i : Nat} (h : sB q i = true) : wcI i q = -1 := by
  unfold sB sfT at h
  simp only [Bool.and_eq_true, Bool.not_eq_true'] at h
  obtain ⟨h1, h2, h3⟩ := h
  unfold wcI
  rw [h1, fr_hp h2]
  exact oI_ex.mpr h3
section Well
variable {u : SX} {hs : Int32} {q qs : PG} {L : Nat → PG} {n : Nat} {Z : Int32 → SX → Prop}
theorem j139 (ho : OW q) {K : Int32 → Int32 → Int32 → SX → Prop} {i : Nat} (hi : i < 16) {v1 v2 : Int32} (hk : ∀ s', RX s' hs q qs L n → K v1 1 (nI (i + 1)) s') {s : SX} (h : RX s hs q qs L n) : ∃ n9, pL_isWell_139 Z K v2 (svI q) (bI (ov q)) n9 v1 (nI i) s := ⟨1, by
  have hg16 := ho.1.2.1
  have fin : ∀ s', RX s' hs q qs L n → ∀ x : Int32, x = nI i + 1 → K v1 1 x s' := fun s' h' x e => by
    rw [e, nI_1]
    exact hk s' h'
  rw [pL_isWell_139]
  cases e : ov q
  · refine ifp rfl (s_cellOf h ho.1 hi ?_)
    by_cases c1 : (0 : Int32) ≤ oI (fU (fun k => q.1 k == i + 1) 16 0)
    · exact ifp c1 (fin s h)
    · refine ifn c1 (s_gift h ?_)
      by_cases c2 : pm q.2.1 = nI i
      · exact ifp c2 (fin s h)
      · refine ifn c2 (s_winCell h ho.1 hi fun s1 h1 => ?_)
        have e1 : hp q.1 i = false := by
          cases z : hp q.1 i
          · rfl
          · rcases oI_c (fun k => q.1 k == i + 1) with y | ⟨j, hj, _, _, y⟩
            · rw [cell_hp.mp y] at z
              cases z
            · rw [y] at c1
              exact absurd (nn_le (by omega)) c1
        have e2 : fr i q = true := by
          unfold fr
          rw [e1, show (q.2.1 == i + 1) = false by
            rw [beq_eq_false_iff_ne]
            intro z
            rw [z, pm_s] at c2
            exact c2 rfl]
          rfl
        have e3 : wcI i q = oI (fU (wF q.1 q.2.2.1 i) 16 0) := by
          unfold wcI
          rw [e, e1]
          rfl
        have hb := sB_bit q hi
        have e4 : sB q i = !exU (wF q.1 q.2.2.1 i) 16 0 := by
          unfold sB sfT
          rw [e, e2]
          rfl
        rw [e3]
        cases e5 : exU (wF q.1 q.2.2.1 i) 16 0
        · rw [e4, e5] at hb
          rw [oI_ex.mpr e5]
          exact ifn (by decide) (ifp hb (fin s1 h1))
        · rw [e4, e5] at hb
          rcases oI_c (wF q.1 q.2.2.1 i) with y | ⟨j, hj, _, _, y⟩
          · rw [oI_ex.mp y] at e5
            cases e5
          · rw [y]
            exact ifp (nn_le (by omega)) (ifp hb (fin s1 h1))
  · exact ifn (by decide) (fin s h)⟩
theorem j121 (ho : OW q) {K : Int32 → Int32 → Int32 → SX → Prop} {i : Nat} (hi : i < 16) {v1 v2 : Int32} (hk : ∀ s', RX s' hs q qs L n → K v1 1 (nI (i + 1)) s') {s : SX} (h : RX s hs q qs L n) : ∃ n9, pL_isWell_121 Z K v2 (svI q) (bI (ov q)) n9 v1 (nI i) s := ⟨1, by
  rw [pL_isWell_121]
  have hb := sB_bit q hi
  cases e : sB q i
  · rw [e] at hb
    exact ifp hb (j139 ho hi hk h)
  · rw [e] at hb
    refine ifn (by rw [hb]; decide) (s_winCell h ho.1 hi fun s1 h1 => ?_)
    rw [sB_wc e]
    exact ifn (by decide) (j139 ho hi hk h1)⟩
theorem j103 (ho : OW q) {K : Int32 → Int32 → Int32 → SX → Prop} {i : Nat} (hi : i < 16) {v1 v2 : Int32} (hk : ∀ s', RX s' hs q qs L n → K v1 1 (nI (i + 1)) s') {s : SX} (h : RX s hs q qs L n) : ∃ n9, pL_isWell_103 Z K v2 (svI q) (bI (ov q)) n9 v1 (nI i) s := ⟨1, by
  rw [pL_isWell_103]
  have hb := sB_bit q hi
  refine s_cellOf h ho.1 hi ?_
  cases e : hp q.1 i
  · rw [oI_no e]
    exact ifp (by decide) (j121 ho hi hk h)
  · rw [sB_hp e] at hb
    exact ifn (oI_hp e) (ifp hb (j121 ho hi hk h))⟩
theorem j82 (ho : OW q) {K : Int32 → Int32 → Int32 → SX → Prop} {i : Nat} (hi : i < 16) {v1 v2 : Int32} (hk : ∀ s', RX s' hs q qs L n → K v1 1 (nI (i + 1)) s') {s : SX} (h : RX s hs q qs L n) : ∃ n9, pL_isWell_82 Z K v2 (svI q) (bI (ov q)) n9 v1 1 (nI i) (pm (q.1 i)) s := ⟨1, by
  rw [pL_isWell_82]
  refine ifn (by decide) ?_
  by_cases e : q.1 i = 0
  · rw [e, pm_0]
    exact ifp (by decide) (j103 ho hi hk h)
  · obtain ⟨p, hp⟩ : ∃ p, q.1 i = p + 1 := ⟨q.1 i - 1, by omega⟩
    have h16 := ho.1.1.1 i hi
    rw [hp, pm_s]
    refine ifn (nI_pos (by omega)) (s_cellOf h ho.1 (show p < 16 by omega) ?_)
    rw [fU_one (p := fun k => q.1 k == p + 1) hi (by simp [hp]) (fun k hk z => by
      rw [beq_iff_eq] at z
      exact ho.1.1.2 k i hk hi (by omega) (by rw [z, hp]))]
    exact ifp rfl (j103 ho hi hk h)⟩
theorem loop54 (ho : OW q) (H : ∀ s, RX s hs q qs L n → ∃ n9, pL_isWell_201 Z (nI (ct q.1)) (bI (ov q)) n9 0 1 0 s) (h : RX u hs q qs L n) : ∃ n9, pL_isWell_54 Z 0 (svI q) (bI (ov q)) n9 0 1 0 u := by
  refine pk_loop (fun k i (s : SX) => pL_isWell_54 Z 0 (svI q) (bI (ov q)) k (nI (cN (ne q.1) i)) 1 (nI i) s) (fun _ s => RX s hs q qs L n) 16 0 u (by omega) h ?_ ?_
  · intro k s hs
    show pL_isWell_54 Z 0 (svI q) (bI (ov q)) (k + 1) (nI (ct q.1)) 1 (nI 16) s
    rw [pL_isWell_54]
    exact ifp ((ile 16 (k := 16) rfl (by omega) (by omega)).mpr (by omega)) (H s hs)
  · intro k i s hi h1 hk
    show pL_isWell_54 Z 0 (svI q) (bI (ov q)) (k + 1) (nI (cN (ne q.1) i)) 1 (nI i) s
    rw [pL_isWell_54]
    refine ifn (mt (ile 16 (k := 16) rfl (by omega) (by omega)).mp (by omega)) (s_pieceOn h1 ho.1 hi ?_)
    have h16 := ho.1.1.1 i hi
    by_cases e : q.1 i = 0
    · refine ifn (by rw [e, pm_0]; decide) ?_
      intro x ex
      have e2 : x = nI (cN (ne q.1) (i + 1)) := by
        rw [ex, cN, show ne q.1 i = false by simp [ne, e]]
        exact Int32.add_zero _
      rw [e2]
      exact j82 ho hi hk h1
    · refine ifp (by rw [pm_p e]; exact nn_le (by omega)) ?_
      intro x ex
      have e2 : x = nI (cN (ne q.1) (i + 1)) := by
        rw [ex, cN, show ne q.1 i = true by simp [ne, e], nI_1]
        rfl
      rw [e2]
      exact j82 ho hi hk h1
theorem j276 (ho : OW q) {K : Int32 → Int32 → Int32 → SX → Prop} {i : Nat} (hi : i < ln q.2.2.1) {v1 v2 v4 : Int32} (hk : ∀ s', RX s' hs q qs L n → K v2 1 (nI (i + 1)) s') {s : SX} (h : RX s hs q qs L n) : ∃ n9, pL_isWell_276 Z K v1 v4 n9 v2 (nI i) s := ⟨1, by
  have hl := ln_le q.2.2.1
  have hm : mn q.1 i ≤ 4 := cN_le _ _
  have fin : ∀ s', RX s' hs q qs L n → ∀ x : Int32, x = nI i + 1 → K v2 1 x s' := fun s' h' x e => by
    rw [e, nI_1]
    exact hk s' h'
  rw [pL_isWell_276]
  refine s_shared h ho.1 hi (s_shared h ho.1 hi (s_piecesOn h ho.1 hi ?_))
  by_cases e : mn q.1 i = 0
  · exact ifp (by rw [e]; rfl) (ifp (sh_15 e) (fin s h))
  · exact ifn (nI_ne0 (by omega) (by omega)) (ifp (sh_00 e) (fin s h))⟩
theorem j237 (ho : OW q) {K : Int32 → Int32 → Int32 → SX → Prop} {i : Nat} (hi : i < ln q.2.2.1) {v1 v2 v4 : Int32} (hk : ∀ s', RX s' hs q qs L n → K v2 1 (nI (i + 1)) s') {s : SX} (h : RX s hs q qs L n) : ∃ n9, pL_isWell_237 Z K v1 v4 n9 v2 1 (nI i) s := ⟨1, by
  have hm : mn q.1 i ≤ 4 := cN_le _ _
  rw [pL_isWell_237]
  refine ifn (by decide) (s_piecesOn h ho.1 hi ?_)
  by_cases e : mn q.1 i = 0
  · exact ifp (by rw [e]; decide) (s_shared h ho.1 hi (ifp (sh_255.mpr e) (j276 ho hi hk h)))
  · exact ifn (nI_nle (by omega) (by omega)) (s_shared h ho.1 hi (ifn (mt sh_255.mp e) (j276 ho hi hk h)))⟩
theorem j446 (ho : OW q) (hz : ∀ s, RX s hs q qs L n → Z 1 s) {s : SX} (h : RX s hs q qs L n) : ∃ n9, pL_isWell_446 Z n9 (nI (ct q.1)) (nI (wC q.1 q.2.2.1)) s := ⟨1, by
  have hc := ct_le q.1
  have hwc := wC_le q.1 q.2.2.1
  rw [pL_isWell_446]
  by_cases e : wC q.1 q.2.2.1 = 0
  · exact ifp (by rw [e]; rfl) (hz s h)
  · refine ifn (nI_ne0 (by omega) (by omega)) (s_winner h (ifp ?_ (hz s h)))
    have hww : q.2.2.2.1 ≠ 0 := fun z => by
      have := ho.1.2.2.2.2.2 z
      rw [Bool.eq_false_iff, Ne, hw_iff] at this
      omega
    have e2 : nI (ct q.1) - nI (ct q.1) / 2 * 2 = nI (ct q.1 % 2) := pk_rem (d := 2) (by omega) (by omega) (by omega)
    rw [(ho.2 hww).2, pm_s, e2]⟩
theorem j428 (ho : OW q) (hz : ∀ s, RX s hs q qs L n → Z 1 s) {s : SX} (h : RX s hs q qs L n) : ∃ n9, pL_isWell_428 Z n9 (nI (ct q.1)) (nI (wC q.1 q.2.2.1)) s := ⟨1, by
  have hg16 := ho.1.2.1
  rw [pL_isWell_428]
  refine s_gift h ?_
  by_cases e : q.2.1 = 0
  · exact ifp (by rw [e, pm_0]; decide) (j446 ho hz h)
  · have hnp := (ho.1.2.2.2.2.1 e).1
    refine ifn (by rw [pm_p e]; exact nI_pos (by omega)) (s_gift h ?_)
    rw [pm_p e]
    refine s_cellOf h ho.1 (by omega) (ifn ?_ (j446 ho hz h))
    rw [oI_no hnp]
    decide⟩
theorem j396 (ho : OW q) (hz : ∀ s, RX s hs q qs L n → Z 1 s) {s : SX} (h : RX s hs q qs L n) : ∃ n9, pL_isWell_396 Z n9 (nI (ct q.1)) (nI (wC q.1 q.2.2.1)) (bI (ov q)) (nI (ct q.1 % 2)) s := ⟨1, by
  have hg16 := ho.1.2.1
  rw [pL_isWell_396]
  refine s_mover h ho.1 ?_
  cases e : ov q
  · refine ifp rfl (s_gift h ?_)
    rw [mvI_n e]
    unfold mvN
    by_cases g : q.2.1 = 0
    · rw [if_pos g]
      exact ifn (by rw [g, pm_0]; decide) (ifp rfl (j428 ho hz h))
    · rw [if_neg g]
      exact ifp (by rw [pm_p g]; exact nn_le (by omega)) (ifp (pk_sub (a := 1) (by omega)).symm (j428 ho hz h))
  · refine ifn (by decide) (ifp ?_ (j428 ho hz h))
    unfold mvI
    rw [e]
    rfl⟩
theorem j376 (ho : OW q) (hz : ∀ s, RX s hs q qs L n → Z 1 s) {s : SX} (h : RX s hs q qs L n) : ∃ n9, pL_isWell_376 Z n9 (nI (ct q.1)) (nI (wC q.1 q.2.2.1)) (bI (ov q)) (nI (ct q.1 % 2)) s := ⟨1, by
  have hc := ct_le q.1
  have hwc := wC_le q.1 q.2.2.1
  rw [pL_isWell_376]
  by_cases e : q.2.2.2.1 = 0
  · have hnw : wC q.1 q.2.2.1 = 0 := by
      have := ho.1.2.2.2.2.2 e
      rw [Bool.eq_false_iff, Ne, hw_iff] at this
      omega
    refine ifn (by rw [hnw]; decide) ?_
    by_cases e2 : ct q.1 = 16
    · have : ov q = true := by unfold ov; rw [e2]; simp
      exact ifp (by rw [e2]; rfl) (ifp (by rw [this]; rfl) (j396 ho hz h))
    · have : ov q = false := ov_f.mpr ⟨e, e2⟩
      exact ifn (fun z => e2 ((ieq 16 (k := 16) rfl (by omega) (by omega)).mp z)) (ifp (by rw [this]; rfl) (j396 ho hz h))
  · have hw1 := hw_iff.mp (ho.2 e).1
    have : ov q = true := by unfold ov; simp [e]
    exact ifp ((igt 0 (k := 0) rfl (by omega) (by omega)).mpr hw1) (ifp (by rw [this]; rfl) (j396 ho hz h))⟩
theorem loop201 (ho : OW q) (hz : ∀ s, RX s hs q qs L n → Z 1 s) (h : RX u hs q qs L n) : ∃ n9, pL_isWell_201 Z (nI (ct q.1)) (bI (ov q)) n9 0 1 0 u := by
  have hl := ln_le q.2.2.1
  have hc := ct_le q.1
  have hwc := wC_le q.1 q.2.2.1
  have e2 : nI (ct q.1) - nI (ct q.1) / 2 * 2 = nI (ct q.1 % 2) := pk_rem (d := 2) (by omega) (by omega) (by omega)
  refine pk_loop (fun k i (s : SX) => pL_isWell_201 Z (nI (ct q.1)) (bI (ov q)) k (nI (cN (wL q.1) i)) 1 (nI i) s) (fun _ s => RX s hs q qs L n) (ln q.2.2.1) 0 u (by omega) h ?_ ?_
  · intro k s h1
    show pL_isWell_201 Z (nI (ct q.1)) (bI (ov q)) (k + 1) (nI (wC q.1 q.2.2.1)) 1 (nI (ln q.2.2.1)) s
    rw [pL_isWell_201]
    refine s_lines h1 ho.1 (ifp ((nI_leI (by omega) (by omega)).mpr (Nat.le_refl _)) ?_)
    intro x8 e8
    rw [e8, e2]
    refine ifn (by decide) (s_placed h1 (ifp rfl (s_won h1 ho.1 (ifp rfl ?_))))
    by_cases e : q.2.2.2.1 = 0
    · exact ifp (wC_0.mpr (ho.1.2.2.2.2.2 e)) (s_winner h1 (ifp (by rw [e, pm_0]; decide) (j376 ho hz h1)))
    · refine ifn (fun z => by have := wC_0.mp z; rw [(ho.2 e).1] at this; cases this) (s_winner h1 (ifn ?_ (j376 ho hz h1)))
      have := ho.1.2.2.2.1
      rw [pm_p e]
      exact nI_pos (by omega)
  · intro k i s hi h1 hk
    show pL_isWell_201 Z (nI (ct q.1)) (bI (ov q)) (k + 1) (nI (cN (wL q.1) i)) 1 (nI i) s
    rw [pL_isWell_201]
    have hm : mn q.1 i ≤ 4 := cN_le _ _
    have f0 : wL q.1 i = false → ∀ x : Int32, x = nI (cN (wL q.1) i) + 0 → x = nI (cN (wL q.1) (i + 1)) := fun e x ex => by
      rw [ex, cN, e]
      exact Int32.add_zero _
    have f1 : wL q.1 i = true → ∀ x : Int32, x = nI (cN (wL q.1) i) + 1 → x = nI (cN (wL q.1) (i + 1)) := fun e x ex => by
      rw [ex, cN, e, nI_1]
      rfl
    refine s_lines h1 ho.1 (ifn (mt (nI_leI (by omega) (by omega)).mp (by omega)) (s_piecesOn h1 ho.1 hi ?_))
    by_cases e4 : mn q.1 i = 4
    · refine ifp (by rw [e4]; rfl) (s_shared h1 ho.1 hi ?_)
      by_cases e5 : iN (shF q.1 i) = 0
      · refine ifp e5 ?_
        intro x ex
        rw [f0 (by unfold wL; rw [shF_ex.mp e5, Bool.and_false]) x ex]
        exact j237 ho hi hk h1
      · refine ifn e5 ?_
        intro x ex
        have e6 : wL q.1 i = true := by
          unfold wL
          rw [e4]
          cases z : exU (fun t => shF q.1 i t || shF q.1 i (4 + t)) 4 0
          · exact absurd (shF_ex.mpr z) e5
          · rfl
        rw [f1 e6 x ex]
        exact j237 ho hi hk h1
    · refine ifn (fun z => e4 ((ieq 4 (k := 4) rfl (by omega) (by omega)).mp z)) ?_
      intro x ex
      rw [f0 (by unfold wL; rw [show (mn q.1 i == 4) = false by simp [e4]]; rfl) x ex]
      exact j237 ho hi hk h1
theorem t_isWell (ho : OW q) (hz : ∀ s, RX s hs q qs L n → Z 1 s) (h : RX u hs q qs L n) : pL_isWell u Z := by
  unfold pL_isWell
  refine s_safeT h ho.1 fun s h1 => s_over h1 ho.1 (s_safeL h1 ho.1 (ifp rfl (s_lines h1 ho.1 (s_rule h1 ?_))))
  have hl := loop54 (Z := Z) ho (fun s h2 => loop201 ho hz h2) h1
  have hr := ho.1.2.2.1
  rcases (show q.2.2.1 = 0 ∨ q.2.2.1 = 1 by omega) with e | e
  · rw [e]
    exact ifp rfl (ifp rfl hl)
  · rw [e]
    exact ifn (by decide) (ifp rfl hl)
end Well
