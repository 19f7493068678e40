/-! the model: its board and game -/
def RA (a : Nat → Int32) (q : PG) : Prop := (∀ k, k < 16 → a k = nI (q.1 k)) ∧ a 16 = nI q.2.1 ∧ a 17 = nI q.2.2.1 ∧ a 18 = q.2.2.2.2.1 ∧ a 19 = q.2.2.2.2.2 ∧ a 20 = nI q.2.2.2.1
theorem z0 (i : Nat) : (0 : Int32) + nI i = nI i := by rw [show (0 : Int32) = nI 0 from rfl, nI_add, Nat.zero_add]
theorem RA_cell {a : Nat → Int32} {q : PG} (h : RA a q) {c x : Nat} (hc : c < 16) : RA (upd a c (nI x)) (fu q.1 c x, q.2) := by
  refine ⟨fun k hk => ?_, ?_, ?_, ?_, ?_, ?_⟩
  · show upd a c (nI x) k = nI (fu q.1 c x k)
    by_cases e : k = c
    · rw [e, pk_us, fu_s]
    · rw [pk_un e, fu_n e]
      exact h.1 k hk
  · exact (pk_un (by omega)).trans h.2.1
  · exact (pk_un (by omega)).trans h.2.2.1
  · exact (pk_un (by omega)).trans h.2.2.2.1
  · exact (pk_un (by omega)).trans h.2.2.2.2.1
  · exact (pk_un (by omega)).trans h.2.2.2.2.2
theorem RA_gift {a : Nat → Int32} {q : PG} (h : RA a q) (x : Nat) : RA (upd a 16 (nI x)) (q.1, x, q.2.2) :=
  ⟨fun k hk => (pk_un (by omega)).trans (h.1 k hk), pk_us, (pk_un (by omega)).trans h.2.2.1, (pk_un (by omega)).trans h.2.2.2.1, (pk_un (by omega)).trans h.2.2.2.2.1, (pk_un (by omega)).trans h.2.2.2.2.2⟩
theorem fU_none {p : Nat → Bool} : ∀ k j, fU p k j = none ↔ ∀ i, j ≤ i → i < j + k → p i = false
  | 0, j => ⟨fun _ i h1 h2 => absurd h2 (by omega), fun _ => rfl⟩
  | k + 1, j => by
    rw [fU]
    cases e : p j
    · rw [if_neg (by simp), fU_none k (j + 1)]
      refine ⟨fun h i h1 h2 => ?_, fun h i h1 h2 => h i (by omega) (by omega)⟩
      by_cases z : i = j
      · rw [z]; exact e
      · exact h i (by omega) (by omega)
    · rw [if_pos rfl]
      refine ⟨fun h => (by cases h), fun h => ?_⟩
      have := h j (by omega) (by omega)
      rw [e] at this
      cases this
theorem fU_lt {p : Nat → Bool} : ∀ k j i, fU p k j = some i → j ≤ i ∧ i < j + k ∧ p i = true
  | 0, j, i, h => by cases h
  | k + 1, j, i, h => by
    rw [fU] at h
    cases e : p j
    · rw [e, if_neg (by simp)] at h
      have := fU_lt k (j + 1) i h
      exact ⟨by omega, by omega, this.2.2⟩
    · rw [e, if_pos rfl] at h
      cases h
      exact ⟨by omega, by omega, e⟩
theorem oI_none {p : Nat → Bool} {k j : Nat} (hk : j + k < 1000) : oI (fU p k j) = -1 ↔ ∀ i, j ≤ i → i < j + k → p i = false := by
  rw [← fU_none]
  cases e : fU p k j with
  | none => exact ⟨fun _ => rfl, fun _ => rfl⟩
  | some i =>
    have := fU_lt k j i e
    refine ⟨fun h => ?_, fun h => (by cases h)⟩
    have h2 : nI i = -1 := h
    exact absurd (h2 ▸ (by decide : (-1 : Int32) < 0)) (nI_pos (by omega))
theorem cell_hp {b : Nat → Nat} {p : Nat} : oI (fU (fun k => b k == p + 1) 16 0) = -1 ↔ hp b p = false := by
  rw [oI_none (by omega)]
  constructor
  · intro h
    cases e : hp b p
    · rfl
    · obtain ⟨k, hk, e2⟩ := hp_iff.mp e
      have := h k (by omega) (by omega)
      simp [e2] at this
  · intro h i _ hi
    have := hp_not h (k := i) (by omega)
    simp [this]
def cof (p0 p1 : Int32) : Int32 := if (4 : Int32) ≤ p0 then (if (8 : Int32) ≤ p0 then (if (10 : Int32) ≤ p0 then (((4 * ((p0 - 10) / 3)) + ((p0 - 10) - (p0 - 10) / 3 * 3)) + ((p1 / 2) * 4)) + (p1 - p1 / 2 * 2) else (if p0 = 8 then 5 * p1 else (3 * p1) + 3)) else ((4 * p1) + p0) - 4) else (4 * p0) + p1
theorem cof_lc : ∀ l, l < 19 → ∀ k, k < 4 → cof (nI l) (nI k) = nI (lc l k) := by decide +kernel
theorem m_cellOfLine {l k : Nat} (hl : l < 19) (hk : k < 4) {Z : Int32 → Prop} (hz : Z (nI (lc l k))) : pX6_cellOfLine (nI l) (nI k) Z := by
  rw [← cof_lc l hl k hk] at hz
  unfold cof at hz
  unfold pX6_cellOfLine
  by_cases h1 : (4 : Int32) ≤ nI l
  · rw [if_pos h1] at hz ⊢
    by_cases h2 : (8 : Int32) ≤ nI l
    · rw [if_pos h2] at hz ⊢
      by_cases h3 : (10 : Int32) ≤ nI l
      · rw [if_pos h3] at hz ⊢
        intro x4 e4
        rw [e4]
        exact hz
      · rw [if_neg h3] at hz ⊢
        by_cases h4 : nI l = 8
        · rw [if_pos h4] at hz ⊢
          exact hz
        · rw [if_neg h4] at hz ⊢
          exact hz
    · rw [if_neg h2] at hz ⊢
      exact hz
  · rw [if_neg h1] at hz ⊢
    exact hz
/-- the traits of a piece by bits -/
def tF (p i : Nat) : Bool := if i < 4 then p.testBit i else if i < 8 then !p.testBit (i - 4) else false
theorem tF_iN : ∀ p, p < 16 → nI p ||| ((15 - nI p) <<< (4 &&& 31)) = iN (tF p) := by decide +kernel
theorem i255 : (255 : Int32) = iN (fun i => decide (i < 8)) := by decide +kernel
def shB (b : Nat → Nat) (l : Nat) : Nat → Nat → Bool
  | 0, i => decide (i < 8)
  | k + 1, i => shB b l k i && (!ne b (lc l k) || tF (b (lc l k) - 1) i)
theorem shB_8 (b : Nat → Nat) (l : Nat) : ∀ k i, (shB b l k i && decide (i < 8)) = shB b l k i
  | 0, i => by simp [shB]
  | k + 1, i => by
    have := shB_8 b l k i
    rw [shB]
    cases h : decide (i < 8)
    · rw [h, Bool.and_false] at this
      rw [← this]
      simp
    · simp
theorem tF_lo (b : Nat → Nat) (c : Nat) {i : Nat} (h : i < 4) : (!ne b c || tF (b c - 1) i) = (!ne b c || tr b i c) := by
  unfold tF tr ne
  rw [if_pos h]
  cases b c != 0 <;> simp
theorem tF_hi (b : Nat → Nat) (c : Nat) {i : Nat} (h4 : ¬ i < 4) (h : i < 8) : (!ne b c || tF (b c - 1) i) = !tr b (i - 4) c := by
  unfold tF tr ne
  rw [if_neg h4, if_pos h]
  cases b c != 0 <;> simp
theorem shB_4 (b : Nat → Nat) (l i : Nat) : shB b l 4 i = shF b l i := by
  show ((((decide (i < 8) && _) && _) && _) && _) = _
  unfold shF al
  by_cases h4 : i < 4
  · rw [if_pos h4, tF_lo _ _ h4, tF_lo _ _ h4, tF_lo _ _ h4, tF_lo _ _ h4, decide_eq_true (show i < 8 by omega), Bool.true_and]
  · rw [if_neg h4]
    by_cases h8 : i < 8
    · rw [if_pos h8, tF_hi _ _ h4 h8, tF_hi _ _ h4 h8, tF_hi _ _ h4 h8, tF_hi _ _ h4 h8, decide_eq_true h8, Bool.true_and]
    · rw [if_neg h8, decide_eq_false h8]
      rfl
theorem shF_ex {b : Nat → Nat} {l : Nat} : iN (shF b l) = 0 ↔ exU (fun t => shF b l t || shF b l (4 + t)) 4 0 = false := by
  rw [iN_eq0, Bool.eq_false_iff, Ne, exU_iff]
  constructor
  · rintro h ⟨i, _, hi, e⟩
    rw [h i (by omega), h (4 + i) (by omega)] at e
    cases e
  · intro h i hi
    cases e : shF b l i
    · rfl
    · refine absurd ?_ h
      by_cases h4 : i < 4
      · exact ⟨i, by omega, by omega, by rw [e]; rfl⟩
      · by_cases h8 : i < 8
        · exact ⟨i - 4, by omega, by omega, by rw [show 4 + (i - 4) = i by omega, e, Bool.or_true]⟩
        · rw [shF_no (by omega)] at e
          cases e
section Model
variable {u : SM} {q : PG} {Z : Int32 → Prop}
theorem m_count (h : RA u.1 q) (hw : WB q.1) (hz : Z (nI (ct q.1))) : pX6_count u Z := by
  unfold pX6_count
  refine pk_loop (fun n i (s : Int32) => pX6_count_4 Z u n s (nI i)) (fun i s => s = nI (cN (ne q.1) i)) 16 0 0 (by omega) rfl ?_ ?_
  · intro n s hs
    show pX6_count_4 Z u (n + 1) s (nI 16)
    rw [pX6_count_4, if_pos ((ile 16 (k := 16) rfl (by omega) (by omega)).mpr (by omega)), hs]
    exact hz
  · intro n i s hi hs hk
    show pX6_count_4 Z u (n + 1) s (nI i)
    rw [pX6_count_4, if_neg (mt (ile 16 (k := 16) rfl (by omega) (by omega)).mp (by omega)), z0, nI_clamp (by omega), h.1 i hi]
    refine ⟨vp_in_nI (by omega) (by omega), ?_⟩
    have hb := hw.1 i hi
    by_cases e : q.1 i = 0
    · rw [if_pos ((ige 0 (k := 0) rfl (by omega) (by omega)).mpr (by omega))]
      intro x4 e4 x5 e5
      rw [e5, nI_1, e4]
      refine hk _ ?_
      rw [hs, cN, show ne q.1 i = false by simp [ne, e], Int32.add_zero]
      rfl
    · rw [if_neg (mt (ige 0 (k := 0) rfl (by omega) (by omega)).mp (by omega))]
      intro x6 e6 x7 e7
      rw [e7, nI_1, e6]
      refine hk _ ?_
      rw [hs, cN, show ne q.1 i = true by simp [ne, e], nI_1]
      rfl
theorem m_isOver (h : RA u.1 q) (ho : OG q) (hz : Z (bI (ov q))) : pX6_isOverNow u Z := by
  unfold pX6_isOverNow
  rw [h.2.2.2.2.2]
  have hw := ho.2.2.2.1
  have hc := ct_le q.1
  unfold ov at hz
  by_cases e : q.2.2.2.1 = 0
  · rw [if_neg (mt (igt 0 (k := 0) rfl (by omega) (by omega)).mp (by omega))]
    refine m_count h ho.1 ?_
    by_cases e2 : ct q.1 = 16
    · rw [if_pos ((ieq 16 (k := 16) rfl (by omega) (by omega)).mpr e2)]
      simpa [e, e2, bI] using hz
    · rw [if_neg (mt (ieq 16 (k := 16) rfl (by omega) (by omega)).mp e2)]
      simpa [e, e2, bI] using hz
  · rw [if_pos ((igt 0 (k := 0) rfl (by omega) (by omega)).mpr (by omega))]
    simpa [e, bI] using hz
theorem m_cell (h : RA u.1 q) (hw : WB q.1) {p : Nat} (hp4 : p < 16) (hz : Z (oI (fU (fun k => q.1 k == p + 1) 16 0))) : pX6_cell (nI p) u Z := by
  unfold pX6_cell
  refine pk_loop (fun n i (_ : Unit) => pX6_cell_2 Z (nI p) u n (nI i)) (fun i _ => Z (oI (fU (fun k => q.1 k == p + 1) (16 - i) i))) 16 0 () (by omega) hz ?_ ?_
  · intro n s hs
    show pX6_cell_2 Z (nI p) u (n + 1) (nI 16)
    rw [pX6_cell_2, if_pos ((ile 16 (k := 16) rfl (by omega) (by omega)).mpr (by omega))]
    exact hs
  · intro n i s hi hs hk
    show pX6_cell_2 Z (nI p) u (n + 1) (nI i)
    rw [show 16 - i = (16 - (i + 1)) + 1 by omega, fU] at hs
    have hb := hw.1 i hi
    rw [pX6_cell_2, if_neg (mt (ile 16 (k := 16) rfl (by omega) (by omega)).mp (by omega)), z0, nI_clamp (by omega), h.1 i hi, nI_1 p]
    refine ⟨vp_in_nI (by omega) (by omega), ?_⟩
    by_cases e : q.1 i = p + 1
    · rw [if_pos (by rw [e])]
      rw [if_pos (by simp [e])] at hs
      exact hs
    · rw [if_neg (fun z => e ((nI_eq (by omega) (by omega)).mp z))]
      rw [if_neg (by simp [e])] at hs
      intro x4 e4
      rw [e4, nI_1]
      exact hk () hs
theorem m_mover (h : RA u.1 q) (ho : OG q) (hz : Z (nI (mvN q))) : pX6_mover u Z := by
  unfold pX6_mover
  refine m_count h ho.1 ?_
  have hc := ct_le q.1
  have hg := ho.2.1
  intro x2 e2
  have e5 : nI (ct q.1) - nI (ct q.1) / 2 * 2 = nI (ct q.1 % 2) := pk_rem (d := 2) (by omega) (by omega) (by omega)
  rw [e5] at e2
  rw [h.2.1]
  unfold mvN at hz
  by_cases e6 : q.2.1 = 0
  · rw [if_pos e6] at hz
    rw [if_pos ((ige 0 (k := 0) rfl (by omega) (by omega)).mpr (by omega)), e2]
    exact hz
  · rw [if_neg e6] at hz
    rw [if_neg (mt (ige 0 (k := 0) rfl (by omega) (by omega)).mp (by omega)), e2]
    have e7 : (1 : Int32) - nI (ct q.1 % 2) = nI (1 - ct q.1 % 2) := pk_sub (a := 1) (by omega)
    rw [e7]
    exact hz
theorem m_linesNow (h : RA u.1 q) (hr : q.2.2.1 ≤ 1) (hz : Z (nI (ln q.2.2.1))) : pX6_linesNow u Z := by
  unfold pX6_linesNow
  rw [h.2.2.1]
  unfold ln at hz
  by_cases e : q.2.2.1 = 1
  · rw [if_neg (mt (ieq 0 (k := 0) rfl (by omega) (by omega)).mp (by omega))]
    rw [if_pos e] at hz
    exact hz
  · rw [if_pos ((ieq 0 (k := 0) rfl (by omega) (by omega)).mpr (by omega))]
    rw [if_neg e] at hz
    exact hz
theorem m_many (h : RA u.1 q) (hw : WB q.1) {l : Nat} (hl : l < 19) (hz : Z (nI (mn q.1 l))) : pX6_many (nI l) u Z := by
  unfold pX6_many
  refine pk_loop (fun n i (s : Int32) => pX6_many_4 Z (nI l) u n s (nI i)) (fun i s => s = nI (cN (fun k => ne q.1 (lc l k)) i)) 4 0 0 (by omega) rfl ?_ ?_
  · intro n s hs
    show pX6_many_4 Z (nI l) u (n + 1) s (nI 4)
    rw [pX6_many_4, if_pos ((ile 4 (k := 4) rfl (by omega) (by omega)).mpr (by omega)), hs]
    exact hz
  · intro n i s hi hs hk
    show pX6_many_4 Z (nI l) u (n + 1) s (nI i)
    have hc := lc_lt l hl i hi
    have hb := hw.1 _ hc
    rw [pX6_many_4, if_neg (mt (ile 4 (k := 4) rfl (by omega) (by omega)).mp (by omega))]
    refine m_cellOfLine hl hi ?_
    rw [z0, nI_clamp (by omega), h.1 _ hc]
    refine ⟨vp_in_nI (by omega) (by omega), ?_⟩
    by_cases e : q.1 (lc l i) = 0
    · rw [if_pos ((ige 0 (k := 0) rfl (by omega) (by omega)).mpr (by omega))]
      intro x5 e5 x6 e6
      rw [e6, nI_1, e5]
      refine hk _ ?_
      rw [hs, cN, show ne q.1 (lc l i) = false by simp [ne, e], Int32.add_zero]
      rfl
    · rw [if_neg (mt (ige 0 (k := 0) rfl (by omega) (by omega)).mp (by omega))]
      intro x7 e7 x8 e8
      rw [e8, nI_1, e7]
      refine hk _ ?_
      rw [hs, cN, show ne q.1 (lc l i) = true by simp [ne, e], nI_1]
      rfl
theorem m_shared (h : RA u.1 q) (hw : WB q.1) {l : Nat} (hl : l < 19) (hz : Z (iN (shF q.1 l))) : pX6_shared (nI l) u Z := by
  unfold pX6_shared
  refine pk_loop (fun n i (s : Int32) => pX6_shared_6 Z (nI l) u n s (nI i)) (fun i s => s = iN (shB q.1 l i)) 4 0 255 (by omega) i255 ?_ ?_
  · intro n s hs
    show pX6_shared_6 Z (nI l) u (n + 1) s (nI 4)
    rw [pX6_shared_6, if_pos ((ile 4 (k := 4) rfl (by omega) (by omega)).mpr (by omega)), hs, show iN (shB q.1 l 4) = iN (shF q.1 l) from iN_ext fun i _ => shB_4 q.1 l i]
    exact hz
  · intro n i s hi hs hk
    show pX6_shared_6 Z (nI l) u (n + 1) s (nI i)
    have hc := lc_lt l hl i hi
    have hb := hw.1 _ hc
    rw [pX6_shared_6, if_neg (mt (ile 4 (k := 4) rfl (by omega) (by omega)).mp (by omega))]
    refine m_cellOfLine hl hi ?_
    rw [z0, nI_clamp (by omega), h.1 _ hc]
    refine ⟨vp_in_nI (by omega) (by omega), fun x4 e4 => ?_⟩
    rw [e4]
    by_cases e : q.1 (lc l i) = 0
    · rw [if_pos ((ige 0 (k := 0) rfl (by omega) (by omega)).mpr (by omega))]
      intro x6 e6 x7 e7
      rw [e7, nI_1, e6]
      refine hk _ ?_
      rw [hs, i255, iN_and]
      refine iN_ext fun k _ => ?_
      rw [shB_8, shB, show ne q.1 (lc l i) = false by simp [ne, e]]
      simp
    · rw [if_neg (mt (ige 0 (k := 0) rfl (by omega) (by omega)).mp (by omega))]
      unfold pX6_traits
      rw [show nI (q.1 (lc l i)) - 1 = nI (q.1 (lc l i) - 1) from pk_sub (b := 1) (by omega), tF_iN _ (by omega)]
      intro x9 e9 x10 e10
      rw [e10, nI_1, e9]
      refine hk _ ?_
      rw [hs, iN_and]
      refine iN_ext fun k _ => ?_
      rw [shB, show ne q.1 (lc l i) = true by simp [ne, e]]
      simp
theorem m_won (h : RA u.1 q) (hw : WB q.1) (hr : q.2.2.1 ≤ 1) (hz : Z (nI (wC q.1 q.2.2.1))) : pX6_won u Z := by
  unfold pX6_won
  have hl := ln_le q.2.2.1
  refine pk_loop (fun n i (s : Int32) => pX6_won_4 Z u n s (nI i)) (fun i s => s = nI (cN (wL q.1) i)) (ln q.2.2.1) 0 0 (by omega) rfl ?_ ?_
  · intro n s hs
    show pX6_won_4 Z u (n + 1) s (nI (ln q.2.2.1))
    rw [pX6_won_4]
    refine m_linesNow h hr ?_
    rw [if_pos ((nI_leI (by omega) (by omega)).mpr (Nat.le_refl _)), hs]
    exact hz
  · intro n i s hi hs hk
    show pX6_won_4 Z u (n + 1) s (nI i)
    have hm : mn q.1 i ≤ 4 := cN_le _ _
    rw [pX6_won_4]
    refine m_linesNow h hr ?_
    rw [if_neg (mt (nI_leI (by omega) (by omega)).mp (by omega))]
    refine m_many h hw (by omega) ?_
    by_cases e4 : mn q.1 i = 4
    · rw [if_pos ((ieq 4 (k := 4) rfl (by omega) (by omega)).mpr e4)]
      refine m_shared h hw (by omega) ?_
      by_cases e0 : iN (shF q.1 i) = 0
      · rw [if_pos e0]
        intro x9 e9 x10 e10
        rw [e10, nI_1, e9]
        refine hk _ ?_
        rw [hs, cN, show wL q.1 i = false by unfold wL; rw [shF_ex.mp e0, Bool.and_false], Int32.add_zero]
        rfl
      · rw [if_neg e0]
        intro x11 e11 x12 e12
        rw [e12, nI_1, e11]
        refine hk _ ?_
        have e5 : exU (fun t => shF q.1 i t || shF q.1 i (4 + t)) 4 0 = true := by
          cases z : exU (fun t => shF q.1 i t || shF q.1 i (4 + t)) 4 0
          · exact absurd (shF_ex.mpr z) e0
          · rfl
        rw [hs, cN, show wL q.1 i = true by unfold wL; rw [e5, e4]; rfl, nI_1]
        rfl
    · rw [if_neg (mt (ieq 4 (k := 4) rfl (by omega) (by omega)).mp e4)]
      intro x5 e5 x6 e6
      rw [e6, nI_1, e5]
      refine hk _ ?_
      rw [hs, cN, show wL q.1 i = false by unfold wL; rw [show (mn q.1 i == 4) = false by simp [e4]]; rfl, Int32.add_zero]
      rfl
theorem wC_le (b : Nat → Nat) (r : Nat) : wC b r ≤ 19 := Nat.le_trans (cN_le _ _) (ln_le r)
theorem wC_0 {b : Nat → Nat} {r : Nat} : nI (wC b r) ≤ 0 ↔ hw b r = false := by
  have h := wC_le b r
  rw [ige 0 (k := 0) rfl (by omega) (by omega), Bool.eq_false_iff, Ne, hw_iff]
  omega
theorem upd_undo {a : Nat → Int32} {c : Nat} {x y : Int32} (h : a c = y) : upd (upd a c x) c y = a := funext fun j => by
  by_cases e : j = c
  · rw [e, pk_us, h]
  · rw [pk_un e, pk_un e]
theorem m_wins (h : RA u.1 q) (ho : OG q) {p c : Nat} (hp4 : p < 16) (hf : hp q.1 p = false) (hc : c < 16) (h0 : q.1 c = 0) {Z : Int32 → SM → Prop} (hz : Z (bI (hw (fu q.1 c (p + 1)) q.2.2.1)) u) : pX6_wins (nI p) (nI c) u Z := by
  unfold pX6_wins
  intro x1 e1
  rw [nI_1] at e1
  rw [e1, z0, nI_clamp (by omega), upd_undo (show u.1 c = 0 by rw [h.1 c hc, h0]; rfl)]
  refine ⟨vp_in_nI (by omega) (by omega), ?_⟩
  refine m_won (q := (fu q.1 c (p + 1), q.2)) (RA_cell h hc) (WB_put ho.1 hf hp4) ho.2.2.1 ?_
  show (if nI (wC (fu q.1 c (p + 1)) q.2.2.1) ≤ 0 then _ else _)
  cases e : hw (fu q.1 c (p + 1)) q.2.2.1
  · rw [if_pos (wC_0.mpr e)]
    rw [e] at hz
    exact ⟨vp_in_nI (by omega) (by omega), hz⟩
  · rw [if_neg (fun z => by rw [wC_0.mp z] at e; cases e)]
    rw [e] at hz
    exact ⟨vp_in_nI (by omega) (by omega), hz⟩
/-- the first winning cell, as both tell it -/
def wcI (p : Nat) (q : PG) : Int32 := if ov q || hp q.1 p then -1 else oI (fU (wF q.1 q.2.2.1 p) 16 0)
theorem m_winning (h : RA u.1 q) (ho : OG q) {p : Nat} (hp4 : p < 16) {Z : Int32 → SM → Prop} (hz : Z (wcI p q) u) : pX6_winning (nI p) u Z := by
  unfold pX6_winning
  unfold wcI at hz
  cases hov : ov q || hp q.1 p
  · rw [hov] at hz
    have hov := Bool.or_eq_false_iff.mp hov
    refine pk_loop (fun n i (_ : Unit) => pX6_winning_2 Z (nI p) n (nI i) u) (fun i _ => Z (oI (fU (wF q.1 q.2.2.1 p) (16 - i) i)) u) 16 0 () (by omega) hz ?_ ?_
    · intro n s hs
      show pX6_winning_2 Z (nI p) (n + 1) (nI 16) u
      rw [pX6_winning_2, if_pos ((ile 16 (k := 16) rfl (by omega) (by omega)).mpr (by omega))]
      exact hs
    · intro n i s hi hs hk
      show pX6_winning_2 Z (nI p) (n + 1) (nI i) u
      rw [show 16 - i = (16 - (i + 1)) + 1 by omega, fU] at hs
      have hb := ho.1.1 i hi
      rw [pX6_winning_2, if_neg (mt (ile 16 (k := 16) rfl (by omega) (by omega)).mp (by omega))]
      refine m_isOver h ho ?_
      rw [hov.1, if_pos (show bI false = 0 from rfl)]
      refine m_cell h ho.1 hp4 ?_
      rw [if_pos (cell_hp.mpr hov.2), z0, nI_clamp (by omega), h.1 i hi]
      refine ⟨vp_in_nI (by omega) (by omega), ?_⟩
      by_cases e : q.1 i = 0
      · rw [if_pos (by rw [e]; rfl)]
        refine m_wins h ho hp4 hov.2 hi e ?_
        have e2 : wF q.1 q.2.2.1 p i = hw (fu q.1 i (p + 1)) q.2.2.1 := by simp [wF, e]
        rw [e2] at hs
        cases e3 : hw (fu q.1 i (p + 1)) q.2.2.1
        · rw [if_pos (show bI false = 0 from rfl)]
          rw [e3] at hs
          intro x11 e11
          rw [e11, nI_1]
          exact hk () hs
        · rw [if_neg (show ¬ bI true = 0 by decide)]
          rw [e3] at hs
          exact hs
      · rw [if_neg (nI_ne0 (by omega) (by omega))]
        have e2 : wF q.1 q.2.2.1 p i = false := by simp [wF, e]
        rw [e2] at hs
        intro x8 e8
        rw [e8, nI_1]
        exact hk () hs
  · rw [hov] at hz
    refine ⟨1, ?_⟩
    rw [pX6_winning_2, if_neg (show ¬ (16 : Int32) ≤ 0 by decide)]
    refine m_isOver h ho ?_
    cases e : ov q
    · rw [if_pos (show bI false = 0 from rfl)]
      rw [e, Bool.false_or] at hov
      refine m_cell h ho.1 hp4 ?_
      rw [if_neg (fun z => by rw [cell_hp.mp z] at hov; cases hov)]
      exact hz
    · rw [if_neg (show ¬ bI true = 0 by decide)]
      exact hz
theorem m_canGive (h : RA u.1 q) (ho : OG q) {p : Nat} (hp4 : p < 16) (hz : Z (bI (cg p q))) : pX6_canGive (nI p) u Z := by
  unfold pX6_canGive
  have hg := ho.2.1
  unfold cg at hz
  refine m_isOver h ho ?_
  cases e : ov q
  · rw [if_pos (show bI false = 0 from rfl), h.2.1]
    by_cases e2 : q.2.1 = 0
    · rw [if_pos ((ieq 0 (k := 0) rfl (by omega) (by omega)).mpr e2)]
      refine m_cell h ho.1 hp4 ?_
      cases e3 : hp q.1 p
      · rw [if_pos (cell_hp.mpr e3)]
        simpa [e, e2, e3, bI] using hz
      · rw [if_neg (fun z => by rw [cell_hp.mp z] at e3; cases e3)]
        simpa [e, e2, e3, bI] using hz
    · rw [if_neg (mt (ieq 0 (k := 0) rfl (by omega) (by omega)).mp e2)]
      simpa [e, e2, bI] using hz
  · rw [if_neg (show ¬ bI true = 0 by decide)]
    simpa [e, bI] using hz
theorem m_canPlace (h : RA u.1 q) (ho : OG q) {c : Nat} (hc : c < 16) (hz : Z (bI (cp c q))) : pX6_canPlace (nI c) u Z := by
  unfold pX6_canPlace
  have hg := ho.2.1
  have hb := ho.1.1 c hc
  unfold cp at hz
  rw [h.2.1]
  by_cases e2 : q.2.1 = 0
  · rw [if_pos ((ige 0 (k := 0) rfl (by omega) (by omega)).mpr (by omega))]
    simpa [e2, bI] using hz
  · rw [if_neg (mt (ige 0 (k := 0) rfl (by omega) (by omega)).mp (by omega)), z0, nI_clamp (by omega), h.1 c hc]
    refine ⟨vp_in_nI (by omega) (by omega), ?_⟩
    by_cases e3 : q.1 c = 0
    · rw [if_pos ((ieq 0 (k := 0) rfl (by omega) (by omega)).mpr e3)]
      simpa [e2, e3, bI] using hz
    · rw [if_neg (mt (ieq 0 (k := 0) rfl (by omega) (by omega)).mp e3)]
      simpa [e2, e3, bI] using hz
theorem m_gives (h : RA u.1 q) (ho : OG q) {p : Nat} (hp4 : p < 16) (hcg : cg p q = true) {Z : Int32 → SM → Prop} (hz : ∀ a, RA a (gv p q) → Z (nI (mvN (gv p q))) (a, u.2)) : pX6_gives (nI p) u Z := by
  unfold pX6_gives
  intro x1 e1
  rw [nI_1] at e1
  rw [e1]
  have h1 : RA (upd u.1 16 (nI (p + 1))) (gv p q) := RA_gift h (p + 1)
  exact m_mover (q := gv p q) h1 (OG_gv ho hp4 hcg) (hz _ h1)
theorem m_places (h : RA u.1 q) (ho : OG q) {c : Nat} (hc : c < 16) (hcp : cp c q = true) {Z : Int32 → SM → Prop} (hz : ∀ a, RA a (pt c q) → Z (bI (pw c q)) (a, u.2)) : pX6_places (nI c) u Z := by
  unfold pX6_places
  have hcp2 := hcp
  unfold cp at hcp2
  simp only [Bool.and_eq_true, Bool.not_eq_true', beq_iff_eq, beq_eq_false_iff_ne, ne_eq] at hcp2
  have h1 := ho.2.2.2.2.1 hcp2.1
  have hm := mvN_le q
  have hg := ho.2.1
  refine m_mover h ho ?_
  intro x2 e2
  rw [h.2.1] at e2
  rw [e2, z0, nI_clamp (by omega)]
  refine ⟨vp_in_nI (by omega) (by omega), ?_⟩
  have hA1 : RA (upd (upd u.1 c (nI q.2.1)) 16 0) (fu q.1 c q.2.1, 0, q.2.2) := RA_gift (q := (fu q.1 c q.2.1, q.2)) (RA_cell h hc) 0
  have hW : WB (fu q.1 c q.2.1) := (OG_pt ho hc hcp).1
  refine m_won (q := (fu q.1 c q.2.1, 0, q.2.2)) hA1 hW ho.2.2.1 ?_
  show (if nI (wC (fu q.1 c q.2.1) q.2.2.1) ≤ 0 then _ else _)
  have e18 : (18 : Int32) + nI (mvN q) = nI (18 + mvN q) := nI_add 18 _
  rw [e18, nI_clamp (by omega)]
  generalize upd (upd u.1 c (nI q.2.1)) 16 0 = A1 at hA1 ⊢
  have hv : ∀ x : Int32, ∀ y : Int32, (∀ k, k < 16 → upd (upd A1 (18 + mvN q) x) 20 y k = nI (fu q.1 c q.2.1 k)) ∧ upd (upd A1 (18 + mvN q) x) 20 y 16 = nI 0 ∧ upd (upd A1 (18 + mvN q) x) 20 y 17 = nI q.2.2.1 ∧ (upd (upd A1 (18 + mvN q) x) 20 y 18 = if mvN q = 0 then x else q.2.2.2.2.1) ∧ (upd (upd A1 (18 + mvN q) x) 20 y 19 = if mvN q = 1 then x else q.2.2.2.2.2) ∧ upd (upd A1 (18 + mvN q) x) 20 y 20 = y := fun x y => by
    refine ⟨fun k hk => ?_, ?_, ?_, ?_, ?_, pk_us⟩
    · rw [pk_un (by omega), pk_un (by omega)]
      exact hA1.1 k hk
    · rw [pk_un (by omega), pk_un (by omega)]
      exact hA1.2.1
    · rw [pk_un (by omega), pk_un (by omega)]
      exact hA1.2.2.1
    · rw [pk_un (by omega)]
      by_cases z : mvN q = 0
      · rw [z, if_pos rfl, pk_us]
      · rw [if_neg z, pk_un (by omega)]
        exact hA1.2.2.2.1
    · rw [pk_un (by omega)]
      by_cases z : mvN q = 1
      · rw [z, if_pos rfl, pk_us]
      · rw [if_neg z, pk_un (by omega)]
        exact hA1.2.2.2.2.1
  have hA18 : A1 (18 + mvN q) = if mvN q = 0 then q.2.2.2.2.1 else q.2.2.2.2.2 := by
    by_cases z : mvN q = 0
    · rw [z, if_pos rfl]
      exact hA1.2.2.2.1
    · rw [show mvN q = 1 by omega, if_neg (by omega)]
      exact hA1.2.2.2.2.1
  cases e : pw c q
  · rw [if_pos (wC_0.mpr e)]
    refine ⟨vp_in_nI (by omega) (by omega), fun x8 e8 => ⟨vp_in_nI (by omega) (by omega), ?_⟩⟩
    rw [e] at hz
    rw [Int32.add_zero, hA18] at e8
    have hv := hv x8 0
    refine hz _ ⟨hv.1, hv.2.1, hv.2.2.1, ?_, ?_, ?_⟩
    · show _ = if pw c q && mvN q == 0 then _ else _
      rw [e, hv.2.2.2.1, e8]
      by_cases z : mvN q = 0
      · rw [if_pos z, if_pos z]; rfl
      · rw [if_neg z]; rfl
    · show _ = if pw c q && mvN q == 1 then _ else _
      rw [e, hv.2.2.2.2.1, e8]
      by_cases z : mvN q = 1
      · rw [if_pos z, if_neg (by omega)]; rfl
      · rw [if_neg z]; rfl
    · show _ = nI (if pw c q then mvN q + 1 else 0)
      rw [e, hv.2.2.2.2.2]
      rfl
  · rw [if_neg (fun z => by have := wC_0.mp z; unfold pw at e; rw [this] at e; cases e)]
    refine ⟨vp_in_nI (by omega) (by omega), fun x13 e13 => ⟨vp_in_nI (by omega) (by omega), fun x16 e16 => ?_⟩⟩
    rw [e] at hz
    rw [hA18] at e13
    rw [nI_1] at e16
    have hv := hv x13 x16
    refine hz _ ⟨hv.1, hv.2.1, hv.2.2.1, ?_, ?_, ?_⟩
    · show _ = if pw c q && mvN q == 0 then _ else _
      rw [e, hv.2.2.2.1, e13]
      by_cases z : mvN q = 0
      · rw [if_pos z, if_pos z, if_pos (by simp [z])]
      · rw [if_neg z, if_neg (by simp [z])]
    · show _ = if pw c q && mvN q == 1 then _ else _
      rw [e, hv.2.2.2.2.1, e13]
      by_cases z : mvN q = 1
      · rw [if_pos z, if_neg (by omega), if_pos (by simp [z])]
      · rw [if_neg z, if_neg (by simp [z])]
    · show _ = nI (if pw c q then mvN q + 1 else 0)
      rw [e, hv.2.2.2.2.2, e16]
      rfl
end Model
