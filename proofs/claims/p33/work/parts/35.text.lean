/-! the move text: c i the characters, m the length -/
theorem ifp {c : Prop} [Decidable c] {A B : Prop} (h : c) (a : A) : if c then A else B := by rw [if_pos h]; exact a
theorem ifn {c : Prop} [Decidable c] {A B : Prop} (h : ¬ c) (a : B) : if c then A else B := by rw [if_neg h]; exact a
def RT (t : ST) (c : Nat → Nat) (m : Nat) : Prop := t.1 = nI m ∧ m ≤ 60 ∧ ∀ i, i < m → c i < 65536 ∧ t.2 i = nI (c i)
def du (d ch : Nat) : Nat := if d = 0 then (if ch = 103 ∨ ch = 112 then 1 else 4) else if d = 1 then (if ch = 49 then 2 else if ch < 48 ∨ 57 < ch then 4 else 3) else if d = 2 then (if 48 ≤ ch ∧ ch ≤ 53 then 3 else if ch = 59 then 0 else 4) else if d = 3 then (if ch = 59 then 0 else 4) else 4
/-- the first error from i on, k characters before the end, what is due being d -/
def fe (c : Nat → Nat) (m : Nat) : Nat → Nat → Nat → Int32
  | 0, _, d => if d = 2 ∨ d = 3 then -1 else nI m
  | k + 1, i, d => if du d (c i) = 4 then nI i else fe c m k (i + 1) (du d (c i))
def kd (c : Nat → Nat) (m i : Nat) : Bool := decide (i < m) && (c i == 103 || c i == 112)
def hr (c : Nat → Nat) (m lo hi i : Nat) : Bool := decide (i < m) && (decide (lo ≤ c i) && decide (c i ≤ hi))
def sd (c : Nat → Nat) (m i : Nat) : Bool := c (i + 1) == 49 && hr c m 48 53 (i + 2)
def ed (c : Nat → Nat) (m i : Nat) : Nat := if sd c m i then i + 3 else i + 2
def nv (c : Nat → Nat) (m i : Nat) : Nat := if sd c m i then c (i + 2) - 38 else c (i + 1) - 48
theorem hr_iff {c : Nat → Nat} {m lo hi i : Nat} : hr c m lo hi i = true ↔ i < m ∧ lo ≤ c i ∧ c i ≤ hi := by
  unfold hr
  rw [Bool.and_eq_true, Bool.and_eq_true, decide_eq_true_iff, decide_eq_true_iff, decide_eq_true_iff]
theorem kd_iff {c : Nat → Nat} {m i : Nat} : kd c m i = true ↔ i < m ∧ (c i = 103 ∨ c i = 112) := by
  unfold kd
  rw [Bool.and_eq_true, Bool.or_eq_true, decide_eq_true_iff, beq_iff_eq, beq_iff_eq]
theorem sd_iff {c : Nat → Nat} {m i : Nat} : sd c m i = true ↔ c (i + 1) = 49 ∧ i + 2 < m ∧ 48 ≤ c (i + 2) ∧ c (i + 2) ≤ 53 := by
  unfold sd
  rw [Bool.and_eq_true, beq_iff_eq, hr_iff]
theorem fe3 (c : Nat → Nat) (m : Nat) {j : Nat} (hj : j ≤ m) : fe c m (m - j) j 3 = if j = m then -1 else if c j = 59 then fe c m (m - (j + 1)) (j + 1) 0 else nI j := by
  by_cases e : j = m
  · rw [if_pos e, e, Nat.sub_self]
    rfl
  · rw [if_neg e, show m - j = (m - (j + 1)) + 1 by omega, fe]
    by_cases e2 : c j = 59
    · rw [if_pos e2, show du 3 (c j) = 0 by simp [du, e2], if_neg (by omega)]
    · rw [if_neg e2, show du 3 (c j) = 4 by simp [du, e2], if_pos rfl]
theorem fe_step (c : Nat → Nat) (m : Nat) {i : Nat} (hi : i ≤ m) : fe c m (m - i) i 0 = if kd c m i = true then (if hr c m 48 57 (i + 1) = true then (if ed c m i = m then -1 else if c (ed c m i) = 59 then fe c m (m - (ed c m i + 1)) (ed c m i + 1) 0 else nI (ed c m i)) else nI (i + 1)) else nI i := by
  by_cases e : i = m
  · rw [if_neg (fun z => by have := kd_iff.mp z; omega), e, Nat.sub_self]
    rfl
  · rw [show m - i = (m - (i + 1)) + 1 by omega, fe]
    by_cases k : kd c m i = true
    · have k2 := (kd_iff.mp k).2
      rw [if_pos k, show du 0 (c i) = 1 by unfold du; rw [if_pos rfl, if_pos k2], if_neg (by omega)]
      by_cases e1 : i + 1 = m
      · rw [if_neg (fun z => by have := hr_iff.mp z; omega), e1, Nat.sub_self]
        rfl
      · rw [show m - (i + 1) = (m - (i + 2)) + 1 by omega, fe]
        by_cases d : hr c m 48 57 (i + 1) = true
        · have d2 := hr_iff.mp d
          rw [if_pos d]
          by_cases o : c (i + 1) = 49
          · rw [show du 1 (c (i + 1)) = 2 by simp [du, o], if_neg (by omega)]
            by_cases e2 : i + 2 = m
            · have s : sd c m i = false := Bool.eq_false_iff.mpr fun z => by have := sd_iff.mp z; omega
              have s2 : ed c m i = m := by unfold ed; rw [s]; exact e2
              rw [if_pos s2, e2, Nat.sub_self]
              rfl
            · rw [show m - (i + 2) = (m - (i + 3)) + 1 by omega, fe]
              by_cases s : sd c m i = true
              · have s1 := sd_iff.mp s
                have s2 : ed c m i = i + 3 := by unfold ed; rw [s]; rfl
                rw [s2, show du 2 (c (i + 2)) = 3 by unfold du; rw [if_neg (by omega), if_neg (by omega), if_pos rfl, if_pos s1.2.2], if_neg (by omega)]
                exact fe3 c m (by omega)
              · have s1 : ¬ (48 ≤ c (i + 2) ∧ c (i + 2) ≤ 53) := fun z => s (sd_iff.mpr ⟨o, by omega, z⟩)
                have s2 : ed c m i = i + 2 := by unfold ed; rw [Bool.eq_false_iff.mpr s]; rfl
                rw [s2, if_neg e2]
                by_cases z : c (i + 2) = 59
                · rw [if_pos z, show du 2 (c (i + 2)) = 0 by unfold du; rw [if_neg (by omega), if_neg (by omega), if_pos rfl, if_neg s1, if_pos z], if_neg (by omega)]
                · rw [if_neg z, show du 2 (c (i + 2)) = 4 by unfold du; rw [if_neg (by omega), if_neg (by omega), if_pos rfl, if_neg s1, if_neg z], if_pos rfl]
          · have s : sd c m i = false := Bool.eq_false_iff.mpr fun z => o (sd_iff.mp z).1
            have s2 : ed c m i = i + 2 := by unfold ed; rw [s]; rfl
            rw [s2, show du 1 (c (i + 1)) = 3 by unfold du; rw [if_neg (by omega), if_pos rfl, if_neg o, if_neg (by omega)], if_neg (by omega)]
            exact fe3 c m (by omega)
        · have d2 : c (i + 1) < 48 ∨ 57 < c (i + 1) := by
            rcases Nat.lt_or_ge (c (i + 1)) 48 with h | h
            · exact Or.inl h
            · rcases Nat.lt_or_ge 57 (c (i + 1)) with h2 | h2
              · exact Or.inr h2
              · exact absurd (hr_iff.mpr ⟨by omega, h, h2⟩) d
          rw [if_neg d, show du 1 (c (i + 1)) = 4 by unfold du; rw [if_neg (by omega), if_pos rfl, if_neg (by omega), if_pos d2], if_pos rfl]
    · have k2 : ¬ (c i = 103 ∨ c i = 112) := fun z => k (kd_iff.mpr ⟨by omega, z⟩)
      rw [if_neg k, show du 0 (c i) = 4 by unfold du; rw [if_pos rfl, if_neg k2], if_pos rfl]
/-- a valid text from i on, of at most k moves -/
def VT (c : Nat → Nat) (m : Nat) : Nat → Nat → Prop
  | 0, _ => False
  | k + 1, i => kd c m i = true ∧ hr c m 48 57 (i + 1) = true ∧ (ed c m i = m ∨ (ed c m i < m ∧ c (ed c m i) = 59 ∧ VT c m k (ed c m i + 1)))
theorem ed_le {c : Nat → Nat} {m i : Nat} (h : hr c m 48 57 (i + 1) = true) : i + 2 ≤ ed c m i ∧ ed c m i ≤ i + 3 ∧ ed c m i ≤ m := by
  have h1 := hr_iff.mp h
  unfold ed
  by_cases s : sd c m i = true
  · have := sd_iff.mp s
    rw [if_pos s]
    omega
  · rw [if_neg s]
    omega
theorem nI_m1 {x : Nat} (h : x < 2 ^ 31) : ¬ nI x = -1 := fun z => absurd (z ▸ (by decide : (-1 : Int32) < 0)) (nI_pos h)
theorem VT_of (c : Nat → Nat) (m : Nat) (hm : m ≤ 60) : ∀ k i, i ≤ m → m - i < k → fe c m (m - i) i 0 = -1 → VT c m k i
  | 0, i, _, h, _ => absurd h (by omega)
  | k + 1, i, hi, hk, h => by
    rw [fe_step c m hi] at h
    by_cases k1 : kd c m i = true
    · rw [if_pos k1] at h
      by_cases d : hr c m 48 57 (i + 1) = true
      · rw [if_pos d] at h
        have he := ed_le d
        by_cases e : ed c m i = m
        · exact ⟨k1, d, Or.inl e⟩
        · rw [if_neg e] at h
          by_cases z : c (ed c m i) = 59
          · rw [if_pos z] at h
            exact ⟨k1, d, Or.inr ⟨by omega, z, VT_of c m hm k _ (by omega) (by omega) h⟩⟩
          · rw [if_neg z] at h
            exact absurd h (nI_m1 (by omega))
      · rw [if_neg d] at h
        have := (kd_iff.mp k1).1
        exact absurd h (nI_m1 (by omega))
    · rw [if_neg k1] at h
      exact absurd h (nI_m1 (by omega))
/-- whether a move ends ahead of j -/
def em (c : Nat → Nat) (m j : Nat) : Bool := j == m || c j == 59
theorem nv_lt {c : Nat → Nat} {m i : Nat} (h : hr c m 48 57 (i + 1) = true) : nv c m i < 16 := by
  have h1 := hr_iff.mp h
  unfold nv
  by_cases s : sd c m i = true
  · have := sd_iff.mp s
    rw [if_pos s]
    omega
  · rw [if_neg s]
    omega
theorem em_in {c : Nat → Nat} {m i : Nat} (hk : kd c m i = true) (h : hr c m 48 57 (i + 1) = true) {j : Nat} (h1 : i ≤ j) (h2 : j < ed c m i) : em c m j = false := by
  have k1 := kd_iff.mp hk
  have d1 := hr_iff.mp h
  have he := ed_le h
  have e : c j ≠ 59 := by
    rcases (show j = i ∨ j = i + 1 ∨ j = i + 2 by omega) with rfl | rfl | rfl
    · omega
    · omega
    · by_cases s : sd c m i = true
      · have := sd_iff.mp s
        omega
      · unfold ed at h2
        rw [if_neg s] at h2
        omega
  unfold em
  rw [show (j == m) = false by simp; omega, show (c j == 59) = false by simp [e]]
  rfl
theorem em_ed {c : Nat → Nat} {m i : Nat} (h : ed c m i = m ∨ c (ed c m i) = 59) : em c m (ed c m i) = true := by
  unfold em
  rcases h with h | h
  · rw [show (ed c m i == m) = true by simp [h]]
    rfl
  · rw [show (c (ed c m i) == 59) = true by simp [h], Bool.or_true]
/-- the moves made one after the other: the first that cannot be made, and the game then -/
def mkB (c : Nat → Nat) (m i : Nat) (q : PG) : Bool := if c i = 103 then cg (nv c m i) q else cp (nv c m i) q
def mkG (c : Nat → Nat) (m i : Nat) (q : PG) : PG := if c i = 103 then gv (nv c m i) q else pt (nv c m i) q
def rn (c : Nat → Nat) (m : Nat) : Nat → Nat → PG → Nat → Option Nat × PG
  | 0, _, q, _ => (none, q)
  | k + 1, i, q, d => if mkB c m i q = true then (if ed c m i = m then (none, mkG c m i q) else rn c m k (ed c m i + 1) (mkG c m i q) (d + 1)) else (some d, q)
/-- the number of moves -/
def nm (c : Nat → Nat) (m : Nat) : Nat → Nat → Nat
  | 0, _ => 0
  | k + 1, i => if ed c m i = m then 1 else nm c m k (ed c m i + 1) + 1
theorem OG_mk {c : Nat → Nat} {m i : Nat} {q : PG} (h : hr c m 48 57 (i + 1) = true) (ho : OG q) (hb : mkB c m i q = true) : OG (mkG c m i q) := by
  unfold mkB at hb
  unfold mkG
  by_cases e : c i = 103
  · rw [if_pos e] at hb ⊢
    exact OG_gv ho (nv_lt h) hb
  · rw [if_neg e] at hb ⊢
    exact OG_pt ho (nv_lt h) hb
theorem OG_rn (c : Nat → Nat) (m : Nat) : ∀ k i q d, VT c m k i → OG q → OG (rn c m k i q d).2
  | 0, _, _, _, h, _ => h.elim
  | k + 1, i, q, d, h, ho => by
    rw [rn]
    by_cases b : mkB c m i q = true
    · rw [if_pos b]
      by_cases e : ed c m i = m
      · rw [if_pos e]
        exact OG_mk h.2.1 ho b
      · rw [if_neg e]
        exact OG_rn c m k _ _ _ (h.2.2.resolve_left e).2.2 (OG_mk h.2.1 ho b)
    · rw [if_neg b]
      exact ho
theorem nm_c (c : Nat → Nat) (m : Nat) : ∀ k i, VT c m k i → cN (em c m) (m + 1) = cN (em c m) i + nm c m k i
  | 0, _, h => h.elim
  | k + 1, i, h => by
    have he := ed_le h.2.1
    have s1 : cN (em c m) (ed c m i + 1) = cN (em c m) i + 1 := by
      have z : ∀ j, i ≤ j → j < ed c m i → em c m j = false := fun j h1 h2 => em_in h.1 h.2.1 h1 h2
      have z1 : em c m (ed c m i) = true := em_ed (h.2.2.imp id fun y => y.2.1)
      rw [cN, z1]
      rcases (show ed c m i = i + 2 ∨ ed c m i = i + 3 by omega) with e | e
      · rw [e, cN, cN, z i (by omega) (by omega), z (i + 1) (by omega) (by omega)]
        rfl
      · rw [e, cN, cN, cN, z i (by omega) (by omega), z (i + 1) (by omega) (by omega), z (i + 2) (by omega) (by omega)]
        rfl
    rw [nm]
    by_cases e : ed c m i = m
    · rw [if_pos e, ← s1, e]
    · rw [if_neg e, nm_c c m k _ (h.2.2.resolve_left e).2.2, s1]
      omega
/-! the class's text -/
section TextC
variable {t : ST} {c : Nat → Nat} {m : Nat} {Z : Int32 → Prop}
theorem p_characterAt (h : RT t c m) {i : Nat} (hi : i < m) (hz : Z (nI (c i))) : pX4_characterAt (nI i) t Z := by
  have hm := h.2.1
  have hc := h.2.2 i hi
  unfold pX4_characterAt
  rw [if_neg (nI_pos (by omega)), if_neg (mt (ile 60 (k := 60) rfl (by omega) (by omega)).mp (by omega)), nI_clamp (by omega), hc.2]
  exact ⟨vp_in_nI (by omega) (by omega), (pk_charN hc.1).1, hz⟩
theorem p_dueAfter : ∀ d, d < 4 → ∀ ch, ch < 65536 → Z (nI (du d ch)) → pX4_dueAfter (nI d) (nI ch) Z := by
  intro d hd ch hc hz
  unfold pX4_dueAfter
  unfold du at hz
  rcases (show d = 0 ∨ d = 1 ∨ d = 2 ∨ d = 3 by omega) with rfl | rfl | rfl | rfl
  · refine ifp rfl ?_
    rw [if_pos rfl] at hz
    by_cases e : ch = 103
    · rw [if_pos (Or.inl e)] at hz
      exact ifp (by rw [e]; rfl) hz
    · refine ifn (mt (ieq 103 (k := 103) rfl (by omega) (by omega)).mp e) ?_
      by_cases e2 : ch = 112
      · rw [if_pos (Or.inr e2)] at hz
        exact ifp (by rw [e2]; rfl) hz
      · rw [if_neg (by omega)] at hz
        exact ifn (mt (ieq 112 (k := 112) rfl (by omega) (by omega)).mp e2) hz
  · refine ifn (by decide) (ifp rfl ?_)
    rw [if_neg (by omega), if_pos rfl] at hz
    by_cases e : ch = 49
    · rw [if_pos e] at hz
      exact ifp (by rw [e]; rfl) hz
    · rw [if_neg e] at hz
      refine ifn (mt (ieq 49 (k := 49) rfl (by omega) (by omega)).mp e) ?_
      by_cases e2 : ch < 48
      · rw [if_pos (Or.inl e2)] at hz
        exact ifp ((ilt 48 (k := 48) rfl (by omega) (by omega)).mpr e2) hz
      · refine ifn (mt (ilt 48 (k := 48) rfl (by omega) (by omega)).mp e2) ?_
        by_cases e3 : 57 < ch
        · rw [if_pos (Or.inr e3)] at hz
          exact ifp ((igt 57 (k := 57) rfl (by omega) (by omega)).mpr e3) hz
        · rw [if_neg (by omega)] at hz
          exact ifn (mt (igt 57 (k := 57) rfl (by omega) (by omega)).mp e3) hz
  · refine ifn (by decide) (ifn (by decide) (ifp rfl ?_))
    rw [if_neg (by omega), if_neg (by omega), if_pos rfl] at hz
    by_cases e2 : ch < 48
    · refine ifp ((ilt 48 (k := 48) rfl (by omega) (by omega)).mpr e2) ?_
      rw [if_neg (by omega), if_neg (by omega)] at hz
      exact ifn (mt (ieq 59 (k := 59) rfl (by omega) (by omega)).mp (by omega)) hz
    · refine ifn (mt (ilt 48 (k := 48) rfl (by omega) (by omega)).mp e2) ?_
      by_cases e3 : 53 < ch
      · refine ifp ((igt 53 (k := 53) rfl (by omega) (by omega)).mpr e3) ?_
        rw [if_neg (by omega)] at hz
        by_cases e4 : ch = 59
        · rw [if_pos e4] at hz
          exact ifp (by rw [e4]; rfl) hz
        · rw [if_neg e4] at hz
          exact ifn (mt (ieq 59 (k := 59) rfl (by omega) (by omega)).mp e4) hz
      · rw [if_pos (by omega)] at hz
        exact ifn (mt (igt 53 (k := 53) rfl (by omega) (by omega)).mp e3) hz
  · refine ifn (by decide) (ifn (by decide) (ifn (by decide) (ifp rfl ?_)))
    rw [if_neg (by omega), if_neg (by omega), if_neg (by omega), if_pos rfl] at hz
    by_cases e4 : ch = 59
    · rw [if_pos e4] at hz
      exact ifp (by rw [e4]; rfl) hz
    · rw [if_neg e4] at hz
      exact ifn (mt (ieq 59 (k := 59) rfl (by omega) (by omega)).mp e4) hz
theorem du_le (d ch : Nat) : du d ch ≤ 4 := by
  unfold du
  repeat' split
  all_goals omega
theorem p_firstError (h : RT t c m) (hz : Z (fe c m m 0 0)) : pX4_firstError t Z := by
  unfold pX4_firstError
  have hm := h.2.1
  refine pk_loop (fun n i (s : Int32) => pX4_firstError_4 Z t n s (nI i)) (fun i s => ∃ d, d < 4 ∧ s = nI d ∧ Z (fe c m (m - i) i d)) m 0 0 (by omega) ⟨0, by omega, rfl, hz⟩ ?_ ?_
  · rintro n s ⟨d, hd, rfl, hs⟩
    show pX4_firstError_4 Z t (n + 1) (nI d) (nI m)
    rw [Nat.sub_self] at hs
    rw [pX4_firstError_4, h.1, if_pos ((nI_leI (by omega) (by omega)).mpr (Nat.le_refl _))]
    rcases (show d = 0 ∨ d = 1 ∨ d = 2 ∨ d = 3 by omega) with rfl | rfl | rfl | rfl
    · exact ifn (by decide) (ifn (by decide) hs)
    · exact ifn (by decide) (ifn (by decide) hs)
    · exact ifp rfl hs
    · exact ifn (by decide) (ifp rfl hs)
  · rintro n i s hi ⟨d, hd, rfl, hs⟩ hk
    show pX4_firstError_4 Z t (n + 1) (nI d) (nI i)
    rw [show m - i = (m - (i + 1)) + 1 by omega, fe] at hs
    rw [pX4_firstError_4, h.1, if_neg (mt (nI_leI (by omega) (by omega)).mp (by omega))]
    refine p_characterAt h hi (p_dueAfter d hd _ (h.2.2 i hi).1 ?_)
    have h4 := du_le d (c i)
    by_cases e : du d (c i) = 4
    · rw [if_pos e] at hs
      exact ifp (by rw [e]; rfl) hs
    · rw [if_neg e] at hs
      refine ifn (mt (ieq 4 (k := 4) rfl (by omega) (by omega)).mp e) ?_
      intro x7 e7
      rw [e7, nI_1]
      exact hk _ ⟨du d (c i), by omega, rfl, hs⟩
theorem p_endsMove (h : RT t c m) {j : Nat} (hj : j ≤ m) (hz : Z (bI (em c m j))) : pX4_endsMove (nI j) t Z := by
  have hm := h.2.1
  unfold pX4_endsMove
  unfold em at hz
  rw [h.1]
  by_cases e : j = m
  · rw [show (j == m) = true by simp [e]] at hz
    exact ifp (by rw [e]) hz
  · rw [show (j == m) = false by simp [e]] at hz
    refine ifn (fun z => e ((nI_eq (by omega) (by omega)).mp z)) (p_characterAt h (by omega) ?_)
    have hc := (h.2.2 j (by omega)).1
    by_cases e2 : c j = 59
    · rw [show (c j == 59) = true by simp [e2]] at hz
      exact ifp (by rw [e2]; rfl) hz
    · rw [show (c j == 59) = false by simp [e2]] at hz
      exact ifn (mt (ieq 59 (k := 59) rfl (by omega) (by omega)).mp e2) hz
theorem p_moves (h : RT t c m) (hz : Z (nI (cN (em c m) (m + 1)))) : pX4_moves t Z := by
  unfold pX4_moves
  have hm := h.2.1
  refine pk_loop (fun n i (s : Int32) => pX4_moves_4 Z t n s (nI i)) (fun i s => s = nI (cN (em c m) i)) (m + 1) 0 0 (by omega) rfl ?_ ?_
  · intro n s hs
    show pX4_moves_4 Z t (n + 1) s (nI (m + 1))
    rw [pX4_moves_4, h.1, if_pos ((nI_ltI (by omega) (by omega)).mpr (by omega)), hs]
    exact hz
  · intro n i s hi hs hk
    show pX4_moves_4 Z t (n + 1) s (nI i)
    rw [pX4_moves_4, h.1, if_neg (mt (nI_ltI (by omega) (by omega)).mp (by omega))]
    refine p_endsMove h (by omega) ?_
    cases e : em c m i
    · refine ifp rfl ?_
      intro x4 e4
      rw [e4, nI_1]
      refine hk s ?_
      rw [hs, cN, e]
      rfl
    · refine ifn (by decide) ?_
      intro x5 e5 x6 e6
      rw [e6, nI_1, e5]
      refine hk _ ?_
      rw [hs, cN, e, nI_1]
      rfl
theorem p_isGift (h : RT t c m) {i : Nat} (hi : i < m) (hz : Z (bI (c i == 103))) : pX4_isGift (nI i) t Z := by
  unfold pX4_isGift
  refine p_characterAt h hi ?_
  have hc := (h.2.2 i hi).1
  by_cases e : c i = 103
  · rw [show (c i == 103) = true by simp [e]] at hz
    exact ifp (by rw [e]; rfl) hz
  · rw [show (c i == 103) = false by simp [e]] at hz
    exact ifn (mt (ieq 103 (k := 103) rfl (by omega) (by omega)).mp e) hz
theorem p_number (h : RT t c m) {i : Nat} (hd : hr c m 48 57 (i + 1) = true) (hz : Z (nI (nv c m i))) : pX4_number (nI i + 1) (nI (ed c m i)) t Z := by
  unfold pX4_number
  have hm := h.2.1
  have d1 := hr_iff.mp hd
  have he := ed_le hd
  rw [nI_1]
  have st : ∀ j, j < ed c m i → 48 ≤ c j → ∀ (n a : Nat), pX4_number_5 Z (nI (ed c m i)) t n (nI (a * 10 + (c j - 48))) (nI (j + 1)) → pX4_number_5 Z (nI (ed c m i)) t (n + 1) (nI a) (nI j) := by
    intro j hj h48 n a hk
    rw [pX4_number_5, if_neg (mt (nI_leI (by omega) (by omega)).mp (by omega))]
    refine p_characterAt h (by omega) ?_
    intro x3 e3 x4 e4
    have e5 : nI a * 10 + (nI (c j) - 48) = nI (a * 10 + (c j - 48)) := by
      rw [show (10 : Int32) = nI 10 from rfl, show (48 : Int32) = nI 48 from rfl, pk_mul, pk_sub h48, nI_add]
    rw [e4, nI_1, e3, e5]
    exact hk
  have ex : ∀ (n a : Nat), Z (nI a) → pX4_number_5 Z (nI (ed c m i)) t (n + 1) (nI a) (nI (ed c m i)) := fun n a hz => by
    rw [pX4_number_5, if_pos ((nI_leI (by omega) (by omega)).mpr (Nat.le_refl _))]
    exact hz
  by_cases s : sd c m i = true
  · have s1 := sd_iff.mp s
    have e : ed c m i = i + 3 := by unfold ed; rw [if_pos s]
    have e2 : nv c m i = c (i + 2) - 38 := by unfold nv; rw [if_pos s]
    refine ⟨3, st (i + 1) (by omega) (by omega) _ 0 (st (i + 2) (by omega) (by omega) _ _ ?_)⟩
    have := ex 0 ((0 * 10 + (c (i + 1) - 48)) * 10 + (c (i + 2) - 48)) (by
      rw [show (0 * 10 + (c (i + 1) - 48)) * 10 + (c (i + 2) - 48) = nv c m i by omega]
      exact hz)
    rw [e] at this ⊢
    exact this
  · have e : ed c m i = i + 2 := by unfold ed; rw [if_neg s]
    have e2 : nv c m i = c (i + 1) - 48 := by unfold nv; rw [if_neg s]
    refine ⟨2, st (i + 1) (by omega) (by omega) _ 0 ?_⟩
    have := ex 0 (0 * 10 + (c (i + 1) - 48)) (by
      rw [show 0 * 10 + (c (i + 1) - 48) = nv c m i by omega]
      exact hz)
    rw [e] at this ⊢
    exact this
end TextC
