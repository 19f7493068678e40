/-! small laws taken over from the rows of whole -/
theorem fU_none {p : Nat → Bool} : ∀ k j, fU p k j = none ↔ ∀ i, j ≤ i → i < j + k → p i = false
  | 0, j => ⟨fun _ i h1 h2 => absurd h2 (by omega), fun _ => rfl⟩
  | k + 1, j => by
    rw [fU]
    cases e : p j
    · rw [if_neg (by simp), fU_none k (j + 1)]
      refine ⟨fun h i h1 h2 => ?_, fun h i h1 h2 => h i (by omega) (by omega)⟩
      by_cases z : i = j
      · rw [z]; exact e
      · exact h i (by omega) (by omega)
    · rw [if_pos rfl]
      refine ⟨fun h => (by cases h), fun h => ?_⟩
      have := h j (by omega) (by omega)
      rw [e] at this
      cases this
theorem fU_lt {p : Nat → Bool} : ∀ k j i, fU p k j = some i → j ≤ i ∧ i < j + k ∧ p i = true
  | 0, j, i, h => by cases h
  | k + 1, j, i, h => by
    rw [fU] at h
    cases e : p j
    · rw [e, if_neg (by simp)] at h
      have := fU_lt k (j + 1) i h
      exact ⟨by omega, by omega, this.2.2⟩
    · rw [e, if_pos rfl] at h
      cases h
      exact ⟨by omega, by omega, e⟩
theorem oI_none {p : Nat → Bool} {k j : Nat} (hk : j + k < 1000) : oI (fU p k j) = -1 ↔ ∀ i, j ≤ i → i < j + k → p i = false := by
  rw [← fU_none]
  cases e : fU p k j with
  | none => exact ⟨fun _ => rfl, fun _ => rfl⟩
  | some i =>
    have := fU_lt k j i e
    refine ⟨fun h => ?_, fun h => (by cases h)⟩
    have h2 : nI i = -1 := h
    exact absurd (h2 ▸ (by decide : (-1 : Int32) < 0)) (nI_pos (by omega))
theorem cell_hp {b : Nat → Nat} {p : Nat} : oI (fU (fun k => b k == p + 1) 16 0) = -1 ↔ hp b p = false := by
  rw [oI_none (by omega)]
  constructor
  · intro h
    cases e : hp b p
    · rfl
    · obtain ⟨k, hk, e2⟩ := hp_iff.mp e
      have := h k (by omega) (by omega)
      simp [e2] at this
  · intro h i _ hi
    have := hp_not h (k := i) (by omega)
    simp [this]
def tF (p i : Nat) : Bool := if i < 4 then p.testBit i else if i < 8 then !p.testBit (i - 4) else false
theorem tF_lo (b : Nat → Nat) (c : Nat) {i : Nat} (h : i < 4) : (!ne b c || tF (b c - 1) i) = (!ne b c || tr b i c) := by
  unfold tF tr ne
  rw [if_pos h]
  cases b c != 0 <;> simp
theorem tF_hi (b : Nat → Nat) (c : Nat) {i : Nat} (h4 : ¬ i < 4) (h : i < 8) : (!ne b c || tF (b c - 1) i) = !tr b (i - 4) c := by
  unfold tF tr ne
  rw [if_neg h4, if_pos h]
  cases b c != 0 <;> simp
theorem shF_ex {b : Nat → Nat} {l : Nat} : iN (shF b l) = 0 ↔ exU (fun t => shF b l t || shF b l (4 + t)) 4 0 = false := by
  rw [iN_eq0, Bool.eq_false_iff, Ne, exU_iff]
  constructor
  · rintro h ⟨i, _, hi, e⟩
    rw [h i (by omega), h (4 + i) (by omega)] at e
    cases e
  · intro h i hi
    cases e : shF b l i
    · rfl
    · refine absurd ?_ h
      by_cases h4 : i < 4
      · exact ⟨i, by omega, by omega, by rw [e]; rfl⟩
      · by_cases h8 : i < 8
        · exact ⟨i - 4, by omega, by omega, by rw [show 4 + (i - 4) = i by omega, e, Bool.or_true]⟩
        · rw [shF_no (by omega)] at e
          cases e
theorem wC_le (b : Nat → Nat) (r : Nat) : wC b r ≤ 19 := Nat.le_trans (cN_le _ _) (ln_le r)
theorem wC_0 {b : Nat → Nat} {r : Nat} : nI (wC b r) ≤ 0 ↔ hw b r = false := by
  have h := wC_le b r
  rw [ige 0 (k := 0) rfl (by omega) (by omega), Bool.eq_false_iff, Ne, hw_iff]
  omega
def wcI (p : Nat) (q : PG) : Int32 := if ov q || hp q.1 p then -1 else oI (fU (wF q.1 q.2.2.1 p) 16 0)
theorem p_victor {s : SG} {Z : Int32 → Prop} (h : Z s.2.1) : pX2_victor s Z := h
theorem p_lineRule {s : SB} {Z : Int32 → Prop} (h : Z s.1) : pX0_lineRule s Z := h
theorem p_size {s : SH} {Z : Int32 → Prop} (h : Z s.2.1) : pX3_size s Z := h
theorem lnp (r : Nat) : 10 ≤ ln r := by unfold ln; split <;> omega
theorem mvI_n {q : PG} (h : ov q = false) : mvI q = nI (mvN q) := by unfold mvI; rw [h]; rfl
theorem cg_ov {p : Nat} {q : PG} (h : cg p q = true) : ov q = false := by
  unfold cg at h
  cases e : ov q
  · rfl
  · rw [e] at h; cases h
theorem OG_psh {q : PG} {L : Nat → PG} {n : Nat} (h : OG q) (hL : ∀ j, j < n → OG (L j)) : ∀ j, j < min (n + 1) 4 → OG (psh q L j)
  | 0, _ => h
  | j + 1, hj => hL j (by omega)
