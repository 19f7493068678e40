/-! safe pieces, told in two ways -/
theorem or0 (x : Int32) : x ||| 0 = x := b_ext fun i _ => by rw [b_or, b_0, Bool.or_false]
theorem oI_ex {p : Nat → Bool} : oI (fU p 16 0) = -1 ↔ exU p 16 0 = false := by
  rw [oI_none (by omega), Bool.eq_false_iff, Ne, exU_iff]
  constructor
  · rintro h ⟨i, h1, h2, e⟩
    rw [h i h1 h2] at e
    cases e
  · intro h i h1 h2
    cases e : p i
    · rfl
    · exact absurd ⟨i, h1, h2, e⟩ h
theorem wL_iff {b : Nat → Nat} {l : Nat} : wL b l = true ↔ mn b l = 4 ∧ ∃ i, i < 8 ∧ shF b l i = true := by
  unfold wL
  rw [Bool.and_eq_true, beq_iff_eq, exU_iff]
  constructor
  · rintro ⟨h, t, _, ht, e⟩
    rw [Bool.or_eq_true] at e
    rcases e with e | e
    · exact ⟨h, t, by omega, e⟩
    · exact ⟨h, 4 + t, by omega, e⟩
  · rintro ⟨h, i, hi, e⟩
    refine ⟨h, ?_⟩
    by_cases h4 : i < 4
    · exact ⟨i, by omega, by omega, by rw [e]; rfl⟩
    · exact ⟨i - 4, by omega, by omega, by rw [show 4 + (i - 4) = i by omega, e, Bool.or_true]⟩
theorem cN_set4 {p q : Nat → Bool} {k : Nat} (hk : k < 4) (h0 : p k = false) (h1 : q k = true) (he : ∀ i, i < 4 → i ≠ k → q i = p i) : cN q 4 = cN p 4 + 1 := by
  show (((0 + _) + _) + _) + _ = ((((0 + _) + _) + _) + _) + 1
  rcases (show k = 0 ∨ k = 1 ∨ k = 2 ∨ k = 3 by omega) with rfl | rfl | rfl | rfl
  · rw [h0, h1, he 1 (by omega) (by omega), he 2 (by omega) (by omega), he 3 (by omega) (by omega)]
    simp
    omega
  · rw [h0, h1, he 0 (by omega) (by omega), he 2 (by omega) (by omega), he 3 (by omega) (by omega)]
    simp
    omega
  · rw [h0, h1, he 0 (by omega) (by omega), he 1 (by omega) (by omega), he 3 (by omega) (by omega)]
    simp
    omega
  · rw [h0, h1, he 0 (by omega) (by omega), he 1 (by omega) (by omega), he 2 (by omega) (by omega)]
    simp
theorem al_set {p q : Nat → Bool} {k : Nat} {t : Bool} (hk : k < 4) (h0 : p k = true) (h1 : q k = t) (he : ∀ i, i < 4 → i ≠ k → q i = p i) : al q = (al p && t) := by
  unfold al
  rcases (show k = 0 ∨ k = 1 ∨ k = 2 ∨ k = 3 by omega) with rfl | rfl | rfl | rfl
  · rw [h0, h1, he 1 (by omega) (by omega), he 2 (by omega) (by omega), he 3 (by omega) (by omega)]
    cases t <;> simp
  · rw [h0, h1, he 0 (by omega) (by omega), he 2 (by omega) (by omega), he 3 (by omega) (by omega)]
    cases t <;> simp
  · rw [h0, h1, he 0 (by omega) (by omega), he 1 (by omega) (by omega), he 3 (by omega) (by omega)]
    cases t <;> simp
  · rw [h0, h1, he 0 (by omega) (by omega), he 1 (by omega) (by omega), he 2 (by omega) (by omega)]
    cases t <;> simp
theorem ne_s (b : Nat → Nat) (c p : Nat) : ne (fu b c (p + 1)) c = true := by unfold ne; rw [fu_s]; simp
theorem ne_o {b : Nat → Nat} {c x i : Nat} (h : i ≠ c) : ne (fu b c x) i = ne b i := by unfold ne; rw [fu_n h]
theorem tr_s (b : Nat → Nat) (c p t : Nat) : tr (fu b c (p + 1)) t c = p.testBit t := by unfold tr; rw [fu_s]; simp
theorem tr_o {b : Nat → Nat} {c x t i : Nat} (h : i ≠ c) : tr (fu b c x) t i = tr b t i := by unfold tr; rw [fu_n h]
theorem ln_put {b : Nat → Nat} {l c p k0 : Nat} (hl : l < 19) (hk : k0 < 4) (hc : lc l k0 = c) (h0 : b c = 0) : mn (fu b c (p + 1)) l = mn b l + 1 ∧ ∀ i, i < 8 → shF (fu b c (p + 1)) l i = (shF b l i && tF p i) := by
  have hn : ∀ i, i < 4 → i ≠ k0 → lc l i ≠ c := fun i hi h e => h (lc_ne l hl i hi k0 hk (e.trans hc.symm))
  have hb : ne b c = false := by unfold ne; rw [h0]; rfl
  refine ⟨?_, fun i hi => ?_⟩
  · unfold mn
    refine cN_set4 hk ?_ ?_ fun i hi h => ne_o (hn i hi h)
    · show ne b (lc l k0) = false
      rw [hc]; exact hb
    · show ne (fu b c (p + 1)) (lc l k0) = true
      rw [hc]; exact ne_s b c p
  · by_cases h4 : i < 4
    · rw [shF_lo h4, shF_lo h4]
      refine al_set hk ?_ ?_ fun j hj h => ?_
      · show (!ne b (lc l k0) || tr b i (lc l k0)) = true
        rw [hc, hb]; rfl
      · show (!ne (fu b c (p + 1)) (lc l k0) || tr (fu b c (p + 1)) i (lc l k0)) = tF p i
        rw [hc, ne_s, tr_s]
        unfold tF
        rw [if_pos h4]
        rfl
      · show (!ne (fu b c (p + 1)) (lc l j) || tr (fu b c (p + 1)) i (lc l j)) = (!ne b (lc l j) || tr b i (lc l j))
        rw [ne_o (hn j hj h), tr_o (hn j hj h)]
    · obtain ⟨t, rfl⟩ : ∃ t, i = 4 + t := ⟨i - 4, by omega⟩
      rw [shF_hi (by omega), shF_hi (by omega)]
      refine al_set hk ?_ ?_ fun j hj h => ?_
      · show (!tr b t (lc l k0)) = true
        rw [hc]
        unfold tr
        rw [h0]
        rfl
      · show (!tr (fu b c (p + 1)) t (lc l k0)) = tF p (4 + t)
        rw [hc, tr_s]
        unfold tF
        rw [if_neg (by omega), if_pos (by omega), Nat.add_sub_cancel_left]
      · show (!tr (fu b c (p + 1)) t (lc l j)) = !tr b t (lc l j)
        rw [tr_o (hn j hj h)]
theorem ln_out {b : Nat → Nat} {l c x : Nat} (h : ∀ k, k < 4 → lc l k ≠ c) : mn (fu b c x) l = mn b l ∧ ∀ i, i < 8 → shF (fu b c x) l i = shF b l i := by
  refine ⟨?_, fun i hi => ?_⟩
  · unfold mn
    exact cN_ext fun k hk => ne_o (h k hk)
  · have e : ∀ f g : Nat → Bool, (∀ k, k < 4 → f k = g k) → al f = al g := fun f g hfg => by
      unfold al
      rw [hfg 0 (by omega), hfg 1 (by omega), hfg 2 (by omega), hfg 3 (by omega)]
    by_cases h4 : i < 4
    · rw [shF_lo h4, shF_lo h4]
      exact e _ _ fun k hk => by rw [ne_o (h k hk), tr_o (h k hk)]
    · obtain ⟨t, rfl⟩ : ∃ t, i = 4 + t := ⟨i - 4, by omega⟩
      rw [shF_hi (by omega), shF_hi (by omega)]
      exact e _ _ fun k hk => by rw [tr_o (h k hk)]
theorem hw_ex {b : Nat → Nat} {r : Nat} : hw b r = true ↔ ∃ l, l < ln r ∧ wL b l = true := by
  unfold hw
  rw [exU_iff]
  exact ⟨fun ⟨i, _, h, e⟩ => ⟨i, by omega, e⟩, fun ⟨i, h, e⟩ => ⟨i, by omega, by omega, e⟩⟩
/-- by lines as by trying -/
theorem safe_eq {b : Nat → Nat} {r p : Nat} (hnw : hw b r = false) : exU (fun i => tF p i && dG b (ln r) i) 16 0 = exU (wF b r p) 16 0 := b_eq (by
  have hl := ln_le r
  rw [exU_iff, exU_iff]
  constructor
  · rintro ⟨i, _, hi, e⟩
    rw [Bool.and_eq_true] at e
    obtain ⟨e1, e2⟩ := e
    unfold dG at e2
    obtain ⟨l, _, hll, e3⟩ := (exU_iff _ _).mp e2
    rw [Bool.and_eq_true, beq_iff_eq] at e3
    have hi8 : i < 8 := by
      by_cases z : i < 8
      · exact z
      · rw [shF_no (by omega)] at e3
        cases e3.2
    obtain ⟨k0, hk0, e4⟩ : ∃ k, k < 4 ∧ ne b (lc l k) = false := by
      by_cases z : ∃ k, k < 4 ∧ ne b (lc l k) = false
      · exact z
      · have : mn b l = 4 := cN_all.mpr fun k hk => by
          cases y : ne b (lc l k)
          · exact absurd ⟨k, hk, y⟩ z
          · rfl
        omega
    have hc16 := lc_lt l (by omega) k0 hk0
    have h0 : b (lc l k0) = 0 := by
      unfold ne at e4
      simpa using e4
    have hp := ln_put (b := b) (p := p) (show l < 19 by omega) hk0 rfl h0
    refine ⟨lc l k0, by omega, by omega, ?_⟩
    unfold wF
    rw [Bool.and_eq_true, beq_iff_eq]
    refine ⟨h0, hw_ex.mpr ⟨l, by omega, wL_iff.mpr ⟨by omega, i, hi8, ?_⟩⟩⟩
    rw [hp.2 i hi8, e3.2, e1]
    rfl
  · rintro ⟨c, _, hc, e⟩
    unfold wF at e
    rw [Bool.and_eq_true, beq_iff_eq] at e
    obtain ⟨h0, e⟩ := e
    obtain ⟨l, hll, e2⟩ := hw_ex.mp e
    obtain ⟨h4, i, hi, e3⟩ := wL_iff.mp e2
    by_cases z : ∃ k, k < 4 ∧ lc l k = c
    · obtain ⟨k0, hk0, hc2⟩ := z
      have hp := ln_put (b := b) (p := p) (show l < 19 by omega) hk0 hc2 h0
      rw [hp.2 i hi, Bool.and_eq_true] at e3
      refine ⟨i, by omega, by omega, ?_⟩
      rw [Bool.and_eq_true]
      refine ⟨e3.2, ?_⟩
      unfold dG
      refine (exU_iff _ _).mpr ⟨l, by omega, by omega, ?_⟩
      rw [e3.1, show mn b l = 3 by omega]
      rfl
    · have ho := ln_out (b := b) (l := l) (c := c) (x := p + 1) fun k hk y => z ⟨k, hk, y⟩
      rw [ho.2 i hi] at e3
      have : hw b r = true := hw_ex.mpr ⟨l, hll, wL_iff.mpr ⟨by omega, i, hi, e3⟩⟩
      rw [this] at hnw
      cases hnw)
def sfT (q : PG) (p : Nat) : Bool := fr p q && !exU (wF q.1 q.2.2.1 p) 16 0
def svI (q : PG) : Int32 := if ov q then 0 else iN (sfT q)
def upB (g : Nat → Bool) (n i : Nat) : Bool := decide (i < n) && g i
theorem upB_0 (g : Nat → Bool) : iN (upB g 0) = 0 := by
  rw [← iN_0]
  exact iN_ext fun i _ => by unfold upB; simp
theorem upB_16 (g : Nat → Bool) : iN (upB g 16) = iN g := iN_ext fun i hi => by unfold upB; simp [hi]
theorem upB_t {g : Nat → Bool} {n : Nat} (hn : n < 16) (h : g n = true) : iN (upB g n) ||| ((1 : Int32) <<< (nI n &&& 31)) = iN (upB g (n + 1)) := by
  rw [iN_set _ hn]
  refine iN_ext fun i _ => ?_
  unfold upB
  by_cases e : i = n
  · subst e
    simp [h]
  · have e2 : (i < n + 1) = (i < n) := propext (by omega)
    simp [e, e2]
theorem upB_f {g : Nat → Bool} {n : Nat} (h : g n = false) : iN (upB g n) = iN (upB g (n + 1)) := by
  refine iN_ext fun i _ => ?_
  unfold upB
  by_cases e : i = n
  · subst e
    simp [h]
  · have e2 : (i < n + 1) = (i < n) := propext (by omega)
    simp [e2]
theorem tF_cl : ∀ p, p < 16 → nI p ||| (((nI p ^^^ (-1)) &&& 15) <<< (4 &&& 31)) = iN (tF p) := by decide +kernel
