/-! the end of a game: the values, as the class tells them -/
def mxI (a b : Int32) : Int32 := if a < b then b else a
def go (ok : Nat → Bool) (val : Nat → Int32) : Nat → Nat → Int32 → Int32
  | 0, _, acc => acc
  | k + 1, j, acc => if acc = 1 then acc else go ok val k (j + 1) (if ok j = true then mxI acc (val j) else acc)
def vX (VG : (Nat → Nat) → Int32) (r : Nat) (b : Nat → Nat) (p c : Nat) : Int32 := if hw (fu b c (p + 1)) r = true then 1 else VG (fu b c (p + 1))
def vP (VG : (Nat → Nat) → Int32) (r : Nat) (b : Nat → Nat) (p : Nat) : Int32 := go (fun c => b c == 0) (vX VG r b p) 16 0 (-1)
def vG (r : Nat) : Nat → (Nat → Nat) → Int32
  | 0, _ => 0
  | n + 1, b => go (fun p => !hp b p) (fun p => -(vP (vG r n) r b p)) 16 0 (-1)
def GS (n : Nat) (RR : Int32 → SB → (Int32 → SB → Prop) → Prop) : Prop := ∀ (b : Nat → Nat) (r k : Nat) (u : SB) (Z : Int32 → SB → Prop), k ≤ n → k ≤ 4 → RB u b r → r ≤ 1 → WB b → (∀ w, RB w b r → Z (vG r k b) w) → RR (nI k) u Z
def PS (n : Nat) (RR : Int32 → Int32 → SB → (Int32 → SB → Prop) → Prop) : Prop := ∀ (b : Nat → Nat) (r k p : Nat) (u : SB) (Z : Int32 → SB → Prop), k + 1 ≤ n → k + 1 ≤ 4 → RB u b r → r ≤ 1 → WB b → p < 16 → hp b p = false → (∀ w, RB w b r → Z (vP (vG r k) r b p) w) → RR (nI p) (nI (k + 1)) u Z
def VS (n : Nat) (RR : Int32 → Int32 → Int32 → SB → (Int32 → SB → Prop) → Prop) : Prop := ∀ (b : Nat → Nat) (r k p c : Nat) (u : SB) (Z : Int32 → SB → Prop), k + 1 ≤ n → k + 1 ≤ 4 → RB u b r → r ≤ 1 → WB b → p < 16 → hp b p = false → c < 16 → b c = 0 → (∀ w, RB w b r → Z (vX (vG r k) r b p c) w) → RR (nI p) (nI c) (nI (k + 1)) u Z
theorem vs_of {n : Nat} {RR : Int32 → SB → (Int32 → SB → Prop) → Prop} (h : GS n RR) : VS (n + 1) (pX1_valueOfPlacing RR) := by
  intro b r k p c u Z hk hk4 hu hr hwb hp4 hf hc h0 hz
  unfold pX1_valueOfPlacing
  refine p_put hu hp4 hc h0 fun w1 h1 => p_hasWonLine h1 hr ?_
  have hw1 := WB_put (c := c) hwb hf hp4
  unfold vX at hz
  cases e : hw (fu b c (p + 1)) r
  · rw [e, if_neg (by decide)] at hz
    refine ifp rfl ?_
    rw [nI_pred]
    refine h _ r k w1 _ (by omega) (by omega) h1 hr hw1 fun w4 h4 => p_lift h4 hw1 hp4 hc fu_s fun w5 h5 => hz w5 ?_
    rw [fu_undo h0] at h5
    exact h5
  · rw [e, if_pos rfl] at hz
    refine ifn (by decide) (p_lift h1 hw1 hp4 hc fu_s fun w5 h5 => hz w5 ?_)
    rw [fu_undo h0] at h5
    exact h5
theorem ps_of {n : Nat} {RR : Int32 → Int32 → Int32 → SB → (Int32 → SB → Prop) → Prop} (h : VS n RR) : PS n (pX1_valueToPlacer RR) := by
  intro b r k p u Z hk hk4 hu hr hwb hp4 hf hz
  unfold pX1_valueToPlacer
  refine ifn (nI_nle (by omega) (by omega)) (ifp ((ige 4 (k := 4) rfl (by omega) (by omega)).mpr (by omega)) ?_)
  unfold vP at hz
  refine pk_loop (fun n i (s : Int32 × SB) => pX1_valueToPlacer_16 RR Z (nI p) (nI (k + 1)) n s.1 (nI i) s.2) (fun i s => RB s.2 b r ∧ ∀ w, RB w b r → Z (go (fun c => b c == 0) (vX (vG r k) r b p) (16 - i) i s.1) w) 16 0 (-1, u) (by omega) ⟨hu, hz⟩ ?_ ?_
  · rintro n ⟨x, s⟩ ⟨h1, h2⟩
    show pX1_valueToPlacer_16 RR Z (nI p) (nI (k + 1)) (n + 1) x (nI 16) s
    rw [pX1_valueToPlacer_16]
    exact ifp ((ile 16 (k := 16) rfl (by omega) (by omega)).mpr (by omega)) (h2 s h1)
  · rintro n i ⟨x, s⟩ hi ⟨h1, h2⟩ hk2
    show pX1_valueToPlacer_16 RR Z (nI p) (nI (k + 1)) (n + 1) x (nI i) s
    have h2 : ∀ w, RB w b r → Z (go (fun c => b c == 0) (vX (vG r k) r b p) (16 - i) i x) w := h2
    rw [show 16 - i = (16 - (i + 1)) + 1 by omega, go] at h2
    rw [pX1_valueToPlacer_16]
    refine ifn (mt (ile 16 (k := 16) rfl (by omega) (by omega)).mp (by omega)) ?_
    by_cases e1 : x = 1
    · rw [if_pos e1] at h2
      exact ifp e1 (h2 s h1)
    · rw [if_neg e1] at h2
      refine ifn e1 (p_isEmpty h1 hi ?_)
      by_cases eb : b i = 0
      · rw [if_pos (by simp [eb])] at h2
        refine ifn (fun z => by simp [eb, bI] at z) (h b r k p i s _ hk hk4 h1 hr hwb hp4 hf hi eb fun w8 h8 => ?_)
        intro x9 e9 x10 e10
        rw [e10, nI_1, e9]
        exact hk2 (_, w8) ⟨h8, h2⟩
      · rw [if_neg (by simp [eb])] at h2
        refine ifp (bI_0.mpr (by simp [eb])) ?_
        intro x7 e7
        rw [e7, nI_1]
        exact hk2 (x, s) ⟨h1, h2⟩
theorem gs_of {n : Nat} {RR : Int32 → Int32 → SB → (Int32 → SB → Prop) → Prop} (h : PS n RR) : GS n (pX1_valueToGiver RR) := by
  intro b r k u Z hk hk4 hu hr hwb hz
  unfold pX1_valueToGiver
  cases k with
  | zero => exact ifp (by decide) (hz u hu)
  | succ k =>
    refine ifn (nI_nle (by omega) (by omega)) (ifp ((ige 4 (k := 4) rfl (by omega) (by omega)).mpr (by omega)) ?_)
    rw [vG] at hz
    refine pk_loop (fun n i (s : Int32 × SB) => pX1_valueToGiver_15 RR Z (nI (k + 1)) n s.1 (nI i) s.2) (fun i s => RB s.2 b r ∧ ∀ w, RB w b r → Z (go (fun p => !hp b p) (fun p => -(vP (vG r k) r b p)) (16 - i) i s.1) w) 16 0 (-1, u) (by omega) ⟨hu, hz⟩ ?_ ?_
    · rintro n ⟨x, s⟩ ⟨h1, h2⟩
      show pX1_valueToGiver_15 RR Z (nI (k + 1)) (n + 1) x (nI 16) s
      rw [pX1_valueToGiver_15]
      exact ifp ((ile 16 (k := 16) rfl (by omega) (by omega)).mpr (by omega)) (h2 s h1)
    · rintro n i ⟨x, s⟩ hi ⟨h1, h2⟩ hk2
      show pX1_valueToGiver_15 RR Z (nI (k + 1)) (n + 1) x (nI i) s
      have h2 : ∀ w, RB w b r → Z (go (fun p => !hp b p) (fun p => -(vP (vG r k) r b p)) (16 - i) i x) w := h2
      rw [show 16 - i = (16 - (i + 1)) + 1 by omega, go] at h2
      rw [pX1_valueToGiver_15]
      refine ifn (mt (ile 16 (k := 16) rfl (by omega) (by omega)).mp (by omega)) ?_
      by_cases e1 : x = 1
      · rw [if_pos e1] at h2
        exact ifp e1 (h2 s h1)
      · rw [if_neg e1] at h2
        refine ifn e1 (p_holds h1 hi ?_)
        cases eb : hp b i
        · rw [if_pos (by rw [eb]; rfl)] at h2
          refine ifp rfl (h b r k i s _ hk hk4 h1 hr hwb hi eb fun w8 h8 => ?_)
          intro x9 e9 x10 e10
          rw [e10, nI_1, e9]
          exact hk2 (_, w8) ⟨h8, h2⟩
        · rw [if_neg (by rw [eb]; decide)] at h2
          refine ifn (by decide) ?_
          intro x7 e7
          rw [e7, nI_1]
          exact hk2 (x, s) ⟨h1, h2⟩
theorem gs0 : GS 0 qG0 := by
  intro b r k u Z hk hk4 hu hr hwb hz
  obtain rfl : k = 0 := by omega
  unfold qG0 pX1_valueToGiver
  exact ifp (by decide) (hz u hu)
theorem gs3 : GS 3 qG3 := gs_of (ps_of (vs_of (gs_of (ps_of (vs_of (gs_of (ps_of (vs_of gs0))))))))
theorem vs4 : VS 4 qV4 := vs_of gs3
theorem ps4 : PS 4 qP4 := ps_of vs4
theorem gs4 : GS 4 qG4 := gs_of ps4
/-! a game's moves and their values -/
def mvOk (q : PG) (N : Nat) : Bool := if q.2.1 = 0 then !hp q.1 N else q.1 N == 0
def mvV (q : PG) (n N : Nat) : Int32 := if q.2.1 = 0 then -(vP (vG q.2.2.1 n) q.2.2.1 q.1 N) else vX (vG q.2.2.1 n) q.2.2.1 q.1 (q.2.1 - 1) N
def vO (q : PG) (n : Nat) : Int32 := go (mvOk q) (mvV q n) 16 0 (-1)
theorem vO_0 {q : PG} {n : Nat} (h : q.2.1 = 0) : vO q n = vG q.2.2.1 (n + 1) q.1 := by
  have e1 : mvOk q = fun p => !hp q.1 p := funext fun N => if_pos h
  have e2 : mvV q n = fun p => -(vP (vG q.2.2.1 n) q.2.2.1 q.1 p) := funext fun N => if_pos h
  unfold vO
  rw [e1, e2, vG]
theorem vO_1 {q : PG} {n : Nat} (h : ¬ q.2.1 = 0) : vO q n = vP (vG q.2.2.1 n) q.2.2.1 q.1 (q.2.1 - 1) := by
  have e1 : mvOk q = fun c => q.1 c == 0 := funext fun N => if_neg h
  have e2 : mvV q n = vX (vG q.2.2.1 n) q.2.2.1 q.1 (q.2.1 - 1) := funext fun N => if_neg h
  unfold vO vP
  rw [e1, e2]
section SearchC
variable {s : SG} {q : PG}
theorem p_pending {s : SG} {Z : Int32 → Prop} (h : Z s.1) : pX2_pending s Z := h
theorem pm_ne {g : Nat} (hg : g ≤ 16) (h : g ≠ 0) : ¬ pm g = -1 := fun z => h ((pm_inj (by omega) (by omega)).mp (z.trans pm_0.symm))
theorem p_valueOf (h : RG s q) (ho : OG q) {n : Nat} (hn : n ≤ 3) (hc : 16 - ct q.1 = n + 1) {Z : Int32 → SG → Prop} (hz : ∀ w, RG w q → Z (vO q n) w) : pX1_valueOf s Z := by
  unfold pX1_valueOf
  refine p_emptyCount h.2.2.2.2 (p_pending ?_)
  rw [hc]
  have hg := ho.2.1
  by_cases e : q.2.1 = 0
  · rw [vO_0 e] at hz
    refine ifp (by rw [h.1, e]; exact pm_0) (gs4 q.1 q.2.2.1 (n + 1) s.2.2.2 _ (by omega) (by omega) h.2.2.2.2 ho.2.2.1 ho.1 fun w hw => ?_)
    exact hz _ ⟨h.1, h.2.1, h.2.2.1, h.2.2.2.1, hw⟩
  · rw [vO_1 e] at hz
    refine ifn (by rw [h.1]; exact pm_ne hg e) (p_pending ?_)
    have e2 : s.1 = nI (q.2.1 - 1) := by
      rw [h.1, ← pm_s]
      exact congrArg pm (by omega)
    rw [e2]
    refine ps4 q.1 q.2.2.1 n (q.2.1 - 1) s.2.2.2 _ (by omega) (by omega) h.2.2.2.2 ho.2.2.1 ho.1 (by omega) (ho.2.2.2.2.1 e).1 fun w hw => ?_
    exact hz _ ⟨e2.symm.trans h.1, h.2.1, h.2.2.1, h.2.2.2.1, hw⟩
end SearchC
/-! the values lie in -1, 0, 1; there is a move -/
def T3 (x : Int32) : Prop := x = -1 ∨ x = 0 ∨ x = 1
theorem T3_mx {a b : Int32} (ha : T3 a) (hb : T3 b) : T3 (mxI a b) := by
  unfold mxI
  split
  · exact hb
  · exact ha
theorem T3_go {ok : Nat → Bool} {val : Nat → Int32} (hv : ∀ i, T3 (val i)) : ∀ k j acc, T3 acc → T3 (go ok val k j acc)
  | 0, _, _, h => h
  | k + 1, j, acc, h => by
    rw [go]
    split
    · exact h
    · refine T3_go hv k _ _ ?_
      split
      · exact T3_mx h (hv j)
      · exact h
theorem T3_neg {x : Int32} (h : T3 x) : T3 (-x) := by
  rcases h with rfl | rfl | rfl
  · exact Or.inr (Or.inr (by decide))
  · exact Or.inr (Or.inl (by decide))
  · exact Or.inl (by decide)
theorem T3_vX {VG : (Nat → Nat) → Int32} (h : ∀ b, T3 (VG b)) (r : Nat) (b : Nat → Nat) (p c : Nat) : T3 (vX VG r b p c) := by
  unfold vX
  split
  · exact Or.inr (Or.inr rfl)
  · exact h _
theorem T3_vP {VG : (Nat → Nat) → Int32} (h : ∀ b, T3 (VG b)) (r : Nat) (b : Nat → Nat) (p : Nat) : T3 (vP VG r b p) := T3_go (T3_vX h r b p) 16 0 _ (Or.inl rfl)
theorem T3_vG (r : Nat) : ∀ n b, T3 (vG r n b)
  | 0, _ => Or.inr (Or.inl rfl)
  | n + 1, b => by
    rw [vG]
    exact T3_go (fun p => T3_neg (T3_vP (T3_vG r n) r b p)) 16 0 _ (Or.inl rfl)
theorem T3_mvV (q : PG) (n N : Nat) : T3 (mvV q n N) := by
  unfold mvV
  split
  · exact T3_neg (T3_vP (T3_vG _ n) _ _ _)
  · exact T3_vX (T3_vG _ n) _ _ _ _
theorem go_2 {ok : Nat → Bool} {val : Nat → Int32} (hv : ∀ i, T3 (val i)) : ∀ k j, (∃ i, j ≤ i ∧ i < j + k ∧ ok i = true) → go ok val k j (-2) = go ok val k j (-1)
  | 0, j, ⟨i, h1, h2, _⟩ => absurd h2 (by omega)
  | k + 1, j, ⟨i, h1, h2, h3⟩ => by
    rw [go, go, if_neg (show ¬ (-2 : Int32) = 1 by decide), if_neg (show ¬ (-1 : Int32) = 1 by decide)]
    cases e : ok j
    · rw [if_neg (by decide), if_neg (by decide)]
      refine go_2 hv k (j + 1) ⟨i, ?_, by omega, h3⟩
      have : i ≠ j := fun z => by rw [z, e] at h3; cases h3
      omega
    · rw [if_pos rfl, if_pos rfl]
      have e2 : mxI (-2) (val j) = mxI (-1) (val j) := by
        rcases hv j with h | h | h <;> rw [h] <;> decide
      rw [e2]
theorem cN_or1 {f g : Nat → Bool} {x : Nat} (h : ∀ i, g i = true → f i = true ∨ i = x) : ∀ n, cN g n ≤ cN f n + 1
  | 0 => by simp [cN]
  | n + 1 => by
    have ih := cN_or1 h n
    rw [cN, cN]
    cases eg : g n
    · simp
      cases f n <;> simp <;> omega
    · rcases h n eg with e | e
      · rw [e]; simp; omega
      · subst e
        have : cN g n ≤ cN f n := by
          have z : ∀ m, m ≤ n → cN g m ≤ cN f m := by
            intro m
            induction m with
            | zero => intro _; exact Nat.le_refl _
            | succ m ih2 =>
              intro hm
              have i2 := ih2 (by omega)
              rw [cN, cN]
              cases eg2 : g m
              · simp
                cases f m <;> simp <;> omega
              · rcases h m eg2 with y | y
                · rw [y]; simp; omega
                · omega
          exact z n (Nat.le_refl n)
        cases f n <;> simp <;> omega
/-- no more pieces than cells that are not empty -/
theorem hp_ct (b : Nat → Nat) : ∀ n, cN (fun q => exU (fun k => b k == q + 1) n 0) 16 ≤ cN (ne b) n
  | 0 => by
    have := cN_zero (f := fun q => exU (fun k => b k == q + 1) 0 0) 16 (fun i _ => rfl)
    omega
  | n + 1 => by
    have ih := hp_ct b n
    show _ ≤ cN (ne b) n + (if ne b n = true then 1 else 0)
    by_cases e : b n = 0
    · rw [show ne b n = false by simp [ne, e], cN_ext (q := fun q => exU (fun k => b k == q + 1) n 0) (fun q _ => by
        rw [exU_snoc, Nat.zero_add, show (b n == q + 1) = false by simp; omega, Bool.or_false])]
      simp
      exact ih
    · rw [show ne b n = true by simp [ne, e]]
      have := cN_or1 (f := fun q => exU (fun k => b k == q + 1) n 0) (g := fun q => exU (fun k => b k == q + 1) (n + 1) 0) (x := b n - 1) (fun q hq => by
        rw [exU_snoc, Nat.zero_add, Bool.or_eq_true] at hq
        rcases hq with hq | hq
        · exact Or.inl hq
        · refine Or.inr ?_
          simp at hq
          omega) 16
      simp
      omega
theorem hp_ex {b : Nat → Nat} (h : ct b < 16) : ∃ p, p < 16 ∧ hp b p = false := by
  by_cases z : ∃ p, p < 16 ∧ hp b p = false
  · exact z
  · have h1 := hp_ct b 16
    have h2 : cN (fun q => exU (fun k => b k == q + 1) 16 0) 16 = 16 := cN_all.mpr fun q hq => by
      have : hp b q = true := by
        cases e : hp b q
        · exact absurd ⟨q, hq, e⟩ z
        · rfl
      obtain ⟨k, hk, e⟩ := hp_iff.mp this
      exact (exU_iff 16 0).mpr ⟨k, by omega, by omega, by simp [e]⟩
    rw [h2] at h1
    unfold ct at h
    omega
theorem em_ex {b : Nat → Nat} (h : ct b < 16) : ∃ c, c < 16 ∧ b c = 0 := by
  by_cases z : ∃ c, c < 16 ∧ b c = 0
  · exact z
  · have : ct b = 16 := cN_all.mpr fun i hi => by
      unfold ne
      have : ¬ b i = 0 := fun e => z ⟨i, hi, e⟩
      simp [this]
    omega
theorem mvOk_ex {q : PG} (h : ct q.1 < 16) : ∃ i, 0 ≤ i ∧ i < 0 + 16 ∧ mvOk q i = true := by
  unfold mvOk
  by_cases e : q.2.1 = 0
  · obtain ⟨p, hp4, e2⟩ := hp_ex h
    exact ⟨p, by omega, by omega, by rw [if_pos e, e2]; rfl⟩
  · obtain ⟨c, hc, e2⟩ := em_ex h
    exact ⟨c, by omega, by omega, by rw [if_neg e]; simp [e2]⟩
theorem go_1 (ok : Nat → Bool) (val : Nat → Int32) : ∀ k j, go ok val k j 1 = 1
  | 0, _ => rfl
  | k + 1, j => by rw [go, if_pos rfl]
