/-! a board of the class, and the pure board: b c = 0 where the cell c is empty, the piece and 1 elsewhere -/
theorem ile (N : Nat) {j : Nat} {k : Int32} (hk : k = nI N) (hN : N < 2 ^ 31) (hj : j < 2 ^ 31) : k ≤ nI j ↔ N ≤ j := by subst hk; exact nI_leI hN hj
theorem ige (N : Nat) {j : Nat} {k : Int32} (hk : k = nI N) (hN : N < 2 ^ 31) (hj : j < 2 ^ 31) : nI j ≤ k ↔ j ≤ N := by subst hk; exact nI_leI hj hN
theorem ilt (N : Nat) {j : Nat} {k : Int32} (hk : k = nI N) (hN : N < 2 ^ 31) (hj : j < 2 ^ 31) : nI j < k ↔ j < N := by subst hk; exact nI_ltI hj hN
theorem igt (N : Nat) {j : Nat} {k : Int32} (hk : k = nI N) (hN : N < 2 ^ 31) (hj : j < 2 ^ 31) : k < nI j ↔ N < j := by subst hk; exact nI_ltI hN hj
theorem ieq (N : Nat) {j : Nat} {k : Int32} (hk : k = nI N) (hN : N < 2 ^ 31) (hj : j < 2 ^ 31) : nI j = k ↔ j = N := by subst hk; exact nI_eq hj hN
def bI (b : Bool) : Int32 := if b then 1 else 0
theorem bI_0 {b : Bool} : bI b = 0 ↔ b = false := by cases b <;> simp [bI]
theorem bI_n (b : Bool) : narrow .boolean (.int (bI b)) = .int (bI b) := by cases b <;> rfl
/-- one less: the number that stands behind 'the piece and 1' -/
def pm (n : Nat) : Int32 := nI n - 1
theorem pm_0 : pm 0 = -1 := by decide +kernel
theorem pm_s (n : Nat) : pm (n + 1) = nI n := nI_pred n
theorem pm_inj {a b : Nat} (ha : a ≤ 1000) (hb : b ≤ 1000) : pm a = pm b ↔ a = b := by
  constructor
  · intro h
    unfold pm at h
    have e : ∀ x y : Int32, x - 1 = y - 1 → x = y := fun x y q => by
      have h2 : x - 1 + 1 = y - 1 + 1 := by rw [q]
      simpa using h2
    exact (nI_eq (by omega) (by omega)).mp (e _ _ h)
  · intro h; rw [h]
def lcs : List (List Nat) := [[0, 1, 2, 3], [4, 5, 6, 7], [8, 9, 10, 11], [12, 13, 14, 15], [0, 4, 8, 12], [1, 5, 9, 13], [2, 6, 10, 14], [3, 7, 11, 15], [0, 5, 10, 15], [3, 6, 9, 12], [0, 1, 4, 5], [1, 2, 5, 6], [2, 3, 6, 7], [4, 5, 8, 9], [5, 6, 9, 10], [6, 7, 10, 11], [8, 9, 12, 13], [9, 10, 13, 14], [10, 11, 14, 15]]
def lc (l k : Nat) : Nat := (lcs.getD l []).getD k 0
def onL (l i : Nat) : Bool := i == lc l 0 || i == lc l 1 || i == lc l 2 || i == lc l 3
theorem gLC_iN : ∀ l, l < 19 → gLC l = iN (onL l) := by decide +kernel
theorem lc_lt : ∀ l, l < 19 → ∀ k, k < 4 → lc l k < 16 := by decide +kernel
theorem lc_ne : ∀ l, l < 19 → ∀ i, i < 4 → ∀ j, j < 4 → lc l i = lc l j → i = j := by decide +kernel
/-- for all cells of a line -/
theorem onL_all {l : Nat} (hl : l < 19) {p : Nat → Prop} : (∀ i, i < 16 → onL l i = true → p i) ↔ p (lc l 0) ∧ p (lc l 1) ∧ p (lc l 2) ∧ p (lc l 3) := by
  have h := lc_lt l hl
  constructor
  · intro q
    exact ⟨q _ (h 0 (by omega)) (by simp [onL]), q _ (h 1 (by omega)) (by simp [onL]), q _ (h 2 (by omega)) (by simp [onL]), q _ (h 3 (by omega)) (by simp [onL])⟩
  · rintro ⟨q0, q1, q2, q3⟩ i _ hi
    simp only [onL, Bool.or_eq_true, beq_iff_eq] at hi
    rcases hi with ((rfl | rfl) | rfl) | rfl
    · exact q0
    · exact q1
    · exact q2
    · exact q3
def ne (b : Nat → Nat) (i : Nat) : Bool := b i != 0
def tr (b : Nat → Nat) (t i : Nat) : Bool := b i != 0 && (b i - 1).testBit t
def hp (b : Nat → Nat) (q : Nat) : Bool := (List.range 16).any (fun k => b k == q + 1)
theorem hp_iff {b : Nat → Nat} {q : Nat} : hp b q = true ↔ ∃ k, k < 16 ∧ b k = q + 1 := by simp [hp]
/-- the class's board u holds the pure board b, with the rule r -/
def RB (v : SB) (b : Nat → Nat) (r : Nat) : Prop := v.1 = nI r ∧ v.2.1 = iN (ne b) ∧ v.2.2.1 = iN (hp b) ∧ ∀ t, t < 4 → v.2.2.2 t = iN (tr b t)
/-- a board on which no piece stands twice -/
def WB (b : Nat → Nat) : Prop := (∀ k, k < 16 → b k ≤ 16) ∧ ∀ i j, i < 16 → j < 16 → b i ≠ 0 → b i = b j → i = j
def ln (r : Nat) : Nat := if r = 1 then 19 else 10
theorem ln_le (r : Nat) : ln r ≤ 19 := by unfold ln; split <;> omega
section Board
variable {v : SB} {b : Nat → Nat} {r : Nat} {Z : Int32 → Prop}
def ct (b : Nat → Nat) : Nat := cN (ne b) 16
theorem ct_le (b : Nat → Nat) : ct b ≤ 16 := cN_le _ _
theorem p_count (h : RB v b r) (hz : Z (nI (ct b))) : pX0_count v Z := by
  unfold pX0_count
  rw [h.2.1]
  exact p_bc _ hz
theorem p_emptyCount (h : RB v b r) (hz : Z (nI (16 - ct b))) : pX0_emptyCount v Z := by
  unfold pX0_emptyCount
  refine p_count h ?_
  rw [show (16 : Int32) = nI 16 from rfl, pk_sub (ct_le b)]
  exact hz
theorem p_isEmpty (h : RB v b r) {c : Nat} (hc : c < 16) (hz : Z (bI (b c == 0))) : pX0_isEmpty (nI c) v Z := by
  unfold pX0_isEmpty
  rw [h.2.1]
  by_cases hb : b c = 0
  · rw [if_pos ((iN_test _ hc).mpr (by simp [ne, hb]))]
    simpa [hb, bI] using hz
  · rw [if_neg (fun q => by have := (iN_test _ hc).mp q; simp [ne, hb] at this)]
    simpa [hb, bI] using hz
theorem p_holds (h : RB v b r) {q : Nat} (hq : q < 16) (hz : Z (bI (hp b q))) : pX0_holds (nI q) v Z := by
  unfold pX0_holds
  rw [h.2.2.1]
  cases hb : hp b q
  · rw [if_pos ((iN_test _ hq).mpr hb)]
    rw [hb] at hz
    exact hz
  · rw [if_neg (fun z => by rw [(iN_test _ hq).mp z] at hb; cases hb)]
    rw [hb] at hz
    exact hz
theorem pc_or : ∀ p, p < 16 → ((((0 : Int32) ||| ((if p.testBit 0 then 1 else 0) <<< (nI 0 &&& 31))) ||| ((if p.testBit 1 then 1 else 0) <<< (nI 1 &&& 31))) ||| ((if p.testBit 2 then 1 else 0) <<< (nI 2 &&& 31))) ||| ((if p.testBit 3 then 1 else 0) <<< (nI 3 &&& 31)) = nI p := by decide +kernel
theorem p_pieceAt (h : RB v b r) (hw : WB b) {c : Nat} (hc : c < 16) (hz : Z (pm (b c))) : pX0_pieceAt (nI c) v Z := by
  unfold pX0_pieceAt
  refine p_isEmpty h hc ?_
  by_cases hb : b c = 0
  · rw [if_neg (fun q => by simp [hb, bI] at q)]
    rw [hb, pm_0] at hz
    exact hz
  · rw [if_pos (bI_0.mpr (by simp [hb]))]
    have step : ∀ t, t < 4 → ∀ (n : Nat) (acc : Int32), pX0_pieceAt_14 Z (nI c) v n (acc ||| ((if (b c - 1).testBit t then 1 else 0) <<< (nI t &&& 31))) (nI (t + 1)) → pX0_pieceAt_14 Z (nI c) v (n + 1) acc (nI t) := by
      intro t ht n acc hk
      rw [pX0_pieceAt_14, if_neg (mt (ile 4 (k := 4) rfl (by omega) (by omega)).mp (by omega))]
      refine ⟨vp_in_nI ht (by omega), fun x5 e5 x6 e6 => ?_⟩
      rw [nI_clamp (by omega), h.2.2.2 t ht, iN_bit _ hc, show tr b t c = (b c - 1).testBit t by simp [tr, hb]] at e5
      rw [nI_1] at e6
      rw [e5, e6]
      exact hk
    refine ⟨5, step 0 (by omega) _ _ (step 1 (by omega) _ _ (step 2 (by omega) _ _ (step 3 (by omega) _ _ ?_)))⟩
    rw [pX0_pieceAt_14, if_pos ((ile 4 (k := 4) rfl (by omega) (by omega)).mpr (by omega)), pc_or (b c - 1) (by have := hw.1 c hc; omega)]
    rw [show b c = (b c - 1) + 1 by omega, pm_s] at hz
    exact hz
/-- the first that is so, from j on, of k -/
def fU (p : Nat → Bool) : Nat → Nat → Option Nat
  | 0, _ => none
  | k + 1, j => if p j then some j else fU p k (j + 1)
/-- an answer: a number, or none -/
def oI (o : Option Nat) : Int32 := match o with
  | some n => nI n
  | none => -1
theorem p_cellWith (h : RB v b r) (hw : WB b) {q : Nat} (hq : q < 16) (hz : Z (oI (fU (fun k => b k == q + 1) 16 0))) : pX0_cellWith (nI q) v Z := by
  unfold pX0_cellWith
  have key : ∀ k j, j + k = 16 → Z (oI (fU (fun k => b k == q + 1) k j)) → ∃ n, pX0_cellWith_2 Z (nI q) v n (nI j) := by
    intro k
    induction k with
    | zero =>
      intro j hj hz
      refine ⟨1, ?_⟩
      rw [pX0_cellWith_2, if_pos ((ile 16 (k := 16) rfl (by omega) (by omega)).mpr (by omega))]
      exact hz
    | succ k ih =>
      intro j hj hz
      rw [fU] at hz
      by_cases hb : b j = q + 1
      · refine ⟨1, ?_⟩
        rw [pX0_cellWith_2, if_neg (mt (ile 16 (k := 16) rfl (by omega) (by omega)).mp (by omega))]
        refine p_pieceAt h hw (by omega) ?_
        rw [if_pos (by rw [hb, pm_s])]
        rw [if_pos (by simp [hb])] at hz
        exact hz
      · rw [if_neg (by simp [hb])] at hz
        obtain ⟨n, hn⟩ := ih (j + 1) (by omega) hz
        refine ⟨n + 1, ?_⟩
        rw [pX0_cellWith_2, if_neg (mt (ile 16 (k := 16) rfl (by omega) (by omega)).mp (by omega))]
        refine p_pieceAt h hw (by omega) ?_
        rw [if_neg (fun z => hb (by have h1 := hw.1 j (by omega); rw [← pm_s] at z; exact (pm_inj (by omega) (by omega)).mp z))]
        intro x4 e4
        rw [e4, nI_1]
        exact hn
  exact key 16 0 rfl hz
theorem p_lineCount (h : RB v b r) (hr : r ≤ 1) (hz : Z (nI (ln r))) : pX0_lineCount v Z := by
  unfold pX0_lineCount
  rw [h.1]
  unfold ln at hz
  by_cases h1 : r = 1
  · rw [if_pos ((ieq 1 (k := 1) rfl (by omega) (by omega)).mpr h1)]
    rw [if_pos h1] at hz
    exact hz
  · rw [if_neg (mt (ieq 1 (k := 1) rfl (by omega) (by omega)).mp h1)]
    rw [if_neg h1] at hz
    exact hz
end Board
