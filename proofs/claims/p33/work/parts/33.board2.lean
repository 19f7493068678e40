/-! the board of the class, further: lines, putting and lifting -/
theorem b_eq {a b : Bool} (h : a = true ↔ b = true) : a = b := Bool.eq_iff_iff.mpr h
theorem cN_zero {f : Nat → Bool} : ∀ n, (∀ i, i < n → f i = false) → cN f n = 0
  | 0, _ => rfl
  | n + 1, h => by rw [cN, cN_zero n (fun i hi => h i (by omega)), h n (by omega)]; rfl
theorem cN_or {f g : Nat → Bool} : ∀ n, (∀ i, i < n → f i = true → g i = false) → cN (fun i => f i || g i) n = cN f n + cN g n
  | 0, _ => rfl
  | n + 1, h => by
    rw [cN, cN, cN, cN_or n (fun i hi => h i (by omega))]
    have h1 := h n (by omega)
    cases hf : f n <;> cases hg : g n <;> simp [hf, hg] at h1 ⊢ <;> omega
theorem cN_eq1 (p : Nat → Bool) (x : Nat) : ∀ n, x < n → cN (fun i => p i && decide (i = x)) n = if p x then 1 else 0
  | 0, h => absurd h (by omega)
  | n + 1, h => by
    rw [cN]
    by_cases e : n = x
    · subst e
      rw [cN_zero n (fun i hi => by simp; omega)]
      simp
    · rw [cN_eq1 p x n (by omega)]
      simp [e]
theorem cN_set {p q : Nat → Bool} {c : Nat} (h0 : p c = false) (h1 : q c = true) (he : ∀ i, i ≠ c → q i = p i) : ∀ n, c < n → cN q n = cN p n + 1
  | 0, h => absurd h (by omega)
  | n + 1, h => by
    rw [cN, cN]
    by_cases e : n = c
    · subst e
      rw [h0, h1, cN_ext (p := q) (q := p) (fun i hi => he i (by omega))]
      simp
    · rw [cN_set h0 h1 he n (by omega), he n e]
      omega
theorem onL_d (l i : Nat) : onL l i = ((decide (i = lc l 0) || decide (i = lc l 1)) || decide (i = lc l 2) || decide (i = lc l 3)) := rfl
theorem cN_on {l : Nat} (hl : l < 19) (p : Nat → Bool) : cN (fun i => p i && onL l i) 16 = cN (fun k => p (lc l k)) 4 := by
  have hlt := lc_lt l hl
  have hn : ∀ i j, i < 4 → j < 4 → i ≠ j → lc l i ≠ lc l j := fun i j hi hj h e => h (lc_ne l hl i hi j hj e)
  have e : (fun i => p i && onL l i) = fun i => (((p i && decide (i = lc l 0)) || (p i && decide (i = lc l 1))) || (p i && decide (i = lc l 2))) || (p i && decide (i = lc l 3)) := funext fun i => by
    rw [onL_d]
    cases p i <;> simp
  have n01 := hn 0 1 (by omega) (by omega) (by omega)
  have n02 := hn 0 2 (by omega) (by omega) (by omega)
  have n03 := hn 0 3 (by omega) (by omega) (by omega)
  have n12 := hn 1 2 (by omega) (by omega) (by omega)
  have n13 := hn 1 3 (by omega) (by omega) (by omega)
  have n23 := hn 2 3 (by omega) (by omega) (by omega)
  rw [e, cN_or 16 (fun i _ h => by
    simp only [Bool.or_eq_true, Bool.and_eq_true, decide_eq_true_eq] at h
    have : ¬ i = lc l 3 := by omega
    simp [this]), cN_or 16 (fun i _ h => by
    simp only [Bool.or_eq_true, Bool.and_eq_true, decide_eq_true_eq] at h
    have : ¬ i = lc l 2 := by omega
    simp [this]), cN_or 16 (fun i _ h => by
    simp only [Bool.and_eq_true, decide_eq_true_eq] at h
    have : ¬ i = lc l 1 := by omega
    simp [this]), cN_eq1 p _ 16 (hlt 0 (by omega)), cN_eq1 p _ 16 (hlt 1 (by omega)), cN_eq1 p _ 16 (hlt 2 (by omega)), cN_eq1 p _ 16 (hlt 3 (by omega))]
  simp [cN]
/-- a new content of a cell -/
def fu (b : Nat → Nat) (c x : Nat) : Nat → Nat := fun j => if j = c then x else b j
theorem fu_s {b : Nat → Nat} {c x : Nat} : fu b c x c = x := if_pos rfl
theorem fu_n {b : Nat → Nat} {c x j : Nat} (h : j ≠ c) : fu b c x j = b j := if_neg h
theorem fu_undo {b : Nat → Nat} {c x : Nat} (h : b c = 0) : fu (fu b c x) c 0 = b := funext fun j => by
  by_cases e : j = c
  · subst e; rw [fu_s, h]
  · rw [fu_n e, fu_n e]
theorem hp_put {b : Nat → Nat} {c p q : Nat} (hc : c < 16) (h0 : b c = 0) : hp (fu b c (p + 1)) q = (hp b q || decide (q = p)) := b_eq (by
  rw [hp_iff, Bool.or_eq_true, hp_iff, decide_eq_true_iff]
  constructor
  · rintro ⟨k, hk, e⟩
    by_cases h : k = c
    · subst h
      rw [fu_s] at e
      exact Or.inr (by omega)
    · rw [fu_n h] at e
      exact Or.inl ⟨k, hk, e⟩
  · rintro (⟨k, hk, e⟩ | e)
    · refine ⟨k, hk, ?_⟩
      rw [fu_n (by intro z; subst z; omega)]
      exact e
    · exact ⟨c, hc, by rw [fu_s, e]⟩)
theorem hp_lift {b : Nat → Nat} {c p q : Nat} (hc : c < 16) (hw : WB b) (h : b c = p + 1) : hp (fu b c 0) q = (hp b q && !decide (q = p)) := b_eq (by
  rw [hp_iff, Bool.and_eq_true, hp_iff, Bool.not_eq_true', decide_eq_false_iff_not]
  constructor
  · rintro ⟨k, hk, e⟩
    by_cases z : k = c
    · subst z
      rw [fu_s] at e
      omega
    · rw [fu_n z] at e
      exact ⟨⟨k, hk, e⟩, fun y => z (hw.2 k c hk hc (by omega) (by omega))⟩
  · rintro ⟨⟨k, hk, e⟩, y⟩
    refine ⟨k, hk, ?_⟩
    rw [fu_n (by intro z; subst z; omega)]
    exact e)
theorem hp_not {b : Nat → Nat} {q : Nat} (h : hp b q = false) {k : Nat} (hk : k < 16) : b k ≠ q + 1 := fun e => by
  rw [hp_iff.mpr ⟨k, hk, e⟩] at h
  cases h
theorem WB_put {b : Nat → Nat} {c p : Nat} (hw : WB b) (hf : hp b p = false) (hq : p < 16) : WB (fu b c (p + 1)) := by
  refine ⟨fun k hk => ?_, fun i j hi hj h0 e => ?_⟩
  · unfold fu
    split
    · omega
    · exact hw.1 k hk
  · have h1 := hp_not hf hi
    have h2 := hp_not hf hj
    unfold fu at h0 e
    by_cases a : i = c <;> by_cases d : j = c
    · omega
    · rw [if_pos a, if_neg d] at e
      omega
    · rw [if_neg a, if_pos d] at e
      omega
    · rw [if_neg a, if_neg d] at e
      rw [if_neg a] at h0
      exact hw.2 i j hi hj h0 e
theorem ct_put {b : Nat → Nat} {c p : Nat} (hc : c < 16) (h0 : b c = 0) : ct (fu b c (p + 1)) = ct b + 1 := by
  unfold ct
  refine cN_set (c := c) ?_ ?_ (fun i hi => ?_) 16 hc
  · simp [ne, h0]
  · simp [ne, fu_s]
  · simp [ne, fu_n hi]
def exU (p : Nat → Bool) : Nat → Nat → Bool
  | 0, _ => false
  | k + 1, j => p j || exU p k (j + 1)
theorem exU_iff {p : Nat → Bool} : ∀ k j, exU p k j = true ↔ ∃ i, j ≤ i ∧ i < j + k ∧ p i = true
  | 0, j => ⟨fun h => (by cases h), fun ⟨i, h1, h2, _⟩ => absurd h2 (by omega)⟩
  | k + 1, j => by
    rw [exU, Bool.or_eq_true, exU_iff k (j + 1)]
    constructor
    · rintro (h | ⟨i, h1, h2, h3⟩)
      · exact ⟨j, by omega, by omega, h⟩
      · exact ⟨i, by omega, by omega, h3⟩
    · rintro ⟨i, h1, h2, h3⟩
      by_cases e : i = j
      · subst e
        exact Or.inl h3
      · exact Or.inr ⟨i, by omega, by omega, h3⟩
/-- how many pieces on a line -/
def mn (b : Nat → Nat) (l : Nat) : Nat := cN (fun k => ne b (lc l k)) 4
def al (q : Nat → Bool) : Bool := q 0 && q 1 && q 2 && q 3
theorem al_iff {q : Nat → Bool} : al q = true ↔ q 0 = true ∧ q 1 = true ∧ q 2 = true ∧ q 3 = true := by
  unfold al
  cases q 0 <;> cases q 1 <;> cases q 2 <;> cases q 3 <;> simp
/-- the traits that are shared on a line, by their bits -/
def shF (b : Nat → Nat) (l i : Nat) : Bool := if i < 4 then al (fun k => !ne b (lc l k) || tr b i (lc l k)) else if i < 8 then al (fun k => !tr b (i - 4) (lc l k)) else false
theorem shF_lo {b : Nat → Nat} {l i : Nat} (h : i < 4) : shF b l i = al (fun k => !ne b (lc l k) || tr b i (lc l k)) := if_pos h
theorem shF_hi {b : Nat → Nat} {l i : Nat} (h : i < 4) : shF b l (4 + i) = al (fun k => !tr b i (lc l k)) := by
  unfold shF
  rw [if_neg (by omega), if_pos (by omega), Nat.add_sub_cancel_left]
theorem shF_no {b : Nat → Nat} {l i : Nat} (h : 8 ≤ i) : shF b l i = false := by
  unfold shF
  rw [if_neg (by omega), if_neg (by omega)]
/-- a line is won -/
def wL (b : Nat → Nat) (l : Nat) : Bool := mn b l == 4 && exU (fun t => shF b l t || shF b l (4 + t)) 4 0
def wC (b : Nat → Nat) (r : Nat) : Nat := cN (wL b) (ln r)
def hw (b : Nat → Nat) (r : Nat) : Bool := exU (wL b) (ln r) 0
theorem hw_iff {b : Nat → Nat} {r : Nat} : hw b r = true ↔ 0 < wC b r := by
  unfold hw wC
  rw [exU_iff, cN_pos]
  exact ⟨fun ⟨i, _, h, q⟩ => ⟨i, by omega, q⟩, fun ⟨i, h, q⟩ => ⟨i, by omega, by omega, q⟩⟩
theorem on_al {l : Nat} (hl : l < 19) (q : Nat → Bool) : (∀ i, i < 16 → onL l i = true → q i = true) ↔ al (fun k => q (lc l k)) = true := by
  rw [al_iff]
  exact onL_all hl
theorem sh_with {l : Nat} (hl : l < 19) (f m : Nat → Bool) : iN (fun i => f i && (m i && onL l i)) = iN (fun i => m i && onL l i) ↔ al (fun k => !m (lc l k) || f (lc l k)) = true := by
  rw [iN_inj, ← on_al hl (fun i => !m i || f i)]
  refine forall_congr' fun i => forall_congr' fun hi => ?_
  cases f i <;> cases m i <;> cases onL l i <;> simp
theorem sh_none {l : Nat} (hl : l < 19) (f : Nat → Bool) : iN (fun i => f i && onL l i) = 0 ↔ al (fun k => !f (lc l k)) = true := by
  rw [iN_eq0, ← on_al hl (fun i => !f i)]
  refine forall_congr' fun i => forall_congr' fun hi => ?_
  cases f i <;> cases onL l i <;> simp
theorem sh_with1 {l : Nat} (hl : l < 19) (f : Nat → Bool) : iN (fun i => f i && onL l i) = iN (onL l) ↔ al (fun k => f (lc l k)) = true := by
  rw [iN_inj, ← on_al hl f]
  refine forall_congr' fun i => forall_congr' fun hi => ?_
  cases f i <;> cases onL l i <;> simp
theorem tr_ne (b : Nat → Nat) (t i : Nat) : (tr b t i && ne b i) = tr b t i := by
  unfold tr ne
  cases b i != 0 <;> simp
theorem mn_4 {b : Nat → Nat} {l : Nat} : mn b l = 4 ↔ al (fun k => ne b (lc l k)) = true := by
  unfold mn
  rw [cN_all, al_iff]
  exact ⟨fun h => ⟨h 0 (by omega), h 1 (by omega), h 2 (by omega), h 3 (by omega)⟩, fun h i hi => by
    rcases (show i = 0 ∨ i = 1 ∨ i = 2 ∨ i = 3 by omega) with rfl | rfl | rfl | rfl
    · exact h.1
    · exact h.2.1
    · exact h.2.2.1
    · exact h.2.2.2⟩
theorem shF_lo4 {b : Nat → Nat} {l i : Nat} (h4 : mn b l = 4) (h : i < 4) : shF b l i = al (fun k => tr b i (lc l k)) := by
  have h5 := al_iff.mp (mn_4.mp h4)
  rw [shF_lo h]
  simp [al, h5.1, h5.2.1, h5.2.2.1, h5.2.2.2]
theorem iN_set (f : Nat → Bool) {c : Nat} (hc : c < 16) : iN f ||| ((1 : Int32) <<< (nI c &&& 31)) = iN (fun i => f i || decide (i = c)) := by rw [iN_one c hc, iN_or]
theorem bit4 : ∀ p, p < 16 → ∀ t, t < 4 → (nI p >>> (nI t &&& 31)) &&& 1 = if p.testBit t then 1 else 0 := by decide +kernel
theorem sh0 : ∀ c, c < 16 → (0 : Int32) <<< (nI c &&& 31) = 0 := by decide +kernel
theorem bitc (c : Nat) (hc : c < 16) (x : Bool) : (if x then (1 : Int32) else 0) <<< (nI c &&& 31) = iN (fun i => x && decide (i = c)) := by
  cases x
  · have h := sh0 c hc
    refine Eq.trans (show _ = (0 : Int32) <<< (nI c &&& 31) from rfl) (h.trans ?_)
    rw [← iN_0]
    exact iN_ext fun i _ => rfl
  · refine Eq.trans (show _ = (1 : Int32) <<< (nI c &&& 31) from rfl) ?_
    rw [iN_one c hc]
    exact iN_ext fun i _ => by simp
section Board2
variable {v : SB} {b : Nat → Nat} {r : Nat} {Z : Int32 → Prop}
theorem p_cellsOn {l : Nat} (hl : l < 19) (hz : Z (iN (onL l))) : pX0_cellsOn (nI l) Z := by
  unfold pX0_cellsOn
  rw [if_neg (nI_pos (by omega)), if_neg (mt (ile 19 (k := 19) rfl (by omega) (by omega)).mp (by omega))]
  refine ⟨vp_in_nI hl (by omega), ?_⟩
  rw [nI_clamp (by omega), gLC_iN l hl]
  exact hz
theorem p_countOn (h : RB v b r) {l : Nat} (hl : l < 19) (hz : Z (nI (mn b l))) : pX0_countOn (nI l) v Z := by
  unfold pX0_countOn
  refine p_cellsOn hl ?_
  rw [h.2.1, iN_and]
  refine p_bc _ ?_
  rw [cN_on hl (ne b)]
  exact hz
/-- the shared traits of the first t -/
def shA (b : Nat → Nat) (l t i : Nat) : Bool := shF b l i && decide (i % 4 < t)
theorem shA_s {b : Nat → Nat} {l t i : Nat} (ht : t < 4) : shA b l (t + 1) i = ((shA b l t i || (shF b l t && decide (i = t))) || (shF b l (4 + t) && decide (i = 4 + t))) := by
  unfold shA
  by_cases h8 : i < 8
  · by_cases e1 : i = t
    · subst e1
      have h1 : i % 4 < i + 1 := by omega
      have h2 : ¬ i = 4 + i := by omega
      rw [decide_eq_true h1, decide_eq_false h2, decide_eq_true (rfl : i = i)]
      cases shF b l i <;> cases shF b l (4 + i) <;> cases decide (i % 4 < i) <;> rfl
    · by_cases e2 : i = 4 + t
      · subst e2
        have h1 : (4 + t) % 4 < t + 1 := by omega
        have h2 : ¬ (4 + t = t) := by omega
        rw [decide_eq_true h1, decide_eq_false h2, decide_eq_true (rfl : 4 + t = 4 + t)]
        cases shF b l t <;> cases shF b l (4 + t) <;> cases decide ((4 + t) % 4 < t) <;> rfl
      · have h1 : (i % 4 < t + 1) = (i % 4 < t) := propext (by omega)
        simp [e1, e2, h1]
  · have h1 : ¬ i = t := by omega
    have h2 : ¬ i = 4 + t := by omega
    rw [shF_no (by omega)]
    simp [h1, h2]
theorem p_sharedTraits (h : RB v b r) {l : Nat} (hl : l < 19) (hz : Z (iN (shF b l))) : pX0_sharedTraits (nI l) v Z := by
  unfold pX0_sharedTraits
  refine p_cellsOn hl ?_
  intro x2 e2
  rw [h.2.1, iN_and] at e2
  refine pk_loop (fun n i (s : Int32) => pX0_sharedTraits_15 Z x2 v n s (nI i)) (fun i s => s = iN (shA b l i)) 4 0 0 (by omega) ?_ ?_ ?_
  · rw [← iN_0]
    exact iN_ext fun i _ => by simp [shA]
  · intro n s hs
    show pX0_sharedTraits_15 Z x2 v (n + 1) s (nI 4)
    rw [pX0_sharedTraits_15, if_pos ((ile 4 (k := 4) rfl (by omega) (by omega)).mpr (by omega)), hs, show iN (shA b l 4) = iN (shF b l) from iN_ext fun i _ => by
      have h1 : i % 4 < 4 := by omega
      simp [shA, h1]]
    exact hz
  · intro n t s ht hs hk
    show pX0_sharedTraits_15 Z x2 v (n + 1) s (nI t)
    rw [pX0_sharedTraits_15, if_neg (mt (ile 4 (k := 4) rfl (by omega) (by omega)).mp (by omega))]
    refine ⟨vp_in_nI ht (by omega), fun x5 e5 => ?_⟩
    rw [nI_clamp (by omega), h.2.2.2 t ht, e2, iN_and] at e5
    have c1 : x5 = x2 ↔ shF b l t = true := by
      rw [e5, e2, shF_lo ht]
      exact sh_with hl (tr b t) (ne b)
    have c2 : x5 = 0 ↔ shF b l (4 + t) = true := by
      rw [e5, shF_hi ht, show (fun i => tr b t i && (ne b i && onL l i)) = fun i => tr b t i && onL l i from funext fun i => by rw [← Bool.and_assoc, tr_ne]]
      exact sh_none hl (tr b t)
    have fin : ∀ y : Int32, y = iN (shA b l (t + 1)) → pX0_sharedTraits_15 Z x2 v n y (nI t + 1) := fun y hy => by
      rw [nI_1]
      exact hk y hy
    have e4 : (4 : Int32) + nI t = nI (4 + t) := nI_add 4 t
    by_cases h1 : x5 = x2
    · rw [if_pos h1]
      have q1 := c1.mp h1
      intro x11 e11
      rw [hs, iN_set _ (by omega)] at e11
      by_cases h2 : x5 = 0
      · rw [if_pos h2]
        have q2 := c2.mp h2
        intro x14 e14 x15 e15
        rw [e15]
        refine fin _ ?_
        rw [e14, e11, e4, iN_set _ (by omega)]
        exact iN_ext fun i _ => by rw [shA_s ht, q1, q2]; simp
      · rw [if_neg h2]
        have q2 := Bool.eq_false_iff.mpr (mt c2.mpr h2)
        intro x13 e13
        rw [e13]
        refine fin _ ?_
        rw [e11]
        exact iN_ext fun i _ => by rw [shA_s ht, q1, q2]; simp
    · rw [if_neg h1]
      have q1 := Bool.eq_false_iff.mpr (mt c1.mpr h1)
      by_cases h2 : x5 = 0
      · rw [if_pos h2]
        have q2 := c2.mp h2
        intro x9 e9 x10 e10
        rw [e10]
        refine fin _ ?_
        rw [e9, hs, e4, iN_set _ (by omega)]
        exact iN_ext fun i _ => by rw [shA_s ht, q1, q2]; simp
      · rw [if_neg h2]
        have q2 := Bool.eq_false_iff.mpr (mt c2.mpr h2)
        intro x8 e8
        rw [e8]
        refine fin _ ?_
        rw [hs]
        exact iN_ext fun i _ => by rw [shA_s ht, q1, q2]; simp
theorem p_isWon (h : RB v b r) {l : Nat} (hl : l < 19) (hz : Z (bI (wL b l))) : pX0_isWon (nI l) v Z := by
  unfold pX0_isWon
  rw [if_neg (nI_pos (by omega)), if_pos ((ilt 19 (k := 19) rfl (by omega) (by omega)).mpr hl)]
  refine ⟨vp_in_nI hl (by omega), fun x4 e4 => ?_⟩
  rw [nI_clamp (by omega), gLC_iN l hl] at e4
  rw [e4, h.2.1, iN_and]
  by_cases hf : mn b l = 4
  · rw [if_pos ((sh_with1 hl (ne b)).mpr (mn_4.mp hf))]
    have hz' : Z (bI (exU (fun t => shF b l t || shF b l (4 + t)) 4 0)) := by
      unfold wL at hz
      rw [hf] at hz
      exact hz
    refine pk_loop (fun n i (_ : Unit) => pX0_isWon_34 Z (iN (onL l)) v n (nI i)) (fun i _ => Z (bI (exU (fun t => shF b l t || shF b l (4 + t)) (4 - i) i))) 4 0 () (by omega) hz' ?_ ?_
    · intro n s hs
      show pX0_isWon_34 Z (iN (onL l)) v (n + 1) (nI 4)
      rw [pX0_isWon_34, if_pos ((ile 4 (k := 4) rfl (by omega) (by omega)).mpr (by omega))]
      exact hs
    · intro n t s ht hs hk
      show pX0_isWon_34 Z (iN (onL l)) v (n + 1) (nI t)
      rw [show 4 - t = (4 - (t + 1)) + 1 by omega, exU] at hs
      rw [pX0_isWon_34, if_neg (mt (ile 4 (k := 4) rfl (by omega) (by omega)).mp (by omega))]
      refine ⟨vp_in_nI ht (by omega), fun x8 e8 => ?_⟩
      rw [nI_clamp (by omega), h.2.2.2 t ht, iN_and] at e8
      have c1 : x8 = iN (onL l) ↔ shF b l t = true := by
        rw [e8, shF_lo4 hf ht]
        exact sh_with1 hl (tr b t)
      have c2 : x8 = 0 ↔ shF b l (4 + t) = true := by
        rw [e8, shF_hi ht]
        exact sh_none hl (tr b t)
      by_cases h1 : x8 = iN (onL l)
      · rw [if_pos h1]
        rw [c1.mp h1] at hs
        exact hs
      · rw [if_neg h1]
        rw [Bool.eq_false_iff.mpr (mt c1.mpr h1)] at hs
        by_cases h2 : x8 = 0
        · rw [if_pos h2]
          rw [c2.mp h2] at hs
          exact hs
        · rw [if_neg h2]
          rw [Bool.eq_false_iff.mpr (mt c2.mpr h2)] at hs
          intro x11 e11
          rw [e11, nI_1]
          exact hk () hs
  · rw [if_neg (mt (sh_with1 hl (ne b)).mp (fun q => hf (mn_4.mpr q)))]
    have e : wL b l = false := by
      unfold wL
      rw [show (mn b l == 4) = false from by simp [hf]]
      rfl
    rw [e] at hz
    exact hz
theorem p_wonCount (h : RB v b r) (hr : r ≤ 1) (hz : Z (nI (wC b r))) : pX0_wonCount v Z := by
  unfold pX0_wonCount
  have hl := ln_le r
  refine pk_loop (fun n i (s : Int32) => pX0_wonCount_4 Z v n s (nI i)) (fun i s => s = nI (cN (wL b) i)) (ln r) 0 0 (by omega) rfl ?_ ?_
  · intro n s hs
    show pX0_wonCount_4 Z v (n + 1) s (nI (ln r))
    rw [pX0_wonCount_4]
    refine p_lineCount h hr ?_
    rw [if_pos ((nI_leI (by omega) (by omega)).mpr (Nat.le_refl _)), hs]
    exact hz
  · intro n i s hi hs hk
    show pX0_wonCount_4 Z v (n + 1) s (nI i)
    rw [pX0_wonCount_4]
    refine p_lineCount h hr ?_
    rw [if_neg (mt (nI_leI (by omega) (by omega)).mp (by omega))]
    refine p_isWon h (by omega) ?_
    cases hb : wL b i
    · rw [if_pos (show bI false = 0 from rfl)]
      intro x5 e5
      rw [e5, nI_1]
      refine hk s ?_
      rw [hs, cN, hb]
      rfl
    · rw [if_neg (show ¬ bI true = 0 by decide)]
      intro x6 e6 x7 e7
      rw [e7, nI_1, e6]
      refine hk _ ?_
      rw [hs, cN, hb, nI_1]
      rfl
theorem p_hasWonLine (h : RB v b r) (hr : r ≤ 1) (hz : Z (bI (hw b r))) : pX0_hasWonLine v Z := by
  unfold pX0_hasWonLine
  have hl := ln_le r
  refine pk_loop (fun n i (_ : Unit) => pX0_hasWonLine_2 Z v n (nI i)) (fun i _ => Z (bI (exU (wL b) (ln r - i) i))) (ln r) 0 () (by omega) hz ?_ ?_
  · intro n s hs
    show pX0_hasWonLine_2 Z v (n + 1) (nI (ln r))
    rw [pX0_hasWonLine_2]
    refine p_lineCount h hr ?_
    rw [if_pos ((nI_leI (by omega) (by omega)).mpr (Nat.le_refl _))]
    rw [Nat.sub_self] at hs
    exact hs
  · intro n i s hi hs hk
    show pX0_hasWonLine_2 Z v (n + 1) (nI i)
    rw [show ln r - i = (ln r - (i + 1)) + 1 by omega, exU] at hs
    rw [pX0_hasWonLine_2]
    refine p_lineCount h hr ?_
    rw [if_neg (mt (nI_leI (by omega) (by omega)).mp (by omega))]
    refine p_isWon h (by omega) ?_
    cases hb : wL b i
    · rw [if_pos (show bI false = 0 from rfl)]
      rw [hb] at hs
      intro x5 e5
      rw [e5, nI_1]
      exact hk () hs
    · rw [if_neg (show ¬ bI true = 0 by decide)]
      rw [hb] at hs
      exact hs
theorem p_put (h : RB v b r) {p c : Nat} (hp4 : p < 16) (hc : c < 16) (h0 : b c = 0) {Z : SB → Prop} (hz : ∀ w, RB w (fu b c (p + 1)) r → Z w) : pX0_put (nI p) (nI c) v Z := by
  unfold pX0_put
  intro x1 e1 x2 e2
  have hx1 : x1 = iN (ne (fu b c (p + 1))) := by
    rw [e1, h.2.1, iN_one c hc, iN_or]
    refine iN_ext fun i _ => ?_
    unfold ne
    by_cases e : i = c
    · subst e; rw [fu_s]; simp
    · rw [fu_n e]; simp [e]
  have hx2 : x2 = iN (hp (fu b c (p + 1))) := by
    rw [e2, h.2.2.1, iN_one p hp4, iN_or]
    exact iN_ext fun i _ => (hp_put hc h0).symm
  refine pk_loop (fun n i s => pX0_put_26 Z (nI p) (nI c) n (nI i) s) (fun i s => s.1 = nI r ∧ s.2.1 = x1 ∧ s.2.2.1 = x2 ∧ (∀ t, t < i → s.2.2.2 t = iN (tr (fu b c (p + 1)) t)) ∧ ∀ t, i ≤ t → t < 4 → s.2.2.2 t = iN (tr b t)) 4 0 (v.1, x1, x2, v.2.2.2) (by omega) ⟨h.1, rfl, rfl, fun t ht => absurd ht (by omega), fun t _ ht => h.2.2.2 t ht⟩ ?_ ?_
  · intro n s hs
    show pX0_put_26 Z (nI p) (nI c) (n + 1) (nI 4) s
    rw [pX0_put_26, if_pos ((ile 4 (k := 4) rfl (by omega) (by omega)).mpr (by omega))]
    exact hz s ⟨hs.1, hs.2.1.trans hx1, hs.2.2.1.trans hx2, fun t ht => hs.2.2.2.1 t ht⟩
  · intro n i s hi hs hk
    show pX0_put_26 Z (nI p) (nI c) (n + 1) (nI i) s
    rw [pX0_put_26, if_neg (mt (ile 4 (k := 4) rfl (by omega) (by omega)).mp (by omega))]
    refine ⟨vp_in_nI hi (by omega), fun x5 e5 => ⟨vp_in_nI hi (by omega), fun x7 e7 => ?_⟩⟩
    rw [nI_clamp (by omega)] at e5 ⊢
    rw [e7, nI_1]
    refine hk _ ⟨hs.1, hs.2.1, hs.2.2.1, fun t ht => ?_, fun t h1 h2 => ?_⟩
    · show upd s.2.2.2 i x5 t = _
      by_cases e : t = i
      · subst e
        rw [pk_us, e5, hs.2.2.2.2 t (by omega) hi, bit4 p hp4 t hi, bitc c hc, iN_or]
        refine iN_ext fun k _ => ?_
        unfold tr
        by_cases z : k = c
        · subst z; rw [fu_s, h0]; simp
        · rw [fu_n z]; simp [z]
      · rw [pk_un e]
        exact hs.2.2.2.1 t (by omega)
    · show upd s.2.2.2 i x5 t = _
      rw [pk_un (by omega)]
      exact hs.2.2.2.2 t (by omega) h2
theorem p_lift (h : RB v b r) (hw : WB b) {p c : Nat} (hp4 : p < 16) (hc : c < 16) (h0 : b c = p + 1) {Z : SB → Prop} (hz : ∀ w, RB w (fu b c 0) r → Z w) : pX0_lift (nI p) (nI c) v Z := by
  unfold pX0_lift
  intro x1 e1 x2 e2
  have hx1 : x1 = iN (ne (fu b c 0)) := by
    rw [e1, h.2.1, iN_one c hc, iN_not]
    refine iN_ext fun i _ => ?_
    unfold ne
    by_cases e : i = c
    · subst e; rw [fu_s]; simp
    · rw [fu_n e]; simp [e]
  have hx2 : x2 = iN (hp (fu b c 0)) := by
    rw [e2, h.2.2.1, iN_one p hp4, iN_not]
    exact iN_ext fun i _ => (hp_lift hc hw h0).symm
  refine pk_loop (fun n i s => pX0_lift_30 Z (nI c) n (nI i) s) (fun i s => s.1 = nI r ∧ s.2.1 = x1 ∧ s.2.2.1 = x2 ∧ (∀ t, t < i → s.2.2.2 t = iN (tr (fu b c 0) t)) ∧ ∀ t, i ≤ t → t < 4 → s.2.2.2 t = iN (tr b t)) 4 0 (v.1, x1, x2, v.2.2.2) (by omega) ⟨h.1, rfl, rfl, fun t ht => absurd ht (by omega), fun t _ ht => h.2.2.2 t ht⟩ ?_ ?_
  · intro n s hs
    show pX0_lift_30 Z (nI c) (n + 1) (nI 4) s
    rw [pX0_lift_30, if_pos ((ile 4 (k := 4) rfl (by omega) (by omega)).mpr (by omega))]
    exact hz s ⟨hs.1, hs.2.1.trans hx1, hs.2.2.1.trans hx2, fun t ht => hs.2.2.2.1 t ht⟩
  · intro n i s hi hs hk
    show pX0_lift_30 Z (nI c) (n + 1) (nI i) s
    rw [pX0_lift_30, if_neg (mt (ile 4 (k := 4) rfl (by omega) (by omega)).mp (by omega))]
    refine ⟨vp_in_nI hi (by omega), fun x5 e5 => ⟨vp_in_nI hi (by omega), fun x7 e7 => ?_⟩⟩
    rw [nI_clamp (by omega)] at e5 ⊢
    rw [e7, nI_1]
    refine hk _ ⟨hs.1, hs.2.1, hs.2.2.1, fun t ht => ?_, fun t h1 h2 => ?_⟩
    · show upd s.2.2.2 i x5 t = _
      by_cases e : t = i
      · subst e
        rw [pk_us, e5, hs.2.2.2.2 t (by omega) hi, iN_one c hc, iN_not]
        refine iN_ext fun k _ => ?_
        unfold tr
        by_cases z : k = c
        · subst z; rw [fu_s]; simp
        · rw [fu_n z]; simp [z]
      · rw [pk_un e]
        exact hs.2.2.2.1 t (by omega)
    · show upd s.2.2.2 i x5 t = _
      rw [pk_un (by omega)]
      exact hs.2.2.2.2 t (by omega) h2
theorem p_winsOn (h : RB v b r) (hr : r ≤ 1) (hwb : WB b) {p c : Nat} (hp4 : p < 16) (hf : hp b p = false) (hc : c < 16) (h0 : b c = 0) {Z : Int32 → SB → Prop} (hz : ∀ w, RB w b r → Z (bI (hw (fu b c (p + 1)) r)) w) : pX0_winsOn (nI p) (nI c) v Z := by
  unfold pX0_winsOn
  refine p_put h hp4 hc h0 fun w1 h1 => ?_
  refine p_hasWonLine h1 hr ?_
  refine p_lift h1 (WB_put hwb hf hp4) hp4 hc fu_s fun w3 h3 => ⟨bI_n _, hz w3 ?_⟩
  rw [fu_undo h0] at h3
  exact h3
/-- the cells on which the piece p would win -/
def wF (b : Nat → Nat) (r p c : Nat) : Bool := b c == 0 && hw (fu b c (p + 1)) r
theorem p_firstWinningCell (h : RB v b r) (hr : r ≤ 1) (hwb : WB b) {p : Nat} (hp4 : p < 16) (hf : hp b p = false) {Z : Int32 → SB → Prop} (hz : ∀ w, RB w b r → Z (oI (fU (wF b r p) 16 0)) w) : pX0_firstWinningCell (nI p) v Z := by
  unfold pX0_firstWinningCell
  refine pk_loop (fun n i s => pX0_firstWinningCell_2 Z (nI p) n (nI i) s) (fun i s => RB s b r ∧ ∀ w, RB w b r → Z (oI (fU (wF b r p) (16 - i) i)) w) 16 0 v (by omega) ⟨h, hz⟩ ?_ ?_
  · intro n s hs
    show pX0_firstWinningCell_2 Z (nI p) (n + 1) (nI 16) s
    rw [pX0_firstWinningCell_2, if_pos ((ile 16 (k := 16) rfl (by omega) (by omega)).mpr (by omega))]
    exact hs.2 s hs.1
  · intro n i s hi hs hk
    show pX0_firstWinningCell_2 Z (nI p) (n + 1) (nI i) s
    obtain ⟨hs1, hs2⟩ := hs
    rw [show 16 - i = (16 - (i + 1)) + 1 by omega, fU] at hs2
    rw [pX0_firstWinningCell_2, if_neg (mt (ile 16 (k := 16) rfl (by omega) (by omega)).mp (by omega))]
    refine p_isEmpty hs1 hi ?_
    by_cases hb : b i = 0
    · rw [if_neg (fun q => by simp [hb, bI] at q)]
      refine p_winsOn hs1 hr hwb hp4 hf hi hb fun w5 h5 => ?_
      have e : wF b r p i = hw (fu b i (p + 1)) r := by simp [wF, hb]
      rw [e] at hs2
      cases hq : hw (fu b i (p + 1)) r
      · rw [if_pos (show bI false = 0 from rfl)]
        rw [hq] at hs2
        intro x7 e7
        rw [e7, nI_1]
        exact hk w5 ⟨h5, hs2⟩
      · rw [if_neg (show ¬ bI true = 0 by decide)]
        rw [hq] at hs2
        exact hs2 w5 h5
    · rw [if_pos (bI_0.mpr (by simp [hb]))]
      have e : wF b r p i = false := by simp [wF, hb]
      rw [e] at hs2
      intro x4 e4
      rw [e4, nI_1]
      exact hk s ⟨hs1, hs2⟩
/-- the traits that win a line with three pieces -/
def dG (b : Nat → Nat) (n i : Nat) : Bool := exU (fun l => mn b l == 3 && shF b l i) n 0
theorem exU_snoc (p : Nat → Bool) : ∀ k j, exU p (k + 1) j = (exU p k j || p (j + k))
  | 0, j => by simp [exU]
  | k + 1, j => by
    rw [exU, exU_snoc p k (j + 1), exU, show j + 1 + k = j + (k + 1) by omega, Bool.or_assoc]
theorem p_dangerousTraits (h : RB v b r) (hr : r ≤ 1) (hz : Z (iN (dG b (ln r)))) : pX0_dangerousTraits v Z := by
  unfold pX0_dangerousTraits
  have hl := ln_le r
  refine pk_loop (fun n i (s : Int32) => pX0_dangerousTraits_4 Z v n s (nI i)) (fun i s => s = iN (dG b i)) (ln r) 0 0 (by omega) ?_ ?_ ?_
  · rw [← iN_0]
    rfl
  · intro n s hs
    show pX0_dangerousTraits_4 Z v (n + 1) s (nI (ln r))
    rw [pX0_dangerousTraits_4]
    refine p_lineCount h hr ?_
    rw [if_pos ((nI_leI (by omega) (by omega)).mpr (Nat.le_refl _)), hs]
    exact hz
  · intro n i s hi hs hk
    show pX0_dangerousTraits_4 Z v (n + 1) s (nI i)
    rw [pX0_dangerousTraits_4]
    refine p_lineCount h hr ?_
    rw [if_neg (mt (nI_leI (by omega) (by omega)).mp (by omega))]
    refine p_countOn h (by omega) ?_
    have hm : mn b i ≤ 4 := cN_le _ _
    have hst : ∀ k, dG b (i + 1) k = (dG b i k || (mn b i == 3 && shF b i k)) := fun k => by
      unfold dG
      rw [exU_snoc, Nat.zero_add]
    by_cases h3 : mn b i = 3
    · rw [if_pos ((ieq 3 (k := 3) rfl (by omega) (by omega)).mpr h3)]
      refine p_sharedTraits h (by omega) ?_
      intro x7 e7 x8 e8
      rw [e8, nI_1, e7]
      refine hk _ ?_
      rw [hs, iN_or]
      exact iN_ext fun k _ => by rw [hst, h3]; rfl
    · rw [if_neg (mt (ieq 3 (k := 3) rfl (by omega) (by omega)).mp h3)]
      intro x5 e5
      rw [e5, nI_1]
      refine hk _ ?_
      rw [hs]
      exact iN_ext fun k _ => by rw [hst, show (mn b i == 3) = false by simp [h3]]; simp
theorem RB_0 (r : Nat) {w : SB} (h1 : w.1 = nI r) (h2 : w.2.1 = 0) (h3 : w.2.2.1 = 0) (h4 : ∀ t, t < 4 → w.2.2.2 t = 0) : RB w (fun _ => 0) r := by
  refine ⟨h1, ?_, ?_, fun t ht => ?_⟩
  · rw [h2, ← iN_0]
    exact iN_ext fun i _ => rfl
  · rw [h3, ← iN_0]
    refine iN_ext fun i _ => ?_
    cases hq : hp (fun _ => 0) i
    · rfl
    · obtain ⟨k, _, e⟩ := hp_iff.mp hq
      cases e
  · rw [h4 t ht, ← iN_0]
    exact iN_ext fun i _ => rfl
theorem p_empty (r : Nat) {Z : SB → Prop} (hz : ∀ w, RB w (fun _ => 0) r → Z w) : pX0_empty (nI r) v Z := by
  unfold pX0_empty
  refine pk_loop (fun n i s => pX0_empty_17 Z n (nI i) s) (fun i s => s.1 = nI r ∧ s.2.1 = 0 ∧ s.2.2.1 = 0 ∧ ∀ t, t < i → s.2.2.2 t = 0) 4 0 (nI r, 0, 0, v.2.2.2) (by omega) ⟨rfl, rfl, rfl, fun t ht => absurd ht (by omega)⟩ ?_ ?_
  · intro n s hs
    show pX0_empty_17 Z (n + 1) (nI 4) s
    rw [pX0_empty_17, if_pos ((ile 4 (k := 4) rfl (by omega) (by omega)).mpr (by omega))]
    exact hz s (RB_0 r hs.1 hs.2.1 hs.2.2.1 hs.2.2.2)
  · intro n i s hi hs hk
    show pX0_empty_17 Z (n + 1) (nI i) s
    rw [pX0_empty_17, if_neg (mt (ile 4 (k := 4) rfl (by omega) (by omega)).mp (by omega))]
    refine ⟨vp_in_nI hi (by omega), fun x3 e3 => ?_⟩
    rw [nI_clamp (by omega), e3, nI_1]
    refine hk _ ⟨hs.1, hs.2.1, hs.2.2.1, fun t ht => ?_⟩
    show upd s.2.2.2 i 0 t = 0
    by_cases e : t = i
    · rw [e, pk_us]
    · rw [pk_un e]
      exact hs.2.2.2 t (by omega)
theorem p_copyB {u : SB} (h : RB v b r) {Z : SB × SB → Prop} (hz : ∀ w, RB w b r → Z (w, v)) : pX0_copyFrom u v Z := by
  unfold pX0_copyFrom
  refine pk_loop (fun n i s => pX0_copyFrom_26 Z v n (nI i) s) (fun i s => s.1 = v.1 ∧ s.2.1 = v.2.1 ∧ s.2.2.1 = v.2.2.1 ∧ ∀ t, t < i → s.2.2.2 t = v.2.2.2 t) 4 0 (v.1, v.2.1, v.2.2.1, u.2.2.2) (by omega) ⟨rfl, rfl, rfl, fun t ht => absurd ht (by omega)⟩ ?_ ?_
  · intro n s hs
    show pX0_copyFrom_26 Z v (n + 1) (nI 4) s
    rw [pX0_copyFrom_26, if_pos ((ile 4 (k := 4) rfl (by omega) (by omega)).mpr (by omega))]
    exact hz s ⟨hs.1.trans h.1, hs.2.1.trans h.2.1, hs.2.2.1.trans h.2.2.1, fun t ht => (hs.2.2.2 t ht).trans (h.2.2.2 t ht)⟩
  · intro n i s hi hs hk
    show pX0_copyFrom_26 Z v (n + 1) (nI i) s
    have e9 := mt (ile 4 (k := 4) (j := i) rfl (by omega) (by omega)).mp (by omega)
    rw [pX0_copyFrom_26, if_neg e9, if_neg e9]
    refine ⟨vp_in_nI hi (by omega), fun x4 e4 => ⟨vp_in_nI hi (by omega), fun x6 e6 => ?_⟩⟩
    rw [nI_clamp (by omega)] at e4 ⊢
    rw [e6, nI_1]
    refine hk _ ⟨hs.1, hs.2.1, hs.2.2.1, fun t ht => ?_⟩
    show upd s.2.2.2 i x4 t = _
    by_cases e : t = i
    · rw [e, pk_us, e4]
    · rw [pk_un e]
      exact hs.2.2.2 t (by omega)
end Board2
