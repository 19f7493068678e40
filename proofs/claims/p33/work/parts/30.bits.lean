/-! ===== Int32 by its bits: bt x i (pasted) ===== -/
def bt (x : Int32) (i : Nat) : Bool := x.toBitVec.getLsbD i
theorem b_ext {x y : Int32} (h : ∀ i, i < 32 → bt x i = bt y i) : x = y := Int32.toBitVec_inj.mp (BitVec.eq_of_getLsbD_eq (fun i hi => h i hi))
theorem b_or (x y : Int32) (i : Nat) : bt (x ||| y) i = (bt x i || bt y i) := by unfold bt; rw [Int32.toBitVec_or, BitVec.getLsbD_or]
theorem b_and (x y : Int32) (i : Nat) : bt (x &&& y) i = (bt x i && bt y i) := by unfold bt; rw [Int32.toBitVec_and, BitVec.getLsbD_and]
theorem b_xor (x y : Int32) (i : Nat) : bt (x ^^^ y) i = (bt x i ^^ bt y i) := by unfold bt; rw [Int32.toBitVec_xor, BitVec.getLsbD_xor]
theorem b_big {x : Int32} {i : Nat} (h : 32 ≤ i) : bt x i = false := BitVec.getLsbD_of_ge _ _ h
theorem b_m1 : ∀ i, i < 32 → bt (-1) i = true := by decide +kernel
theorem b_0 (i : Nat) : bt 0 i = false := BitVec.getLsbD_zero
theorem s_l : ∀ n, n < 32 → ((nI n &&& 31).toBitVec.smod 32).toNat = n := by decide +kernel
theorem b_shl (n : Nat) (hn : n < 32) (x : Int32) {i : Nat} (hi : i < 32) : bt (x <<< (nI n &&& 31)) i = (decide (n ≤ i) && bt x (i - n)) := by
  unfold bt
  rw [Int32.toBitVec_shiftLeft]
  show (x.toBitVec <<< ((nI n &&& 31).toBitVec.smod 32).toNat).getLsbD i = _
  rw [s_l n hn, BitVec.getLsbD_shiftLeft]
  rcases Nat.lt_or_ge i n with h | h
  · simp [h, Nat.not_le.mpr h]
  · simp [hi, h, Nat.not_lt.mpr h]
theorem b_sshr (n : Nat) (hn : n < 32) (x : Int32) {i : Nat} (hi : i < 32) : bt (x >>> (nI n &&& 31)) i = if n + i < 32 then bt x (n + i) else bt x 31 := by
  unfold bt
  rw [Int32.toBitVec_shiftRight]
  show (x.toBitVec.sshiftRight ((nI n &&& 31).toBitVec.smod 32).toNat).getLsbD i = _
  rw [s_l n hn, BitVec.getLsbD_sshiftRight, BitVec.msb_eq_getLsbD_last]
  simp [hi]
/-! ===== END ===== -/
/-- the number whose bit i is p i, for i < n -/
def bN (p : Nat → Bool) : Nat → Nat
  | 0 => 0
  | n + 1 => bN p n ||| (if p n then 2 ^ n else 0)
theorem bN_bit (p : Nat → Bool) (n i : Nat) : (bN p n).testBit i = (decide (i < n) && p i) := by
  induction n with
  | zero => simp [bN]
  | succ n ih =>
    rw [bN, Nat.testBit_or, ih]
    by_cases h : i = n
    · subst h
      cases hp : p i <;> simp [Nat.testBit_two_pow_self]
    · have h1 : (if p n then 2 ^ n else 0).testBit i = false := by
        cases p n
        · simp
        · simp [Nat.testBit_two_pow]; omega
      have h2 : decide (i < n + 1) = decide (i < n) := decide_eq_decide.mpr (by omega)
      rw [h1, h2, Bool.or_false]
/-- an Int32 by its sixteen bits -/
def iN (p : Nat → Bool) : Int32 := nI (bN p 16)
theorem bt_nI (n i : Nat) : bt (nI n) i = (decide (i < 32) && n.testBit i) := by
  show (BitVec.ofNat 32 n).getLsbD i = _
  rw [BitVec.getLsbD_ofNat]
theorem bt_iN (p : Nat → Bool) (i : Nat) : bt (iN p) i = (decide (i < 16) && p i) := by
  unfold iN
  rw [bt_nI, bN_bit]
  by_cases h : i < 16
  · have h2 : i < 32 := by omega
    simp [h, h2]
  · simp [h]
theorem iN_ext {p q : Nat → Bool} (h : ∀ i, i < 16 → p i = q i) : iN p = iN q := b_ext fun i _ => by
  rw [bt_iN, bt_iN]
  by_cases h2 : i < 16
  · rw [h i h2]
  · simp [h2]
theorem iN_inj {p q : Nat → Bool} : iN p = iN q ↔ ∀ i, i < 16 → p i = q i := by
  refine ⟨fun h i hi => ?_, iN_ext⟩
  have h2 : bt (iN p) i = bt (iN q) i := by rw [h]
  rw [bt_iN, bt_iN] at h2
  simpa [hi] using h2
theorem iN_and (p q : Nat → Bool) : iN p &&& iN q = iN (fun i => p i && q i) := b_ext fun i _ => by
  rw [b_and, bt_iN, bt_iN, bt_iN]
  cases decide (i < 16) <;> simp
theorem iN_or (p q : Nat → Bool) : iN p ||| iN q = iN (fun i => p i || q i) := b_ext fun i _ => by
  rw [b_or, bt_iN, bt_iN, bt_iN]
  cases decide (i < 16) <;> simp
theorem iN_not (p q : Nat → Bool) : iN p &&& (iN q ^^^ (-1)) = iN (fun i => p i && !q i) := b_ext fun i hi => by
  rw [b_and, b_xor, bt_iN, bt_iN, bt_iN, b_m1 i hi]
  cases h : decide (i < 16) <;> simp
theorem iN_0 : iN (fun _ => false) = 0 := by decide +kernel
theorem iN_eq0 {p : Nat → Bool} : iN p = 0 ↔ ∀ i, i < 16 → p i = false := by
  rw [← iN_0]
  exact iN_inj
theorem iN_one : ∀ c, c < 16 → (1 : Int32) <<< (nI c &&& 31) = iN (fun i => decide (i = c)) := by decide +kernel
theorem iN_bit (p : Nat → Bool) {c : Nat} (hc : c < 16) : (iN p >>> (nI c &&& 31)) &&& 1 = if p c then 1 else 0 := by
  have h1 : (1 : Int32) = nI 1 := rfl
  have h3 : bt (nI 1) = fun i => decide (i = 0) := by
    funext i
    rw [bt_nI]
    rcases i with _ | i
    · rfl
    · simp [Nat.testBit_succ]
  refine b_ext fun i hi => ?_
  rw [b_and, b_sshr c (by omega) _ hi, bt_iN, bt_iN, h1, h3]
  rcases i with _ | i
  · have h2 : c + 0 < 32 := by omega
    rw [if_pos h2]
    cases hp : p c
    · simp [hc, hp]; exact (b_0 0).symm
    · simp [hc, hp, h3]
  · have h4 : bt (if p c then nI 1 else 0) (i + 1) = false := by
      cases p c
      · exact b_0 _
      · rw [if_pos rfl, h3]; simp
    rw [h4]
    simp
theorem iN_test (p : Nat → Bool) {c : Nat} (hc : c < 16) : (iN p &&& ((1 : Int32) <<< (nI c &&& 31))) = 0 ↔ p c = false := by
  rw [iN_one c hc, iN_and, iN_eq0]
  refine ⟨fun h => by simpa using h c hc, fun h i hi => ?_⟩
  by_cases h2 : i = c
  · subst h2; simp [h]
  · simp [h2]
/-- how many of the first n -/
def cN (p : Nat → Bool) : Nat → Nat
  | 0 => 0
  | n + 1 => cN p n + (if p n then 1 else 0)
theorem cN_le (p : Nat → Bool) : ∀ n, cN p n ≤ n
  | 0 => Nat.le_refl 0
  | n + 1 => by have h := cN_le p n; rw [cN]; split <;> omega
theorem cN_ext {p q : Nat → Bool} : ∀ {n : Nat}, (∀ i, i < n → p i = q i) → cN p n = cN q n
  | 0, _ => rfl
  | n + 1, h => by rw [cN, cN, cN_ext (fun i hi => h i (by omega)), h n (by omega)]
theorem cN_all {p : Nat → Bool} : ∀ {n : Nat}, cN p n = n ↔ ∀ i, i < n → p i = true
  | 0 => ⟨fun _ i h => absurd h (by omega), fun _ => rfl⟩
  | n + 1 => by
    have h1 := cN_le p n
    rw [cN]
    constructor
    · intro h i hi
      cases hp : p n
      · rw [hp] at h; simp at h; omega
      · rw [hp] at h
        simp at h
        rcases Nat.lt_or_ge i n with q | q
        · exact cN_all.mp h i q
        · have : i = n := by omega
          rw [this]; exact hp
    · intro h
      rw [cN_all.mpr (fun i hi => h i (by omega)), h n (by omega)]
      rfl
theorem cN_pos {p : Nat → Bool} : ∀ {n : Nat}, 0 < cN p n ↔ ∃ i, i < n ∧ p i = true
  | 0 => ⟨fun h => absurd h (by simp [cN]), fun ⟨i, h, _⟩ => absurd h (by omega)⟩
  | n + 1 => by
    rw [cN]
    constructor
    · intro h
      cases hp : p n
      · rw [hp] at h
        simp at h
        obtain ⟨i, h1, h2⟩ := cN_pos.mp h
        exact ⟨i, by omega, h2⟩
      · exact ⟨n, by omega, hp⟩
    · rintro ⟨i, h1, h2⟩
      rcases Nat.lt_or_ge i n with q | q
      · have := cN_pos.mpr ⟨i, q, h2⟩
        omega
      · have : i = n := by omega
        subst this
        rw [h2]
        simp
/-- going up: from the end of a loop to its beginning -/
theorem up_to {P : Nat → Prop} (N : Nat) (h0 : P N) (hs : ∀ j, j < N → P (j + 1) → P j) : ∀ j, j ≤ N → P j := by
  intro j hj
  have h : ∀ k i, i + k = N → P i := by
    intro k
    induction k with
    | zero => intro i hi; rw [show i = N by omega]; exact h0
    | succ k ih => intro i hi; exact hs i (by omega) (ih (i + 1) (by omega))
  exact h (N - j) j (by omega)
