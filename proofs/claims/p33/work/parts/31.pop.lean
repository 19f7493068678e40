/-! the count of bits -/
def bcf (x : Int32) : Int32 :=
  let x1 := x - ((x.toUInt32 >>> ((1 : Int32).toUInt32 &&& Int32.toUInt32 31)).toInt32 &&& 1431655765)
  let x2 := (x1 &&& 858993459) + ((x1.toUInt32 >>> ((2 : Int32).toUInt32 &&& Int32.toUInt32 31)).toInt32 &&& 858993459)
  let x3 := (x2 + (x2.toUInt32 >>> ((4 : Int32).toUInt32 &&& Int32.toUInt32 31)).toInt32) &&& 252645135
  let x4 := x3 + (x3.toUInt32 >>> ((8 : Int32).toUInt32 &&& Int32.toUInt32 31)).toInt32
  let x5 := x4 + (x4.toUInt32 >>> ((16 : Int32).toUInt32 &&& Int32.toUInt32 31)).toInt32
  x5 &&& 63
/-- the same on naturals -/
def bcN (n : Nat) : Nat :=
  (fun x1 => (fun x2 => (fun x3 => (fun x4 => Nat.land (Nat.add x4 (Nat.div x4 65536)) 63) (Nat.add x3 (Nat.div x3 256))) (Nat.land (Nat.add x2 (Nat.div x2 16)) 252645135)) (Nat.add (Nat.land x1 858993459) (Nat.land (Nat.div x1 4) 858993459))) (Nat.sub n (Nat.land (Nat.div n 2) 1431655765))
def pcN (n : Nat) : Nat :=
  Nat.add (Nat.add (Nat.add (Nat.add (Nat.land (Nat.shiftRight n 0) 1) (Nat.land (Nat.shiftRight n 1) 1)) (Nat.add (Nat.land (Nat.shiftRight n 2) 1) (Nat.land (Nat.shiftRight n 3) 1))) (Nat.add (Nat.add (Nat.land (Nat.shiftRight n 4) 1) (Nat.land (Nat.shiftRight n 5) 1)) (Nat.add (Nat.land (Nat.shiftRight n 6) 1) (Nat.land (Nat.shiftRight n 7) 1)))) (Nat.add (Nat.add (Nat.add (Nat.land (Nat.shiftRight n 8) 1) (Nat.land (Nat.shiftRight n 9) 1)) (Nat.add (Nat.land (Nat.shiftRight n 10) 1) (Nat.land (Nat.shiftRight n 11) 1))) (Nat.add (Nat.add (Nat.land (Nat.shiftRight n 12) 1) (Nat.land (Nat.shiftRight n 13) 1)) (Nat.add (Nat.land (Nat.shiftRight n 14) 1) (Nat.land (Nat.shiftRight n 15) 1))))
def allB (f : Nat → Bool) : Nat → Bool
  | 0 => true
  | n + 1 => f n && allB f n
theorem allB_iff {f : Nat → Bool} : ∀ {n : Nat}, allB f n = true → ∀ i, i < n → f i = true
  | 0, _, i, h => absurd h (by omega)
  | n + 1, h, i, hi => by
    rw [allB, Bool.and_eq_true] at h
    by_cases e : i = n
    · rw [e]; exact h.1
    · exact allB_iff h.2 i (by omega)
set_option maxRecDepth 100000 in
theorem bc_all : allB (fun a => allB (fun c => Nat.beq (bcN (Nat.add (Nat.mul a 256) c)) (pcN (Nat.add (Nat.mul a 256) c))) 256) 256 = true := by decide +kernel
theorem nI_and (a b : Nat) : nI a &&& nI b = nI (a &&& b) := b_ext fun i _ => by
  rw [b_and, bt_nI, bt_nI, bt_nI, Nat.testBit_and]
  cases decide (i < 32) <;> simp
theorem bcf_n {n : Nat} (h : n < 65536) : bcf (nI n) = nI (bcN n) := by
  have u1 : ∀ x, x < 2 ^ 32 → ((nI x).toUInt32 >>> ((1 : Int32).toUInt32 &&& Int32.toUInt32 31)).toInt32 = nI (x / 2) := fun x hx => pk_ushrN hx 1 1 (by decide)
  have u2 : ∀ x, x < 2 ^ 32 → ((nI x).toUInt32 >>> ((2 : Int32).toUInt32 &&& Int32.toUInt32 31)).toInt32 = nI (x / 4) := fun x hx => pk_ushrN hx 2 2 (by decide)
  have u4 : ∀ x, x < 2 ^ 32 → ((nI x).toUInt32 >>> ((4 : Int32).toUInt32 &&& Int32.toUInt32 31)).toInt32 = nI (x / 16) := fun x hx => pk_ushrN hx 4 4 (by decide)
  have u8 : ∀ x, x < 2 ^ 32 → ((nI x).toUInt32 >>> ((8 : Int32).toUInt32 &&& Int32.toUInt32 31)).toInt32 = nI (x / 256) := fun x hx => pk_ushrN hx 8 8 (by decide)
  have u16 : ∀ x, x < 2 ^ 32 → ((nI x).toUInt32 >>> ((16 : Int32).toUInt32 &&& Int32.toUInt32 31)).toInt32 = nI (x / 65536) := fun x hx => pk_ushrN hx 16 16 (by decide)
  have m1 : (1431655765 : Int32) = nI 1431655765 := rfl
  have m2 : (858993459 : Int32) = nI 858993459 := rfl
  have m3 : (252645135 : Int32) = nI 252645135 := rfl
  have m4 : (63 : Int32) = nI 63 := rfl
  have a1 : (n / 2 &&& 1431655765) ≤ n / 2 := Nat.and_le_left
  have hx1 : n - (n / 2 &&& 1431655765) ≤ n := Nat.sub_le _ _
  unfold bcf bcN
  show (_ &&& (63 : Int32)) = _
  rw [u1 n (by omega), m1, nI_and, pk_sub (by omega)]
  show _ = nI (((fun x1 => (fun x2 => (fun x3 => (fun x4 => (x4 + x4 / 65536) &&& 63) (x3 + x3 / 256)) ((x2 + x2 / 16) &&& 252645135)) ((x1 &&& 858993459) + (x1 / 4 &&& 858993459))) (n - (n / 2 &&& 1431655765))))
  generalize n - (n / 2 &&& 1431655765) = x1 at hx1 ⊢
  have b1 : (x1 &&& 858993459) ≤ x1 := Nat.and_le_left
  have b2 : (x1 / 4 &&& 858993459) ≤ x1 / 4 := Nat.and_le_left
  rw [m2, nI_and, u2 x1 (by omega), nI_and, nI_add]
  show _ = nI (((fun x2 => (fun x3 => (fun x4 => (x4 + x4 / 65536) &&& 63) (x3 + x3 / 256)) ((x2 + x2 / 16) &&& 252645135)) ((x1 &&& 858993459) + (x1 / 4 &&& 858993459))))
  generalize hx2 : (x1 &&& 858993459) + (x1 / 4 &&& 858993459) = x2
  rw [u4 x2 (by omega), nI_add, m3, nI_and]
  show _ = nI (((fun x3 => (fun x4 => (x4 + x4 / 65536) &&& 63) (x3 + x3 / 256)) ((x2 + x2 / 16) &&& 252645135)))
  have b3 : (x2 + x2 / 16 &&& 252645135) ≤ x2 + x2 / 16 := Nat.and_le_left
  generalize (x2 + x2 / 16 &&& 252645135) = x3 at b3 ⊢
  rw [u8 x3 (by omega), nI_add]
  show _ = nI (((fun x4 => (x4 + x4 / 65536) &&& 63) (x3 + x3 / 256)))
  generalize hx4 : x3 + x3 / 256 = x4
  rw [u16 x4 (by omega), nI_add, m4, nI_and]
theorem tb_1 (n i : Nat) : Nat.land (Nat.shiftRight n i) 1 = if n.testBit i then 1 else 0 := by
  show (n >>> i) &&& 1 = _
  rw [Nat.and_one_is_mod, Nat.testBit, Nat.and_comm, Nat.and_one_is_mod]
  rcases Nat.mod_two_eq_zero_or_one (n >>> i) with h | h <;> rw [h] <;> rfl
theorem pcN_cN (n : Nat) : pcN n = cN n.testBit 16 := by
  unfold pcN
  simp only [tb_1, cN, Nat.add_eq, Nat.zero_add]
  omega
theorem bN_lt (p : Nat → Bool) : ∀ n, bN p n < 2 ^ n
  | 0 => by simp [bN]
  | n + 1 => by
    rw [bN]
    refine Nat.or_lt_two_pow (Nat.lt_of_lt_of_le (bN_lt p n) (Nat.pow_le_pow_right (by omega) (by omega))) ?_
    split
    · exact Nat.pow_lt_pow_right (by omega) (by omega)
    · exact Nat.pow_pos (by omega)
theorem bcf_iN (p : Nat → Bool) : bcf (iN p) = nI (cN p 16) := by
  have h : bN p 16 < 65536 := bN_lt p 16
  have h1 := allB_iff (allB_iff bc_all (bN p 16 / 256) (by omega)) (bN p 16 % 256) (by omega)
  have h2 : bcN (bN p 16) = pcN (bN p 16) := by
    have h3 := Nat.eq_of_beq_eq_true h1
    have e : Nat.add (Nat.mul (bN p 16 / 256) 256) (bN p 16 % 256) = bN p 16 := by
      show bN p 16 / 256 * 256 + bN p 16 % 256 = bN p 16
      omega
    rw [e] at h3
    exact h3
  unfold iN
  rw [bcf_n h, h2, pcN_cN]
  congr 1
  exact cN_ext fun i hi => by rw [bN_bit]; simp [hi]
theorem p_bc (p : Nat → Bool) {Z : Int32 → Prop} (hz : Z (nI (cN p 16))) : pJ6_bitCount_0f7a4 (iN p) Z := by
  rw [← bcf_iN] at hz
  unfold pJ6_bitCount_0f7a4
  intro x1 e1 x2 e2 x3 e3 x4 e4 x5 e5
  subst e1 e2 e3 e4 e5
  exact hz
