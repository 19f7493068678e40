def pJ6_bitCount_0f7a4 (p0 : Int32) (Z : Int32 → Prop) : Prop :=
  (∀ x1 : Int32, x1 = (p0 - ((((p0).toUInt32 >>> ((1 : Int32).toUInt32 &&& Int32.toUInt32 31)).toInt32) &&& 1431655765)) → (∀ x2 : Int32, x2 = ((x1 &&& 858993459) + ((((x1).toUInt32 >>> ((2 : Int32).toUInt32 &&& Int32.toUInt32 31)).toInt32) &&& 858993459)) → (∀ x3 : Int32, x3 = ((x2 + (((x2).toUInt32 >>> ((4 : Int32).toUInt32 &&& Int32.toUInt32 31)).toInt32)) &&& 252645135) → (∀ x4 : Int32, x4 = (x3 + (((x3).toUInt32 >>> ((8 : Int32).toUInt32 &&& Int32.toUInt32 31)).toInt32)) → (∀ x5 : Int32, x5 = (x4 + (((x4).toUInt32 >>> ((16 : Int32).toUInt32 &&& Int32.toUInt32 31)).toInt32)) → Z (x5 &&& 63))))))
def pX0_lineRule (u : SB) (Z : Int32 → Prop) : Prop :=
  Z u.1
def pX0_count (u : SB) (Z : Int32 → Prop) : Prop :=
  (pJ6_bitCount_0f7a4 u.2.1 (fun r1 => Z r1))
def pX0_emptyCount (u : SB) (Z : Int32 → Prop) : Prop :=
  (pX0_count u (fun r1 => Z (16 - r1)))
def pX0_holds (p0 : Int32) (u : SB) (Z : Int32 → Prop) : Prop :=
  (if (u.2.2.1 &&& (1 <<< (p0 &&& 31))) = 0 then Z 0 else Z 1)
def pX0_isEmpty (p0 : Int32) (u : SB) (Z : Int32 → Prop) : Prop :=
  (if (u.2.1 &&& (1 <<< (p0 &&& 31))) = 0 then Z 1 else Z 0)
def pX0_pieceAt_14 (Z : Int32 → Prop) (v1 : Int32) (u : SB) : Nat → Int32 → Int32 → Prop
  | 0, _, _ => False
  | n + 1, v2, v3 => (if (4 : Int32) ≤ v3 then Z v2 else (vp_in v3 4 ∧ (∀ x5 : Int32, x5 = (v2 ||| ((((u.2.2.2 (v3).toNatClampNeg) >>> (v1 &&& 31)) &&& 1) <<< (v3 &&& 31))) → (∀ x6 : Int32, x6 = (v3 + 1) → (pX0_pieceAt_14 Z v1 u n x5 x6)))))
def pX0_pieceAt (p0 : Int32) (u : SB) (Z : Int32 → Prop) : Prop :=
  (pX0_isEmpty p0 u (fun r1 => (if r1 = 0 then (∃ n9 : Nat, pX0_pieceAt_14 Z p0 u n9 0 0) else Z (-1))))
def pX0_cellWith_2 (Z : Int32 → Prop) (v1 : Int32) (u : SB) : Nat → Int32 → Prop
  | 0, _ => False
  | n + 1, v2 => (if (16 : Int32) ≤ v2 then Z (-1) else (pX0_pieceAt v2 u (fun r2 => (if r2 = v1 then Z v2 else (∀ x4 : Int32, x4 = (v2 + 1) → (pX0_cellWith_2 Z v1 u n x4))))))
def pX0_cellWith (p0 : Int32) (u : SB) (Z : Int32 → Prop) : Prop :=
  (∃ n9 : Nat, pX0_cellWith_2 Z p0 u n9 0)
def pX0_put_26 (Z : SB → Prop) (v1 : Int32) (v2 : Int32) : Nat → Int32 → SB → Prop
  | 0, _, _ => False
  | n + 1, v3, u => (if (4 : Int32) ≤ v3 then Z u else (vp_in v3 4 ∧ (∀ x5 : Int32, x5 = ((u.2.2.2 (v3).toNatClampNeg) ||| (((v1 >>> (v3 &&& 31)) &&& 1) <<< (v2 &&& 31))) → (vp_in v3 4 ∧ (∀ x7 : Int32, x7 = (v3 + 1) → (pX0_put_26 Z v1 v2 n x7 (u.1, u.2.1, u.2.2.1, (upd u.2.2.2 (v3).toNatClampNeg x5))))))))
def pX0_put (p0 : Int32) (p1 : Int32) (u : SB) (Z : SB → Prop) : Prop :=
  (∀ x1 : Int32, x1 = (u.2.1 ||| (1 <<< (p1 &&& 31))) → (∀ x2 : Int32, x2 = (u.2.2.1 ||| (1 <<< (p0 &&& 31))) → (∃ n9 : Nat, pX0_put_26 Z p0 p1 n9 0 (u.1, x1, x2, u.2.2.2))))
def pX0_lift_30 (Z : SB → Prop) (v2 : Int32) : Nat → Int32 → SB → Prop
  | 0, _, _ => False
  | n + 1, v3, u => (if (4 : Int32) ≤ v3 then Z u else (vp_in v3 4 ∧ (∀ x5 : Int32, x5 = ((u.2.2.2 (v3).toNatClampNeg) &&& ((1 <<< (v2 &&& 31)) ^^^ (-1))) → (vp_in v3 4 ∧ (∀ x7 : Int32, x7 = (v3 + 1) → (pX0_lift_30 Z v2 n x7 (u.1, u.2.1, u.2.2.1, (upd u.2.2.2 (v3).toNatClampNeg x5))))))))
def pX0_lift (p0 : Int32) (p1 : Int32) (u : SB) (Z : SB → Prop) : Prop :=
  (∀ x1 : Int32, x1 = (u.2.1 &&& ((1 <<< (p1 &&& 31)) ^^^ (-1))) → (∀ x2 : Int32, x2 = (u.2.2.1 &&& ((1 <<< (p0 &&& 31)) ^^^ (-1))) → (∃ n9 : Nat, pX0_lift_30 Z p1 n9 0 (u.1, x1, x2, u.2.2.2))))
def pX0_lineCount (u : SB) (Z : Int32 → Prop) : Prop :=
  (if u.1 = 1 then Z 19 else Z 10)
def pX0_cellsOn (p0 : Int32) (Z : Int32 → Prop) : Prop :=
  (if p0 < 0 then Z 0 else (if (19 : Int32) ≤ p0 then Z 0 else (vp_in p0 19 ∧ Z (gLC (p0).toNatClampNeg))))
def pX0_countOn (p0 : Int32) (u : SB) (Z : Int32 → Prop) : Prop :=
  (pX0_cellsOn p0 (fun r1 => (pJ6_bitCount_0f7a4 (u.2.1 &&& r1) (fun r2 => Z r2))))
def pX0_sharedTraits_15 (Z : Int32 → Prop) (v2 : Int32) (u : SB) : Nat → Int32 → Int32 → Prop
  | 0, _, _ => False
  | n + 1, v3, v4 => (if (4 : Int32) ≤ v4 then Z v3 else (vp_in v4 4 ∧ (∀ x5 : Int32, x5 = ((u.2.2.2 (v4).toNatClampNeg) &&& v2) → (if x5 = v2 then (∀ x11 : Int32, x11 = (v3 ||| (1 <<< (v4 &&& 31))) → (if x5 = 0 then (∀ x14 : Int32, x14 = (x11 ||| (1 <<< ((4 + v4) &&& 31))) → (∀ x15 : Int32, x15 = (v4 + 1) → (pX0_sharedTraits_15 Z v2 u n x14 x15))) else (∀ x13 : Int32, x13 = (v4 + 1) → (pX0_sharedTraits_15 Z v2 u n x11 x13)))) else (if x5 = 0 then (∀ x9 : Int32, x9 = (v3 ||| (1 <<< ((4 + v4) &&& 31))) → (∀ x10 : Int32, x10 = (v4 + 1) → (pX0_sharedTraits_15 Z v2 u n x9 x10))) else (∀ x8 : Int32, x8 = (v4 + 1) → (pX0_sharedTraits_15 Z v2 u n v3 x8)))))))
def pX0_sharedTraits (p0 : Int32) (u : SB) (Z : Int32 → Prop) : Prop :=
  (pX0_cellsOn p0 (fun r1 => (∀ x2 : Int32, x2 = (u.2.1 &&& r1) → (∃ n9 : Nat, pX0_sharedTraits_15 Z x2 u n9 0 0))))
def pX0_isWon_34 (Z : Int32 → Prop) (v2 : Int32) (u : SB) : Nat → Int32 → Prop
  | 0, _ => False
  | n + 1, v3 => (if (4 : Int32) ≤ v3 then Z 0 else (vp_in v3 4 ∧ (∀ x8 : Int32, x8 = ((u.2.2.2 (v3).toNatClampNeg) &&& v2) → (if x8 = v2 then Z 1 else (if x8 = 0 then Z 1 else (∀ x11 : Int32, x11 = (v3 + 1) → (pX0_isWon_34 Z v2 u n x11)))))))
def pX0_isWon (p0 : Int32) (u : SB) (Z : Int32 → Prop) : Prop :=
  (if p0 < 0 then Z 0 else (if p0 < 19 then (vp_in p0 19 ∧ (∀ x4 : Int32, x4 = (gLC (p0).toNatClampNeg) → (if (u.2.1 &&& x4) = x4 then (∃ n9 : Nat, pX0_isWon_34 Z x4 u n9 0) else Z 0))) else Z 0))
def pX0_wonCount_4 (Z : Int32 → Prop) (u : SB) : Nat → Int32 → Int32 → Prop
  | 0, _, _ => False
  | n + 1, v1, v2 => (pX0_lineCount u (fun r1 => (if r1 ≤ v2 then Z v1 else (pX0_isWon v2 u (fun r3 => (if r3 = 0 then (∀ x5 : Int32, x5 = (v2 + 1) → (pX0_wonCount_4 Z u n v1 x5)) else (∀ x6 : Int32, x6 = (v1 + 1) → (∀ x7 : Int32, x7 = (v2 + 1) → (pX0_wonCount_4 Z u n x6 x7)))))))))
def pX0_wonCount (u : SB) (Z : Int32 → Prop) : Prop :=
  (∃ n9 : Nat, pX0_wonCount_4 Z u n9 0 0)
def pX0_hasWonLine_2 (Z : Int32 → Prop) (u : SB) : Nat → Int32 → Prop
  | 0, _ => False
  | n + 1, v1 => (pX0_lineCount u (fun r1 => (if r1 ≤ v1 then Z 0 else (pX0_isWon v1 u (fun r3 => (if r3 = 0 then (∀ x5 : Int32, x5 = (v1 + 1) → (pX0_hasWonLine_2 Z u n x5)) else Z 1))))))
def pX0_hasWonLine (u : SB) (Z : Int32 → Prop) : Prop :=
  (∃ n9 : Nat, pX0_hasWonLine_2 Z u n9 0)
def pX0_winsOn (p0 : Int32) (p1 : Int32) (u : SB) (Z : Int32 → SB → Prop) : Prop :=
  (pX0_put p0 p1 u (fun w1 => (pX0_hasWonLine w1 (fun r2 => (pX0_lift p0 p1 w1 (fun w3 => (narrow .boolean (.int r2) = .int r2 ∧ Z r2 w3)))))))
def pX0_firstWinningCell_2 (Z : Int32 → SB → Prop) (v1 : Int32) : Nat → Int32 → SB → Prop
  | 0, _, _ => False
  | n + 1, v2, u => (if (16 : Int32) ≤ v2 then Z (-1) u else (pX0_isEmpty v2 u (fun r2 => (if r2 = 0 then (∀ x4 : Int32, x4 = (v2 + 1) → (pX0_firstWinningCell_2 Z v1 n x4 u)) else (pX0_winsOn v1 v2 u (fun r5 w5 => (if r5 = 0 then (∀ x7 : Int32, x7 = (v2 + 1) → (pX0_firstWinningCell_2 Z v1 n x7 w5)) else Z v2 w5)))))))
def pX0_firstWinningCell (p0 : Int32) (u : SB) (Z : Int32 → SB → Prop) : Prop :=
  (∃ n9 : Nat, pX0_firstWinningCell_2 Z p0 n9 0 u)
def pX0_dangerousTraits_4 (Z : Int32 → Prop) (u : SB) : Nat → Int32 → Int32 → Prop
  | 0, _, _ => False
  | n + 1, v1, v2 => (pX0_lineCount u (fun r1 => (if r1 ≤ v2 then Z v1 else (pX0_countOn v2 u (fun r3 => (if r3 = 3 then (pX0_sharedTraits v2 u (fun r6 => (∀ x7 : Int32, x7 = (v1 ||| r6) → (∀ x8 : Int32, x8 = (v2 + 1) → (pX0_dangerousTraits_4 Z u n x7 x8))))) else (∀ x5 : Int32, x5 = (v2 + 1) → (pX0_dangerousTraits_4 Z u n v1 x5))))))))
def pX0_dangerousTraits (u : SB) (Z : Int32 → Prop) : Prop :=
  (∃ n9 : Nat, pX0_dangerousTraits_4 Z u n9 0 0)
def pX0_empty_17 (Z : SB → Prop) : Nat → Int32 → SB → Prop
  | 0, _, _ => False
  | n + 1, v2, u => (if (4 : Int32) ≤ v2 then Z u else (vp_in v2 4 ∧ (∀ x3 : Int32, x3 = (v2 + 1) → (pX0_empty_17 Z n x3 (u.1, u.2.1, u.2.2.1, (upd u.2.2.2 (v2).toNatClampNeg 0))))))
def pX0_empty (p0 : Int32) (u : SB) (Z : SB → Prop) : Prop :=
  (∃ n9 : Nat, pX0_empty_17 Z n9 0 (p0, 0, 0, u.2.2.2))
