def pJ6_bitCount_0f7a4 (p0 : Int32) (Z : Int32 → Prop) : Prop :=
  (∀ x1 : Int32, x1 = (p0 - ((((p0).toUInt32 >>> ((1 : Int32).toUInt32 &&& Int32.toUInt32 31)).toInt32) &&& 1431655765)) → (∀ x2 : Int32, x2 = ((x1 &&& 858993459) + ((((x1).toUInt32 >>> ((2 : Int32).toUInt32 &&& Int32.toUInt32 31)).toInt32) &&& 858993459)) → (∀ x3 : Int32, x3 = ((x2 + (((x2).toUInt32 >>> ((4 : Int32).toUInt32 &&& Int32.toUInt32 31)).toInt32)) &&& 252645135) → (∀ x4 : Int32, x4 = (x3 + (((x3).toUInt32 >>> ((8 : Int32).toUInt32 &&& Int32.toUInt32 31)).toInt32)) → (∀ x5 : Int32, x5 = (x4 + (((x4).toUInt32 >>> ((16 : Int32).toUInt32 &&& Int32.toUInt32 31)).toInt32)) → Z (x5 &&& 63))))))
def pX0_lineRule (u : SB) (Z : Int32 → Prop) : Prop :=
  Z u.1
def pX0_count (u : SB) (Z : Int32 → Prop) : Prop :=
  (pJ6_bitCount_0f7a4 u.2.1 (fun r1 => Z r1))
def pX0_isEmpty (p0 : Int32) (u : SB) (Z : Int32 → Prop) : Prop :=
  (if (u.2.1 &&& (1 <<< (p0 &&& 31))) = 0 then Z 1 else Z 0)
def pX0_pieceAt_14 (Z : Int32 → Prop) (v1 : Int32) (u : SB) : Nat → Int32 → Int32 → Prop
  | 0, _, _ => False
  | n + 1, v2, v3 => (if (4 : Int32) ≤ v3 then Z v2 else (vp_in v3 4 ∧ (∀ x5 : Int32, x5 = (v2 ||| ((((u.2.2.2 (v3).toNatClampNeg) >>> (v1 &&& 31)) &&& 1) <<< (v3 &&& 31))) → (∀ x6 : Int32, x6 = (v3 + 1) → (pX0_pieceAt_14 Z v1 u n x5 x6)))))
def pX0_pieceAt (p0 : Int32) (u : SB) (Z : Int32 → Prop) : Prop :=
  (pX0_isEmpty p0 u (fun r1 => (if r1 = 0 then (∃ n9 : Nat, pX0_pieceAt_14 Z p0 u n9 0 0) else Z (-1))))
def pX0_put_26 (Z : SB → Prop) (v1 : Int32) (v2 : Int32) : Nat → Int32 → SB → Prop
  | 0, _, _ => False
  | n + 1, v3, u => (if (4 : Int32) ≤ v3 then Z u else (vp_in v3 4 ∧ (∀ x5 : Int32, x5 = ((u.2.2.2 (v3).toNatClampNeg) ||| (((v1 >>> (v3 &&& 31)) &&& 1) <<< (v2 &&& 31))) → (vp_in v3 4 ∧ (∀ x7 : Int32, x7 = (v3 + 1) → (pX0_put_26 Z v1 v2 n x7 (u.1, u.2.1, u.2.2.1, (upd u.2.2.2 (v3).toNatClampNeg x5))))))))
def pX0_put (p0 : Int32) (p1 : Int32) (u : SB) (Z : SB → Prop) : Prop :=
  (∀ x1 : Int32, x1 = (u.2.1 ||| (1 <<< (p1 &&& 31))) → (∀ x2 : Int32, x2 = (u.2.2.1 ||| (1 <<< (p0 &&& 31))) → (∃ n9 : Nat, pX0_put_26 Z p0 p1 n9 0 (u.1, x1, x2, u.2.2.2))))
