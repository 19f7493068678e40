def pX0_copyFrom_26 (Z : SB × SB → Prop) (w0 : SB) : Nat → Int32 → SB → Prop
  | 0, _, _ => False
  | n + 1, v2, u => (if (4 : Int32) ≤ v2 then Z (u, w0) else (if (4 : Int32) ≤ v2 then Z (u, w0) else (vp_in v2 4 ∧ (∀ x4 : Int32, x4 = (w0.2.2.2 (v2).toNatClampNeg) → (vp_in v2 4 ∧ (∀ x6 : Int32, x6 = (v2 + 1) → (pX0_copyFrom_26 Z w0 n x6 (u.1, u.2.1, u.2.2.1, (upd u.2.2.2 (v2).toNatClampNeg x4)))))))))
def pX0_copyFrom (u : SB) (w0 : SB) (Z : SB × SB → Prop) : Prop :=
  (∃ n9 : Nat, pX0_copyFrom_26 Z w0 n9 0 (w0.1, w0.2.1, w0.2.2.1, u.2.2.2))
def pX2_pending (u : SG) (Z : Int32 → Prop) : Prop :=
  Z u.1
def pX2_victor (u : SG) (Z : Int32 → Prop) : Prop :=
  Z u.2.1
def pX2_victoriesOf (p0 : Int32) (u : SG) (Z : Int32 → Prop) : Prop :=
  (if p0 < 0 then Z 0 else (if (2 : Int32) ≤ p0 then Z 0 else (vp_in p0 2 ∧ Z (u.2.2.1 (p0).toNatClampNeg))))
def pX2_hasEnded (u : SG) (Z : Int32 → Prop) : Prop :=
  (if u.2.1 = (-1) then (pX0_emptyCount u.2.2.2 (fun r2 => (if r2 = 0 then Z 1 else Z 0))) else Z 1)
def pX2_mover (u : SG) (Z : Int32 → Prop) : Prop :=
  (pX2_hasEnded u (fun r1 => (if r1 = 0 then (pX0_count u.2.2.2 (fun r3 => (∀ x4 : Int32, x4 = (r3 - r3 / 2 * 2) → (if u.1 = (-1) then Z x4 else Z (1 - x4))))) else Z (-1))))
def pX2_isFree (p0 : Int32) (u : SG) (Z : Int32 → Prop) : Prop :=
  (if p0 = u.1 then Z 0 else (pX0_holds p0 u.2.2.2 (fun r2 => (if r2 = 0 then Z 1 else Z 0))))
def pX2_canGive (p0 : Int32) (u : SG) (Z : Int32 → Prop) : Prop :=
  (pX2_hasEnded u (fun r1 => (if r1 = 0 then (if u.1 = (-1) then (pX0_holds p0 u.2.2.2 (fun r4 => (if r4 = 0 then Z 1 else Z 0))) else Z 0) else Z 0)))
def pX2_canPut (p0 : Int32) (u : SG) (Z : Int32 → Prop) : Prop :=
  (if u.1 = (-1) then Z 0 else (pX0_isEmpty p0 u.2.2.2 (fun r2 => (if r2 = 0 then Z 0 else Z 1))))
def pX2_setGift (p0 : Int32) (u : SG) (Z : SG → Prop) : Prop :=
  Z (p0, u.2.1, u.2.2.1, u.2.2.2)
def pX2_begin (p0 : Int32) (u : SG) (Z : SG → Prop) : Prop :=
  (pX0_empty p0 u.2.2.2 (fun w1 => Z ((-1), (-1), u.2.2.1, w1)))
def pX2_putGift (p0 : Int32) (u : SG) (Z : Int32 → SG → Prop) : Prop :=
  (pX2_mover u (fun r1 => (pX0_put u.1 p0 u.2.2.2 (fun w2 => (pX0_hasWonLine w2 (fun r3 => (if r3 = 0 then Z 0 ((-1), u.2.1, u.2.2.1, w2) else (if r1 < 0 then Z 1 ((-1), r1, u.2.2.1, w2) else (if (2 : Int32) ≤ r1 then Z 1 ((-1), r1, u.2.2.1, w2) else (vp_in r1 2 ∧ (∀ x8 : Int32, x8 = ((u.2.2.1 (r1).toNatClampNeg) + 1) → (vp_in r1 2 ∧ Z 1 ((-1), r1, (upd u.2.2.1 (r1).toNatClampNeg x8), w2)))))))))))))
def pX2_tryMove (p0 : Int32) (p1 : Int32) (u : SG) (Z : Int32 → SG → Prop) : Prop :=
  (if p0 = 0 then (pX2_canPut p1 u (fun r2 => (if r2 = 0 then Z 0 u else (pX2_putGift p1 u (fun r4 w4 => Z 1 w4))))) else (pX2_canGive p1 u (fun r5 => (if r5 = 0 then Z 0 u else (pX2_setGift p1 u (fun w7 => Z 1 w7))))))
def pX2_copyFrom_29 (Z : SG × SG → Prop) (w0 : SG) : Nat → Int32 → SG → Prop
  | 0, _, _ => False
  | n + 1, v2, u => (if (2 : Int32) ≤ v2 then Z (u, w0) else (if (2 : Int32) ≤ v2 then Z (u, w0) else (vp_in v2 2 ∧ (∀ x5 : Int32, x5 = (w0.2.2.1 (v2).toNatClampNeg) → (vp_in v2 2 ∧ (∀ x7 : Int32, x7 = (v2 + 1) → (pX2_copyFrom_29 Z w0 n x7 (u.1, u.2.1, (upd u.2.2.1 (v2).toNatClampNeg x5), u.2.2.2))))))))
def pX2_copyFrom (u : SG) (w0 : SG) (Z : SG × SG → Prop) : Prop :=
  (pX0_copyFrom u.2.2.2 w0.2.2.2 (fun w1 => (∃ n9 : Nat, pX2_copyFrom_29 Z (w0.1, w0.2.1, w0.2.2.1, w1.2) n9 0 (w0.1, w0.2.1, u.2.2.1, w1.1))))
