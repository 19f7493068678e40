def pX4_length (u : ST) (Z : Int32 → Prop) : Prop :=
  Z u.1
def pX4_isFull (u : ST) (Z : Int32 → Prop) : Prop :=
  (if u.1 < 60 then Z 0 else Z 1)
def pX4_append (p0 : Int32) (u : ST) (Z : ST → Prop) : Prop :=
  (if u.1 < 0 then Z u else (if (60 : Int32) ≤ u.1 then Z u else (vp_in u.1 60 ∧ (∀ x4 : Int32, x4 = (u.1 + 1) → Z (x4, (upd u.2 (u.1).toNatClampNeg (vp_nar .char p0)))))))
def pX4_empty (u : ST) (Z : ST → Prop) : Prop :=
  Z (0, u.2)
def pX4_characterAt (p0 : Int32) (u : ST) (Z : Int32 → Prop) : Prop :=
  (if p0 < 0 then Z 59 else (if (60 : Int32) ≤ p0 then Z 59 else (vp_in p0 60 ∧ (narrow .char (.int (u.2 (p0).toNatClampNeg)) = .int (u.2 (p0).toNatClampNeg) ∧ Z (u.2 (p0).toNatClampNeg)))))
def pX4_dueAfter (p0 : Int32) (p1 : Int32) (Z : Int32 → Prop) : Prop :=
  (if p0 = 0 then (if p1 = 103 then Z 1 else (if p1 = 112 then Z 1 else Z 4)) else (if p0 = 1 then (if p1 = 49 then Z 2 else (if p1 < 48 then Z 4 else (if (57 : Int32) < p1 then Z 4 else Z 3))) else (if p0 = 2 then (if p1 < 48 then (if p1 = 59 then Z 0 else Z 4) else (if (53 : Int32) < p1 then (if p1 = 59 then Z 0 else Z 4) else Z 3)) else (if p0 = 3 then (if p1 = 59 then Z 0 else Z 4) else Z 4))))
def pX4_firstError_4 (Z : Int32 → Prop) (u : ST) : Nat → Int32 → Int32 → Prop
  | 0, _, _ => False
  | n + 1, v1, v2 => (if u.1 ≤ v2 then (if v1 = 2 then Z (-1) else (if v1 = 3 then Z (-1) else Z u.1)) else (pX4_characterAt v2 u (fun r4 => (pX4_dueAfter v1 r4 (fun r5 => (if r5 = 4 then Z v2 else (∀ x7 : Int32, x7 = (v2 + 1) → (pX4_firstError_4 Z u n r5 x7))))))))
def pX4_firstError (u : ST) (Z : Int32 → Prop) : Prop :=
  (∃ n9 : Nat, pX4_firstError_4 Z u n9 0 0)
def pX4_endsMove (p0 : Int32) (u : ST) (Z : Int32 → Prop) : Prop :=
  (if p0 = u.1 then Z 1 else (pX4_characterAt p0 u (fun r2 => (if r2 = 59 then Z 1 else Z 0))))
def pX4_moves_4 (Z : Int32 → Prop) (u : ST) : Nat → Int32 → Int32 → Prop
  | 0, _, _ => False
  | n + 1, v1, v2 => (if u.1 < v2 then Z v1 else (pX4_endsMove v2 u (fun r2 => (if r2 = 0 then (∀ x4 : Int32, x4 = (v2 + 1) → (pX4_moves_4 Z u n v1 x4)) else (∀ x5 : Int32, x5 = (v1 + 1) → (∀ x6 : Int32, x6 = (v2 + 1) → (pX4_moves_4 Z u n x5 x6)))))))
def pX4_moves (u : ST) (Z : Int32 → Prop) : Prop :=
  (∃ n9 : Nat, pX4_moves_4 Z u n9 0 0)
def pX4_isGift (p0 : Int32) (u : ST) (Z : Int32 → Prop) : Prop :=
  (pX4_characterAt p0 u (fun r1 => (if r1 = 103 then Z 1 else Z 0)))
def pX4_number_5 (Z : Int32 → Prop) (v2 : Int32) (u : ST) : Nat → Int32 → Int32 → Prop
  | 0, _, _ => False
  | n + 1, v3, v4 => (if v2 ≤ v4 then Z v3 else (pX4_characterAt v4 u (fun r2 => (∀ x3 : Int32, x3 = ((v3 * 10) + (r2 - 48)) → (∀ x4 : Int32, x4 = (v4 + 1) → (pX4_number_5 Z v2 u n x3 x4))))))
def pX4_number (p0 : Int32) (p1 : Int32) (u : ST) (Z : Int32 → Prop) : Prop :=
  (∃ n9 : Nat, pX4_number_5 Z p1 u n9 0 p0)
