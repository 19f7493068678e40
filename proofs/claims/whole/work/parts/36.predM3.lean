def pX6_undo_30 (Z : Int32 → SM → Prop) : Nat → Int32 → SM → Prop
  | 0, _, _ => False
  | n + 1, v1, u => (if (21 : Int32) ≤ v1 then Z u.2.2.2.2.2.2.2.2.1 u else (vp_in ((21 * u.2.2.2.2.2.2.2.2.1) + v1) 84 ∧ (∀ x5 : Int32, x5 = (u.2.2.1 (((21 * u.2.2.2.2.2.2.2.2.1) + v1)).toNatClampNeg) → (vp_in v1 21 ∧ (∀ x7 : Int32, x7 = (v1 + 1) → (pX6_undo_30 Z n x7 ((upd u.1 (v1).toNatClampNeg x5), u.2.1, u.2.2.1, u.2.2.2.1, u.2.2.2.2.1, u.2.2.2.2.2.1, u.2.2.2.2.2.2.1, u.2.2.2.2.2.2.2.1, u.2.2.2.2.2.2.2.2.1, u.2.2.2.2.2.2.2.2.2.1, u.2.2.2.2.2.2.2.2.2.2.1, u.2.2.2.2.2.2.2.2.2.2.2.1, u.2.2.2.2.2.2.2.2.2.2.2.2.1, u.2.2.2.2.2.2.2.2.2.2.2.2.2.1, u.2.2.2.2.2.2.2.2.2.2.2.2.2.2.1, u.2.2.2.2.2.2.2.2.2.2.2.2.2.2.2.1, u.2.2.2.2.2.2.2.2.2.2.2.2.2.2.2.2.1, u.2.2.2.2.2.2.2.2.2.2.2.2.2.2.2.2.2)))))))
def pX6_undo (u : SM) (Z : Int32 → SM → Prop) : Prop :=
  (if u.2.2.2.2.2.2.2.2.1 = 0 then (pX6_fails 1 u (fun r8 w8 => Z r8 w8)) else (∀ x2 : Int32, x2 = (u.2.2.2.2.2.2.2.2.1 - 1) → (∃ n9 : Nat, pX6_undo_30 Z n9 0 (u.1, u.2.1, u.2.2.1, u.2.2.2.1, u.2.2.2.2.1, u.2.2.2.2.2.1, u.2.2.2.2.2.2.1, u.2.2.2.2.2.2.2.1, x2, u.2.2.2.2.2.2.2.2.2.1, 0, u.2.2.2.2.2.2.2.2.2.2.2.1, u.2.2.2.2.2.2.2.2.2.2.2.2.1, u.2.2.2.2.2.2.2.2.2.2.2.2.2.1, u.2.2.2.2.2.2.2.2.2.2.2.2.2.2.1, u.2.2.2.2.2.2.2.2.2.2.2.2.2.2.2.1, u.2.2.2.2.2.2.2.2.2.2.2.2.2.2.2.2.1, u.2.2.2.2.2.2.2.2.2.2.2.2.2.2.2.2.2))))
def pX6_takeSnapshot_2 (Z : Int32 → SM → Prop) : Nat → Int32 → SM → Prop
  | 0, _, _ => False
  | n + 1, v1, u => (if (21 : Int32) ≤ v1 then (pX6_count (u.1, u.2.1, u.2.2.1, u.2.2.2.1, u.2.2.2.2.1, u.2.2.2.2.2.1, u.2.2.2.2.2.2.1, u.2.2.2.2.2.2.2.1, u.2.2.2.2.2.2.2.2.1, 1, u.2.2.2.2.2.2.2.2.2.2.1, u.2.2.2.2.2.2.2.2.2.2.2.1, u.2.2.2.2.2.2.2.2.2.2.2.2.1, u.2.2.2.2.2.2.2.2.2.2.2.2.2.1, u.2.2.2.2.2.2.2.2.2.2.2.2.2.2.1, u.2.2.2.2.2.2.2.2.2.2.2.2.2.2.2.1, u.2.2.2.2.2.2.2.2.2.2.2.2.2.2.2.2.1, u.2.2.2.2.2.2.2.2.2.2.2.2.2.2.2.2.2) (fun r2 => (pX6_told r2 (u.1, u.2.1, u.2.2.1, u.2.2.2.1, u.2.2.2.2.1, u.2.2.2.2.2.1, u.2.2.2.2.2.2.1, u.2.2.2.2.2.2.2.1, u.2.2.2.2.2.2.2.2.1, 1, u.2.2.2.2.2.2.2.2.2.2.1, u.2.2.2.2.2.2.2.2.2.2.2.1, u.2.2.2.2.2.2.2.2.2.2.2.2.1, u.2.2.2.2.2.2.2.2.2.2.2.2.2.1, u.2.2.2.2.2.2.2.2.2.2.2.2.2.2.1, u.2.2.2.2.2.2.2.2.2.2.2.2.2.2.2.1, u.2.2.2.2.2.2.2.2.2.2.2.2.2.2.2.2.1, u.2.2.2.2.2.2.2.2.2.2.2.2.2.2.2.2.2) (fun r3 w3 => Z r3 w3)))) else (vp_in v1 21 ∧ (∀ x5 : Int32, x5 = (u.1 (v1).toNatClampNeg) → (vp_in v1 21 ∧ (∀ x7 : Int32, x7 = (v1 + 1) → (pX6_takeSnapshot_2 Z n x7 (u.1, u.2.1, u.2.2.1, (upd u.2.2.2.1 (v1).toNatClampNeg x5), u.2.2.2.2.1, u.2.2.2.2.2.1, u.2.2.2.2.2.2.1, u.2.2.2.2.2.2.2.1, u.2.2.2.2.2.2.2.2.1, u.2.2.2.2.2.2.2.2.2.1, u.2.2.2.2.2.2.2.2.2.2.1, u.2.2.2.2.2.2.2.2.2.2.2.1, u.2.2.2.2.2.2.2.2.2.2.2.2.1, u.2.2.2.2.2.2.2.2.2.2.2.2.2.1, u.2.2.2.2.2.2.2.2.2.2.2.2.2.2.1, u.2.2.2.2.2.2.2.2.2.2.2.2.2.2.2.1, u.2.2.2.2.2.2.2.2.2.2.2.2.2.2.2.2.1, u.2.2.2.2.2.2.2.2.2.2.2.2.2.2.2.2.2)))))))
def pX6_takeSnapshot (u : SM) (Z : Int32 → SM → Prop) : Prop :=
  (∃ n9 : Nat, pX6_takeSnapshot_2 Z n9 0 u)
def pX6_restoreSnapshot_19 (Z : Int32 → SM → Prop) : Nat → Int32 → SM → Prop
  | 0, _, _ => False
  | n + 1, v1, u => (if (21 : Int32) ≤ v1 then (pX6_count u (fun r4 => Z r4 u)) else (vp_in v1 21 ∧ (∀ x6 : Int32, x6 = (u.2.2.2.1 (v1).toNatClampNeg) → (vp_in v1 21 ∧ (∀ x8 : Int32, x8 = (v1 + 1) → (pX6_restoreSnapshot_19 Z n x8 ((upd u.1 (v1).toNatClampNeg x6), u.2.1, u.2.2.1, u.2.2.2.1, u.2.2.2.2.1, u.2.2.2.2.2.1, u.2.2.2.2.2.2.1, u.2.2.2.2.2.2.2.1, u.2.2.2.2.2.2.2.2.1, u.2.2.2.2.2.2.2.2.2.1, u.2.2.2.2.2.2.2.2.2.2.1, u.2.2.2.2.2.2.2.2.2.2.2.1, u.2.2.2.2.2.2.2.2.2.2.2.2.1, u.2.2.2.2.2.2.2.2.2.2.2.2.2.1, u.2.2.2.2.2.2.2.2.2.2.2.2.2.2.1, u.2.2.2.2.2.2.2.2.2.2.2.2.2.2.2.1, u.2.2.2.2.2.2.2.2.2.2.2.2.2.2.2.2.1, u.2.2.2.2.2.2.2.2.2.2.2.2.2.2.2.2.2)))))))
def pX6_restoreSnapshot (u : SM) (Z : Int32 → SM → Prop) : Prop :=
  (if u.2.2.2.2.2.2.2.2.2.1 = 0 then (pX6_fails 1 u (fun r9 w9 => Z r9 w9)) else (pX6_records u (fun w2 => (∃ n9 : Nat, pX6_restoreSnapshot_19 Z n9 0 w2))))
def pX6_playerToMove (u : SM) (Z : Int32 → SM → Prop) : Prop :=
  (pX6_isOverNow u (fun r1 => (if r1 = 0 then (pX6_mover u (fun r3 => (pX6_told r3 u (fun r4 w4 => Z r4 w4)))) else (pX6_told (-1) u (fun r5 w5 => Z r5 w5)))))
def pX6_gift (u : SM) (Z : Int32 → SM → Prop) : Prop :=
  (pX6_told ((u.1 16) - 1) u (fun r1 w1 => Z r1 w1))
def pX6_pieceOn (p0 : Int32) (u : SM) (Z : Int32 → SM → Prop) : Prop :=
  (pX6_isPlace p0 (fun r1 => (if r1 = 0 then (pX6_fails 1 u (fun r3 w3 => Z r3 w3)) else (vp_in (0 + p0) 21 ∧ (pX6_told ((u.1 ((0 + p0)).toNatClampNeg) - 1) u (fun r5 w5 => Z r5 w5))))))
def pX6_cellOf (p0 : Int32) (u : SM) (Z : Int32 → SM → Prop) : Prop :=
  (pX6_isPlace p0 (fun r1 => (if r1 = 0 then (pX6_fails 1 u (fun r3 w3 => Z r3 w3)) else (pX6_cell p0 u (fun r4 => (pX6_told r4 u (fun r5 w5 => Z r5 w5)))))))
def pX6_placed (u : SM) (Z : Int32 → SM → Prop) : Prop :=
  (pX6_count u (fun r1 => (pX6_told r1 u (fun r2 w2 => Z r2 w2))))
def pX6_winner (u : SM) (Z : Int32 → SM → Prop) : Prop :=
  (pX6_told ((u.1 20) - 1) u (fun r1 w1 => Z r1 w1))
def pX6_isOver (u : SM) (Z : Int32 → SM → Prop) : Prop :=
  (pX6_isOverNow (u.1, u.2.1, u.2.2.1, u.2.2.2.1, u.2.2.2.2.1, u.2.2.2.2.2.1, u.2.2.2.2.2.2.1, u.2.2.2.2.2.2.2.1, u.2.2.2.2.2.2.2.2.1, u.2.2.2.2.2.2.2.2.2.1, 0, u.2.2.2.2.2.2.2.2.2.2.2.1, u.2.2.2.2.2.2.2.2.2.2.2.2.1, u.2.2.2.2.2.2.2.2.2.2.2.2.2.1, u.2.2.2.2.2.2.2.2.2.2.2.2.2.2.1, u.2.2.2.2.2.2.2.2.2.2.2.2.2.2.2.1, u.2.2.2.2.2.2.2.2.2.2.2.2.2.2.2.2.1, u.2.2.2.2.2.2.2.2.2.2.2.2.2.2.2.2.2) (fun r1 => (narrow .boolean (.int r1) = .int r1 ∧ Z r1 (u.1, u.2.1, u.2.2.1, u.2.2.2.1, u.2.2.2.2.1, u.2.2.2.2.2.1, u.2.2.2.2.2.2.1, u.2.2.2.2.2.2.2.1, u.2.2.2.2.2.2.2.2.1, u.2.2.2.2.2.2.2.2.2.1, 0, u.2.2.2.2.2.2.2.2.2.2.2.1, u.2.2.2.2.2.2.2.2.2.2.2.2.1, u.2.2.2.2.2.2.2.2.2.2.2.2.2.1, u.2.2.2.2.2.2.2.2.2.2.2.2.2.2.1, u.2.2.2.2.2.2.2.2.2.2.2.2.2.2.2.1, u.2.2.2.2.2.2.2.2.2.2.2.2.2.2.2.2.1, u.2.2.2.2.2.2.2.2.2.2.2.2.2.2.2.2.2))))
def pX6_lines (u : SM) (Z : Int32 → SM → Prop) : Prop :=
  (pX6_linesNow u (fun r1 => (pX6_told r1 u (fun r2 w2 => Z r2 w2))))
def pX6_piecesOn (p0 : Int32) (u : SM) (Z : Int32 → SM → Prop) : Prop :=
  (pX6_linesNow u (fun r1 => (pX6_in p0.toInt64 0 (r1.toInt64 - 1) (fun r2 => (if r2 = 0 then (pX6_fails 1 u (fun r4 w4 => Z r4 w4)) else (pX6_many p0 u (fun r5 => (pX6_told r5 u (fun r6 w6 => Z r6 w6)))))))))
def pX6_sharedOn (p0 : Int32) (u : SM) (Z : Int32 → SM → Prop) : Prop :=
  (pX6_linesNow u (fun r1 => (pX6_in p0.toInt64 0 (r1.toInt64 - 1) (fun r2 => (if r2 = 0 then (pX6_fails 1 u (fun r4 w4 => Z r4 w4)) else (pX6_shared p0 u (fun r5 => (pX6_told r5 u (fun r6 w6 => Z r6 w6)))))))))
def pX6_wonLines (u : SM) (Z : Int32 → SM → Prop) : Prop :=
  (pX6_won u (fun r1 => (pX6_told r1 u (fun r2 w2 => Z r2 w2))))
def pX6_winsOf (p0 : Int32) (u : SM) (Z : Int32 → SM → Prop) : Prop :=
  (pX6_in p0.toInt64 0 1 (fun r1 => (if r1 = 0 then (pX6_fails 1 u (fun r3 w3 => Z r3 w3)) else (vp_in (18 + p0) 21 ∧ (pX6_told (u.1 ((18 + p0)).toNatClampNeg) u (fun r5 w5 => Z r5 w5))))))
def pX6_winningCell (p0 : Int32) (u : SM) (Z : Int32 → SM → Prop) : Prop :=
  (pX6_isPlace p0 (fun r1 => (if r1 = 0 then (pX6_fails 1 u (fun r3 w3 => Z r3 w3)) else (pX6_winning p0 u (fun r4 w4 => (pX6_told r4 w4 (fun r5 w5 => Z r5 w5)))))))
def pX6_safe_4 (Z : Int32 → SM → Prop) : Nat → Int32 → Int32 → SM → Prop
  | 0, _, _, _ => False
  | n + 1, v1, v2, u => (if (16 : Int32) ≤ v2 then Z v1 u else (pX6_isOverNow u (fun r2 => (if r2 = 0 then (pX6_cell v2 u (fun r4 => (if r4 = (-1) then (if (u.1 16) = (v2 + 1) then (∀ x9 : Int32, x9 = (v1 ||| 0) → (∀ x10 : Int32, x10 = (v2 + 1) → (pX6_safe_4 Z n x9 x10 u))) else (pX6_winning v2 u (fun r11 w11 => (if r11 = (-1) then (∀ x15 : Int32, x15 = (v1 ||| (1 <<< (v2 &&& 31))) → (∀ x16 : Int32, x16 = (v2 + 1) → (pX6_safe_4 Z n x15 x16 w11))) else (∀ x13 : Int32, x13 = (v1 ||| 0) → (∀ x14 : Int32, x14 = (v2 + 1) → (pX6_safe_4 Z n x13 x14 w11))))))) else (∀ x6 : Int32, x6 = (v1 ||| 0) → (∀ x7 : Int32, x7 = (v2 + 1) → (pX6_safe_4 Z n x6 x7 u)))))) else Z v1 u))))
def pX6_safe (u : SM) (Z : Int32 → SM → Prop) : Prop :=
  (∃ n9 : Nat, pX6_safe_4 Z n9 0 0 u)
def pX6_safeByTrying (u : SM) (Z : Int32 → SM → Prop) : Prop :=
  (pX6_safe u (fun r1 w1 => (pX6_told r1 w1 (fun r2 w2 => Z r2 w2))))
def pX6_safeByLines (u : SM) (Z : Int32 → SM → Prop) : Prop :=
  (pX6_safe u (fun r1 w1 => (pX6_told r1 w1 (fun r2 w2 => Z r2 w2))))
