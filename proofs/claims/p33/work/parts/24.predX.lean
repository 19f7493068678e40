def pX5_requirePiece (p0 : Int32) (Z : Unit → Prop) (X : String → Unit → Prop) : Prop :=
  (if p0 < 0 then X "java/lang/IndexOutOfBoundsException" () else (if p0 < 16 then Z () else X "java/lang/IndexOutOfBoundsException" ()))
def pX5_requireCell (p0 : Int32) (Z : Unit → Prop) (X : String → Unit → Prop) : Prop :=
  (if p0 < 0 then X "java/lang/IndexOutOfBoundsException" () else (if p0 < 16 then Z () else X "java/lang/IndexOutOfBoundsException" ()))
def pX5_requireLine (p0 : Int32) (u : SX) (Z : SX → Prop) (X : String → SX → Prop) : Prop :=
  (if p0 < 0 then X "java/lang/IndexOutOfBoundsException" u else (pX0_lineCount u.2.1.2.2.2 (fun r3 => (if p0 < r3 then Z u else X "java/lang/IndexOutOfBoundsException" u))))
def pX5_requireValidText (u : SX) (Z : SX → Prop) (X : String → SX → Prop) : Prop :=
  (pX4_firstError u.2.2.2.2.2 (fun r1 => (if r1 = (-1) then Z u else X "java/lang/IllegalStateException" u)))
def pX5_requireSearchable (u : SX) (Z : SX → Prop) (X : String → SX → Prop) : Prop :=
  (pX2_hasEnded u.2.1 (fun r1 => (if r1 = 0 then (pX0_emptyCount u.2.1.2.2.2 (fun r4 => (if r4 ≤ 4 then Z u else X "java/lang/IllegalStateException" u))) else X "java/lang/IllegalStateException" u)))
def pX5_traitsOf (p0 : Int32) (Z : Int32 → Prop) : Prop :=
  Z (p0 ||| (((p0 ^^^ (-1)) &&& 15) <<< (4 &&& 31)))
def pX5_tryText_17 (Z : Int32 → SX → Prop) : Nat → Int32 → Int32 → Int32 → SX → Prop
  | 0, _, _, _, _ => False
  | n + 1, v1, v2, v3, u => (pX4_length u.2.2.2.2.2 (fun r2 => (if r2 < v3 then Z (-1) u else (pX4_endsMove v3 u.2.2.2.2.2 (fun r4 => (if r4 = 0 then (∀ x6 : Int32, x6 = (v3 + 1) → (pX5_tryText_17 Z n v1 v2 x6 u)) else (pX4_isGift v2 u.2.2.2.2.2 (fun r7 => (pX4_number (v2 + 1) v3 u.2.2.2.2.2 (fun r8 => (pX2_tryMove r7 r8 u.2.2.1 (fun r9 w9 => (if r9 = 0 then Z v1 (u.1, u.2.1, w9, u.2.2.2.1, u.2.2.2.2.1, u.2.2.2.2.2) else (∀ x11 : Int32, x11 = (v1 + 1) → (∀ x12 : Int32, x12 = (v3 + 1) → (∀ x13 : Int32, x13 = (v3 + 1) → (pX5_tryText_17 Z n x11 x12 x13 (u.1, u.2.1, w9, u.2.2.2.1, u.2.2.2.2.1, u.2.2.2.2.2))))))))))))))))))
def pX5_tryText (u : SX) (Z : Int32 → SX → Prop) : Prop :=
  (pX2_copyFrom u.2.2.1 u.2.1 (fun w1 => (∃ n9 : Nat, pX5_tryText_17 Z n9 0 0 0 (u.1, w1.2, w1.1, u.2.2.2.1, u.2.2.2.2.1, u.2.2.2.2.2))))
def pX5_give (p0 : Int32) (u : SX) (Z : Int32 → SX → Prop) (X : String → SX → Prop) : Prop :=
  (pX5_requirePiece p0 (fun w1 => (pX2_canGive p0 u.2.1 (fun r2 => (if r2 = 0 then X "java/lang/IllegalStateException" u else (pX3_record u.2.2.2.2.1 u.2.1 (fun w4 => (pX2_setGift p0 w4.2 (fun w5 => (pX2_mover w5 (fun r6 => Z r6 (u.1, w5, u.2.2.1, u.2.2.2.1, w4.1, u.2.2.2.2.2))))))))))) (fun E w1 => X E u))
def pX5_place (p0 : Int32) (u : SX) (Z : Int32 → SX → Prop) (X : String → SX → Prop) : Prop :=
  (pX5_requireCell p0 (fun w1 => (pX2_canPut p0 u.2.1 (fun r2 => (if r2 = 0 then X "java/lang/IllegalStateException" u else (pX3_record u.2.2.2.2.1 u.2.1 (fun w4 => (pX2_putGift p0 w4.2 (fun r5 w5 => (narrow .boolean (.int r5) = .int r5 ∧ Z r5 (u.1, w5, u.2.2.1, u.2.2.2.1, w4.1, u.2.2.2.2.2)))))))))) (fun E w1 => X E u))
def pX5_restart (p0 : Int32) (u : SX) (Z : Int32 → SX → Prop) (X : String → SX → Prop) : Prop :=
  (if p0 = 0 then (pX0_count u.2.1.2.2.2 (fun r3 => (pX3_record u.2.2.2.2.1 u.2.1 (fun w4 => (pX2_begin p0 w4.2 (fun w5 => Z r3 (u.1, w5, u.2.2.1, u.2.2.2.1, w4.1, u.2.2.2.2.2))))))) else (if p0 = 1 then (pX0_count u.2.1.2.2.2 (fun r8 => (pX3_record u.2.2.2.2.1 u.2.1 (fun w9 => (pX2_begin p0 w9.2 (fun w10 => Z r8 (u.1, w10, u.2.2.1, u.2.2.2.1, w9.1, u.2.2.2.2.2))))))) else X "java/lang/IllegalArgumentException" u))
def pX5_type (p0 : Int32) (u : SX) (Z : Int32 → SX → Prop) (X : String → SX → Prop) : Prop :=
  (pX4_isFull u.2.2.2.2.2 (fun r1 => (if r1 = 0 then (pX4_append p0 u.2.2.2.2.2 (fun w3 => (pX4_length w3 (fun r4 => Z r4 (u.1, u.2.1, u.2.2.1, u.2.2.2.1, u.2.2.2.2.1, w3))))) else X "java/lang/IllegalStateException" u)))
def pX5_clearText (u : SX) (Z : Int32 → SX → Prop) : Prop :=
  (pX4_length u.2.2.2.2.2 (fun r1 => (pX4_empty u.2.2.2.2.2 (fun w2 => Z r1 (u.1, u.2.1, u.2.2.1, u.2.2.2.1, u.2.2.2.2.1, w2)))))
def pX5_carryOut (u : SX) (Z : Int32 → SX → Prop) (X : String → SX → Prop) : Prop :=
  (pX5_requireValidText u (fun w1 => (pX5_tryText w1 (fun r2 w2 => (if r2 = (-1) then (pX3_record w2.2.2.2.2.1 w2.2.1 (fun w4 => (pX2_copyFrom w4.2 w2.2.2.1 (fun w5 => (pX4_moves w2.2.2.2.2.2 (fun r6 => Z r6 (w2.1, w5.1, w5.2, w2.2.2.2.1, w4.1, w2.2.2.2.2.2))))))) else X "java/lang/IllegalStateException" w2)))) (fun E w1 => X E w1))
def pX5_undo (u : SX) (Z : Int32 → SX → Prop) (X : String → SX → Prop) : Prop :=
  (pX3_size u.2.2.2.2.1 (fun r1 => (if r1 = 0 then X "java/lang/IllegalStateException" u else (pX3_takeBack u.2.2.2.2.1 u.2.1 (fun w3 => (pX3_size w3.1 (fun r4 => Z r4 (u.1, w3.2, u.2.2.1, u.2.2.2.1, w3.1, u.2.2.2.2.2))))))))
def pX5_restoreSnapshot (u : SX) (Z : Int32 → SX → Prop) (X : String → SX → Prop) : Prop :=
  (if u.1 = 0 then X "java/lang/IllegalStateException" u else (pX3_record u.2.2.2.2.1 u.2.1 (fun w2 => (pX2_copyFrom w2.2 u.2.2.2.1 (fun w3 => (pX0_count w3.1.2.2.2 (fun r5 => Z r5 (u.1, w3.1, u.2.2.1, w3.2, w2.1, u.2.2.2.2.2))))))))
def pX5_playerToMove (u : SX) (Z : Int32 → Prop) : Prop :=
  (pX2_mover u.2.1 (fun r1 => Z r1))
def pX5_gift (u : SX) (Z : Int32 → Prop) : Prop :=
  (pX2_pending u.2.1 (fun r1 => Z r1))
def pX5_pieceOn (p0 : Int32) (u : SX) (Z : Int32 → SX → Prop) (X : String → SX → Prop) : Prop :=
  (pX5_requireCell p0 (fun w1 => (pX0_pieceAt p0 u.2.1.2.2.2 (fun r3 => Z r3 u))) (fun E w1 => X E u))
def pX5_cellOf (p0 : Int32) (u : SX) (Z : Int32 → SX → Prop) (X : String → SX → Prop) : Prop :=
  (pX5_requirePiece p0 (fun w1 => (pX0_cellWith p0 u.2.1.2.2.2 (fun r3 => Z r3 u))) (fun E w1 => X E u))
def pX5_placed (u : SX) (Z : Int32 → Prop) : Prop :=
  (pX0_count u.2.1.2.2.2 (fun r2 => Z r2))
def pX5_winner (u : SX) (Z : Int32 → Prop) : Prop :=
  (pX2_victor u.2.1 (fun r1 => Z r1))
def pX5_isOver (u : SX) (Z : Int32 → Prop) : Prop :=
  (pX2_hasEnded u.2.1 (fun r1 => (narrow .boolean (.int r1) = .int r1 ∧ Z r1)))
def pX5_lines (u : SX) (Z : Int32 → Prop) : Prop :=
  (pX0_lineCount u.2.1.2.2.2 (fun r2 => Z r2))
def pX5_piecesOn (p0 : Int32) (u : SX) (Z : Int32 → SX → Prop) (X : String → SX → Prop) : Prop :=
  (pX5_requireLine p0 u (fun w1 => (pX0_countOn p0 w1.2.1.2.2.2 (fun r3 => Z r3 w1))) (fun E w1 => X E w1))
def pX5_sharedOn (p0 : Int32) (u : SX) (Z : Int32 → SX → Prop) (X : String → SX → Prop) : Prop :=
  (pX5_requireLine p0 u (fun w1 => (pX0_sharedTraits p0 w1.2.1.2.2.2 (fun r3 => Z r3 w1))) (fun E w1 => X E w1))
def pX5_wonLines (u : SX) (Z : Int32 → Prop) : Prop :=
  (pX0_wonCount u.2.1.2.2.2 (fun r2 => Z r2))
def pX5_winsOf (p0 : Int32) (u : SX) (Z : Int32 → SX → Prop) (X : String → SX → Prop) : Prop :=
  (if p0 < 0 then X "java/lang/IndexOutOfBoundsException" u else (if p0 < 2 then (pX2_victoriesOf p0 u.2.1 (fun r3 => Z r3 u)) else X "java/lang/IndexOutOfBoundsException" u))
def pX5_winningCell (p0 : Int32) (u : SX) (Z : Int32 → SX → Prop) (X : String → SX → Prop) : Prop :=
  (pX5_requirePiece p0 (fun w1 => (pX2_hasEnded u.2.1 (fun r2 => (if r2 = 0 then (pX0_holds p0 u.2.1.2.2.2 (fun r5 => (if r5 = 0 then (pX2_copyFrom u.2.2.1 u.2.1 (fun w7 => (pX0_firstWinningCell p0 w7.1.2.2.2 (fun r9 w9 => Z r9 (u.1, w7.2, (w7.1.1, w7.1.2.1, w7.1.2.2.1, w9), u.2.2.2.1, u.2.2.2.2.1, u.2.2.2.2.2))))) else Z (-1) u))) else Z (-1) u)))) (fun E w1 => X E u))
def pX5_safeByTrying_27 (Z : Int32 → SX → Prop) : Nat → Int32 → Int32 → SX → Prop
  | 0, _, _, _ => False
  | n + 1, v1, v2, u => (if (16 : Int32) ≤ v2 then Z v1 u else (pX2_isFree v2 u.2.1 (fun r5 => (if r5 = 0 then (∀ x7 : Int32, x7 = (v2 + 1) → (pX5_safeByTrying_27 Z n v1 x7 u)) else (pX0_firstWinningCell v2 u.2.2.1.2.2.2 (fun r9 w9 => (if r9 = (-1) then (∀ x12 : Int32, x12 = (v1 ||| (1 <<< (v2 &&& 31))) → (∀ x13 : Int32, x13 = (v2 + 1) → (pX5_safeByTrying_27 Z n x12 x13 (u.1, u.2.1, (u.2.2.1.1, u.2.2.1.2.1, u.2.2.1.2.2.1, w9), u.2.2.2.1, u.2.2.2.2.1, u.2.2.2.2.2)))) else (∀ x11 : Int32, x11 = (v2 + 1) → (pX5_safeByTrying_27 Z n v1 x11 (u.1, u.2.1, (u.2.2.1.1, u.2.2.1.2.1, u.2.2.1.2.2.1, w9), u.2.2.2.1, u.2.2.2.2.1, u.2.2.2.2.2))))))))))
def pX5_safeByTrying (u : SX) (Z : Int32 → SX → Prop) : Prop :=
  (pX2_hasEnded u.2.1 (fun r1 => (if r1 = 0 then (pX2_copyFrom u.2.2.1 u.2.1 (fun w3 => (∃ n9 : Nat, pX5_safeByTrying_27 Z n9 0 0 (u.1, w3.2, w3.1, u.2.2.2.1, u.2.2.2.2.1, u.2.2.2.2.2)))) else Z 0 u)))
def pX5_safeByLines_27 (Z : Int32 → Prop) (v1 : Int32) (u : SX) : Nat → Int32 → Int32 → Prop
  | 0, _, _ => False
  | n + 1, v2, v3 => (if (16 : Int32) ≤ v3 then Z v2 else (pX2_isFree v3 u.2.1 (fun r6 => (if r6 = 0 then (∀ x8 : Int32, x8 = (v3 + 1) → (pX5_safeByLines_27 Z v1 u n v2 x8)) else (pX5_traitsOf v3 (fun r9 => (if (r9 &&& v1) = 0 then (∀ x12 : Int32, x12 = (v2 ||| (1 <<< (v3 &&& 31))) → (∀ x13 : Int32, x13 = (v3 + 1) → (pX5_safeByLines_27 Z v1 u n x12 x13))) else (∀ x11 : Int32, x11 = (v3 + 1) → (pX5_safeByLines_27 Z v1 u n v2 x11)))))))))
def pX5_safeByLines (u : SX) (Z : Int32 → Prop) : Prop :=
  (pX2_hasEnded u.2.1 (fun r1 => (if r1 = 0 then (pX0_dangerousTraits u.2.1.2.2.2 (fun r4 => (∃ n9 : Nat, pX5_safeByLines_27 Z r4 u n9 0 0))) else Z 0)))
def pX5_outcome (u : SX) (Z : Int32 → SX → Prop) (X : String → SX → Prop) : Prop :=
  (pX5_requireSearchable u (fun w1 => (pX2_copyFrom w1.2.2.1 w1.2.1 (fun w2 => (pX1_valueOf w2.1 (fun r3 w3 => Z r3 (w1.1, w2.2, w3, w1.2.2.2.1, w1.2.2.2.2.1, w1.2.2.2.2.2)))))) (fun E w1 => X E w1))
def pX5_rule (u : SX) (Z : Int32 → Prop) : Prop :=
  (pX0_lineRule u.2.1.2.2.2 (fun r2 => Z r2))
def pX5_recordedStates (u : SX) (Z : Int32 → Prop) : Prop :=
  (pX3_size u.2.2.2.2.1 (fun r1 => Z r1))
def pX5_takeSnapshot (u : SX) (Z : Int32 → SX → Prop) : Prop :=
  (pX2_copyFrom u.2.2.2.1 u.2.1 (fun w1 => (pX0_count w1.2.2.2.2 (fun r3 => Z r3 (1, w1.2, u.2.2.1, w1.1, u.2.2.2.2.1, u.2.2.2.2.2)))))
