def pL_give (p1 : Int32) (u : SX) (Z : Int32 → SX → Prop) : Prop :=
  (pX5_give p1 u (fun r1 w1 => Z r1 w1) (fun E w1 => (if E = "java/lang/IndexOutOfBoundsException" then Z 90001 w1 else (if E = "java/lang/IllegalStateException" then Z 90002 w1 else False))))
def pL_place (p1 : Int32) (u : SX) (Z : Int32 → SX → Prop) : Prop :=
  (pX5_place p1 u (fun r1 w1 => (if r1 = 0 then Z 0 w1 else Z 1 w1)) (fun E w1 => (if E = "java/lang/IndexOutOfBoundsException" then Z 90001 w1 else (if E = "java/lang/IllegalStateException" then Z 90002 w1 else False))))
def pL_restart (p1 : Int32) (u : SX) (Z : Int32 → SX → Prop) : Prop :=
  (pX5_restart p1 u (fun r1 w1 => Z r1 w1) (fun _ _ => False))
def pL_type (p1 : Int32) (u : SX) (Z : Int32 → SX → Prop) : Prop :=
  (pX5_type ((p1).toUInt32 % 65536).toInt32 u (fun r1 w1 => Z r1 w1) (fun _ _ => False))
def pL_carryOut (u : SX) (Z : Int32 → SX → Prop) : Prop :=
  (pX5_carryOut u (fun r1 w1 => Z r1 w1) (fun E w1 => (if E = "java/lang/IllegalStateException" then Z 90001 w1 else False)))
def pL_undo (u : SX) (Z : Int32 → SX → Prop) : Prop :=
  (pX5_undo u (fun r1 w1 => Z r1 w1) (fun E w1 => (if E = "java/lang/IllegalStateException" then Z 90001 w1 else False)))
def pL_restore (u : SX) (Z : Int32 → SX → Prop) : Prop :=
  (pX5_restoreSnapshot u (fun r1 w1 => Z r1 w1) (fun E w1 => (if E = "java/lang/IllegalStateException" then Z 90001 w1 else False)))
def pL_pieceOn (p1 : Int32) (u : SX) (Z : Int32 → SX → Prop) : Prop :=
  (pX5_pieceOn p1 u (fun r1 w1 => Z r1 w1) (fun _ _ => False))
def pL_cellOf (p1 : Int32) (u : SX) (Z : Int32 → SX → Prop) : Prop :=
  (pX5_cellOf p1 u (fun r1 w1 => Z r1 w1) (fun _ _ => False))
def pL_piecesOn (p1 : Int32) (u : SX) (Z : Int32 → SX → Prop) : Prop :=
  (pX5_piecesOn p1 u (fun r1 w1 => Z r1 w1) (fun _ _ => False))
def pL_shared (p1 : Int32) (u : SX) (Z : Int32 → SX → Prop) : Prop :=
  (pX5_sharedOn p1 u (fun r1 w1 => Z r1 w1) (fun _ _ => False))
def pL_wins (p1 : Int32) (u : SX) (Z : Int32 → SX → Prop) : Prop :=
  (pX5_winsOf p1 u (fun r1 w1 => Z r1 w1) (fun _ _ => False))
def pL_winningCell (p1 : Int32) (u : SX) (Z : Int32 → SX → Prop) : Prop :=
  (pX5_winningCell p1 u (fun r1 w1 => Z r1 w1) (fun _ _ => False))
def pL_outcome (u : SX) (Z : Int32 → SX → Prop) : Prop :=
  (pX5_outcome u (fun r1 w1 => Z r1 w1) (fun E w1 => (if E = "java/lang/IllegalStateException" then Z 90001 w1 else False)))
def pL_up (p0 : Int32) (p1 : Int32) (Z : Int32 → Prop) : Prop :=
  (¬ p1 = 0 ∧ Z ((p0 &&& 2147483647) - (p0 &&& 2147483647) / p1 * p1))
def pL_turned (p0 : Int32) (Z : Int32 → Prop) : Prop :=
  Z (((p0 - p0 / 4 * 4) * 4) + (p0 / 4))
def pL_line (p0 : Int32) (Z : Int32 → Prop) : Prop :=
  (if (4 : Int32) ≤ p0 then (if (8 : Int32) ≤ p0 then (if (10 : Int32) ≤ p0 then Z ((10 + (((p0 - 10) - (p0 - 10) / 3 * 3) * 3)) + ((p0 - 10) / 3)) else Z p0) else Z (p0 - 4)) else Z (p0 + 4))
def pL_other_4 (Z : Int32 → Prop) (v0 : Int32) : Nat → Int32 → Int32 → Prop
  | 0, _, _ => False
  | n + 1, v1, v2 => (if (16 : Int32) ≤ v2 then Z v1 else (∀ x2 : Int32, x2 = (v1 ||| (((v0 >>> (v2 &&& 31)) &&& 1) <<< ((15 - v2) &&& 31))) → (∀ x3 : Int32, x3 = (v2 + 1) → (pL_other_4 Z v0 n x2 x3))))
def pL_other (p0 : Int32) (Z : Int32 → Prop) : Prop :=
  (∃ n9 : Nat, pL_other_4 Z p0 n9 0 0)
def pL_text (p1 : Int32) (p2 : Int32) (u : SX) (Z : Int32 → SX → Prop) : Prop :=
  (pX5_clearText u (fun r1 w1 => (if r1 < 0 then Z (-99) w1 else (pL_type p1 w1 (fun r4 w4 => (if r4 = 1 then (if p2 < 10 then (pL_type (48 + (p2 - p2 / 10 * 10)) w4 (fun r8 w8 => (if (4 : Int32) ≤ r8 then Z (-99) w8 else (pL_carryOut w8 (fun r12 w12 => Z r12 w12))))) else (pL_type 49 w4 (fun r13 w13 => (if r13 = 2 then (pL_type (48 + (p2 - p2 / 10 * 10)) w13 (fun r16 w16 => (if (4 : Int32) ≤ r16 then Z (-99) w16 else (pL_carryOut w16 (fun r20 w20 => Z r20 w20))))) else Z (-99) w13)))) else Z (-99) w4))))))
def pL_isStep_463 (Z : Int32 → SX × SX → Prop) : Nat → Int32 → Int32 → Int32 → Int32 → Int32 → SX → SX → Prop
  | 0, _, _, _, _, _, _, _ => False
  | n + 1, v5, v6, v7, v8, v10, u, ub => (pL_place v5 u (fun r33 w33 => (pL_turned v5 (fun r34 => (pL_text 112 r34 ub (fun r35 w35 => (if r33 = 90002 then (if r35 = 90001 then (if r33 = 90002 then (pL_pieceOn v5 w33 (fun r81 w81 => (if r81 < 0 then Z 0 (w81, w35) else Z 1 (w81, w35)))) else (pX5_placed w33 (fun r62 => (if r62 = (v6 + 1) then (pL_cellOf v7 w33 (fun r64 w64 => (if r64 = v5 then (if r33 = 1 then (pX5_winner w64 (fun r74 => (if r74 = v8 then (if r33 = 0 then Z 1 (w64, w35) else (if v10 < 0 then Z 0 (w64, w35) else (if v5 < v10 then Z 0 (w64, w35) else Z 1 (w64, w35)))) else Z 0 (w64, w35)))) else (pX5_winner w64 (fun r67 => (if r67 = v8 then Z 0 (w64, w35) else (if r33 = 0 then Z 1 (w64, w35) else (if v10 < 0 then Z 0 (w64, w35) else (if v5 < v10 then Z 0 (w64, w35) else Z 1 (w64, w35)))))))) else Z 0 (w64, w35)))) else Z 0 (w33, w35))))) else Z 0 (w33, w35)) else (if r35 = 1 then (if r33 = 90002 then (pL_pieceOn v5 w33 (fun r58 w58 => (if r58 < 0 then Z 0 (w58, w35) else Z 1 (w58, w35)))) else (pX5_placed w33 (fun r39 => (if r39 = (v6 + 1) then (pL_cellOf v7 w33 (fun r41 w41 => (if r41 = v5 then (if r33 = 1 then (pX5_winner w41 (fun r51 => (if r51 = v8 then (if r33 = 0 then Z 1 (w41, w35) else (if v10 < 0 then Z 0 (w41, w35) else (if v5 < v10 then Z 0 (w41, w35) else Z 1 (w41, w35)))) else Z 0 (w41, w35)))) else (pX5_winner w41 (fun r44 => (if r44 = v8 then Z 0 (w41, w35) else (if r33 = 0 then Z 1 (w41, w35) else (if v10 < 0 then Z 0 (w41, w35) else (if v5 < v10 then Z 0 (w41, w35) else Z 1 (w41, w35)))))))) else Z 0 (w41, w35)))) else Z 0 (w33, w35))))) else Z 0 (w33, w35)))))))))
def pL_isStep_448 (Z : Int32 → SX × SX → Prop) (K399 : Int32 → Int32 → SX → SX → Prop) (v4 : Int32) (v6 : Int32) (v7 : Int32) (v8 : Int32) (v10 : Int32) : Nat → Int32 → Int32 → SX → SX → Prop
  | 0, _, _, _, _ => False
  | n + 1, v5, v11, u, ub => (∀ x87 : Int32, x87 = ((v5 + 5) - (v5 + 5) / 16 * 16) → (∀ x88 : Int32, x88 = (v11 + 1) → (K399 x87 x88 u ub)))
def pL_isStep_399 (Z : Int32 → SX × SX → Prop) (v4 : Int32) (v6 : Int32) (v7 : Int32) (v8 : Int32) (v10 : Int32) : Nat → Int32 → Int32 → SX → SX → Prop
  | 0, _, _, _, _ => False
  | n + 1, v5, v11, u, ub => (if (16 : Int32) ≤ v11 then (∃ n9 : Nat, pL_isStep_463 Z n9 v5 v6 v7 v8 v10 u ub) else (pL_up v4 9 (fun r83 => (if r83 ≤ 0 then (∃ n9 : Nat, pL_isStep_463 Z n9 v5 v6 v7 v8 v10 u ub) else (pL_pieceOn v5 u (fun r85 w85 => (if (0 : Int32) ≤ r85 then (∃ n9 : Nat, pL_isStep_448 Z (pL_isStep_399 Z v4 v6 v7 v8 v10 n) v4 v6 v7 v8 v10 n9 v5 v11 w85 ub) else (pL_up v4 4 (fun r89 => (if r89 ≤ 0 then (∃ n9 : Nat, pL_isStep_463 Z n9 v5 v6 v7 v8 v10 w85 ub) else (if v5 = v10 then (if (15 : Int32) ≤ v6 then (∃ n9 : Nat, pL_isStep_463 Z n9 v5 v6 v7 v8 v10 w85 ub) else (∃ n9 : Nat, pL_isStep_448 Z (pL_isStep_399 Z v4 v6 v7 v8 v10 n) v4 v6 v7 v8 v10 n9 v5 v11 w85 ub)) else (∃ n9 : Nat, pL_isStep_463 Z n9 v5 v6 v7 v8 v10 w85 ub))))))))))))
def pL_isStep_298 (Z : Int32 → SX × SX → Prop) : Nat → Int32 → Int32 → SX → SX → Prop
  | 0, _, _, _, _ => False
  | n + 1, v5, v8, u, ub => (pL_give v5 u (fun r95 w95 => (pL_text 103 (15 - v5) ub (fun r96 w96 => (if r95 = 90002 then (if r96 = 90001 then (if r95 = 90002 then (pL_cellOf v5 w95 (fun r114 w114 => (if r114 < 0 then Z 0 (w114, w96) else Z 1 (w114, w96)))) else (if r95 = (1 - v8) then (pX5_gift w96 (fun r110 => (if r110 = (15 - v5) then (pX5_playerToMove w95 (fun r112 => (if r112 = r95 then Z 1 (w95, w96) else Z 0 (w95, w96)))) else Z 0 (w95, w96)))) else Z 0 (w95, w96))) else Z 0 (w95, w96)) else (if r96 = 1 then (if r95 = 90002 then (pL_cellOf v5 w95 (fun r105 w105 => (if r105 < 0 then Z 0 (w105, w96) else Z 1 (w105, w96)))) else (if r95 = (1 - v8) then (pX5_gift w96 (fun r101 => (if r101 = (15 - v5) then (pX5_playerToMove w95 (fun r103 => (if r103 = r95 then Z 1 (w95, w96) else Z 0 (w95, w96)))) else Z 0 (w95, w96)))) else Z 0 (w95, w96))) else Z 0 (w95, w96)))))))
def pL_isStep_282 (Z : Int32 → SX × SX → Prop) (K241 : Int32 → Int32 → SX → SX → Prop) (v4 : Int32) (v8 : Int32) (v10 : Int32) : Nat → Int32 → Int32 → SX → SX → Prop
  | 0, _, _, _, _ => False
  | n + 1, v5, v11, u, ub => (∀ x120 : Int32, x120 = ((v5 + 7) - (v5 + 7) / 16 * 16) → (∀ x121 : Int32, x121 = (v11 + 1) → (K241 x120 x121 u ub)))
def pL_isStep_241 (Z : Int32 → SX × SX → Prop) (v4 : Int32) (v8 : Int32) (v10 : Int32) : Nat → Int32 → Int32 → SX → SX → Prop
  | 0, _, _, _, _ => False
  | n + 1, v5, v11, u, ub => (if (16 : Int32) ≤ v11 then (∃ n9 : Nat, pL_isStep_298 Z n9 v5 v8 u ub) else (pL_up v4 6 (fun r116 => (if r116 ≤ 0 then (∃ n9 : Nat, pL_isStep_298 Z n9 v5 v8 u ub) else (pL_cellOf v5 u (fun r118 w118 => (if (0 : Int32) ≤ r118 then (∃ n9 : Nat, pL_isStep_282 Z (pL_isStep_241 Z v4 v8 v10 n) v4 v8 v10 n9 v5 v11 w118 ub) else (if v10 ≤ 0 then (∃ n9 : Nat, pL_isStep_298 Z n9 v5 v8 w118 ub) else (if ((v10 >>> (v5 &&& 31)) &&& 1) = 0 then (∃ n9 : Nat, pL_isStep_282 Z (pL_isStep_241 Z v4 v8 v10 n) v4 v8 v10 n9 v5 v11 w118 ub) else (∃ n9 : Nat, pL_isStep_298 Z n9 v5 v8 w118 ub))))))))))
def pL_isStep (p2 : Int32) (p3 : Int32) (u : SX) (ub : SX) (Z : Int32 → SX × SX → Prop) : Prop :=
  (∀ x1 : Int32, x1 = (p2 >>> (4 &&& 31)) → (pL_up p3 16 (fun r2 => (pX5_placed u (fun r3 => (pX5_gift u (fun r4 => (pX5_playerToMove u (fun r5 => (pX5_isOver u (fun r6 => (pL_up p2 30 (fun r7 => (if r7 = 0 then (pL_up x1 2 (fun r9 => (pL_restart r9 u (fun r10 w10 => (if r10 = r3 then (pL_restart r9 ub (fun r12 w12 => (if r12 = r3 then (pX5_rule w10 (fun r14 => (if r14 = r9 then (pX5_placed w10 (fun r16 => (if r16 = 0 then Z 1 (w10, w12) else Z 0 (w10, w12)))) else Z 0 (w10, w12)))) else Z 0 (w10, w12)))) else Z 0 (w10, ub)))))) else (if r7 = 1 then (pL_up p3 2 (fun r18 => (if r18 = 0 then (pX5_takeSnapshot u (fun r23 w23 => (pX5_takeSnapshot ub (fun r24 w24 => (if r23 = r24 then Z 1 (w23, w24) else Z 0 (w23, w24)))))) else (pL_restore u (fun r20 w20 => (pL_restore ub (fun r21 w21 => (if r20 = r21 then Z 1 (w20, w21) else Z 0 (w20, w21))))))))) else (if r7 = 2 then (pL_undo u (fun r26 w26 => (pL_undo ub (fun r27 w27 => (if r26 = r27 then Z 1 (w26, w27) else Z 0 (w26, w27)))))) else (if r6 = 0 then (if (0 : Int32) ≤ r4 then (pL_winningCell r4 u (fun r31 w31 => (∃ n9 : Nat, pL_isStep_399 Z x1 r3 r4 r5 r31 n9 r2 0 w31 ub))) else (pX5_safeByLines u (fun r93 => (∃ n9 : Nat, pL_isStep_241 Z x1 r5 r93 n9 r2 0 u ub)))) else (pL_up x1 3 (fun r124 => (if (0 : Int32) < r124 then Z 1 (u, ub) else (pX5_rule u (fun r126 => (pL_restart r126 u (fun r127 w127 => (if r127 = r3 then (pX5_rule ub (fun r129 => (pL_restart r129 ub (fun r130 w130 => (if r130 = r3 then Z 1 (w127, w130) else Z 0 (w127, w130)))))) else Z 0 (w127, ub))))))))))))))))))))))))))
def pL_areAlike_292 (Z : Int32 → SX × SX → Prop) : Nat → Int32 → Int32 → SX → SX → Prop
  | 0, _, _, _, _ => False
  | n + 1, v2, v3, u, ub => (pX5_lines u (fun r5 => (if r5 ≤ v3 then (narrow .boolean (.int v2) = .int v2 ∧ Z v2 (u, ub)) else (pL_shared v3 u (fun r7 w7 => (if v2 = 0 then (∀ x9 : Int32, x9 = (v3 + 1) → (pL_areAlike_292 Z n 0 x9 w7 ub)) else (pL_piecesOn v3 w7 (fun r10 w10 => (pL_line v3 (fun r11 => (pL_piecesOn r11 ub (fun r12 w12 => (if r10 = r12 then (pL_line v3 (fun r15 => (pL_shared r15 w12 (fun r16 w16 => (if r16 = (((r7 &&& 15) * 16) + (r7 / 16)) then (∀ x19 : Int32, x19 = (v3 + 1) → (pL_areAlike_292 Z n 1 x19 w10 w16)) else (∀ x18 : Int32, x18 = (v3 + 1) → (pL_areAlike_292 Z n 0 x18 w10 w16))))))) else (∀ x14 : Int32, x14 = (v3 + 1) → (pL_areAlike_292 Z n 0 x14 w10 w12)))))))))))))))
def pL_areAlike_246 (Z : Int32 → SX × SX → Prop) (K172 : Int32 → Int32 → SX → SX → Prop) : Nat → Int32 → SX → SX → Prop
  | 0, _, _, _ => False
  | n + 1, v3, u, ub => (pL_winningCell v3 u (fun r34 w34 => (if (0 : Int32) ≤ r34 then (pL_winningCell (15 - v3) ub (fun r36 w36 => (if (0 : Int32) ≤ r36 then (∀ x39 : Int32, x39 = (v3 + 1) → (K172 1 x39 w34 w36)) else (∀ x41 : Int32, x41 = (v3 + 1) → (K172 0 x41 w34 w36))))) else (pL_winningCell (15 - v3) ub (fun r42 w42 => (if (0 : Int32) ≤ r42 then (∀ x45 : Int32, x45 = (v3 + 1) → (K172 0 x45 w34 w42)) else (∀ x47 : Int32, x47 = (v3 + 1) → (K172 1 x47 w34 w42))))))))
def pL_areAlike_221 (Z : Int32 → SX × SX → Prop) (K172 : Int32 → Int32 → SX → SX → Prop) : Nat → Int32 → Int32 → SX → SX → Prop
  | 0, _, _, _, _ => False
  | n + 1, v3, v5, u, ub => (pL_cellOf (15 - v3) ub (fun r29 w29 => (if (0 : Int32) ≤ v5 then (pL_turned v5 (fun r31 => (if r29 = r31 then (∃ n9 : Nat, pL_areAlike_246 Z K172 n9 v3 u w29) else (∀ x33 : Int32, x33 = (v3 + 1) → (K172 0 x33 u w29))))) else (if r29 = (-1) then (∃ n9 : Nat, pL_areAlike_246 Z K172 n9 v3 u w29) else (∀ x49 : Int32, x49 = (v3 + 1) → (K172 0 x49 u w29))))))
def pL_areAlike_172 (Z : Int32 → SX × SX → Prop) : Nat → Int32 → Int32 → SX → SX → Prop
  | 0, _, _, _, _ => False
  | n + 1, v2, v3, u, ub => (if (16 : Int32) ≤ v3 then (∃ n9 : Nat, pL_areAlike_292 Z n9 v2 0 u ub) else (pL_pieceOn v3 u (fun r20 w20 => (pL_cellOf v3 w20 (fun r21 w21 => (if v2 = 0 then (∀ x23 : Int32, x23 = (v3 + 1) → (pL_areAlike_172 Z n 0 x23 w21 ub)) else (pL_turned v3 (fun r24 => (pL_pieceOn r24 ub (fun r25 w25 => (if (0 : Int32) ≤ r20 then (if r25 = (15 - r20) then (∃ n9 : Nat, pL_areAlike_221 Z (pL_areAlike_172 Z n) n9 v3 r21 w21 w25) else (∀ x28 : Int32, x28 = (v3 + 1) → (pL_areAlike_172 Z n 0 x28 w21 w25))) else (if r25 = (-1) then (∃ n9 : Nat, pL_areAlike_221 Z (pL_areAlike_172 Z n) n9 v3 r21 w21 w25) else (∀ x51 : Int32, x51 = (v3 + 1) → (pL_areAlike_172 Z n 0 x51 w21 w25))))))))))))))
def pL_areAlike_47 (Z : Int32 → SX × SX → Prop) : Nat → SX → SX → Prop
  | 0, _, _ => False
  | n + 1, u, ub => (pX5_playerToMove u (fun r60 => (pX5_playerToMove ub (fun r61 => (if r60 = r61 then (pX5_winner u (fun r63 => (pX5_winner ub (fun r64 => (if r63 = r64 then (pX5_isOver u (fun r66 => (pX5_isOver ub (fun r67 => (if r66 = r67 then (pX5_lines u (fun r69 => (pX5_lines ub (fun r70 => (if r69 = r70 then (pX5_wonLines u (fun r72 => (pX5_wonLines ub (fun r73 => (if r72 = r73 then (pL_wins 0 u (fun r75 w75 => (pL_wins 0 ub (fun r76 w76 => (if r75 = r76 then (pL_wins 1 w75 (fun r78 w78 => (pL_wins 1 w76 (fun r79 w79 => (if r78 = r79 then (pX5_recordedStates w78 (fun r81 => (pX5_recordedStates w79 (fun r82 => (if r81 = r82 then (pX5_safeByTrying w78 (fun r84 w84 => (pL_other r84 (fun r85 => (pX5_safeByLines w79 (fun r86 => (if r85 = r86 then (pL_outcome w84 (fun r88 w88 => (pL_outcome w79 (fun r89 w89 => (if r88 = r89 then (∃ n9 : Nat, pL_areAlike_172 Z n9 1 0 w88 w89) else (∃ n9 : Nat, pL_areAlike_172 Z n9 0 0 w88 w89)))))) else (∃ n9 : Nat, pL_areAlike_172 Z n9 0 0 w84 w79)))))))) else (∃ n9 : Nat, pL_areAlike_172 Z n9 0 0 w78 w79)))))) else (∃ n9 : Nat, pL_areAlike_172 Z n9 0 0 w78 w79)))))) else (∃ n9 : Nat, pL_areAlike_172 Z n9 0 0 w75 w76)))))) else (∃ n9 : Nat, pL_areAlike_172 Z n9 0 0 u ub)))))) else (∃ n9 : Nat, pL_areAlike_172 Z n9 0 0 u ub)))))) else (∃ n9 : Nat, pL_areAlike_172 Z n9 0 0 u ub)))))) else (∃ n9 : Nat, pL_areAlike_172 Z n9 0 0 u ub)))))) else (∃ n9 : Nat, pL_areAlike_172 Z n9 0 0 u ub))))))
def pL_areAlike (u : SX) (ub : SX) (Z : Int32 → SX × SX → Prop) : Prop :=
  (pX5_rule u (fun r1 => (pX5_rule ub (fun r2 => (if r1 = r2 then (pX5_placed u (fun r52 => (pX5_placed ub (fun r53 => (if r52 = r53 then (pX5_gift u (fun r55 => (pX5_gift ub (fun r56 => (if (0 : Int32) ≤ r56 then (pX5_gift ub (fun r58 => (if r55 = (15 - r58) then (∃ n9 : Nat, pL_areAlike_47 Z n9 u ub) else (∃ n9 : Nat, pL_areAlike_172 Z n9 0 0 u ub)))) else (if r55 = (-1) then (∃ n9 : Nat, pL_areAlike_47 Z n9 u ub) else (∃ n9 : Nat, pL_areAlike_172 Z n9 0 0 u ub))))))) else (∃ n9 : Nat, pL_areAlike_172 Z n9 0 0 u ub)))))) else (∃ n9 : Nat, pL_areAlike_172 Z n9 0 0 u ub))))))
def pL_isWell_446 (Z : Int32 → SX → Prop) : Nat → Int32 → Int32 → SX → Prop
  | 0, _, _, _ => False
  | n + 1, v1, v2, u => (if v2 = 0 then Z 1 u else (pX5_winner u (fun r28 => (if r28 = (v1 - v1 / 2 * 2) then Z 1 u else Z 0 u))))
def pL_isWell_428 (Z : Int32 → SX → Prop) : Nat → Int32 → Int32 → SX → Prop
  | 0, _, _, _ => False
  | n + 1, v1, v2, u => (pX5_gift u (fun r25 => (if r25 < 0 then (∃ n9 : Nat, pL_isWell_446 Z n9 v1 v2 u) else (pX5_gift u (fun r30 => (pL_cellOf r30 u (fun r31 w31 => (if (0 : Int32) ≤ r31 then Z 0 w31 else (∃ n9 : Nat, pL_isWell_446 Z n9 v1 v2 w31)))))))))
def pL_isWell_396 (Z : Int32 → SX → Prop) : Nat → Int32 → Int32 → Int32 → Int32 → SX → Prop
  | 0, _, _, _, _, _ => False
  | n + 1, v1, v2, v4, v6, u => (pX5_playerToMove u (fun r20 => (if v4 = 0 then (pX5_gift u (fun r22 => (if (0 : Int32) ≤ r22 then (if r20 = (1 - v6) then (∃ n9 : Nat, pL_isWell_428 Z n9 v1 v2 u) else Z 0 u) else (if r20 = v6 then (∃ n9 : Nat, pL_isWell_428 Z n9 v1 v2 u) else Z 0 u)))) else (if r20 = (-1) then (∃ n9 : Nat, pL_isWell_428 Z n9 v1 v2 u) else Z 0 u))))
def pL_isWell_376 (Z : Int32 → SX → Prop) : Nat → Int32 → Int32 → Int32 → Int32 → SX → Prop
  | 0, _, _, _, _, _ => False
  | n + 1, v1, v2, v4, v6, u => (if (0 : Int32) < v2 then (if v4 = 1 then (∃ n9 : Nat, pL_isWell_396 Z n9 v1 v2 v4 v6 u) else Z 0 u) else (if v1 = 16 then (if v4 = 1 then (∃ n9 : Nat, pL_isWell_396 Z n9 v1 v2 v4 v6 u) else Z 0 u) else (if v4 = 0 then (∃ n9 : Nat, pL_isWell_396 Z n9 v1 v2 v4 v6 u) else Z 0 u)))
def pL_isWell_276 (Z : Int32 → SX → Prop) (K201 : Int32 → Int32 → Int32 → SX → Prop) (v1 : Int32) (v4 : Int32) : Nat → Int32 → Int32 → SX → Prop
  | 0, _, _, _ => False
  | n + 1, v2, v6, u => (pL_shared v6 u (fun r53 w53 => (pL_shared v6 w53 (fun r54 w54 => (pL_piecesOn v6 w54 (fun r55 w55 => (if r55 = 0 then (if ((r53 &&& 15) &&& (r54 / 16)) = 15 then (∀ x62 : Int32, x62 = (v6 + 1) → (K201 v2 1 x62 w55)) else (∀ x61 : Int32, x61 = (v6 + 1) → (K201 v2 0 x61 w55))) else (if ((r53 &&& 15) &&& (r54 / 16)) = 0 then (∀ x59 : Int32, x59 = (v6 + 1) → (K201 v2 1 x59 w55)) else (∀ x58 : Int32, x58 = (v6 + 1) → (K201 v2 0 x58 w55))))))))))
def pL_isWell_237 (Z : Int32 → SX → Prop) (K201 : Int32 → Int32 → Int32 → SX → Prop) (v1 : Int32) (v4 : Int32) : Nat → Int32 → Int32 → Int32 → SX → Prop
  | 0, _, _, _, _ => False
  | n + 1, v2, v5, v6, u => (if v5 = 0 then (∀ x47 : Int32, x47 = (v6 + 1) → (K201 v2 0 x47 u)) else (pL_piecesOn v6 u (fun r48 w48 => (if r48 ≤ 0 then (pL_shared v6 w48 (fun r50 w50 => (if r50 = 255 then (∃ n9 : Nat, pL_isWell_276 Z K201 v1 v4 n9 v2 v6 w50) else (∀ x64 : Int32, x64 = (v6 + 1) → (K201 v2 0 x64 w50))))) else (pL_shared v6 w48 (fun r65 w65 => (if r65 = 255 then (∀ x68 : Int32, x68 = (v6 + 1) → (K201 v2 0 x68 w65)) else (∃ n9 : Nat, pL_isWell_276 Z K201 v1 v4 n9 v2 v6 w65))))))))
def pL_isWell_201 (Z : Int32 → SX → Prop) (v1 : Int32) (v4 : Int32) : Nat → Int32 → Int32 → Int32 → SX → Prop
  | 0, _, _, _, _ => False
  | n + 1, v2, v5, v6, u => (pX5_lines u (fun r6 => (if r6 ≤ v6 then (∀ x8 : Int32, x8 = (v1 - v1 / 2 * 2) → (if v5 = 0 then Z 0 u else (pX5_placed u (fun r10 => (if v1 = r10 then (pX5_wonLines u (fun r12 => (if v2 = r12 then (if v2 ≤ 0 then (pX5_winner u (fun r15 => (if r15 < 0 then (∃ n9 : Nat, pL_isWell_376 Z n9 v1 v2 v4 x8 u) else Z 0 u))) else (pX5_winner u (fun r39 => (if r39 < 0 then Z 0 u else (∃ n9 : Nat, pL_isWell_376 Z n9 v1 v2 v4 x8 u))))) else Z 0 u))) else Z 0 u))))) else (pL_piecesOn v6 u (fun r43 w43 => (if r43 = 4 then (pL_shared v6 w43 (fun r70 w70 => (if r70 = 0 then (∀ x72 : Int32, x72 = (v2 + 0) → (∃ n9 : Nat, pL_isWell_237 Z (pL_isWell_201 Z v1 v4 n) v1 v4 n9 x72 v5 v6 w70)) else (∀ x73 : Int32, x73 = (v2 + 1) → (∃ n9 : Nat, pL_isWell_237 Z (pL_isWell_201 Z v1 v4 n) v1 v4 n9 x73 v5 v6 w70))))) else (∀ x45 : Int32, x45 = (v2 + 0) → (∃ n9 : Nat, pL_isWell_237 Z (pL_isWell_201 Z v1 v4 n) v1 v4 n9 x45 v5 v6 w43))))))))
def pL_isWell_139 (Z : Int32 → SX → Prop) (K54 : Int32 → Int32 → Int32 → SX → Prop) (v2 : Int32) (v3 : Int32) (v4 : Int32) : Nat → Int32 → Int32 → SX → Prop
  | 0, _, _, _ => False
  | n + 1, v1, v6, u => (if v4 = 0 then (pL_cellOf v6 u (fun r85 w85 => (if (0 : Int32) ≤ r85 then (∀ x87 : Int32, x87 = (v6 + 1) → (K54 v1 1 x87 w85)) else (pX5_gift w85 (fun r88 => (if r88 = v6 then (∀ x90 : Int32, x90 = (v6 + 1) → (K54 v1 1 x90 w85)) else (pL_winningCell v6 w85 (fun r91 w91 => (if (0 : Int32) ≤ r91 then (if ((v3 >>> (v6 &&& 31)) &&& 1) = 0 then (∀ x95 : Int32, x95 = (v6 + 1) → (K54 v1 1 x95 w91)) else (∀ x94 : Int32, x94 = (v6 + 1) → (K54 v1 0 x94 w91))) else (if ((v3 >>> (v6 &&& 31)) &&& 1) = 1 then (∀ x98 : Int32, x98 = (v6 + 1) → (K54 v1 1 x98 w91)) else (∀ x97 : Int32, x97 = (v6 + 1) → (K54 v1 0 x97 w91)))))))))))) else (∀ x84 : Int32, x84 = (v6 + 1) → (K54 v1 1 x84 u)))
def pL_isWell_121 (Z : Int32 → SX → Prop) (K54 : Int32 → Int32 → Int32 → SX → Prop) (v2 : Int32) (v3 : Int32) (v4 : Int32) : Nat → Int32 → Int32 → SX → Prop
  | 0, _, _, _ => False
  | n + 1, v1, v6, u => (if ((v3 >>> (v6 &&& 31)) &&& 1) = 0 then (∃ n9 : Nat, pL_isWell_139 Z K54 v2 v3 v4 n9 v1 v6 u) else (pL_winningCell v6 u (fun r99 w99 => (if (0 : Int32) ≤ r99 then (∀ x101 : Int32, x101 = (v6 + 1) → (K54 v1 0 x101 w99)) else (∃ n9 : Nat, pL_isWell_139 Z K54 v2 v3 v4 n9 v1 v6 w99)))))
def pL_isWell_103 (Z : Int32 → SX → Prop) (K54 : Int32 → Int32 → Int32 → SX → Prop) (v2 : Int32) (v3 : Int32) (v4 : Int32) : Nat → Int32 → Int32 → SX → Prop
  | 0, _, _, _ => False
  | n + 1, v1, v6, u => (pL_cellOf v6 u (fun r80 w80 => (if r80 < 0 then (∃ n9 : Nat, pL_isWell_121 Z K54 v2 v3 v4 n9 v1 v6 w80) else (if ((v3 >>> (v6 &&& 31)) &&& 1) = 0 then (∃ n9 : Nat, pL_isWell_121 Z K54 v2 v3 v4 n9 v1 v6 w80) else (∀ x103 : Int32, x103 = (v6 + 1) → (K54 v1 0 x103 w80))))))
def pL_isWell_82 (Z : Int32 → SX → Prop) (K54 : Int32 → Int32 → Int32 → SX → Prop) (v2 : Int32) (v3 : Int32) (v4 : Int32) : Nat → Int32 → Int32 → Int32 → Int32 → SX → Prop
  | 0, _, _, _, _, _ => False
  | n + 1, v1, v5, v6, v7, u => (if v5 = 0 then (∀ x78 : Int32, x78 = (v6 + 1) → (K54 v1 0 x78 u)) else (if v7 < 0 then (∃ n9 : Nat, pL_isWell_103 Z K54 v2 v3 v4 n9 v1 v6 u) else (pL_cellOf v7 u (fun r104 w104 => (if r104 = v6 then (∃ n9 : Nat, pL_isWell_103 Z K54 v2 v3 v4 n9 v1 v6 w104) else (∀ x106 : Int32, x106 = (v6 + 1) → (K54 v1 0 x106 w104)))))))
def pL_isWell_54 (Z : Int32 → SX → Prop) (v2 : Int32) (v3 : Int32) (v4 : Int32) : Nat → Int32 → Int32 → Int32 → SX → Prop
  | 0, _, _, _, _ => False
  | n + 1, v1, v5, v6, u => (if (16 : Int32) ≤ v6 then (∃ n9 : Nat, pL_isWell_201 Z v1 v4 n9 v2 v5 0 u) else (pL_pieceOn v6 u (fun r74 w74 => (if (0 : Int32) ≤ r74 then (∀ x76 : Int32, x76 = (v1 + 1) → (∃ n9 : Nat, pL_isWell_82 Z (pL_isWell_54 Z v2 v3 v4 n) v2 v3 v4 n9 x76 v5 v6 r74 w74)) else (∀ x107 : Int32, x107 = (v1 + 0) → (∃ n9 : Nat, pL_isWell_82 Z (pL_isWell_54 Z v2 v3 v4 n) v2 v3 v4 n9 x107 v5 v6 r74 w74))))))
def pL_isWell (u : SX) (Z : Int32 → SX → Prop) : Prop :=
  (pX5_safeByTrying u (fun r1 w1 => (pX5_isOver w1 (fun r2 => (pX5_safeByLines w1 (fun r3 => (if r1 = r3 then (pX5_lines w1 (fun r108 => (pX5_rule w1 (fun r109 => (if r109 = 0 then (if r108 = 10 then (∃ n9 : Nat, pL_isWell_54 Z 0 r1 r2 n9 0 1 0 w1) else (∃ n9 : Nat, pL_isWell_54 Z 0 r1 r2 n9 0 0 0 w1)) else (if r108 = 19 then (∃ n9 : Nat, pL_isWell_54 Z 0 r1 r2 n9 0 1 0 w1) else (∃ n9 : Nat, pL_isWell_54 Z 0 r1 r2 n9 0 0 0 w1))))))) else (∃ n9 : Nat, pL_isWell_54 Z 0 r1 r2 n9 0 0 0 w1))))))))
def pL_body (v4 : Int32) (u ub : SX) (K : SX → SX → Prop) : Prop :=
  (∀ r2 : Int32, (∀ r3 : Int32, (pL_isStep r2 (r3 >>> (2 &&& 31)) u ub (fun r4 w4 => (if r4 = 0 then (∀ x6 : Int32, x6 = (v4 + 1) → False) else (if (0 : Int32) < (v4 - v4 / 4 * 4) then (∀ x8 : Int32, x8 = (v4 + 1) → (K w4.1 w4.2)) else (pL_isWell w4.1 (fun r9 w9 => (if r9 = 0 then (∀ x11 : Int32, x11 = (v4 + 1) → False) else (∀ x12 : Int32, x12 = (v4 + 1) → (K w9 w4.2)))))))))))
def pL_end (u ub : SX) : Prop :=
  (pL_isWell u (fun r2 w2 => (if r2 = 0 then False else (pL_areAlike w2 ub (fun r4 w4 => (if r4 = 0 then False else True))))))
