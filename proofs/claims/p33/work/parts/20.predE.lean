def pX1_valueOfPlacing (RG : Int32 → SB → (Int32 → SB → Prop) → Prop) (p1 : Int32) (p2 : Int32) (p3 : Int32) (w0 : SB) (Z : Int32 → SB → Prop) : Prop :=
  (pX0_put p1 p2 w0 (fun w1 => (pX0_hasWonLine w1 (fun r2 => (if r2 = 0 then (RG (p3 - 1) w1 (fun r4 w4 => (pX0_lift p1 p2 w4 (fun w5 => Z r4 w5)))) else (pX0_lift p1 p2 w1 (fun w6 => Z 1 w6)))))))
def pX1_valueToPlacer_16 (RV : Int32 → Int32 → Int32 → SB → (Int32 → SB → Prop) → Prop) (Z : Int32 → SB → Prop) (v1 : Int32) (v2 : Int32) : Nat → Int32 → Int32 → SB → Prop
  | 0, _, _, _ => False
  | n + 1, v3, v4, w0 => (if (16 : Int32) ≤ v4 then Z v3 w0 else (if v3 = 1 then Z v3 w0 else (pX0_isEmpty v4 w0 (fun r5 => (if r5 = 0 then (∀ x7 : Int32, x7 = (v4 + 1) → (pX1_valueToPlacer_16 RV Z v1 v2 n v3 x7 w0)) else (RV v1 v4 v2 w0 (fun r8 w8 => (∀ x9 : Int32, x9 = (if v3 < r8 then r8 else v3) → (∀ x10 : Int32, x10 = (v4 + 1) → (pX1_valueToPlacer_16 RV Z v1 v2 n x9 x10 w8))))))))))
def pX1_valueToPlacer (RV : Int32 → Int32 → Int32 → SB → (Int32 → SB → Prop) → Prop) (p1 : Int32) (p2 : Int32) (w0 : SB) (Z : Int32 → SB → Prop) : Prop :=
  (if p2 ≤ 0 then Z 0 w0 else (if p2 ≤ 4 then (∃ n9 : Nat, pX1_valueToPlacer_16 RV Z p1 p2 n9 (-1) 0 w0) else Z 0 w0))
def pX1_valueToGiver_15 (RP : Int32 → Int32 → SB → (Int32 → SB → Prop) → Prop) (Z : Int32 → SB → Prop) (v1 : Int32) : Nat → Int32 → Int32 → SB → Prop
  | 0, _, _, _ => False
  | n + 1, v2, v3, w0 => (if (16 : Int32) ≤ v3 then Z v2 w0 else (if v2 = 1 then Z v2 w0 else (pX0_holds v3 w0 (fun r5 => (if r5 = 0 then (RP v3 v1 w0 (fun r8 w8 => (∀ x9 : Int32, x9 = (if v2 < (-r8) then (-r8) else v2) → (∀ x10 : Int32, x10 = (v3 + 1) → (pX1_valueToGiver_15 RP Z v1 n x9 x10 w8))))) else (∀ x7 : Int32, x7 = (v3 + 1) → (pX1_valueToGiver_15 RP Z v1 n v2 x7 w0)))))))
def pX1_valueToGiver (RP : Int32 → Int32 → SB → (Int32 → SB → Prop) → Prop) (p1 : Int32) (w0 : SB) (Z : Int32 → SB → Prop) : Prop :=
  (if p1 ≤ 0 then Z 0 w0 else (if p1 ≤ 4 then (∃ n9 : Nat, pX1_valueToGiver_15 RP Z p1 n9 (-1) 0 w0) else Z 0 w0))
def qG0 : Int32 → SB → (Int32 → SB → Prop) → Prop := pX1_valueToGiver (fun _ _ _ _ => False)
def qV1 : Int32 → Int32 → Int32 → SB → (Int32 → SB → Prop) → Prop := pX1_valueOfPlacing qG0
def qP1 : Int32 → Int32 → SB → (Int32 → SB → Prop) → Prop := pX1_valueToPlacer qV1
def qG1 : Int32 → SB → (Int32 → SB → Prop) → Prop := pX1_valueToGiver qP1
def qV2 : Int32 → Int32 → Int32 → SB → (Int32 → SB → Prop) → Prop := pX1_valueOfPlacing qG1
def qP2 : Int32 → Int32 → SB → (Int32 → SB → Prop) → Prop := pX1_valueToPlacer qV2
def qG2 : Int32 → SB → (Int32 → SB → Prop) → Prop := pX1_valueToGiver qP2
def qV3 : Int32 → Int32 → Int32 → SB → (Int32 → SB → Prop) → Prop := pX1_valueOfPlacing qG2
def qP3 : Int32 → Int32 → SB → (Int32 → SB → Prop) → Prop := pX1_valueToPlacer qV3
def qG3 : Int32 → SB → (Int32 → SB → Prop) → Prop := pX1_valueToGiver qP3
def qV4 : Int32 → Int32 → Int32 → SB → (Int32 → SB → Prop) → Prop := pX1_valueOfPlacing qG3
def qP4 : Int32 → Int32 → SB → (Int32 → SB → Prop) → Prop := pX1_valueToPlacer qV4
def qG4 : Int32 → SB → (Int32 → SB → Prop) → Prop := pX1_valueToGiver qP4
def pX1_valueOf (w0 : SG) (Z : Int32 → SG → Prop) : Prop :=
  (pX0_emptyCount w0.2.2.2 (fun r2 => (pX2_pending w0 (fun r3 => (if r3 = (-1) then (qG4 r2 w0.2.2.2 (fun r9 w9 => Z r9 (w0.1, w0.2.1, w0.2.2.1, w9))) else (pX2_pending w0 (fun r6 => (qP4 r6 r2 w0.2.2.2 (fun r7 w7 => Z r7 (w0.1, w0.2.1, w0.2.2.1, w7))))))))))
