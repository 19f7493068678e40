set_option maxHeartbeats 4000000 in
set_option maxRecDepth 100000 in
theorem kX1_valueToGiver_0 (l : Launch) (D : va_G) (kI kC kG kJ : ClassId) (o0_b o0_pr : Nat) (sz : Nat) (w0 : SB) (p1 : Int32) (Z : Int32 → SB → Prop) (hw : qG0 p1 w0 Z) : Met l yX1_valueToGiver wsX1_valueToGiver ({ frames := 1, cells := 0, slots := 0, locals := 21 } : Room) (gPw D (gT kI kC kG kJ) [.ref o0_b, .int p1] (wB kI o0_b o0_pr w0) sz) (va_Qi Z (gB D (gT kI kC kG kJ) (fun (zz : SB) => wB kI o0_b o0_pr zz) (va_A (wB kI o0_b o0_pr w0) sz)) (va_A (wB kI o0_b o0_pr w0) sz)) 0 0 (va_A (wB kI o0_b o0_pr w0) sz) := by
  refine Met.ofW (cc := cX1_valueToGiver) (maxL := 4) (ret := (some .int)) (by decide) rfl ?_
  intro p e s m args below meth c s₁ B hml hv
  obtain ⟨rfl, hsz, hP, hK, hD0, hE⟩ := hv
  have hx := B.exec
  have hb := B.bytes
  have hr := B.returns
  have hts := atoms_spec (ws := wsX1_valueToGiver) B.pre
  have hown : s.vm.findClass RX1 = some m.cls := findClass_of_methodNamed B.named
  have hlocks := B.notSynchronized
  subst hsz
  have hD := hD0.self (sz := s.heap.size)
  generalize hAe : va_A (wB kI o0_b o0_pr w0) s.heap.size = A at hD hE ⊢
  have hA : ∀ q : Nat, s.heap.size ≤ q → A q := fun q h => by rw [← hAe]; exact Or.inr h
  have hS : va_S A s.heap s.heap [] := va_S.rf
  clear hAe hD0
  have hl := lv_entry ([.ref o0_b, .int p1]) (n := 4) (Nat.le_of_ble_eq_true rfl)
  rw [lg_entry_eq]
  generalize (lg_sl ([.ref o0_b, .int p1]) ++ List.replicate (4 - (lg_sl ([.ref o0_b, .int p1])).length) Slot.unset).toArray = ls at hl ⊢
  have hl : lv_has ls 4 [(0, .ref o0_b), (1, .int p1)] := hl
  have hP : va_P D vwCl (wB kI o0_b o0_pr w0) s.heap := hP
  have L15 : ∀ (v1 : Int32), ∀ (n : Nat), ∀ (v2 : Int32) (v3 : Int32) (w0 : SB) (H : Heap) (locs : List Loc) (ls : Array Slot), va_P D vwCl (wB kI o0_b o0_pr w0) H → va_D A (wB kI o0_b o0_pr w0) → va_S A s.heap H locs → lv_has ls 4 [(0, .ref o0_b), (1, .int v1), (2, .int v2), (3, .int v3)] → pX1_valueToGiver_15 (fun _ _ _ _ => False) Z v1 n v2 v3 w0 → W p l e (headSpec wsX1_valueToGiver ({ frames := 1, cells := 0, slots := 0, locals := 21 } : Room)).room s m ([.ref o0_b, .int p1] : List Value).toArray below meth c H locs 0 0 (MQ below (va_Qi Z (gB D (gT kI kC kG kJ) (fun (zz : SB) => wB kI o0_b o0_pr zz) A) A) ([.ref o0_b, .int p1] : List Value).toArray s 0 0 A) (F0 m 15 ls []) := by
    intro v1 n
    induction n with
    | zero => intro v2 v3 w0 H locs ls hP hD hS hl hw; exact hw.elim
    | succ n ih =>
    intro v2 v3 w0 H locs ls hP hD hS hl hw
    rw [pX1_valueToGiver_15] at hw
    refine lv_iload_n hx hb dX1_valueToGiver_15 rfl (lv_at hl 3 rfl) ?_
    refine lv_bipush (v := 16) hx hb dX1_valueToGiver_16 (by decide) ?_
    refine lv_icmp_ge (tgt := 52) hx hb dX1_valueToGiver_18 (by decide) (fun c3 => ?_) (fun c3 => ?_)
    · replace hw := Eq.mp (if_pos c3) hw
      refine lv_iload_n hx hb dX1_valueToGiver_52 rfl (lv_at hl 2 rfl) ?_
      exact W.iret (v := v2) hx hb hr (fun t ht hW => ⟨⟨v2, w0, rfl, hw, by rw [ht]; exact hP, va_K.moved hW.alike hK, hD⟩, hS.F ht⟩) hS.2.2 dX1_valueToGiver_53
    · replace hw := Eq.mp (if_neg c3) hw
      refine lv_iload_n hx hb dX1_valueToGiver_21 rfl (lv_at hl 2 rfl) ?_
      refine lv_iconst (v := 1) hx hb dX1_valueToGiver_22 (by decide) ?_
      refine lv_icmp_eq (tgt := 52) hx hb dX1_valueToGiver_23 (by decide) (fun c4 => ?_) (fun c4 => ?_)
      · replace hw := Eq.mp (if_pos c4) hw
        refine lv_iload_n hx hb dX1_valueToGiver_52 rfl (lv_at hl 2 rfl) ?_
        exact W.iret (v := v2) hx hb hr (fun t ht hW => ⟨⟨v2, w0, rfl, hw, by rw [ht]; exact hP, va_K.moved hW.alike hK, hD⟩, hS.F ht⟩) hS.2.2 dX1_valueToGiver_53
      · replace hw := Eq.mp (if_neg c4) hw
        refine lv_aload_n hx hb dX1_valueToGiver_26 rfl (lv_at hl 0 rfl) ?_
        refine lv_iload_n hx hb dX1_valueToGiver_27 rfl (lv_at hl 3 rfl) ?_
        refine gVi (As := [.int v3]) (rest := []) (cs' := wB kI o0_b o0_pr w0) ⟨hx, hb, hml, hown, hts⟩ (kX0_holds l D kI kC kG kJ o0_b o0_pr w0 v3 _ hw) (cwV 1 hts gX1_valueToGiver_X0_holds rfl rfl rfl hdX0_holds ⟨Nat.le_of_ble_eq_true rfl, Nat.le_of_ble_eq_true rfl⟩) hK hP hE hS [0, 1] rfl (ci := 0) (q0 := 0) rfl rfl rfl rfl hl.1 rfl (Nat.le_of_ble_eq_true rfl) dX1_valueToGiver_28 ⟨Nat.le_of_ble_eq_true rfl, Nat.le_of_ble_eq_true rfl⟩ (fun r5 hw => ?_)
        refine lv_if_ne (tgt := 46) hx hb dX1_valueToGiver_31 (by decide) (fun c6 => ?_) (fun c6 => ?_)
        · replace hw := Eq.mp (if_neg c6) hw
          obtain ⟨x7, ex7⟩ : ∃ y : Int32, y = (v3 + 1) := ⟨_, rfl⟩
          replace hw := hw x7 ex7
          refine lv_iinc (v := x7) (lv' := [(3, .int x7), (0, .ref o0_b), (1, .int v1), (2, .int v2)]) hx hb dX1_valueToGiver_46 hl (k := 3) rfl (by rw [ex7]; rfl) (by decide) rfl (fun ls hl => ?_)
          refine lv_goto (tgt := 15) hx hb dX1_valueToGiver_49 (by decide) ?_
          exact ih v2 x7 w0 H locs ls hP hD hS (lv_sub hl [1, 2, 3, 0] rfl) hw
        · replace hw := Eq.mp (if_pos c6) hw
          refine lv_iload_n hx hb dX1_valueToGiver_34 rfl (lv_at hl 2 rfl) ?_
          refine lv_aload_n hx hb dX1_valueToGiver_35 rfl (lv_at hl 0 rfl) ?_
          refine lv_iload_n hx hb dX1_valueToGiver_36 rfl (lv_at hl 3 rfl) ?_
          refine lv_iload_n hx hb dX1_valueToGiver_37 rfl (lv_at hl 1 rfl) ?_
          exact (hw : False).elim
  have hw : pX1_valueToGiver (fun _ _ _ _ => False) p1 w0 Z := hw
  unfold pX1_valueToGiver at hw
  refine lv_iload_n hx hb dX1_valueToGiver_0 rfl (lv_at hl 1 rfl) ?_
  refine lv_if_le (tgt := 9) hx hb dX1_valueToGiver_1 (by decide) (fun c1 => ?_) (fun c1 => ?_)
  · replace hw := Eq.mp (if_pos c1) hw
    refine lv_iconst (v := 0) hx hb dX1_valueToGiver_9 (by decide) ?_
    exact W.iret (v := 0) hx hb hr (fun t ht hW => ⟨⟨0, w0, rfl, hw, by rw [ht]; exact hP, va_K.moved hW.alike hK, hD⟩, hS.F ht⟩) hS.2.2 dX1_valueToGiver_10
  · replace hw := Eq.mp (if_neg c1) hw
    refine lv_iload_n hx hb dX1_valueToGiver_4 rfl (lv_at hl 1 rfl) ?_
    refine lv_iconst (v := 4) hx hb dX1_valueToGiver_5 (by decide) ?_
    refine lv_icmp_le (tgt := 11) hx hb dX1_valueToGiver_6 (by decide) (fun c2 => ?_) (fun c2 => ?_)
    · replace hw := Eq.mp (if_pos c2) hw
      refine lv_iconst (v := (-1)) hx hb dX1_valueToGiver_11 (by decide) ?_
      refine lv_istore_n (lv' := [(2, .int (-1)), (0, .ref o0_b), (1, .int p1)]) hx hb dX1_valueToGiver_12 rfl hl (by decide) rfl (fun ls hl => ?_)
      refine lv_iconst (v := 0) hx hb dX1_valueToGiver_13 (by decide) ?_
      refine lv_istore_n (lv' := [(3, .int 0), (2, .int (-1)), (0, .ref o0_b), (1, .int p1)]) hx hb dX1_valueToGiver_14 rfl hl (by decide) rfl (fun ls hl => ?_)
      obtain ⟨n9, hw⟩ := hw
      exact L15 p1 n9 (-1) 0 w0 s.heap [] ls hP hD hS (lv_sub hl [2, 3, 1, 0] rfl) hw
    · replace hw := Eq.mp (if_neg c2) hw
      refine lv_iconst (v := 0) hx hb dX1_valueToGiver_9 (by decide) ?_
      exact W.iret (v := 0) hx hb hr (fun t ht hW => ⟨⟨0, w0, rfl, hw, by rw [ht]; exact hP, va_K.moved hW.alike hK, hD⟩, hS.F ht⟩) hS.2.2 dX1_valueToGiver_10
set_option maxHeartbeats 4000000 in
set_option maxRecDepth 100000 in
theorem kX1_valueOfPlacing_1 (l : Launch) (D : va_G) (kI kC kG kJ : ClassId) (o0_b o0_pr : Nat) (sz : Nat) (w0 : SB) (p1 : Int32) (p2 : Int32) (p3 : Int32) (Z : Int32 → SB → Prop) (hw : qV1 p1 p2 p3 w0 Z) : Met l yX1_valueOfPlacing wsX1_valueOfPlacing ({ frames := 2, cells := 0, slots := 0, locals := 45 } : Room) (gPw D (gT kI kC kG kJ) [.ref o0_b, .int p1, .int p2, .int p3] (wB kI o0_b o0_pr w0) sz) (va_Qi Z (gB D (gT kI kC kG kJ) (fun (zz : SB) => wB kI o0_b o0_pr zz) (va_A (wB kI o0_b o0_pr w0) sz)) (va_A (wB kI o0_b o0_pr w0) sz)) 0 0 (va_A (wB kI o0_b o0_pr w0) sz) := by
  refine Met.ofW (cc := cX1_valueOfPlacing) (maxL := 5) (ret := (some .int)) (by decide) rfl ?_
  intro p e s m args below meth c s₁ B hml hv
  obtain ⟨rfl, hsz, hP, hK, hD0, hE⟩ := hv
  have hx := B.exec
  have hb := B.bytes
  have hr := B.returns
  have hts := atoms_spec (ws := wsX1_valueOfPlacing) B.pre
  have hown : s.vm.findClass RX1 = some m.cls := findClass_of_methodNamed B.named
  have hlocks := B.notSynchronized
  subst hsz
  have hD := hD0.self (sz := s.heap.size)
  generalize hAe : va_A (wB kI o0_b o0_pr w0) s.heap.size = A at hD hE ⊢
  have hA : ∀ q : Nat, s.heap.size ≤ q → A q := fun q h => by rw [← hAe]; exact Or.inr h
  have hS : va_S A s.heap s.heap [] := va_S.rf
  clear hAe hD0
  have hl := lv_entry ([.ref o0_b, .int p1, .int p2, .int p3]) (n := 5) (Nat.le_of_ble_eq_true rfl)
  rw [lg_entry_eq]
  generalize (lg_sl ([.ref o0_b, .int p1, .int p2, .int p3]) ++ List.replicate (5 - (lg_sl ([.ref o0_b, .int p1, .int p2, .int p3])).length) Slot.unset).toArray = ls at hl ⊢
  have hl : lv_has ls 5 [(0, .ref o0_b), (1, .int p1), (2, .int p2), (3, .int p3)] := hl
  have hP : va_P D vwCl (wB kI o0_b o0_pr w0) s.heap := hP
  have hw : pX1_valueOfPlacing qG0 p1 p2 p3 w0 Z := hw
  unfold pX1_valueOfPlacing at hw
  refine lv_aload_n hx hb dX1_valueOfPlacing_0 rfl (lv_at hl 0 rfl) ?_
  refine lv_iload_n hx hb dX1_valueOfPlacing_1 rfl (lv_at hl 1 rfl) ?_
  refine lv_iload_n hx hb dX1_valueOfPlacing_2 rfl (lv_at hl 2 rfl) ?_
  refine gWVv (S := SB) (As := [.int p1, .int p2]) (rest := []) (wc := wB kI o0_b o0_pr w0) (wr := []) (cs1 := (fun zz : SB => wB kI o0_b o0_pr zz)) (ws2 := (fun zz : SB => wB kI o0_b o0_pr zz)) ⟨hx, hb, hml, hown, hts⟩ (fun sz => kX0_put l D kI kC kG kJ o0_b o0_pr sz w0 p1 p2 _ hw) (cwV 2 hts gX1_valueOfPlacing_X0_put rfl rfl rfl hdX0_put ⟨Nat.le_of_ble_eq_true rfl, Nat.le_of_ble_eq_true rfl⟩) hK hP hD hE hS hA [0, 1] [] rfl rfl rfl rfl (by decide) [0, 1] rfl (fun _ => rfl) (ci := 0) (q0 := 0) rfl rfl rfl rfl hl.1 rfl (Nat.le_of_ble_eq_true rfl) dX1_valueOfPlacing_3 ⟨Nat.le_of_ble_eq_true rfl, Nat.le_of_ble_eq_true rfl⟩ (fun w1 H locs hw hP hD hS => ?_)
  have hP : va_P D vwCl (wB kI o0_b o0_pr w1) H := hP
  have hD : va_D A (wB kI o0_b o0_pr w1) := hD
  refine lv_aload_n hx hb dX1_valueOfPlacing_6 rfl (lv_at hl 0 rfl) ?_
  refine gVi (As := []) (rest := []) (cs' := wB kI o0_b o0_pr w1) ⟨hx, hb, hml, hown, hts⟩ (kX0_hasWonLine l D kI kC kG kJ o0_b o0_pr w1 _ hw) (cwV 0 hts gX1_valueOfPlacing_X0_hasWonLine rfl rfl rfl hdX0_hasWonLine ⟨Nat.le_of_ble_eq_true rfl, Nat.le_of_ble_eq_true rfl⟩) hK hP hE hS [0, 1] rfl (ci := 0) (q0 := 0) rfl rfl rfl rfl hl.1 rfl (Nat.le_of_ble_eq_true rfl) dX1_valueOfPlacing_7 ⟨Nat.le_of_ble_eq_true rfl, Nat.le_of_ble_eq_true rfl⟩ (fun r2 hw => ?_)
  refine lv_if_eq (tgt := 17) hx hb dX1_valueOfPlacing_10 (by decide) (fun c3 => ?_) (fun c3 => ?_)
  · replace hw := Eq.mp (if_pos c3) hw
    refine lv_aload_n hx hb dX1_valueOfPlacing_17 rfl (lv_at hl 0 rfl) ?_
    refine lv_iload_n hx hb dX1_valueOfPlacing_18 rfl (lv_at hl 3 rfl) ?_
    refine lv_iconst (v := 1) hx hb dX1_valueOfPlacing_19 (by decide) ?_
    refine lv_isub hx hb dX1_valueOfPlacing_20 ?_
    refine gWSi (S := SB) (As := [.ref o0_b, .int (p3 - 1)]) (rest := []) (wc := wB kI o0_b o0_pr w1) (wr := []) (cs1 := (fun zz : SB => wB kI o0_b o0_pr zz)) (ws2 := (fun zz : SB => wB kI o0_b o0_pr zz)) ⟨hx, hb, hml, hown, hts⟩ (fun sz => kX1_valueToGiver_0 l D kI kC kG kJ o0_b o0_pr sz w1 (p3 - 1) _ hw) (va_cwS 2 hts gX1_valueOfPlacing_X1_valueToGiver rfl rfl rfl hdX1_valueToGiver ⟨Nat.le_of_ble_eq_true rfl, Nat.le_of_ble_eq_true rfl⟩) hK hP hD hE hS hA [0, 1] [] rfl rfl rfl rfl (by decide) [0, 1] rfl (fun _ => rfl) rfl hl.1 rfl (Nat.le_of_ble_eq_true rfl) dX1_valueOfPlacing_21 ⟨Nat.le_of_ble_eq_true rfl, Nat.le_of_ble_eq_true rfl⟩ (fun r4 w4 H locs hw hP hD hS => ?_)
    have hP : va_P D vwCl (wB kI o0_b o0_pr w4) H := hP
    have hD : va_D A (wB kI o0_b o0_pr w4) := hD
    refine lv_istore (lv' := [(4, .int r4), (0, .ref o0_b), (1, .int p1), (2, .int p2), (3, .int p3)]) hx hb dX1_valueOfPlacing_24 hl (by decide) rfl (fun ls hl => ?_)
    refine lv_aload_n hx hb dX1_valueOfPlacing_26 rfl (lv_at hl 1 rfl) ?_
    refine lv_iload_n hx hb dX1_valueOfPlacing_27 rfl (lv_at hl 2 rfl) ?_
    refine lv_iload_n hx hb dX1_valueOfPlacing_28 rfl (lv_at hl 3 rfl) ?_
    refine gWVv (S := SB) (As := [.int p1, .int p2]) (rest := []) (wc := wB kI o0_b o0_pr w4) (wr := []) (cs1 := (fun zz : SB => wB kI o0_b o0_pr zz)) (ws2 := (fun zz : SB => wB kI o0_b o0_pr zz)) ⟨hx, hb, hml, hown, hts⟩ (fun sz => kX0_lift l D kI kC kG kJ o0_b o0_pr sz w4 p1 p2 _ hw) (cwV 2 hts gX1_valueOfPlacing_X0_lift rfl rfl rfl hdX0_lift ⟨Nat.le_of_ble_eq_true rfl, Nat.le_of_ble_eq_true rfl⟩) hK hP hD hE hS hA [0, 1] [] rfl rfl rfl rfl (by decide) [0, 1] rfl (fun _ => rfl) (ci := 0) (q0 := 0) rfl rfl rfl rfl hl.1 rfl (Nat.le_of_ble_eq_true rfl) dX1_valueOfPlacing_29 ⟨Nat.le_of_ble_eq_true rfl, Nat.le_of_ble_eq_true rfl⟩ (fun w5 H locs hw hP hD hS => ?_)
    have hP : va_P D vwCl (wB kI o0_b o0_pr w5) H := hP
    have hD : va_D A (wB kI o0_b o0_pr w5) := hD
    refine lv_iload hx hb dX1_valueOfPlacing_32 (lv_at hl 0 rfl) ?_
    exact W.iret (v := r4) hx hb hr (fun t ht hW => ⟨⟨r4, w5, rfl, hw, by rw [ht]; exact hP, va_K.moved hW.alike hK, hD⟩, hS.F ht⟩) hS.2.2 dX1_valueOfPlacing_34
  · replace hw := Eq.mp (if_neg c3) hw
    refine lv_iconst (v := 1) hx hb dX1_valueOfPlacing_13 (by decide) ?_
    refine lv_goto (tgt := 24) hx hb dX1_valueOfPlacing_14 (by decide) ?_
    refine lv_istore (lv' := [(4, .int 1), (0, .ref o0_b), (1, .int p1), (2, .int p2), (3, .int p3)]) hx hb dX1_valueOfPlacing_24 hl (by decide) rfl (fun ls hl => ?_)
    refine lv_aload_n hx hb dX1_valueOfPlacing_26 rfl (lv_at hl 1 rfl) ?_
    refine lv_iload_n hx hb dX1_valueOfPlacing_27 rfl (lv_at hl 2 rfl) ?_
    refine lv_iload_n hx hb dX1_valueOfPlacing_28 rfl (lv_at hl 3 rfl) ?_
    refine gWVv (S := SB) (As := [.int p1, .int p2]) (rest := []) (wc := wB kI o0_b o0_pr w1) (wr := []) (cs1 := (fun zz : SB => wB kI o0_b o0_pr zz)) (ws2 := (fun zz : SB => wB kI o0_b o0_pr zz)) ⟨hx, hb, hml, hown, hts⟩ (fun sz => kX0_lift l D kI kC kG kJ o0_b o0_pr sz w1 p1 p2 _ hw) (cwV 2 hts gX1_valueOfPlacing_X0_lift rfl rfl rfl hdX0_lift ⟨Nat.le_of_ble_eq_true rfl, Nat.le_of_ble_eq_true rfl⟩) hK hP hD hE hS hA [0, 1] [] rfl rfl rfl rfl (by decide) [0, 1] rfl (fun _ => rfl) (ci := 0) (q0 := 0) rfl rfl rfl rfl hl.1 rfl (Nat.le_of_ble_eq_true rfl) dX1_valueOfPlacing_29 ⟨Nat.le_of_ble_eq_true rfl, Nat.le_of_ble_eq_true rfl⟩ (fun w6 H locs hw hP hD hS => ?_)
    have hP : va_P D vwCl (wB kI o0_b o0_pr w6) H := hP
    have hD : va_D A (wB kI o0_b o0_pr w6) := hD
    refine lv_iload hx hb dX1_valueOfPlacing_32 (lv_at hl 0 rfl) ?_
    exact W.iret (v := 1) hx hb hr (fun t ht hW => ⟨⟨1, w6, rfl, hw, by rw [ht]; exact hP, va_K.moved hW.alike hK, hD⟩, hS.F ht⟩) hS.2.2 dX1_valueOfPlacing_34
set_option maxHeartbeats 4000000 in
set_option maxRecDepth 100000 in
theorem kX1_valueToPlacer_1 (l : Launch) (D : va_G) (kI kC kG kJ : ClassId) (o0_b o0_pr : Nat) (sz : Nat) (w0 : SB) (p1 : Int32) (p2 : Int32) (Z : Int32 → SB → Prop) (hw : qP1 p1 p2 w0 Z) : Met l yX1_valueToPlacer wsX1_valueToPlacer ({ frames := 3, cells := 0, slots := 0, locals := 69 } : Room) (gPw D (gT kI kC kG kJ) [.ref o0_b, .int p1, .int p2] (wB kI o0_b o0_pr w0) sz) (va_Qi Z (gB D (gT kI kC kG kJ) (fun (zz : SB) => wB kI o0_b o0_pr zz) (va_A (wB kI o0_b o0_pr w0) sz)) (va_A (wB kI o0_b o0_pr w0) sz)) 0 0 (va_A (wB kI o0_b o0_pr w0) sz) := by
  refine Met.ofW (cc := cX1_valueToPlacer) (maxL := 5) (ret := (some .int)) (by decide) rfl ?_
  intro p e s m args below meth c s₁ B hml hv
  obtain ⟨rfl, hsz, hP, hK, hD0, hE⟩ := hv
  have hx := B.exec
  have hb := B.bytes
  have hr := B.returns
  have hts := atoms_spec (ws := wsX1_valueToPlacer) B.pre
  have hown : s.vm.findClass RX1 = some m.cls := findClass_of_methodNamed B.named
  have hlocks := B.notSynchronized
  subst hsz
  have hD := hD0.self (sz := s.heap.size)
  generalize hAe : va_A (wB kI o0_b o0_pr w0) s.heap.size = A at hD hE ⊢
  have hA : ∀ q : Nat, s.heap.size ≤ q → A q := fun q h => by rw [← hAe]; exact Or.inr h
  have hS : va_S A s.heap s.heap [] := va_S.rf
  clear hAe hD0
  have hl := lv_entry ([.ref o0_b, .int p1, .int p2]) (n := 5) (Nat.le_of_ble_eq_true rfl)
  rw [lg_entry_eq]
  generalize (lg_sl ([.ref o0_b, .int p1, .int p2]) ++ List.replicate (5 - (lg_sl ([.ref o0_b, .int p1, .int p2])).length) Slot.unset).toArray = ls at hl ⊢
  have hl : lv_has ls 5 [(0, .ref o0_b), (1, .int p1), (2, .int p2)] := hl
  have hP : va_P D vwCl (wB kI o0_b o0_pr w0) s.heap := hP
  have L16 : ∀ (v1 : Int32) (v2 : Int32), ∀ (n : Nat), ∀ (v3 : Int32) (v4 : Int32) (w0 : SB) (H : Heap) (locs : List Loc) (ls : Array Slot), va_P D vwCl (wB kI o0_b o0_pr w0) H → va_D A (wB kI o0_b o0_pr w0) → va_S A s.heap H locs → lv_has ls 5 [(0, .ref o0_b), (1, .int v1), (2, .int v2), (3, .int v3), (4, .int v4)] → pX1_valueToPlacer_16 qV1 Z v1 v2 n v3 v4 w0 → W p l e (headSpec wsX1_valueToPlacer ({ frames := 3, cells := 0, slots := 0, locals := 69 } : Room)).room s m ([.ref o0_b, .int p1, .int p2] : List Value).toArray below meth c H locs 0 0 (MQ below (va_Qi Z (gB D (gT kI kC kG kJ) (fun (zz : SB) => wB kI o0_b o0_pr zz) A) A) ([.ref o0_b, .int p1, .int p2] : List Value).toArray s 0 0 A) (F0 m 16 ls []) := by
    intro v1 v2 n
    induction n with
    | zero => intro v3 v4 w0 H locs ls hP hD hS hl hw; exact hw.elim
    | succ n ih =>
    intro v3 v4 w0 H locs ls hP hD hS hl hw
    rw [pX1_valueToPlacer_16] at hw
    refine lv_iload hx hb dX1_valueToPlacer_16 (lv_at hl 4 rfl) ?_
    refine lv_bipush (v := 16) hx hb dX1_valueToPlacer_18 (by decide) ?_
    refine lv_icmp_ge (tgt := 56) hx hb dX1_valueToPlacer_20 (by decide) (fun c3 => ?_) (fun c3 => ?_)
    · replace hw := Eq.mp (if_pos c3) hw
      refine lv_iload_n hx hb dX1_valueToPlacer_56 rfl (lv_at hl 3 rfl) ?_
      exact W.iret (v := v3) hx hb hr (fun t ht hW => ⟨⟨v3, w0, rfl, hw, by rw [ht]; exact hP, va_K.moved hW.alike hK, hD⟩, hS.F ht⟩) hS.2.2 dX1_valueToPlacer_57
    · replace hw := Eq.mp (if_neg c3) hw
      refine lv_iload_n hx hb dX1_valueToPlacer_23 rfl (lv_at hl 3 rfl) ?_
      refine lv_iconst (v := 1) hx hb dX1_valueToPlacer_24 (by decide) ?_
      refine lv_icmp_eq (tgt := 56) hx hb dX1_valueToPlacer_25 (by decide) (fun c4 => ?_) (fun c4 => ?_)
      · replace hw := Eq.mp (if_pos c4) hw
        refine lv_iload_n hx hb dX1_valueToPlacer_56 rfl (lv_at hl 3 rfl) ?_
        exact W.iret (v := v3) hx hb hr (fun t ht hW => ⟨⟨v3, w0, rfl, hw, by rw [ht]; exact hP, va_K.moved hW.alike hK, hD⟩, hS.F ht⟩) hS.2.2 dX1_valueToPlacer_57
      · replace hw := Eq.mp (if_neg c4) hw
        refine lv_aload_n hx hb dX1_valueToPlacer_28 rfl (lv_at hl 0 rfl) ?_
        refine lv_iload hx hb dX1_valueToPlacer_29 (lv_at hl 4 rfl) ?_
        refine gVi (As := [.int v4]) (rest := []) (cs' := wB kI o0_b o0_pr w0) ⟨hx, hb, hml, hown, hts⟩ (kX0_isEmpty l D kI kC kG kJ o0_b o0_pr w0 v4 _ hw) (cwV 1 hts gX1_valueToPlacer_X0_isEmpty rfl rfl rfl hdX0_isEmpty ⟨Nat.le_of_ble_eq_true rfl, Nat.le_of_ble_eq_true rfl⟩) hK hP hE hS [0, 1] rfl (ci := 0) (q0 := 0) rfl rfl rfl rfl hl.1 rfl (Nat.le_of_ble_eq_true rfl) dX1_valueToPlacer_31 ⟨Nat.le_of_ble_eq_true rfl, Nat.le_of_ble_eq_true rfl⟩ (fun r5 hw => ?_)
        refine lv_if_eq (tgt := 50) hx hb dX1_valueToPlacer_34 (by decide) (fun c6 => ?_) (fun c6 => ?_)
        · replace hw := Eq.mp (if_pos c6) hw
          obtain ⟨x7, ex7⟩ : ∃ y : Int32, y = (v4 + 1) := ⟨_, rfl⟩
          replace hw := hw x7 ex7
          refine lv_iinc (v := x7) (lv' := [(4, .int x7), (0, .ref o0_b), (1, .int v1), (2, .int v2), (3, .int v3)]) hx hb dX1_valueToPlacer_50 hl (k := 4) rfl (by rw [ex7]; rfl) (by decide) rfl (fun ls hl => ?_)
          refine lv_goto (tgt := 16) hx hb dX1_valueToPlacer_53 (by decide) ?_
          exact ih v3 x7 w0 H locs ls hP hD hS (lv_sub hl [1, 2, 3, 4, 0] rfl) hw
        · replace hw := Eq.mp (if_neg c6) hw
          refine lv_iload_n hx hb dX1_valueToPlacer_37 rfl (lv_at hl 3 rfl) ?_
          refine lv_aload_n hx hb dX1_valueToPlacer_38 rfl (lv_at hl 0 rfl) ?_
          refine lv_iload_n hx hb dX1_valueToPlacer_39 rfl (lv_at hl 1 rfl) ?_
          refine lv_iload hx hb dX1_valueToPlacer_40 (lv_at hl 4 rfl) ?_
          refine lv_iload_n hx hb dX1_valueToPlacer_42 rfl (lv_at hl 2 rfl) ?_
          refine gWSi (S := SB) (As := [.ref o0_b, .int v1, .int v4, .int v2]) (rest := [.int v3]) (wc := wB kI o0_b o0_pr w0) (wr := []) (cs1 := (fun zz : SB => wB kI o0_b o0_pr zz)) (ws2 := (fun zz : SB => wB kI o0_b o0_pr zz)) ⟨hx, hb, hml, hown, hts⟩ (fun sz => kX1_valueOfPlacing_1 l D kI kC kG kJ o0_b o0_pr sz w0 v1 v4 v2 _ hw) (va_cwS 4 hts gX1_valueToPlacer_X1_valueOfPlacing rfl rfl rfl hdX1_valueOfPlacing ⟨Nat.le_of_ble_eq_true rfl, Nat.le_of_ble_eq_true rfl⟩) hK hP hD hE hS hA [0, 1] [] rfl rfl rfl rfl (by decide) [0, 1] rfl (fun _ => rfl) rfl hl.1 rfl (Nat.le_of_ble_eq_true rfl) dX1_valueToPlacer_43 ⟨Nat.le_of_ble_eq_true rfl, Nat.le_of_ble_eq_true rfl⟩ (fun r8 w8 H locs hw hP hD hS => ?_)
          have hP : va_P D vwCl (wB kI o0_b o0_pr w8) H := hP
          have hD : va_D A (wB kI o0_b o0_pr w8) := hD
          refine va_mmax hx hb (hml.trans hl.1.symm) hown (hts (.methodLink RX1 60 Lib.Math.max.name) (List.mem_of_getElem? (i := 1) rfl)) (hts (.static Lib.Math.max.name) (List.mem_of_getElem? (i := 2) rfl)) (hts (.initialized "java/lang/Math") (List.mem_of_getElem? (i := 3) rfl)) (hts (.code Lib.Math.max.name Lib.Math.max.code 2 (some .int)) (List.mem_of_getElem? (i := 4) rfl)) (Nat.le_of_ble_eq_true rfl) (Nat.le_of_ble_eq_true rfl) (Nat.le_of_ble_eq_true rfl) (Nat.le_of_ble_eq_true rfl) dX1_valueToPlacer_46 ?_
          refine lv_topi (fun x9 ex9 => ?_)
          replace hw := hw x9 ex9
          refine lv_istore_n (lv' := [(3, .int x9), (0, .ref o0_b), (1, .int v1), (2, .int v2), (4, .int v4)]) hx hb dX1_valueToPlacer_49 rfl hl (by decide) rfl (fun ls hl => ?_)
          obtain ⟨x10, ex10⟩ : ∃ y : Int32, y = (v4 + 1) := ⟨_, rfl⟩
          replace hw := hw x10 ex10
          refine lv_iinc (v := x10) (lv' := [(4, .int x10), (3, .int x9), (0, .ref o0_b), (1, .int v1), (2, .int v2)]) hx hb dX1_valueToPlacer_50 hl (k := 4) rfl (by rw [ex10]; rfl) (by decide) rfl (fun ls hl => ?_)
          refine lv_goto (tgt := 16) hx hb dX1_valueToPlacer_53 (by decide) ?_
          exact ih x9 x10 w8 H locs ls hP hD hS (lv_sub hl [2, 3, 4, 1, 0] rfl) hw
  have hw : pX1_valueToPlacer qV1 p1 p2 w0 Z := hw
  unfold pX1_valueToPlacer at hw
  refine lv_iload_n hx hb dX1_valueToPlacer_0 rfl (lv_at hl 2 rfl) ?_
  refine lv_if_le (tgt := 9) hx hb dX1_valueToPlacer_1 (by decide) (fun c1 => ?_) (fun c1 => ?_)
  · replace hw := Eq.mp (if_pos c1) hw
    refine lv_iconst (v := 0) hx hb dX1_valueToPlacer_9 (by decide) ?_
    exact W.iret (v := 0) hx hb hr (fun t ht hW => ⟨⟨0, w0, rfl, hw, by rw [ht]; exact hP, va_K.moved hW.alike hK, hD⟩, hS.F ht⟩) hS.2.2 dX1_valueToPlacer_10
  · replace hw := Eq.mp (if_neg c1) hw
    refine lv_iload_n hx hb dX1_valueToPlacer_4 rfl (lv_at hl 2 rfl) ?_
    refine lv_iconst (v := 4) hx hb dX1_valueToPlacer_5 (by decide) ?_
    refine lv_icmp_le (tgt := 11) hx hb dX1_valueToPlacer_6 (by decide) (fun c2 => ?_) (fun c2 => ?_)
    · replace hw := Eq.mp (if_pos c2) hw
      refine lv_iconst (v := (-1)) hx hb dX1_valueToPlacer_11 (by decide) ?_
      refine lv_istore_n (lv' := [(3, .int (-1)), (0, .ref o0_b), (1, .int p1), (2, .int p2)]) hx hb dX1_valueToPlacer_12 rfl hl (by decide) rfl (fun ls hl => ?_)
      refine lv_iconst (v := 0) hx hb dX1_valueToPlacer_13 (by decide) ?_
      refine lv_istore (lv' := [(4, .int 0), (3, .int (-1)), (0, .ref o0_b), (1, .int p1), (2, .int p2)]) hx hb dX1_valueToPlacer_14 hl (by decide) rfl (fun ls hl => ?_)
      obtain ⟨n9, hw⟩ := hw
      exact L16 p1 p2 n9 (-1) 0 w0 s.heap [] ls hP hD hS (lv_sub hl [2, 3, 4, 1, 0] rfl) hw
    · replace hw := Eq.mp (if_neg c2) hw
      refine lv_iconst (v := 0) hx hb dX1_valueToPlacer_9 (by decide) ?_
      exact W.iret (v := 0) hx hb hr (fun t ht hW => ⟨⟨0, w0, rfl, hw, by rw [ht]; exact hP, va_K.moved hW.alike hK, hD⟩, hS.F ht⟩) hS.2.2 dX1_valueToPlacer_10
set_option maxHeartbeats 4000000 in
set_option maxRecDepth 100000 in
theorem kX1_valueToGiver_1 (l : Launch) (D : va_G) (kI kC kG kJ : ClassId) (o0_b o0_pr : Nat) (sz : Nat) (w0 : SB) (p1 : Int32) (Z : Int32 → SB → Prop) (hw : qG1 p1 w0 Z) : Met l yX1_valueToGiver wsX1_valueToGiver ({ frames := 4, cells := 0, slots := 0, locals := 93 } : Room) (gPw D (gT kI kC kG kJ) [.ref o0_b, .int p1] (wB kI o0_b o0_pr w0) sz) (va_Qi Z (gB D (gT kI kC kG kJ) (fun (zz : SB) => wB kI o0_b o0_pr zz) (va_A (wB kI o0_b o0_pr w0) sz)) (va_A (wB kI o0_b o0_pr w0) sz)) 0 0 (va_A (wB kI o0_b o0_pr w0) sz) := by
  refine Met.ofW (cc := cX1_valueToGiver) (maxL := 4) (ret := (some .int)) (by decide) rfl ?_
  intro p e s m args below meth c s₁ B hml hv
  obtain ⟨rfl, hsz, hP, hK, hD0, hE⟩ := hv
  have hx := B.exec
  have hb := B.bytes
  have hr := B.returns
  have hts := atoms_spec (ws := wsX1_valueToGiver) B.pre
  have hown : s.vm.findClass RX1 = some m.cls := findClass_of_methodNamed B.named
  have hlocks := B.notSynchronized
  subst hsz
  have hD := hD0.self (sz := s.heap.size)
  generalize hAe : va_A (wB kI o0_b o0_pr w0) s.heap.size = A at hD hE ⊢
  have hA : ∀ q : Nat, s.heap.size ≤ q → A q := fun q h => by rw [← hAe]; exact Or.inr h
  have hS : va_S A s.heap s.heap [] := va_S.rf
  clear hAe hD0
  have hl := lv_entry ([.ref o0_b, .int p1]) (n := 4) (Nat.le_of_ble_eq_true rfl)
  rw [lg_entry_eq]
  generalize (lg_sl ([.ref o0_b, .int p1]) ++ List.replicate (4 - (lg_sl ([.ref o0_b, .int p1])).length) Slot.unset).toArray = ls at hl ⊢
  have hl : lv_has ls 4 [(0, .ref o0_b), (1, .int p1)] := hl
  have hP : va_P D vwCl (wB kI o0_b o0_pr w0) s.heap := hP
  have L15 : ∀ (v1 : Int32), ∀ (n : Nat), ∀ (v2 : Int32) (v3 : Int32) (w0 : SB) (H : Heap) (locs : List Loc) (ls : Array Slot), va_P D vwCl (wB kI o0_b o0_pr w0) H → va_D A (wB kI o0_b o0_pr w0) → va_S A s.heap H locs → lv_has ls 4 [(0, .ref o0_b), (1, .int v1), (2, .int v2), (3, .int v3)] → pX1_valueToGiver_15 qP1 Z v1 n v2 v3 w0 → W p l e (headSpec wsX1_valueToGiver ({ frames := 4, cells := 0, slots := 0, locals := 93 } : Room)).room s m ([.ref o0_b, .int p1] : List Value).toArray below meth c H locs 0 0 (MQ below (va_Qi Z (gB D (gT kI kC kG kJ) (fun (zz : SB) => wB kI o0_b o0_pr zz) A) A) ([.ref o0_b, .int p1] : List Value).toArray s 0 0 A) (F0 m 15 ls []) := by
    intro v1 n
    induction n with
    | zero => intro v2 v3 w0 H locs ls hP hD hS hl hw; exact hw.elim
    | succ n ih =>
    intro v2 v3 w0 H locs ls hP hD hS hl hw
    rw [pX1_valueToGiver_15] at hw
    refine lv_iload_n hx hb dX1_valueToGiver_15 rfl (lv_at hl 3 rfl) ?_
    refine lv_bipush (v := 16) hx hb dX1_valueToGiver_16 (by decide) ?_
    refine lv_icmp_ge (tgt := 52) hx hb dX1_valueToGiver_18 (by decide) (fun c3 => ?_) (fun c3 => ?_)
    · replace hw := Eq.mp (if_pos c3) hw
      refine lv_iload_n hx hb dX1_valueToGiver_52 rfl (lv_at hl 2 rfl) ?_
      exact W.iret (v := v2) hx hb hr (fun t ht hW => ⟨⟨v2, w0, rfl, hw, by rw [ht]; exact hP, va_K.moved hW.alike hK, hD⟩, hS.F ht⟩) hS.2.2 dX1_valueToGiver_53
    · replace hw := Eq.mp (if_neg c3) hw
      refine lv_iload_n hx hb dX1_valueToGiver_21 rfl (lv_at hl 2 rfl) ?_
      refine lv_iconst (v := 1) hx hb dX1_valueToGiver_22 (by decide) ?_
      refine lv_icmp_eq (tgt := 52) hx hb dX1_valueToGiver_23 (by decide) (fun c4 => ?_) (fun c4 => ?_)
      · replace hw := Eq.mp (if_pos c4) hw
        refine lv_iload_n hx hb dX1_valueToGiver_52 rfl (lv_at hl 2 rfl) ?_
        exact W.iret (v := v2) hx hb hr (fun t ht hW => ⟨⟨v2, w0, rfl, hw, by rw [ht]; exact hP, va_K.moved hW.alike hK, hD⟩, hS.F ht⟩) hS.2.2 dX1_valueToGiver_53
      · replace hw := Eq.mp (if_neg c4) hw
        refine lv_aload_n hx hb dX1_valueToGiver_26 rfl (lv_at hl 0 rfl) ?_
        refine lv_iload_n hx hb dX1_valueToGiver_27 rfl (lv_at hl 3 rfl) ?_
        refine gVi (As := [.int v3]) (rest := []) (cs' := wB kI o0_b o0_pr w0) ⟨hx, hb, hml, hown, hts⟩ (kX0_holds l D kI kC kG kJ o0_b o0_pr w0 v3 _ hw) (cwV 1 hts gX1_valueToGiver_X0_holds rfl rfl rfl hdX0_holds ⟨Nat.le_of_ble_eq_true rfl, Nat.le_of_ble_eq_true rfl⟩) hK hP hE hS [0, 1] rfl (ci := 0) (q0 := 0) rfl rfl rfl rfl hl.1 rfl (Nat.le_of_ble_eq_true rfl) dX1_valueToGiver_28 ⟨Nat.le_of_ble_eq_true rfl, Nat.le_of_ble_eq_true rfl⟩ (fun r5 hw => ?_)
        refine lv_if_ne (tgt := 46) hx hb dX1_valueToGiver_31 (by decide) (fun c6 => ?_) (fun c6 => ?_)
        · replace hw := Eq.mp (if_neg c6) hw
          obtain ⟨x7, ex7⟩ : ∃ y : Int32, y = (v3 + 1) := ⟨_, rfl⟩
          replace hw := hw x7 ex7
          refine lv_iinc (v := x7) (lv' := [(3, .int x7), (0, .ref o0_b), (1, .int v1), (2, .int v2)]) hx hb dX1_valueToGiver_46 hl (k := 3) rfl (by rw [ex7]; rfl) (by decide) rfl (fun ls hl => ?_)
          refine lv_goto (tgt := 15) hx hb dX1_valueToGiver_49 (by decide) ?_
          exact ih v2 x7 w0 H locs ls hP hD hS (lv_sub hl [1, 2, 3, 0] rfl) hw
        · replace hw := Eq.mp (if_pos c6) hw
          refine lv_iload_n hx hb dX1_valueToGiver_34 rfl (lv_at hl 2 rfl) ?_
          refine lv_aload_n hx hb dX1_valueToGiver_35 rfl (lv_at hl 0 rfl) ?_
          refine lv_iload_n hx hb dX1_valueToGiver_36 rfl (lv_at hl 3 rfl) ?_
          refine lv_iload_n hx hb dX1_valueToGiver_37 rfl (lv_at hl 1 rfl) ?_
          refine gWSi (S := SB) (As := [.ref o0_b, .int v3, .int v1]) (rest := [.int v2]) (wc := wB kI o0_b o0_pr w0) (wr := []) (cs1 := (fun zz : SB => wB kI o0_b o0_pr zz)) (ws2 := (fun zz : SB => wB kI o0_b o0_pr zz)) ⟨hx, hb, hml, hown, hts⟩ (fun sz => kX1_valueToPlacer_1 l D kI kC kG kJ o0_b o0_pr sz w0 v3 v1 _ hw) (va_cwS 3 hts gX1_valueToGiver_X1_valueToPlacer rfl rfl rfl hdX1_valueToPlacer ⟨Nat.le_of_ble_eq_true rfl, Nat.le_of_ble_eq_true rfl⟩) hK hP hD hE hS hA [0, 1] [] rfl rfl rfl rfl (by decide) [0, 1] rfl (fun _ => rfl) rfl hl.1 rfl (Nat.le_of_ble_eq_true rfl) dX1_valueToGiver_38 ⟨Nat.le_of_ble_eq_true rfl, Nat.le_of_ble_eq_true rfl⟩ (fun r8 w8 H locs hw hP hD hS => ?_)
          have hP : va_P D vwCl (wB kI o0_b o0_pr w8) H := hP
          have hD : va_D A (wB kI o0_b o0_pr w8) := hD
          refine lv_ineg hx hb dX1_valueToGiver_41 ?_
          refine va_mmax hx hb (hml.trans hl.1.symm) hown (hts (.methodLink RX1 60 Lib.Math.max.name) (List.mem_of_getElem? (i := 1) rfl)) (hts (.static Lib.Math.max.name) (List.mem_of_getElem? (i := 2) rfl)) (hts (.initialized "java/lang/Math") (List.mem_of_getElem? (i := 3) rfl)) (hts (.code Lib.Math.max.name Lib.Math.max.code 2 (some .int)) (List.mem_of_getElem? (i := 4) rfl)) (Nat.le_of_ble_eq_true rfl) (Nat.le_of_ble_eq_true rfl) (Nat.le_of_ble_eq_true rfl) (Nat.le_of_ble_eq_true rfl) dX1_valueToGiver_42 ?_
          refine lv_topi (fun x9 ex9 => ?_)
          replace hw := hw x9 ex9
          refine lv_istore_n (lv' := [(2, .int x9), (0, .ref o0_b), (1, .int v1), (3, .int v3)]) hx hb dX1_valueToGiver_45 rfl hl (by decide) rfl (fun ls hl => ?_)
          obtain ⟨x10, ex10⟩ : ∃ y : Int32, y = (v3 + 1) := ⟨_, rfl⟩
          replace hw := hw x10 ex10
          refine lv_iinc (v := x10) (lv' := [(3, .int x10), (2, .int x9), (0, .ref o0_b), (1, .int v1)]) hx hb dX1_valueToGiver_46 hl (k := 3) rfl (by rw [ex10]; rfl) (by decide) rfl (fun ls hl => ?_)
          refine lv_goto (tgt := 15) hx hb dX1_valueToGiver_49 (by decide) ?_
          exact ih x9 x10 w8 H locs ls hP hD hS (lv_sub hl [2, 3, 1, 0] rfl) hw
  have hw : pX1_valueToGiver qP1 p1 w0 Z := hw
  unfold pX1_valueToGiver at hw
  refine lv_iload_n hx hb dX1_valueToGiver_0 rfl (lv_at hl 1 rfl) ?_
  refine lv_if_le (tgt := 9) hx hb dX1_valueToGiver_1 (by decide) (fun c1 => ?_) (fun c1 => ?_)
  · replace hw := Eq.mp (if_pos c1) hw
    refine lv_iconst (v := 0) hx hb dX1_valueToGiver_9 (by decide) ?_
    exact W.iret (v := 0) hx hb hr (fun t ht hW => ⟨⟨0, w0, rfl, hw, by rw [ht]; exact hP, va_K.moved hW.alike hK, hD⟩, hS.F ht⟩) hS.2.2 dX1_valueToGiver_10
  · replace hw := Eq.mp (if_neg c1) hw
    refine lv_iload_n hx hb dX1_valueToGiver_4 rfl (lv_at hl 1 rfl) ?_
    refine lv_iconst (v := 4) hx hb dX1_valueToGiver_5 (by decide) ?_
    refine lv_icmp_le (tgt := 11) hx hb dX1_valueToGiver_6 (by decide) (fun c2 => ?_) (fun c2 => ?_)
    · replace hw := Eq.mp (if_pos c2) hw
      refine lv_iconst (v := (-1)) hx hb dX1_valueToGiver_11 (by decide) ?_
      refine lv_istore_n (lv' := [(2, .int (-1)), (0, .ref o0_b), (1, .int p1)]) hx hb dX1_valueToGiver_12 rfl hl (by decide) rfl (fun ls hl => ?_)
      refine lv_iconst (v := 0) hx hb dX1_valueToGiver_13 (by decide) ?_
      refine lv_istore_n (lv' := [(3, .int 0), (2, .int (-1)), (0, .ref o0_b), (1, .int p1)]) hx hb dX1_valueToGiver_14 rfl hl (by decide) rfl (fun ls hl => ?_)
      obtain ⟨n9, hw⟩ := hw
      exact L15 p1 n9 (-1) 0 w0 s.heap [] ls hP hD hS (lv_sub hl [2, 3, 1, 0] rfl) hw
    · replace hw := Eq.mp (if_neg c2) hw
      refine lv_iconst (v := 0) hx hb dX1_valueToGiver_9 (by decide) ?_
      exact W.iret (v := 0) hx hb hr (fun t ht hW => ⟨⟨0, w0, rfl, hw, by rw [ht]; exact hP, va_K.moved hW.alike hK, hD⟩, hS.F ht⟩) hS.2.2 dX1_valueToGiver_10
set_option maxHeartbeats 4000000 in
set_option maxRecDepth 100000 in
theorem kX1_valueOfPlacing_2 (l : Launch) (D : va_G) (kI kC kG kJ : ClassId) (o0_b o0_pr : Nat) (sz : Nat) (w0 : SB) (p1 : Int32) (p2 : Int32) (p3 : Int32) (Z : Int32 → SB → Prop) (hw : qV2 p1 p2 p3 w0 Z) : Met l yX1_valueOfPlacing wsX1_valueOfPlacing ({ frames := 5, cells := 0, slots := 0, locals := 116 } : Room) (gPw D (gT kI kC kG kJ) [.ref o0_b, .int p1, .int p2, .int p3] (wB kI o0_b o0_pr w0) sz) (va_Qi Z (gB D (gT kI kC kG kJ) (fun (zz : SB) => wB kI o0_b o0_pr zz) (va_A (wB kI o0_b o0_pr w0) sz)) (va_A (wB kI o0_b o0_pr w0) sz)) 0 0 (va_A (wB kI o0_b o0_pr w0) sz) := by
  refine Met.ofW (cc := cX1_valueOfPlacing) (maxL := 5) (ret := (some .int)) (by decide) rfl ?_
  intro p e s m args below meth c s₁ B hml hv
  obtain ⟨rfl, hsz, hP, hK, hD0, hE⟩ := hv
  have hx := B.exec
  have hb := B.bytes
  have hr := B.returns
  have hts := atoms_spec (ws := wsX1_valueOfPlacing) B.pre
  have hown : s.vm.findClass RX1 = some m.cls := findClass_of_methodNamed B.named
  have hlocks := B.notSynchronized
  subst hsz
  have hD := hD0.self (sz := s.heap.size)
  generalize hAe : va_A (wB kI o0_b o0_pr w0) s.heap.size = A at hD hE ⊢
  have hA : ∀ q : Nat, s.heap.size ≤ q → A q := fun q h => by rw [← hAe]; exact Or.inr h
  have hS : va_S A s.heap s.heap [] := va_S.rf
  clear hAe hD0
  have hl := lv_entry ([.ref o0_b, .int p1, .int p2, .int p3]) (n := 5) (Nat.le_of_ble_eq_true rfl)
  rw [lg_entry_eq]
  generalize (lg_sl ([.ref o0_b, .int p1, .int p2, .int p3]) ++ List.replicate (5 - (lg_sl ([.ref o0_b, .int p1, .int p2, .int p3])).length) Slot.unset).toArray = ls at hl ⊢
  have hl : lv_has ls 5 [(0, .ref o0_b), (1, .int p1), (2, .int p2), (3, .int p3)] := hl
  have hP : va_P D vwCl (wB kI o0_b o0_pr w0) s.heap := hP
  have hw : pX1_valueOfPlacing qG1 p1 p2 p3 w0 Z := hw
  unfold pX1_valueOfPlacing at hw
  refine lv_aload_n hx hb dX1_valueOfPlacing_0 rfl (lv_at hl 0 rfl) ?_
  refine lv_iload_n hx hb dX1_valueOfPlacing_1 rfl (lv_at hl 1 rfl) ?_
  refine lv_iload_n hx hb dX1_valueOfPlacing_2 rfl (lv_at hl 2 rfl) ?_
  refine gWVv (S := SB) (As := [.int p1, .int p2]) (rest := []) (wc := wB kI o0_b o0_pr w0) (wr := []) (cs1 := (fun zz : SB => wB kI o0_b o0_pr zz)) (ws2 := (fun zz : SB => wB kI o0_b o0_pr zz)) ⟨hx, hb, hml, hown, hts⟩ (fun sz => kX0_put l D kI kC kG kJ o0_b o0_pr sz w0 p1 p2 _ hw) (cwV 2 hts gX1_valueOfPlacing_X0_put rfl rfl rfl hdX0_put ⟨Nat.le_of_ble_eq_true rfl, Nat.le_of_ble_eq_true rfl⟩) hK hP hD hE hS hA [0, 1] [] rfl rfl rfl rfl (by decide) [0, 1] rfl (fun _ => rfl) (ci := 0) (q0 := 0) rfl rfl rfl rfl hl.1 rfl (Nat.le_of_ble_eq_true rfl) dX1_valueOfPlacing_3 ⟨Nat.le_of_ble_eq_true rfl, Nat.le_of_ble_eq_true rfl⟩ (fun w1 H locs hw hP hD hS => ?_)
  have hP : va_P D vwCl (wB kI o0_b o0_pr w1) H := hP
  have hD : va_D A (wB kI o0_b o0_pr w1) := hD
  refine lv_aload_n hx hb dX1_valueOfPlacing_6 rfl (lv_at hl 0 rfl) ?_
  refine gVi (As := []) (rest := []) (cs' := wB kI o0_b o0_pr w1) ⟨hx, hb, hml, hown, hts⟩ (kX0_hasWonLine l D kI kC kG kJ o0_b o0_pr w1 _ hw) (cwV 0 hts gX1_valueOfPlacing_X0_hasWonLine rfl rfl rfl hdX0_hasWonLine ⟨Nat.le_of_ble_eq_true rfl, Nat.le_of_ble_eq_true rfl⟩) hK hP hE hS [0, 1] rfl (ci := 0) (q0 := 0) rfl rfl rfl rfl hl.1 rfl (Nat.le_of_ble_eq_true rfl) dX1_valueOfPlacing_7 ⟨Nat.le_of_ble_eq_true rfl, Nat.le_of_ble_eq_true rfl⟩ (fun r2 hw => ?_)
  refine lv_if_eq (tgt := 17) hx hb dX1_valueOfPlacing_10 (by decide) (fun c3 => ?_) (fun c3 => ?_)
  · replace hw := Eq.mp (if_pos c3) hw
    refine lv_aload_n hx hb dX1_valueOfPlacing_17 rfl (lv_at hl 0 rfl) ?_
    refine lv_iload_n hx hb dX1_valueOfPlacing_18 rfl (lv_at hl 3 rfl) ?_
    refine lv_iconst (v := 1) hx hb dX1_valueOfPlacing_19 (by decide) ?_
    refine lv_isub hx hb dX1_valueOfPlacing_20 ?_
    refine gWSi (S := SB) (As := [.ref o0_b, .int (p3 - 1)]) (rest := []) (wc := wB kI o0_b o0_pr w1) (wr := []) (cs1 := (fun zz : SB => wB kI o0_b o0_pr zz)) (ws2 := (fun zz : SB => wB kI o0_b o0_pr zz)) ⟨hx, hb, hml, hown, hts⟩ (fun sz => kX1_valueToGiver_1 l D kI kC kG kJ o0_b o0_pr sz w1 (p3 - 1) _ hw) (va_cwS 2 hts gX1_valueOfPlacing_X1_valueToGiver rfl rfl rfl hdX1_valueToGiver ⟨Nat.le_of_ble_eq_true rfl, Nat.le_of_ble_eq_true rfl⟩) hK hP hD hE hS hA [0, 1] [] rfl rfl rfl rfl (by decide) [0, 1] rfl (fun _ => rfl) rfl hl.1 rfl (Nat.le_of_ble_eq_true rfl) dX1_valueOfPlacing_21 ⟨Nat.le_of_ble_eq_true rfl, Nat.le_of_ble_eq_true rfl⟩ (fun r4 w4 H locs hw hP hD hS => ?_)
    have hP : va_P D vwCl (wB kI o0_b o0_pr w4) H := hP
    have hD : va_D A (wB kI o0_b o0_pr w4) := hD
    refine lv_istore (lv' := [(4, .int r4), (0, .ref o0_b), (1, .int p1), (2, .int p2), (3, .int p3)]) hx hb dX1_valueOfPlacing_24 hl (by decide) rfl (fun ls hl => ?_)
    refine lv_aload_n hx hb dX1_valueOfPlacing_26 rfl (lv_at hl 1 rfl) ?_
    refine lv_iload_n hx hb dX1_valueOfPlacing_27 rfl (lv_at hl 2 rfl) ?_
    refine lv_iload_n hx hb dX1_valueOfPlacing_28 rfl (lv_at hl 3 rfl) ?_
    refine gWVv (S := SB) (As := [.int p1, .int p2]) (rest := []) (wc := wB kI o0_b o0_pr w4) (wr := []) (cs1 := (fun zz : SB => wB kI o0_b o0_pr zz)) (ws2 := (fun zz : SB => wB kI o0_b o0_pr zz)) ⟨hx, hb, hml, hown, hts⟩ (fun sz => kX0_lift l D kI kC kG kJ o0_b o0_pr sz w4 p1 p2 _ hw) (cwV 2 hts gX1_valueOfPlacing_X0_lift rfl rfl rfl hdX0_lift ⟨Nat.le_of_ble_eq_true rfl, Nat.le_of_ble_eq_true rfl⟩) hK hP hD hE hS hA [0, 1] [] rfl rfl rfl rfl (by decide) [0, 1] rfl (fun _ => rfl) (ci := 0) (q0 := 0) rfl rfl rfl rfl hl.1 rfl (Nat.le_of_ble_eq_true rfl) dX1_valueOfPlacing_29 ⟨Nat.le_of_ble_eq_true rfl, Nat.le_of_ble_eq_true rfl⟩ (fun w5 H locs hw hP hD hS => ?_)
    have hP : va_P D vwCl (wB kI o0_b o0_pr w5) H := hP
    have hD : va_D A (wB kI o0_b o0_pr w5) := hD
    refine lv_iload hx hb dX1_valueOfPlacing_32 (lv_at hl 0 rfl) ?_
    exact W.iret (v := r4) hx hb hr (fun t ht hW => ⟨⟨r4, w5, rfl, hw, by rw [ht]; exact hP, va_K.moved hW.alike hK, hD⟩, hS.F ht⟩) hS.2.2 dX1_valueOfPlacing_34
  · replace hw := Eq.mp (if_neg c3) hw
    refine lv_iconst (v := 1) hx hb dX1_valueOfPlacing_13 (by decide) ?_
    refine lv_goto (tgt := 24) hx hb dX1_valueOfPlacing_14 (by decide) ?_
    refine lv_istore (lv' := [(4, .int 1), (0, .ref o0_b), (1, .int p1), (2, .int p2), (3, .int p3)]) hx hb dX1_valueOfPlacing_24 hl (by decide) rfl (fun ls hl => ?_)
    refine lv_aload_n hx hb dX1_valueOfPlacing_26 rfl (lv_at hl 1 rfl) ?_
    refine lv_iload_n hx hb dX1_valueOfPlacing_27 rfl (lv_at hl 2 rfl) ?_
    refine lv_iload_n hx hb dX1_valueOfPlacing_28 rfl (lv_at hl 3 rfl) ?_
    refine gWVv (S := SB) (As := [.int p1, .int p2]) (rest := []) (wc := wB kI o0_b o0_pr w1) (wr := []) (cs1 := (fun zz : SB => wB kI o0_b o0_pr zz)) (ws2 := (fun zz : SB => wB kI o0_b o0_pr zz)) ⟨hx, hb, hml, hown, hts⟩ (fun sz => kX0_lift l D kI kC kG kJ o0_b o0_pr sz w1 p1 p2 _ hw) (cwV 2 hts gX1_valueOfPlacing_X0_lift rfl rfl rfl hdX0_lift ⟨Nat.le_of_ble_eq_true rfl, Nat.le_of_ble_eq_true rfl⟩) hK hP hD hE hS hA [0, 1] [] rfl rfl rfl rfl (by decide) [0, 1] rfl (fun _ => rfl) (ci := 0) (q0 := 0) rfl rfl rfl rfl hl.1 rfl (Nat.le_of_ble_eq_true rfl) dX1_valueOfPlacing_29 ⟨Nat.le_of_ble_eq_true rfl, Nat.le_of_ble_eq_true rfl⟩ (fun w6 H locs hw hP hD hS => ?_)
    have hP : va_P D vwCl (wB kI o0_b o0_pr w6) H := hP
    have hD : va_D A (wB kI o0_b o0_pr w6) := hD
    refine lv_iload hx hb dX1_valueOfPlacing_32 (lv_at hl 0 rfl) ?_
    exact W.iret (v := 1) hx hb hr (fun t ht hW => ⟨⟨1, w6, rfl, hw, by rw [ht]; exact hP, va_K.moved hW.alike hK, hD⟩, hS.F ht⟩) hS.2.2 dX1_valueOfPlacing_34
set_option maxHeartbeats 4000000 in
set_option maxRecDepth 100000 in
theorem kX1_valueToPlacer_2 (l : Launch) (D : va_G) (kI kC kG kJ : ClassId) (o0_b o0_pr : Nat) (sz : Nat) (w0 : SB) (p1 : Int32) (p2 : Int32) (Z : Int32 → SB → Prop) (hw : qP2 p1 p2 w0 Z) : Met l yX1_valueToPlacer wsX1_valueToPlacer ({ frames := 6, cells := 0, slots := 0, locals := 140 } : Room) (gPw D (gT kI kC kG kJ) [.ref o0_b, .int p1, .int p2] (wB kI o0_b o0_pr w0) sz) (va_Qi Z (gB D (gT kI kC kG kJ) (fun (zz : SB) => wB kI o0_b o0_pr zz) (va_A (wB kI o0_b o0_pr w0) sz)) (va_A (wB kI o0_b o0_pr w0) sz)) 0 0 (va_A (wB kI o0_b o0_pr w0) sz) := by
  refine Met.ofW (cc := cX1_valueToPlacer) (maxL := 5) (ret := (some .int)) (by decide) rfl ?_
  intro p e s m args below meth c s₁ B hml hv
  obtain ⟨rfl, hsz, hP, hK, hD0, hE⟩ := hv
  have hx := B.exec
  have hb := B.bytes
  have hr := B.returns
  have hts := atoms_spec (ws := wsX1_valueToPlacer) B.pre
  have hown : s.vm.findClass RX1 = some m.cls := findClass_of_methodNamed B.named
  have hlocks := B.notSynchronized
  subst hsz
  have hD := hD0.self (sz := s.heap.size)
  generalize hAe : va_A (wB kI o0_b o0_pr w0) s.heap.size = A at hD hE ⊢
  have hA : ∀ q : Nat, s.heap.size ≤ q → A q := fun q h => by rw [← hAe]; exact Or.inr h
  have hS : va_S A s.heap s.heap [] := va_S.rf
  clear hAe hD0
  have hl := lv_entry ([.ref o0_b, .int p1, .int p2]) (n := 5) (Nat.le_of_ble_eq_true rfl)
  rw [lg_entry_eq]
  generalize (lg_sl ([.ref o0_b, .int p1, .int p2]) ++ List.replicate (5 - (lg_sl ([.ref o0_b, .int p1, .int p2])).length) Slot.unset).toArray = ls at hl ⊢
  have hl : lv_has ls 5 [(0, .ref o0_b), (1, .int p1), (2, .int p2)] := hl
  have hP : va_P D vwCl (wB kI o0_b o0_pr w0) s.heap := hP
  have L16 : ∀ (v1 : Int32) (v2 : Int32), ∀ (n : Nat), ∀ (v3 : Int32) (v4 : Int32) (w0 : SB) (H : Heap) (locs : List Loc) (ls : Array Slot), va_P D vwCl (wB kI o0_b o0_pr w0) H → va_D A (wB kI o0_b o0_pr w0) → va_S A s.heap H locs → lv_has ls 5 [(0, .ref o0_b), (1, .int v1), (2, .int v2), (3, .int v3), (4, .int v4)] → pX1_valueToPlacer_16 qV2 Z v1 v2 n v3 v4 w0 → W p l e (headSpec wsX1_valueToPlacer ({ frames := 6, cells := 0, slots := 0, locals := 140 } : Room)).room s m ([.ref o0_b, .int p1, .int p2] : List Value).toArray below meth c H locs 0 0 (MQ below (va_Qi Z (gB D (gT kI kC kG kJ) (fun (zz : SB) => wB kI o0_b o0_pr zz) A) A) ([.ref o0_b, .int p1, .int p2] : List Value).toArray s 0 0 A) (F0 m 16 ls []) := by
    intro v1 v2 n
    induction n with
    | zero => intro v3 v4 w0 H locs ls hP hD hS hl hw; exact hw.elim
    | succ n ih =>
    intro v3 v4 w0 H locs ls hP hD hS hl hw
    rw [pX1_valueToPlacer_16] at hw
    refine lv_iload hx hb dX1_valueToPlacer_16 (lv_at hl 4 rfl) ?_
    refine lv_bipush (v := 16) hx hb dX1_valueToPlacer_18 (by decide) ?_
    refine lv_icmp_ge (tgt := 56) hx hb dX1_valueToPlacer_20 (by decide) (fun c3 => ?_) (fun c3 => ?_)
    · replace hw := Eq.mp (if_pos c3) hw
      refine lv_iload_n hx hb dX1_valueToPlacer_56 rfl (lv_at hl 3 rfl) ?_
      exact W.iret (v := v3) hx hb hr (fun t ht hW => ⟨⟨v3, w0, rfl, hw, by rw [ht]; exact hP, va_K.moved hW.alike hK, hD⟩, hS.F ht⟩) hS.2.2 dX1_valueToPlacer_57
    · replace hw := Eq.mp (if_neg c3) hw
      refine lv_iload_n hx hb dX1_valueToPlacer_23 rfl (lv_at hl 3 rfl) ?_
      refine lv_iconst (v := 1) hx hb dX1_valueToPlacer_24 (by decide) ?_
      refine lv_icmp_eq (tgt := 56) hx hb dX1_valueToPlacer_25 (by decide) (fun c4 => ?_) (fun c4 => ?_)
      · replace hw := Eq.mp (if_pos c4) hw
        refine lv_iload_n hx hb dX1_valueToPlacer_56 rfl (lv_at hl 3 rfl) ?_
        exact W.iret (v := v3) hx hb hr (fun t ht hW => ⟨⟨v3, w0, rfl, hw, by rw [ht]; exact hP, va_K.moved hW.alike hK, hD⟩, hS.F ht⟩) hS.2.2 dX1_valueToPlacer_57
      · replace hw := Eq.mp (if_neg c4) hw
        refine lv_aload_n hx hb dX1_valueToPlacer_28 rfl (lv_at hl 0 rfl) ?_
        refine lv_iload hx hb dX1_valueToPlacer_29 (lv_at hl 4 rfl) ?_
        refine gVi (As := [.int v4]) (rest := []) (cs' := wB kI o0_b o0_pr w0) ⟨hx, hb, hml, hown, hts⟩ (kX0_isEmpty l D kI kC kG kJ o0_b o0_pr w0 v4 _ hw) (cwV 1 hts gX1_valueToPlacer_X0_isEmpty rfl rfl rfl hdX0_isEmpty ⟨Nat.le_of_ble_eq_true rfl, Nat.le_of_ble_eq_true rfl⟩) hK hP hE hS [0, 1] rfl (ci := 0) (q0 := 0) rfl rfl rfl rfl hl.1 rfl (Nat.le_of_ble_eq_true rfl) dX1_valueToPlacer_31 ⟨Nat.le_of_ble_eq_true rfl, Nat.le_of_ble_eq_true rfl⟩ (fun r5 hw => ?_)
        refine lv_if_eq (tgt := 50) hx hb dX1_valueToPlacer_34 (by decide) (fun c6 => ?_) (fun c6 => ?_)
        · replace hw := Eq.mp (if_pos c6) hw
          obtain ⟨x7, ex7⟩ : ∃ y : Int32, y = (v4 + 1) := ⟨_, rfl⟩
          replace hw := hw x7 ex7
          refine lv_iinc (v := x7) (lv' := [(4, .int x7), (0, .ref o0_b), (1, .int v1), (2, .int v2), (3, .int v3)]) hx hb dX1_valueToPlacer_50 hl (k := 4) rfl (by rw [ex7]; rfl) (by decide) rfl (fun ls hl => ?_)
          refine lv_goto (tgt := 16) hx hb dX1_valueToPlacer_53 (by decide) ?_
          exact ih v3 x7 w0 H locs ls hP hD hS (lv_sub hl [1, 2, 3, 4, 0] rfl) hw
        · replace hw := Eq.mp (if_neg c6) hw
          refine lv_iload_n hx hb dX1_valueToPlacer_37 rfl (lv_at hl 3 rfl) ?_
          refine lv_aload_n hx hb dX1_valueToPlacer_38 rfl (lv_at hl 0 rfl) ?_
          refine lv_iload_n hx hb dX1_valueToPlacer_39 rfl (lv_at hl 1 rfl) ?_
          refine lv_iload hx hb dX1_valueToPlacer_40 (lv_at hl 4 rfl) ?_
          refine lv_iload_n hx hb dX1_valueToPlacer_42 rfl (lv_at hl 2 rfl) ?_
          refine gWSi (S := SB) (As := [.ref o0_b, .int v1, .int v4, .int v2]) (rest := [.int v3]) (wc := wB kI o0_b o0_pr w0) (wr := []) (cs1 := (fun zz : SB => wB kI o0_b o0_pr zz)) (ws2 := (fun zz : SB => wB kI o0_b o0_pr zz)) ⟨hx, hb, hml, hown, hts⟩ (fun sz => kX1_valueOfPlacing_2 l D kI kC kG kJ o0_b o0_pr sz w0 v1 v4 v2 _ hw) (va_cwS 4 hts gX1_valueToPlacer_X1_valueOfPlacing rfl rfl rfl hdX1_valueOfPlacing ⟨Nat.le_of_ble_eq_true rfl, Nat.le_of_ble_eq_true rfl⟩) hK hP hD hE hS hA [0, 1] [] rfl rfl rfl rfl (by decide) [0, 1] rfl (fun _ => rfl) rfl hl.1 rfl (Nat.le_of_ble_eq_true rfl) dX1_valueToPlacer_43 ⟨Nat.le_of_ble_eq_true rfl, Nat.le_of_ble_eq_true rfl⟩ (fun r8 w8 H locs hw hP hD hS => ?_)
          have hP : va_P D vwCl (wB kI o0_b o0_pr w8) H := hP
          have hD : va_D A (wB kI o0_b o0_pr w8) := hD
          refine va_mmax hx hb (hml.trans hl.1.symm) hown (hts (.methodLink RX1 60 Lib.Math.max.name) (List.mem_of_getElem? (i := 1) rfl)) (hts (.static Lib.Math.max.name) (List.mem_of_getElem? (i := 2) rfl)) (hts (.initialized "java/lang/Math") (List.mem_of_getElem? (i := 3) rfl)) (hts (.code Lib.Math.max.name Lib.Math.max.code 2 (some .int)) (List.mem_of_getElem? (i := 4) rfl)) (Nat.le_of_ble_eq_true rfl) (Nat.le_of_ble_eq_true rfl) (Nat.le_of_ble_eq_true rfl) (Nat.le_of_ble_eq_true rfl) dX1_valueToPlacer_46 ?_
          refine lv_topi (fun x9 ex9 => ?_)
          replace hw := hw x9 ex9
          refine lv_istore_n (lv' := [(3, .int x9), (0, .ref o0_b), (1, .int v1), (2, .int v2), (4, .int v4)]) hx hb dX1_valueToPlacer_49 rfl hl (by decide) rfl (fun ls hl => ?_)
          obtain ⟨x10, ex10⟩ : ∃ y : Int32, y = (v4 + 1) := ⟨_, rfl⟩
          replace hw := hw x10 ex10
          refine lv_iinc (v := x10) (lv' := [(4, .int x10), (3, .int x9), (0, .ref o0_b), (1, .int v1), (2, .int v2)]) hx hb dX1_valueToPlacer_50 hl (k := 4) rfl (by rw [ex10]; rfl) (by decide) rfl (fun ls hl => ?_)
          refine lv_goto (tgt := 16) hx hb dX1_valueToPlacer_53 (by decide) ?_
          exact ih x9 x10 w8 H locs ls hP hD hS (lv_sub hl [2, 3, 4, 1, 0] rfl) hw
  have hw : pX1_valueToPlacer qV2 p1 p2 w0 Z := hw
  unfold pX1_valueToPlacer at hw
  refine lv_iload_n hx hb dX1_valueToPlacer_0 rfl (lv_at hl 2 rfl) ?_
  refine lv_if_le (tgt := 9) hx hb dX1_valueToPlacer_1 (by decide) (fun c1 => ?_) (fun c1 => ?_)
  · replace hw := Eq.mp (if_pos c1) hw
    refine lv_iconst (v := 0) hx hb dX1_valueToPlacer_9 (by decide) ?_
    exact W.iret (v := 0) hx hb hr (fun t ht hW => ⟨⟨0, w0, rfl, hw, by rw [ht]; exact hP, va_K.moved hW.alike hK, hD⟩, hS.F ht⟩) hS.2.2 dX1_valueToPlacer_10
  · replace hw := Eq.mp (if_neg c1) hw
    refine lv_iload_n hx hb dX1_valueToPlacer_4 rfl (lv_at hl 2 rfl) ?_
    refine lv_iconst (v := 4) hx hb dX1_valueToPlacer_5 (by decide) ?_
    refine lv_icmp_le (tgt := 11) hx hb dX1_valueToPlacer_6 (by decide) (fun c2 => ?_) (fun c2 => ?_)
    · replace hw := Eq.mp (if_pos c2) hw
      refine lv_iconst (v := (-1)) hx hb dX1_valueToPlacer_11 (by decide) ?_
      refine lv_istore_n (lv' := [(3, .int (-1)), (0, .ref o0_b), (1, .int p1), (2, .int p2)]) hx hb dX1_valueToPlacer_12 rfl hl (by decide) rfl (fun ls hl => ?_)
      refine lv_iconst (v := 0) hx hb dX1_valueToPlacer_13 (by decide) ?_
      refine lv_istore (lv' := [(4, .int 0), (3, .int (-1)), (0, .ref o0_b), (1, .int p1), (2, .int p2)]) hx hb dX1_valueToPlacer_14 hl (by decide) rfl (fun ls hl => ?_)
      obtain ⟨n9, hw⟩ := hw
      exact L16 p1 p2 n9 (-1) 0 w0 s.heap [] ls hP hD hS (lv_sub hl [2, 3, 4, 1, 0] rfl) hw
    · replace hw := Eq.mp (if_neg c2) hw
      refine lv_iconst (v := 0) hx hb dX1_valueToPlacer_9 (by decide) ?_
      exact W.iret (v := 0) hx hb hr (fun t ht hW => ⟨⟨0, w0, rfl, hw, by rw [ht]; exact hP, va_K.moved hW.alike hK, hD⟩, hS.F ht⟩) hS.2.2 dX1_valueToPlacer_10
set_option maxHeartbeats 4000000 in
set_option maxRecDepth 100000 in
theorem kX1_valueToGiver_2 (l : Launch) (D : va_G) (kI kC kG kJ : ClassId) (o0_b o0_pr : Nat) (sz : Nat) (w0 : SB) (p1 : Int32) (Z : Int32 → SB → Prop) (hw : qG2 p1 w0 Z) : Met l yX1_valueToGiver wsX1_valueToGiver ({ frames := 7, cells := 0, slots := 0, locals := 164 } : Room) (gPw D (gT kI kC kG kJ) [.ref o0_b, .int p1] (wB kI o0_b o0_pr w0) sz) (va_Qi Z (gB D (gT kI kC kG kJ) (fun (zz : SB) => wB kI o0_b o0_pr zz) (va_A (wB kI o0_b o0_pr w0) sz)) (va_A (wB kI o0_b o0_pr w0) sz)) 0 0 (va_A (wB kI o0_b o0_pr w0) sz) := by
  refine Met.ofW (cc := cX1_valueToGiver) (maxL := 4) (ret := (some .int)) (by decide) rfl ?_
  intro p e s m args below meth c s₁ B hml hv
  obtain ⟨rfl, hsz, hP, hK, hD0, hE⟩ := hv
  have hx := B.exec
  have hb := B.bytes
  have hr := B.returns
  have hts := atoms_spec (ws := wsX1_valueToGiver) B.pre
  have hown : s.vm.findClass RX1 = some m.cls := findClass_of_methodNamed B.named
  have hlocks := B.notSynchronized
  subst hsz
  have hD := hD0.self (sz := s.heap.size)
  generalize hAe : va_A (wB kI o0_b o0_pr w0) s.heap.size = A at hD hE ⊢
  have hA : ∀ q : Nat, s.heap.size ≤ q → A q := fun q h => by rw [← hAe]; exact Or.inr h
  have hS : va_S A s.heap s.heap [] := va_S.rf
  clear hAe hD0
  have hl := lv_entry ([.ref o0_b, .int p1]) (n := 4) (Nat.le_of_ble_eq_true rfl)
  rw [lg_entry_eq]
  generalize (lg_sl ([.ref o0_b, .int p1]) ++ List.replicate (4 - (lg_sl ([.ref o0_b, .int p1])).length) Slot.unset).toArray = ls at hl ⊢
  have hl : lv_has ls 4 [(0, .ref o0_b), (1, .int p1)] := hl
  have hP : va_P D vwCl (wB kI o0_b o0_pr w0) s.heap := hP
  have L15 : ∀ (v1 : Int32), ∀ (n : Nat), ∀ (v2 : Int32) (v3 : Int32) (w0 : SB) (H : Heap) (locs : List Loc) (ls : Array Slot), va_P D vwCl (wB kI o0_b o0_pr w0) H → va_D A (wB kI o0_b o0_pr w0) → va_S A s.heap H locs → lv_has ls 4 [(0, .ref o0_b), (1, .int v1), (2, .int v2), (3, .int v3)] → pX1_valueToGiver_15 qP2 Z v1 n v2 v3 w0 → W p l e (headSpec wsX1_valueToGiver ({ frames := 7, cells := 0, slots := 0, locals := 164 } : Room)).room s m ([.ref o0_b, .int p1] : List Value).toArray below meth c H locs 0 0 (MQ below (va_Qi Z (gB D (gT kI kC kG kJ) (fun (zz : SB) => wB kI o0_b o0_pr zz) A) A) ([.ref o0_b, .int p1] : List Value).toArray s 0 0 A) (F0 m 15 ls []) := by
    intro v1 n
    induction n with
    | zero => intro v2 v3 w0 H locs ls hP hD hS hl hw; exact hw.elim
    | succ n ih =>
    intro v2 v3 w0 H locs ls hP hD hS hl hw
    rw [pX1_valueToGiver_15] at hw
    refine lv_iload_n hx hb dX1_valueToGiver_15 rfl (lv_at hl 3 rfl) ?_
    refine lv_bipush (v := 16) hx hb dX1_valueToGiver_16 (by decide) ?_
    refine lv_icmp_ge (tgt := 52) hx hb dX1_valueToGiver_18 (by decide) (fun c3 => ?_) (fun c3 => ?_)
    · replace hw := Eq.mp (if_pos c3) hw
      refine lv_iload_n hx hb dX1_valueToGiver_52 rfl (lv_at hl 2 rfl) ?_
      exact W.iret (v := v2) hx hb hr (fun t ht hW => ⟨⟨v2, w0, rfl, hw, by rw [ht]; exact hP, va_K.moved hW.alike hK, hD⟩, hS.F ht⟩) hS.2.2 dX1_valueToGiver_53
    · replace hw := Eq.mp (if_neg c3) hw
      refine lv_iload_n hx hb dX1_valueToGiver_21 rfl (lv_at hl 2 rfl) ?_
      refine lv_iconst (v := 1) hx hb dX1_valueToGiver_22 (by decide) ?_
      refine lv_icmp_eq (tgt := 52) hx hb dX1_valueToGiver_23 (by decide) (fun c4 => ?_) (fun c4 => ?_)
      · replace hw := Eq.mp (if_pos c4) hw
        refine lv_iload_n hx hb dX1_valueToGiver_52 rfl (lv_at hl 2 rfl) ?_
        exact W.iret (v := v2) hx hb hr (fun t ht hW => ⟨⟨v2, w0, rfl, hw, by rw [ht]; exact hP, va_K.moved hW.alike hK, hD⟩, hS.F ht⟩) hS.2.2 dX1_valueToGiver_53
      · replace hw := Eq.mp (if_neg c4) hw
        refine lv_aload_n hx hb dX1_valueToGiver_26 rfl (lv_at hl 0 rfl) ?_
        refine lv_iload_n hx hb dX1_valueToGiver_27 rfl (lv_at hl 3 rfl) ?_
        refine gVi (As := [.int v3]) (rest := []) (cs' := wB kI o0_b o0_pr w0) ⟨hx, hb, hml, hown, hts⟩ (kX0_holds l D kI kC kG kJ o0_b o0_pr w0 v3 _ hw) (cwV 1 hts gX1_valueToGiver_X0_holds rfl rfl rfl hdX0_holds ⟨Nat.le_of_ble_eq_true rfl, Nat.le_of_ble_eq_true rfl⟩) hK hP hE hS [0, 1] rfl (ci := 0) (q0 := 0) rfl rfl rfl rfl hl.1 rfl (Nat.le_of_ble_eq_true rfl) dX1_valueToGiver_28 ⟨Nat.le_of_ble_eq_true rfl, Nat.le_of_ble_eq_true rfl⟩ (fun r5 hw => ?_)
        refine lv_if_ne (tgt := 46) hx hb dX1_valueToGiver_31 (by decide) (fun c6 => ?_) (fun c6 => ?_)
        · replace hw := Eq.mp (if_neg c6) hw
          obtain ⟨x7, ex7⟩ : ∃ y : Int32, y = (v3 + 1) := ⟨_, rfl⟩
          replace hw := hw x7 ex7
          refine lv_iinc (v := x7) (lv' := [(3, .int x7), (0, .ref o0_b), (1, .int v1), (2, .int v2)]) hx hb dX1_valueToGiver_46 hl (k := 3) rfl (by rw [ex7]; rfl) (by decide) rfl (fun ls hl => ?_)
          refine lv_goto (tgt := 15) hx hb dX1_valueToGiver_49 (by decide) ?_
          exact ih v2 x7 w0 H locs ls hP hD hS (lv_sub hl [1, 2, 3, 0] rfl) hw
        · replace hw := Eq.mp (if_pos c6) hw
          refine lv_iload_n hx hb dX1_valueToGiver_34 rfl (lv_at hl 2 rfl) ?_
          refine lv_aload_n hx hb dX1_valueToGiver_35 rfl (lv_at hl 0 rfl) ?_
          refine lv_iload_n hx hb dX1_valueToGiver_36 rfl (lv_at hl 3 rfl) ?_
          refine lv_iload_n hx hb dX1_valueToGiver_37 rfl (lv_at hl 1 rfl) ?_
          refine gWSi (S := SB) (As := [.ref o0_b, .int v3, .int v1]) (rest := [.int v2]) (wc := wB kI o0_b o0_pr w0) (wr := []) (cs1 := (fun zz : SB => wB kI o0_b o0_pr zz)) (ws2 := (fun zz : SB => wB kI o0_b o0_pr zz)) ⟨hx, hb, hml, hown, hts⟩ (fun sz => kX1_valueToPlacer_2 l D kI kC kG kJ o0_b o0_pr sz w0 v3 v1 _ hw) (va_cwS 3 hts gX1_valueToGiver_X1_valueToPlacer rfl rfl rfl hdX1_valueToPlacer ⟨Nat.le_of_ble_eq_true rfl, Nat.le_of_ble_eq_true rfl⟩) hK hP hD hE hS hA [0, 1] [] rfl rfl rfl rfl (by decide) [0, 1] rfl (fun _ => rfl) rfl hl.1 rfl (Nat.le_of_ble_eq_true rfl) dX1_valueToGiver_38 ⟨Nat.le_of_ble_eq_true rfl, Nat.le_of_ble_eq_true rfl⟩ (fun r8 w8 H locs hw hP hD hS => ?_)
          have hP : va_P D vwCl (wB kI o0_b o0_pr w8) H := hP
          have hD : va_D A (wB kI o0_b o0_pr w8) := hD
          refine lv_ineg hx hb dX1_valueToGiver_41 ?_
          refine va_mmax hx hb (hml.trans hl.1.symm) hown (hts (.methodLink RX1 60 Lib.Math.max.name) (List.mem_of_getElem? (i := 1) rfl)) (hts (.static Lib.Math.max.name) (List.mem_of_getElem? (i := 2) rfl)) (hts (.initialized "java/lang/Math") (List.mem_of_getElem? (i := 3) rfl)) (hts (.code Lib.Math.max.name Lib.Math.max.code 2 (some .int)) (List.mem_of_getElem? (i := 4) rfl)) (Nat.le_of_ble_eq_true rfl) (Nat.le_of_ble_eq_true rfl) (Nat.le_of_ble_eq_true rfl) (Nat.le_of_ble_eq_true rfl) dX1_valueToGiver_42 ?_
          refine lv_topi (fun x9 ex9 => ?_)
          replace hw := hw x9 ex9
          refine lv_istore_n (lv' := [(2, .int x9), (0, .ref o0_b), (1, .int v1), (3, .int v3)]) hx hb dX1_valueToGiver_45 rfl hl (by decide) rfl (fun ls hl => ?_)
          obtain ⟨x10, ex10⟩ : ∃ y : Int32, y = (v3 + 1) := ⟨_, rfl⟩
          replace hw := hw x10 ex10
          refine lv_iinc (v := x10) (lv' := [(3, .int x10), (2, .int x9), (0, .ref o0_b), (1, .int v1)]) hx hb dX1_valueToGiver_46 hl (k := 3) rfl (by rw [ex10]; rfl) (by decide) rfl (fun ls hl => ?_)
          refine lv_goto (tgt := 15) hx hb dX1_valueToGiver_49 (by decide) ?_
          exact ih x9 x10 w8 H locs ls hP hD hS (lv_sub hl [2, 3, 1, 0] rfl) hw
  have hw : pX1_valueToGiver qP2 p1 w0 Z := hw
  unfold pX1_valueToGiver at hw
  refine lv_iload_n hx hb dX1_valueToGiver_0 rfl (lv_at hl 1 rfl) ?_
  refine lv_if_le (tgt := 9) hx hb dX1_valueToGiver_1 (by decide) (fun c1 => ?_) (fun c1 => ?_)
  · replace hw := Eq.mp (if_pos c1) hw
    refine lv_iconst (v := 0) hx hb dX1_valueToGiver_9 (by decide) ?_
    exact W.iret (v := 0) hx hb hr (fun t ht hW => ⟨⟨0, w0, rfl, hw, by rw [ht]; exact hP, va_K.moved hW.alike hK, hD⟩, hS.F ht⟩) hS.2.2 dX1_valueToGiver_10
  · replace hw := Eq.mp (if_neg c1) hw
    refine lv_iload_n hx hb dX1_valueToGiver_4 rfl (lv_at hl 1 rfl) ?_
    refine lv_iconst (v := 4) hx hb dX1_valueToGiver_5 (by decide) ?_
    refine lv_icmp_le (tgt := 11) hx hb dX1_valueToGiver_6 (by decide) (fun c2 => ?_) (fun c2 => ?_)
    · replace hw := Eq.mp (if_pos c2) hw
      refine lv_iconst (v := (-1)) hx hb dX1_valueToGiver_11 (by decide) ?_
      refine lv_istore_n (lv' := [(2, .int (-1)), (0, .ref o0_b), (1, .int p1)]) hx hb dX1_valueToGiver_12 rfl hl (by decide) rfl (fun ls hl => ?_)
      refine lv_iconst (v := 0) hx hb dX1_valueToGiver_13 (by decide) ?_
      refine lv_istore_n (lv' := [(3, .int 0), (2, .int (-1)), (0, .ref o0_b), (1, .int p1)]) hx hb dX1_valueToGiver_14 rfl hl (by decide) rfl (fun ls hl => ?_)
      obtain ⟨n9, hw⟩ := hw
      exact L15 p1 n9 (-1) 0 w0 s.heap [] ls hP hD hS (lv_sub hl [2, 3, 1, 0] rfl) hw
    · replace hw := Eq.mp (if_neg c2) hw
      refine lv_iconst (v := 0) hx hb dX1_valueToGiver_9 (by decide) ?_
      exact W.iret (v := 0) hx hb hr (fun t ht hW => ⟨⟨0, w0, rfl, hw, by rw [ht]; exact hP, va_K.moved hW.alike hK, hD⟩, hS.F ht⟩) hS.2.2 dX1_valueToGiver_10
set_option maxHeartbeats 4000000 in
set_option maxRecDepth 100000 in
theorem kX1_valueOfPlacing_3 (l : Launch) (D : va_G) (kI kC kG kJ : ClassId) (o0_b o0_pr : Nat) (sz : Nat) (w0 : SB) (p1 : Int32) (p2 : Int32) (p3 : Int32) (Z : Int32 → SB → Prop) (hw : qV3 p1 p2 p3 w0 Z) : Met l yX1_valueOfPlacing wsX1_valueOfPlacing ({ frames := 8, cells := 0, slots := 0, locals := 187 } : Room) (gPw D (gT kI kC kG kJ) [.ref o0_b, .int p1, .int p2, .int p3] (wB kI o0_b o0_pr w0) sz) (va_Qi Z (gB D (gT kI kC kG kJ) (fun (zz : SB) => wB kI o0_b o0_pr zz) (va_A (wB kI o0_b o0_pr w0) sz)) (va_A (wB kI o0_b o0_pr w0) sz)) 0 0 (va_A (wB kI o0_b o0_pr w0) sz) := by
  refine Met.ofW (cc := cX1_valueOfPlacing) (maxL := 5) (ret := (some .int)) (by decide) rfl ?_
  intro p e s m args below meth c s₁ B hml hv
  obtain ⟨rfl, hsz, hP, hK, hD0, hE⟩ := hv
  have hx := B.exec
  have hb := B.bytes
  have hr := B.returns
  have hts := atoms_spec (ws := wsX1_valueOfPlacing) B.pre
  have hown : s.vm.findClass RX1 = some m.cls := findClass_of_methodNamed B.named
  have hlocks := B.notSynchronized
  subst hsz
  have hD := hD0.self (sz := s.heap.size)
  generalize hAe : va_A (wB kI o0_b o0_pr w0) s.heap.size = A at hD hE ⊢
  have hA : ∀ q : Nat, s.heap.size ≤ q → A q := fun q h => by rw [← hAe]; exact Or.inr h
  have hS : va_S A s.heap s.heap [] := va_S.rf
  clear hAe hD0
  have hl := lv_entry ([.ref o0_b, .int p1, .int p2, .int p3]) (n := 5) (Nat.le_of_ble_eq_true rfl)
  rw [lg_entry_eq]
  generalize (lg_sl ([.ref o0_b, .int p1, .int p2, .int p3]) ++ List.replicate (5 - (lg_sl ([.ref o0_b, .int p1, .int p2, .int p3])).length) Slot.unset).toArray = ls at hl ⊢
  have hl : lv_has ls 5 [(0, .ref o0_b), (1, .int p1), (2, .int p2), (3, .int p3)] := hl
  have hP : va_P D vwCl (wB kI o0_b o0_pr w0) s.heap := hP
  have hw : pX1_valueOfPlacing qG2 p1 p2 p3 w0 Z := hw
  unfold pX1_valueOfPlacing at hw
  refine lv_aload_n hx hb dX1_valueOfPlacing_0 rfl (lv_at hl 0 rfl) ?_
  refine lv_iload_n hx hb dX1_valueOfPlacing_1 rfl (lv_at hl 1 rfl) ?_
  refine lv_iload_n hx hb dX1_valueOfPlacing_2 rfl (lv_at hl 2 rfl) ?_
  refine gWVv (S := SB) (As := [.int p1, .int p2]) (rest := []) (wc := wB kI o0_b o0_pr w0) (wr := []) (cs1 := (fun zz : SB => wB kI o0_b o0_pr zz)) (ws2 := (fun zz : SB => wB kI o0_b o0_pr zz)) ⟨hx, hb, hml, hown, hts⟩ (fun sz => kX0_put l D kI kC kG kJ o0_b o0_pr sz w0 p1 p2 _ hw) (cwV 2 hts gX1_valueOfPlacing_X0_put rfl rfl rfl hdX0_put ⟨Nat.le_of_ble_eq_true rfl, Nat.le_of_ble_eq_true rfl⟩) hK hP hD hE hS hA [0, 1] [] rfl rfl rfl rfl (by decide) [0, 1] rfl (fun _ => rfl) (ci := 0) (q0 := 0) rfl rfl rfl rfl hl.1 rfl (Nat.le_of_ble_eq_true rfl) dX1_valueOfPlacing_3 ⟨Nat.le_of_ble_eq_true rfl, Nat.le_of_ble_eq_true rfl⟩ (fun w1 H locs hw hP hD hS => ?_)
  have hP : va_P D vwCl (wB kI o0_b o0_pr w1) H := hP
  have hD : va_D A (wB kI o0_b o0_pr w1) := hD
  refine lv_aload_n hx hb dX1_valueOfPlacing_6 rfl (lv_at hl 0 rfl) ?_
  refine gVi (As := []) (rest := []) (cs' := wB kI o0_b o0_pr w1) ⟨hx, hb, hml, hown, hts⟩ (kX0_hasWonLine l D kI kC kG kJ o0_b o0_pr w1 _ hw) (cwV 0 hts gX1_valueOfPlacing_X0_hasWonLine rfl rfl rfl hdX0_hasWonLine ⟨Nat.le_of_ble_eq_true rfl, Nat.le_of_ble_eq_true rfl⟩) hK hP hE hS [0, 1] rfl (ci := 0) (q0 := 0) rfl rfl rfl rfl hl.1 rfl (Nat.le_of_ble_eq_true rfl) dX1_valueOfPlacing_7 ⟨Nat.le_of_ble_eq_true rfl, Nat.le_of_ble_eq_true rfl⟩ (fun r2 hw => ?_)
  refine lv_if_eq (tgt := 17) hx hb dX1_valueOfPlacing_10 (by decide) (fun c3 => ?_) (fun c3 => ?_)
  · replace hw := Eq.mp (if_pos c3) hw
    refine lv_aload_n hx hb dX1_valueOfPlacing_17 rfl (lv_at hl 0 rfl) ?_
    refine lv_iload_n hx hb dX1_valueOfPlacing_18 rfl (lv_at hl 3 rfl) ?_
    refine lv_iconst (v := 1) hx hb dX1_valueOfPlacing_19 (by decide) ?_
    refine lv_isub hx hb dX1_valueOfPlacing_20 ?_
    refine gWSi (S := SB) (As := [.ref o0_b, .int (p3 - 1)]) (rest := []) (wc := wB kI o0_b o0_pr w1) (wr := []) (cs1 := (fun zz : SB => wB kI o0_b o0_pr zz)) (ws2 := (fun zz : SB => wB kI o0_b o0_pr zz)) ⟨hx, hb, hml, hown, hts⟩ (fun sz => kX1_valueToGiver_2 l D kI kC kG kJ o0_b o0_pr sz w1 (p3 - 1) _ hw) (va_cwS 2 hts gX1_valueOfPlacing_X1_valueToGiver rfl rfl rfl hdX1_valueToGiver ⟨Nat.le_of_ble_eq_true rfl, Nat.le_of_ble_eq_true rfl⟩) hK hP hD hE hS hA [0, 1] [] rfl rfl rfl rfl (by decide) [0, 1] rfl (fun _ => rfl) rfl hl.1 rfl (Nat.le_of_ble_eq_true rfl) dX1_valueOfPlacing_21 ⟨Nat.le_of_ble_eq_true rfl, Nat.le_of_ble_eq_true rfl⟩ (fun r4 w4 H locs hw hP hD hS => ?_)
    have hP : va_P D vwCl (wB kI o0_b o0_pr w4) H := hP
    have hD : va_D A (wB kI o0_b o0_pr w4) := hD
    refine lv_istore (lv' := [(4, .int r4), (0, .ref o0_b), (1, .int p1), (2, .int p2), (3, .int p3)]) hx hb dX1_valueOfPlacing_24 hl (by decide) rfl (fun ls hl => ?_)
    refine lv_aload_n hx hb dX1_valueOfPlacing_26 rfl (lv_at hl 1 rfl) ?_
    refine lv_iload_n hx hb dX1_valueOfPlacing_27 rfl (lv_at hl 2 rfl) ?_
    refine lv_iload_n hx hb dX1_valueOfPlacing_28 rfl (lv_at hl 3 rfl) ?_
    refine gWVv (S := SB) (As := [.int p1, .int p2]) (rest := []) (wc := wB kI o0_b o0_pr w4) (wr := []) (cs1 := (fun zz : SB => wB kI o0_b o0_pr zz)) (ws2 := (fun zz : SB => wB kI o0_b o0_pr zz)) ⟨hx, hb, hml, hown, hts⟩ (fun sz => kX0_lift l D kI kC kG kJ o0_b o0_pr sz w4 p1 p2 _ hw) (cwV 2 hts gX1_valueOfPlacing_X0_lift rfl rfl rfl hdX0_lift ⟨Nat.le_of_ble_eq_true rfl, Nat.le_of_ble_eq_true rfl⟩) hK hP hD hE hS hA [0, 1] [] rfl rfl rfl rfl (by decide) [0, 1] rfl (fun _ => rfl) (ci := 0) (q0 := 0) rfl rfl rfl rfl hl.1 rfl (Nat.le_of_ble_eq_true rfl) dX1_valueOfPlacing_29 ⟨Nat.le_of_ble_eq_true rfl, Nat.le_of_ble_eq_true rfl⟩ (fun w5 H locs hw hP hD hS => ?_)
    have hP : va_P D vwCl (wB kI o0_b o0_pr w5) H := hP
    have hD : va_D A (wB kI o0_b o0_pr w5) := hD
    refine lv_iload hx hb dX1_valueOfPlacing_32 (lv_at hl 0 rfl) ?_
    exact W.iret (v := r4) hx hb hr (fun t ht hW => ⟨⟨r4, w5, rfl, hw, by rw [ht]; exact hP, va_K.moved hW.alike hK, hD⟩, hS.F ht⟩) hS.2.2 dX1_valueOfPlacing_34
  · replace hw := Eq.mp (if_neg c3) hw
    refine lv_iconst (v := 1) hx hb dX1_valueOfPlacing_13 (by decide) ?_
    refine lv_goto (tgt := 24) hx hb dX1_valueOfPlacing_14 (by decide) ?_
    refine lv_istore (lv' := [(4, .int 1), (0, .ref o0_b), (1, .int p1), (2, .int p2), (3, .int p3)]) hx hb dX1_valueOfPlacing_24 hl (by decide) rfl (fun ls hl => ?_)
    refine lv_aload_n hx hb dX1_valueOfPlacing_26 rfl (lv_at hl 1 rfl) ?_
    refine lv_iload_n hx hb dX1_valueOfPlacing_27 rfl (lv_at hl 2 rfl) ?_
    refine lv_iload_n hx hb dX1_valueOfPlacing_28 rfl (lv_at hl 3 rfl) ?_
    refine gWVv (S := SB) (As := [.int p1, .int p2]) (rest := []) (wc := wB kI o0_b o0_pr w1) (wr := []) (cs1 := (fun zz : SB => wB kI o0_b o0_pr zz)) (ws2 := (fun zz : SB => wB kI o0_b o0_pr zz)) ⟨hx, hb, hml, hown, hts⟩ (fun sz => kX0_lift l D kI kC kG kJ o0_b o0_pr sz w1 p1 p2 _ hw) (cwV 2 hts gX1_valueOfPlacing_X0_lift rfl rfl rfl hdX0_lift ⟨Nat.le_of_ble_eq_true rfl, Nat.le_of_ble_eq_true rfl⟩) hK hP hD hE hS hA [0, 1] [] rfl rfl rfl rfl (by decide) [0, 1] rfl (fun _ => rfl) (ci := 0) (q0 := 0) rfl rfl rfl rfl hl.1 rfl (Nat.le_of_ble_eq_true rfl) dX1_valueOfPlacing_29 ⟨Nat.le_of_ble_eq_true rfl, Nat.le_of_ble_eq_true rfl⟩ (fun w6 H locs hw hP hD hS => ?_)
    have hP : va_P D vwCl (wB kI o0_b o0_pr w6) H := hP
    have hD : va_D A (wB kI o0_b o0_pr w6) := hD
    refine lv_iload hx hb dX1_valueOfPlacing_32 (lv_at hl 0 rfl) ?_
    exact W.iret (v := 1) hx hb hr (fun t ht hW => ⟨⟨1, w6, rfl, hw, by rw [ht]; exact hP, va_K.moved hW.alike hK, hD⟩, hS.F ht⟩) hS.2.2 dX1_valueOfPlacing_34
set_option maxHeartbeats 4000000 in
set_option maxRecDepth 100000 in
theorem kX1_valueToPlacer_3 (l : Launch) (D : va_G) (kI kC kG kJ : ClassId) (o0_b o0_pr : Nat) (sz : Nat) (w0 : SB) (p1 : Int32) (p2 : Int32) (Z : Int32 → SB → Prop) (hw : qP3 p1 p2 w0 Z) : Met l yX1_valueToPlacer wsX1_valueToPlacer ({ frames := 9, cells := 0, slots := 0, locals := 211 } : Room) (gPw D (gT kI kC kG kJ) [.ref o0_b, .int p1, .int p2] (wB kI o0_b o0_pr w0) sz) (va_Qi Z (gB D (gT kI kC kG kJ) (fun (zz : SB) => wB kI o0_b o0_pr zz) (va_A (wB kI o0_b o0_pr w0) sz)) (va_A (wB kI o0_b o0_pr w0) sz)) 0 0 (va_A (wB kI o0_b o0_pr w0) sz) := by
  refine Met.ofW (cc := cX1_valueToPlacer) (maxL := 5) (ret := (some .int)) (by decide) rfl ?_
  intro p e s m args below meth c s₁ B hml hv
  obtain ⟨rfl, hsz, hP, hK, hD0, hE⟩ := hv
  have hx := B.exec
  have hb := B.bytes
  have hr := B.returns
  have hts := atoms_spec (ws := wsX1_valueToPlacer) B.pre
  have hown : s.vm.findClass RX1 = some m.cls := findClass_of_methodNamed B.named
  have hlocks := B.notSynchronized
  subst hsz
  have hD := hD0.self (sz := s.heap.size)
  generalize hAe : va_A (wB kI o0_b o0_pr w0) s.heap.size = A at hD hE ⊢
  have hA : ∀ q : Nat, s.heap.size ≤ q → A q := fun q h => by rw [← hAe]; exact Or.inr h
  have hS : va_S A s.heap s.heap [] := va_S.rf
  clear hAe hD0
  have hl := lv_entry ([.ref o0_b, .int p1, .int p2]) (n := 5) (Nat.le_of_ble_eq_true rfl)
  rw [lg_entry_eq]
  generalize (lg_sl ([.ref o0_b, .int p1, .int p2]) ++ List.replicate (5 - (lg_sl ([.ref o0_b, .int p1, .int p2])).length) Slot.unset).toArray = ls at hl ⊢
  have hl : lv_has ls 5 [(0, .ref o0_b), (1, .int p1), (2, .int p2)] := hl
  have hP : va_P D vwCl (wB kI o0_b o0_pr w0) s.heap := hP
  have L16 : ∀ (v1 : Int32) (v2 : Int32), ∀ (n : Nat), ∀ (v3 : Int32) (v4 : Int32) (w0 : SB) (H : Heap) (locs : List Loc) (ls : Array Slot), va_P D vwCl (wB kI o0_b o0_pr w0) H → va_D A (wB kI o0_b o0_pr w0) → va_S A s.heap H locs → lv_has ls 5 [(0, .ref o0_b), (1, .int v1), (2, .int v2), (3, .int v3), (4, .int v4)] → pX1_valueToPlacer_16 qV3 Z v1 v2 n v3 v4 w0 → W p l e (headSpec wsX1_valueToPlacer ({ frames := 9, cells := 0, slots := 0, locals := 211 } : Room)).room s m ([.ref o0_b, .int p1, .int p2] : List Value).toArray below meth c H locs 0 0 (MQ below (va_Qi Z (gB D (gT kI kC kG kJ) (fun (zz : SB) => wB kI o0_b o0_pr zz) A) A) ([.ref o0_b, .int p1, .int p2] : List Value).toArray s 0 0 A) (F0 m 16 ls []) := by
    intro v1 v2 n
    induction n with
    | zero => intro v3 v4 w0 H locs ls hP hD hS hl hw; exact hw.elim
    | succ n ih =>
    intro v3 v4 w0 H locs ls hP hD hS hl hw
    rw [pX1_valueToPlacer_16] at hw
    refine lv_iload hx hb dX1_valueToPlacer_16 (lv_at hl 4 rfl) ?_
    refine lv_bipush (v := 16) hx hb dX1_valueToPlacer_18 (by decide) ?_
    refine lv_icmp_ge (tgt := 56) hx hb dX1_valueToPlacer_20 (by decide) (fun c3 => ?_) (fun c3 => ?_)
    · replace hw := Eq.mp (if_pos c3) hw
      refine lv_iload_n hx hb dX1_valueToPlacer_56 rfl (lv_at hl 3 rfl) ?_
      exact W.iret (v := v3) hx hb hr (fun t ht hW => ⟨⟨v3, w0, rfl, hw, by rw [ht]; exact hP, va_K.moved hW.alike hK, hD⟩, hS.F ht⟩) hS.2.2 dX1_valueToPlacer_57
    · replace hw := Eq.mp (if_neg c3) hw
      refine lv_iload_n hx hb dX1_valueToPlacer_23 rfl (lv_at hl 3 rfl) ?_
      refine lv_iconst (v := 1) hx hb dX1_valueToPlacer_24 (by decide) ?_
      refine lv_icmp_eq (tgt := 56) hx hb dX1_valueToPlacer_25 (by decide) (fun c4 => ?_) (fun c4 => ?_)
      · replace hw := Eq.mp (if_pos c4) hw
        refine lv_iload_n hx hb dX1_valueToPlacer_56 rfl (lv_at hl 3 rfl) ?_
        exact W.iret (v := v3) hx hb hr (fun t ht hW => ⟨⟨v3, w0, rfl, hw, by rw [ht]; exact hP, va_K.moved hW.alike hK, hD⟩, hS.F ht⟩) hS.2.2 dX1_valueToPlacer_57
      · replace hw := Eq.mp (if_neg c4) hw
        refine lv_aload_n hx hb dX1_valueToPlacer_28 rfl (lv_at hl 0 rfl) ?_
        refine lv_iload hx hb dX1_valueToPlacer_29 (lv_at hl 4 rfl) ?_
        refine gVi (As := [.int v4]) (rest := []) (cs' := wB kI o0_b o0_pr w0) ⟨hx, hb, hml, hown, hts⟩ (kX0_isEmpty l D kI kC kG kJ o0_b o0_pr w0 v4 _ hw) (cwV 1 hts gX1_valueToPlacer_X0_isEmpty rfl rfl rfl hdX0_isEmpty ⟨Nat.le_of_ble_eq_true rfl, Nat.le_of_ble_eq_true rfl⟩) hK hP hE hS [0, 1] rfl (ci := 0) (q0 := 0) rfl rfl rfl rfl hl.1 rfl (Nat.le_of_ble_eq_true rfl) dX1_valueToPlacer_31 ⟨Nat.le_of_ble_eq_true rfl, Nat.le_of_ble_eq_true rfl⟩ (fun r5 hw => ?_)
        refine lv_if_eq (tgt := 50) hx hb dX1_valueToPlacer_34 (by decide) (fun c6 => ?_) (fun c6 => ?_)
        · replace hw := Eq.mp (if_pos c6) hw
          obtain ⟨x7, ex7⟩ : ∃ y : Int32, y = (v4 + 1) := ⟨_, rfl⟩
          replace hw := hw x7 ex7
          refine lv_iinc (v := x7) (lv' := [(4, .int x7), (0, .ref o0_b), (1, .int v1), (2, .int v2), (3, .int v3)]) hx hb dX1_valueToPlacer_50 hl (k := 4) rfl (by rw [ex7]; rfl) (by decide) rfl (fun ls hl => ?_)
          refine lv_goto (tgt := 16) hx hb dX1_valueToPlacer_53 (by decide) ?_
          exact ih v3 x7 w0 H locs ls hP hD hS (lv_sub hl [1, 2, 3, 4, 0] rfl) hw
        · replace hw := Eq.mp (if_neg c6) hw
          refine lv_iload_n hx hb dX1_valueToPlacer_37 rfl (lv_at hl 3 rfl) ?_
          refine lv_aload_n hx hb dX1_valueToPlacer_38 rfl (lv_at hl 0 rfl) ?_
          refine lv_iload_n hx hb dX1_valueToPlacer_39 rfl (lv_at hl 1 rfl) ?_
          refine lv_iload hx hb dX1_valueToPlacer_40 (lv_at hl 4 rfl) ?_
          refine lv_iload_n hx hb dX1_valueToPlacer_42 rfl (lv_at hl 2 rfl) ?_
          refine gWSi (S := SB) (As := [.ref o0_b, .int v1, .int v4, .int v2]) (rest := [.int v3]) (wc := wB kI o0_b o0_pr w0) (wr := []) (cs1 := (fun zz : SB => wB kI o0_b o0_pr zz)) (ws2 := (fun zz : SB => wB kI o0_b o0_pr zz)) ⟨hx, hb, hml, hown, hts⟩ (fun sz => kX1_valueOfPlacing_3 l D kI kC kG kJ o0_b o0_pr sz w0 v1 v4 v2 _ hw) (va_cwS 4 hts gX1_valueToPlacer_X1_valueOfPlacing rfl rfl rfl hdX1_valueOfPlacing ⟨Nat.le_of_ble_eq_true rfl, Nat.le_of_ble_eq_true rfl⟩) hK hP hD hE hS hA [0, 1] [] rfl rfl rfl rfl (by decide) [0, 1] rfl (fun _ => rfl) rfl hl.1 rfl (Nat.le_of_ble_eq_true rfl) dX1_valueToPlacer_43 ⟨Nat.le_of_ble_eq_true rfl, Nat.le_of_ble_eq_true rfl⟩ (fun r8 w8 H locs hw hP hD hS => ?_)
          have hP : va_P D vwCl (wB kI o0_b o0_pr w8) H := hP
          have hD : va_D A (wB kI o0_b o0_pr w8) := hD
          refine va_mmax hx hb (hml.trans hl.1.symm) hown (hts (.methodLink RX1 60 Lib.Math.max.name) (List.mem_of_getElem? (i := 1) rfl)) (hts (.static Lib.Math.max.name) (List.mem_of_getElem? (i := 2) rfl)) (hts (.initialized "java/lang/Math") (List.mem_of_getElem? (i := 3) rfl)) (hts (.code Lib.Math.max.name Lib.Math.max.code 2 (some .int)) (List.mem_of_getElem? (i := 4) rfl)) (Nat.le_of_ble_eq_true rfl) (Nat.le_of_ble_eq_true rfl) (Nat.le_of_ble_eq_true rfl) (Nat.le_of_ble_eq_true rfl) dX1_valueToPlacer_46 ?_
          refine lv_topi (fun x9 ex9 => ?_)
          replace hw := hw x9 ex9
          refine lv_istore_n (lv' := [(3, .int x9), (0, .ref o0_b), (1, .int v1), (2, .int v2), (4, .int v4)]) hx hb dX1_valueToPlacer_49 rfl hl (by decide) rfl (fun ls hl => ?_)
          obtain ⟨x10, ex10⟩ : ∃ y : Int32, y = (v4 + 1) := ⟨_, rfl⟩
          replace hw := hw x10 ex10
          refine lv_iinc (v := x10) (lv' := [(4, .int x10), (3, .int x9), (0, .ref o0_b), (1, .int v1), (2, .int v2)]) hx hb dX1_valueToPlacer_50 hl (k := 4) rfl (by rw [ex10]; rfl) (by decide) rfl (fun ls hl => ?_)
          refine lv_goto (tgt := 16) hx hb dX1_valueToPlacer_53 (by decide) ?_
          exact ih x9 x10 w8 H locs ls hP hD hS (lv_sub hl [2, 3, 4, 1, 0] rfl) hw
  have hw : pX1_valueToPlacer qV3 p1 p2 w0 Z := hw
  unfold pX1_valueToPlacer at hw
  refine lv_iload_n hx hb dX1_valueToPlacer_0 rfl (lv_at hl 2 rfl) ?_
  refine lv_if_le (tgt := 9) hx hb dX1_valueToPlacer_1 (by decide) (fun c1 => ?_) (fun c1 => ?_)
  · replace hw := Eq.mp (if_pos c1) hw
    refine lv_iconst (v := 0) hx hb dX1_valueToPlacer_9 (by decide) ?_
    exact W.iret (v := 0) hx hb hr (fun t ht hW => ⟨⟨0, w0, rfl, hw, by rw [ht]; exact hP, va_K.moved hW.alike hK, hD⟩, hS.F ht⟩) hS.2.2 dX1_valueToPlacer_10
  · replace hw := Eq.mp (if_neg c1) hw
    refine lv_iload_n hx hb dX1_valueToPlacer_4 rfl (lv_at hl 2 rfl) ?_
    refine lv_iconst (v := 4) hx hb dX1_valueToPlacer_5 (by decide) ?_
    refine lv_icmp_le (tgt := 11) hx hb dX1_valueToPlacer_6 (by decide) (fun c2 => ?_) (fun c2 => ?_)
    · replace hw := Eq.mp (if_pos c2) hw
      refine lv_iconst (v := (-1)) hx hb dX1_valueToPlacer_11 (by decide) ?_
      refine lv_istore_n (lv' := [(3, .int (-1)), (0, .ref o0_b), (1, .int p1), (2, .int p2)]) hx hb dX1_valueToPlacer_12 rfl hl (by decide) rfl (fun ls hl => ?_)
      refine lv_iconst (v := 0) hx hb dX1_valueToPlacer_13 (by decide) ?_
      refine lv_istore (lv' := [(4, .int 0), (3, .int (-1)), (0, .ref o0_b), (1, .int p1), (2, .int p2)]) hx hb dX1_valueToPlacer_14 hl (by decide) rfl (fun ls hl => ?_)
      obtain ⟨n9, hw⟩ := hw
      exact L16 p1 p2 n9 (-1) 0 w0 s.heap [] ls hP hD hS (lv_sub hl [2, 3, 4, 1, 0] rfl) hw
    · replace hw := Eq.mp (if_neg c2) hw
      refine lv_iconst (v := 0) hx hb dX1_valueToPlacer_9 (by decide) ?_
      exact W.iret (v := 0) hx hb hr (fun t ht hW => ⟨⟨0, w0, rfl, hw, by rw [ht]; exact hP, va_K.moved hW.alike hK, hD⟩, hS.F ht⟩) hS.2.2 dX1_valueToPlacer_10
set_option maxHeartbeats 4000000 in
set_option maxRecDepth 100000 in
theorem kX1_valueToGiver_3 (l : Launch) (D : va_G) (kI kC kG kJ : ClassId) (o0_b o0_pr : Nat) (sz : Nat) (w0 : SB) (p1 : Int32) (Z : Int32 → SB → Prop) (hw : qG3 p1 w0 Z) : Met l yX1_valueToGiver wsX1_valueToGiver ({ frames := 10, cells := 0, slots := 0, locals := 235 } : Room) (gPw D (gT kI kC kG kJ) [.ref o0_b, .int p1] (wB kI o0_b o0_pr w0) sz) (va_Qi Z (gB D (gT kI kC kG kJ) (fun (zz : SB) => wB kI o0_b o0_pr zz) (va_A (wB kI o0_b o0_pr w0) sz)) (va_A (wB kI o0_b o0_pr w0) sz)) 0 0 (va_A (wB kI o0_b o0_pr w0) sz) := by
  refine Met.ofW (cc := cX1_valueToGiver) (maxL := 4) (ret := (some .int)) (by decide) rfl ?_
  intro p e s m args below meth c s₁ B hml hv
  obtain ⟨rfl, hsz, hP, hK, hD0, hE⟩ := hv
  have hx := B.exec
  have hb := B.bytes
  have hr := B.returns
  have hts := atoms_spec (ws := wsX1_valueToGiver) B.pre
  have hown : s.vm.findClass RX1 = some m.cls := findClass_of_methodNamed B.named
  have hlocks := B.notSynchronized
  subst hsz
  have hD := hD0.self (sz := s.heap.size)
  generalize hAe : va_A (wB kI o0_b o0_pr w0) s.heap.size = A at hD hE ⊢
  have hA : ∀ q : Nat, s.heap.size ≤ q → A q := fun q h => by rw [← hAe]; exact Or.inr h
  have hS : va_S A s.heap s.heap [] := va_S.rf
  clear hAe hD0
  have hl := lv_entry ([.ref o0_b, .int p1]) (n := 4) (Nat.le_of_ble_eq_true rfl)
  rw [lg_entry_eq]
  generalize (lg_sl ([.ref o0_b, .int p1]) ++ List.replicate (4 - (lg_sl ([.ref o0_b, .int p1])).length) Slot.unset).toArray = ls at hl ⊢
  have hl : lv_has ls 4 [(0, .ref o0_b), (1, .int p1)] := hl
  have hP : va_P D vwCl (wB kI o0_b o0_pr w0) s.heap := hP
  have L15 : ∀ (v1 : Int32), ∀ (n : Nat), ∀ (v2 : Int32) (v3 : Int32) (w0 : SB) (H : Heap) (locs : List Loc) (ls : Array Slot), va_P D vwCl (wB kI o0_b o0_pr w0) H → va_D A (wB kI o0_b o0_pr w0) → va_S A s.heap H locs → lv_has ls 4 [(0, .ref o0_b), (1, .int v1), (2, .int v2), (3, .int v3)] → pX1_valueToGiver_15 qP3 Z v1 n v2 v3 w0 → W p l e (headSpec wsX1_valueToGiver ({ frames := 10, cells := 0, slots := 0, locals := 235 } : Room)).room s m ([.ref o0_b, .int p1] : List Value).toArray below meth c H locs 0 0 (MQ below (va_Qi Z (gB D (gT kI kC kG kJ) (fun (zz : SB) => wB kI o0_b o0_pr zz) A) A) ([.ref o0_b, .int p1] : List Value).toArray s 0 0 A) (F0 m 15 ls []) := by
    intro v1 n
    induction n with
    | zero => intro v2 v3 w0 H locs ls hP hD hS hl hw; exact hw.elim
    | succ n ih =>
    intro v2 v3 w0 H locs ls hP hD hS hl hw
    rw [pX1_valueToGiver_15] at hw
    refine lv_iload_n hx hb dX1_valueToGiver_15 rfl (lv_at hl 3 rfl) ?_
    refine lv_bipush (v := 16) hx hb dX1_valueToGiver_16 (by decide) ?_
    refine lv_icmp_ge (tgt := 52) hx hb dX1_valueToGiver_18 (by decide) (fun c3 => ?_) (fun c3 => ?_)
    · replace hw := Eq.mp (if_pos c3) hw
      refine lv_iload_n hx hb dX1_valueToGiver_52 rfl (lv_at hl 2 rfl) ?_
      exact W.iret (v := v2) hx hb hr (fun t ht hW => ⟨⟨v2, w0, rfl, hw, by rw [ht]; exact hP, va_K.moved hW.alike hK, hD⟩, hS.F ht⟩) hS.2.2 dX1_valueToGiver_53
    · replace hw := Eq.mp (if_neg c3) hw
      refine lv_iload_n hx hb dX1_valueToGiver_21 rfl (lv_at hl 2 rfl) ?_
      refine lv_iconst (v := 1) hx hb dX1_valueToGiver_22 (by decide) ?_
      refine lv_icmp_eq (tgt := 52) hx hb dX1_valueToGiver_23 (by decide) (fun c4 => ?_) (fun c4 => ?_)
      · replace hw := Eq.mp (if_pos c4) hw
        refine lv_iload_n hx hb dX1_valueToGiver_52 rfl (lv_at hl 2 rfl) ?_
        exact W.iret (v := v2) hx hb hr (fun t ht hW => ⟨⟨v2, w0, rfl, hw, by rw [ht]; exact hP, va_K.moved hW.alike hK, hD⟩, hS.F ht⟩) hS.2.2 dX1_valueToGiver_53
      · replace hw := Eq.mp (if_neg c4) hw
        refine lv_aload_n hx hb dX1_valueToGiver_26 rfl (lv_at hl 0 rfl) ?_
        refine lv_iload_n hx hb dX1_valueToGiver_27 rfl (lv_at hl 3 rfl) ?_
        refine gVi (As := [.int v3]) (rest := []) (cs' := wB kI o0_b o0_pr w0) ⟨hx, hb, hml, hown, hts⟩ (kX0_holds l D kI kC kG kJ o0_b o0_pr w0 v3 _ hw) (cwV 1 hts gX1_valueToGiver_X0_holds rfl rfl rfl hdX0_holds ⟨Nat.le_of_ble_eq_true rfl, Nat.le_of_ble_eq_true rfl⟩) hK hP hE hS [0, 1] rfl (ci := 0) (q0 := 0) rfl rfl rfl rfl hl.1 rfl (Nat.le_of_ble_eq_true rfl) dX1_valueToGiver_28 ⟨Nat.le_of_ble_eq_true rfl, Nat.le_of_ble_eq_true rfl⟩ (fun r5 hw => ?_)
        refine lv_if_ne (tgt := 46) hx hb dX1_valueToGiver_31 (by decide) (fun c6 => ?_) (fun c6 => ?_)
        · replace hw := Eq.mp (if_neg c6) hw
          obtain ⟨x7, ex7⟩ : ∃ y : Int32, y = (v3 + 1) := ⟨_, rfl⟩
          replace hw := hw x7 ex7
          refine lv_iinc (v := x7) (lv' := [(3, .int x7), (0, .ref o0_b), (1, .int v1), (2, .int v2)]) hx hb dX1_valueToGiver_46 hl (k := 3) rfl (by rw [ex7]; rfl) (by decide) rfl (fun ls hl => ?_)
          refine lv_goto (tgt := 15) hx hb dX1_valueToGiver_49 (by decide) ?_
          exact ih v2 x7 w0 H locs ls hP hD hS (lv_sub hl [1, 2, 3, 0] rfl) hw
        · replace hw := Eq.mp (if_pos c6) hw
          refine lv_iload_n hx hb dX1_valueToGiver_34 rfl (lv_at hl 2 rfl) ?_
          refine lv_aload_n hx hb dX1_valueToGiver_35 rfl (lv_at hl 0 rfl) ?_
          refine lv_iload_n hx hb dX1_valueToGiver_36 rfl (lv_at hl 3 rfl) ?_
          refine lv_iload_n hx hb dX1_valueToGiver_37 rfl (lv_at hl 1 rfl) ?_
          refine gWSi (S := SB) (As := [.ref o0_b, .int v3, .int v1]) (rest := [.int v2]) (wc := wB kI o0_b o0_pr w0) (wr := []) (cs1 := (fun zz : SB => wB kI o0_b o0_pr zz)) (ws2 := (fun zz : SB => wB kI o0_b o0_pr zz)) ⟨hx, hb, hml, hown, hts⟩ (fun sz => kX1_valueToPlacer_3 l D kI kC kG kJ o0_b o0_pr sz w0 v3 v1 _ hw) (va_cwS 3 hts gX1_valueToGiver_X1_valueToPlacer rfl rfl rfl hdX1_valueToPlacer ⟨Nat.le_of_ble_eq_true rfl, Nat.le_of_ble_eq_true rfl⟩) hK hP hD hE hS hA [0, 1] [] rfl rfl rfl rfl (by decide) [0, 1] rfl (fun _ => rfl) rfl hl.1 rfl (Nat.le_of_ble_eq_true rfl) dX1_valueToGiver_38 ⟨Nat.le_of_ble_eq_true rfl, Nat.le_of_ble_eq_true rfl⟩ (fun r8 w8 H locs hw hP hD hS => ?_)
          have hP : va_P D vwCl (wB kI o0_b o0_pr w8) H := hP
          have hD : va_D A (wB kI o0_b o0_pr w8) := hD
          refine lv_ineg hx hb dX1_valueToGiver_41 ?_
          refine va_mmax hx hb (hml.trans hl.1.symm) hown (hts (.methodLink RX1 60 Lib.Math.max.name) (List.mem_of_getElem? (i := 1) rfl)) (hts (.static Lib.Math.max.name) (List.mem_of_getElem? (i := 2) rfl)) (hts (.initialized "java/lang/Math") (List.mem_of_getElem? (i := 3) rfl)) (hts (.code Lib.Math.max.name Lib.Math.max.code 2 (some .int)) (List.mem_of_getElem? (i := 4) rfl)) (Nat.le_of_ble_eq_true rfl) (Nat.le_of_ble_eq_true rfl) (Nat.le_of_ble_eq_true rfl) (Nat.le_of_ble_eq_true rfl) dX1_valueToGiver_42 ?_
          refine lv_topi (fun x9 ex9 => ?_)
          replace hw := hw x9 ex9
          refine lv_istore_n (lv' := [(2, .int x9), (0, .ref o0_b), (1, .int v1), (3, .int v3)]) hx hb dX1_valueToGiver_45 rfl hl (by decide) rfl (fun ls hl => ?_)
          obtain ⟨x10, ex10⟩ : ∃ y : Int32, y = (v3 + 1) := ⟨_, rfl⟩
          replace hw := hw x10 ex10
          refine lv_iinc (v := x10) (lv' := [(3, .int x10), (2, .int x9), (0, .ref o0_b), (1, .int v1)]) hx hb dX1_valueToGiver_46 hl (k := 3) rfl (by rw [ex10]; rfl) (by decide) rfl (fun ls hl => ?_)
          refine lv_goto (tgt := 15) hx hb dX1_valueToGiver_49 (by decide) ?_
          exact ih x9 x10 w8 H locs ls hP hD hS (lv_sub hl [2, 3, 1, 0] rfl) hw
  have hw : pX1_valueToGiver qP3 p1 w0 Z := hw
  unfold pX1_valueToGiver at hw
  refine lv_iload_n hx hb dX1_valueToGiver_0 rfl (lv_at hl 1 rfl) ?_
  refine lv_if_le (tgt := 9) hx hb dX1_valueToGiver_1 (by decide) (fun c1 => ?_) (fun c1 => ?_)
  · replace hw := Eq.mp (if_pos c1) hw
    refine lv_iconst (v := 0) hx hb dX1_valueToGiver_9 (by decide) ?_
    exact W.iret (v := 0) hx hb hr (fun t ht hW => ⟨⟨0, w0, rfl, hw, by rw [ht]; exact hP, va_K.moved hW.alike hK, hD⟩, hS.F ht⟩) hS.2.2 dX1_valueToGiver_10
  · replace hw := Eq.mp (if_neg c1) hw
    refine lv_iload_n hx hb dX1_valueToGiver_4 rfl (lv_at hl 1 rfl) ?_
    refine lv_iconst (v := 4) hx hb dX1_valueToGiver_5 (by decide) ?_
    refine lv_icmp_le (tgt := 11) hx hb dX1_valueToGiver_6 (by decide) (fun c2 => ?_) (fun c2 => ?_)
    · replace hw := Eq.mp (if_pos c2) hw
      refine lv_iconst (v := (-1)) hx hb dX1_valueToGiver_11 (by decide) ?_
      refine lv_istore_n (lv' := [(2, .int (-1)), (0, .ref o0_b), (1, .int p1)]) hx hb dX1_valueToGiver_12 rfl hl (by decide) rfl (fun ls hl => ?_)
      refine lv_iconst (v := 0) hx hb dX1_valueToGiver_13 (by decide) ?_
      refine lv_istore_n (lv' := [(3, .int 0), (2, .int (-1)), (0, .ref o0_b), (1, .int p1)]) hx hb dX1_valueToGiver_14 rfl hl (by decide) rfl (fun ls hl => ?_)
      obtain ⟨n9, hw⟩ := hw
      exact L15 p1 n9 (-1) 0 w0 s.heap [] ls hP hD hS (lv_sub hl [2, 3, 1, 0] rfl) hw
    · replace hw := Eq.mp (if_neg c2) hw
      refine lv_iconst (v := 0) hx hb dX1_valueToGiver_9 (by decide) ?_
      exact W.iret (v := 0) hx hb hr (fun t ht hW => ⟨⟨0, w0, rfl, hw, by rw [ht]; exact hP, va_K.moved hW.alike hK, hD⟩, hS.F ht⟩) hS.2.2 dX1_valueToGiver_10
set_option maxHeartbeats 4000000 in
set_option maxRecDepth 100000 in
theorem kX1_valueOfPlacing_4 (l : Launch) (D : va_G) (kI kC kG kJ : ClassId) (o0_b o0_pr : Nat) (sz : Nat) (w0 : SB) (p1 : Int32) (p2 : Int32) (p3 : Int32) (Z : Int32 → SB → Prop) (hw : qV4 p1 p2 p3 w0 Z) : Met l yX1_valueOfPlacing wsX1_valueOfPlacing ({ frames := 11, cells := 0, slots := 0, locals := 258 } : Room) (gPw D (gT kI kC kG kJ) [.ref o0_b, .int p1, .int p2, .int p3] (wB kI o0_b o0_pr w0) sz) (va_Qi Z (gB D (gT kI kC kG kJ) (fun (zz : SB) => wB kI o0_b o0_pr zz) (va_A (wB kI o0_b o0_pr w0) sz)) (va_A (wB kI o0_b o0_pr w0) sz)) 0 0 (va_A (wB kI o0_b o0_pr w0) sz) := by
  refine Met.ofW (cc := cX1_valueOfPlacing) (maxL := 5) (ret := (some .int)) (by decide) rfl ?_
  intro p e s m args below meth c s₁ B hml hv
  obtain ⟨rfl, hsz, hP, hK, hD0, hE⟩ := hv
  have hx := B.exec
  have hb := B.bytes
  have hr := B.returns
  have hts := atoms_spec (ws := wsX1_valueOfPlacing) B.pre
  have hown : s.vm.findClass RX1 = some m.cls := findClass_of_methodNamed B.named
  have hlocks := B.notSynchronized
  subst hsz
  have hD := hD0.self (sz := s.heap.size)
  generalize hAe : va_A (wB kI o0_b o0_pr w0) s.heap.size = A at hD hE ⊢
  have hA : ∀ q : Nat, s.heap.size ≤ q → A q := fun q h => by rw [← hAe]; exact Or.inr h
  have hS : va_S A s.heap s.heap [] := va_S.rf
  clear hAe hD0
  have hl := lv_entry ([.ref o0_b, .int p1, .int p2, .int p3]) (n := 5) (Nat.le_of_ble_eq_true rfl)
  rw [lg_entry_eq]
  generalize (lg_sl ([.ref o0_b, .int p1, .int p2, .int p3]) ++ List.replicate (5 - (lg_sl ([.ref o0_b, .int p1, .int p2, .int p3])).length) Slot.unset).toArray = ls at hl ⊢
  have hl : lv_has ls 5 [(0, .ref o0_b), (1, .int p1), (2, .int p2), (3, .int p3)] := hl
  have hP : va_P D vwCl (wB kI o0_b o0_pr w0) s.heap := hP
  have hw : pX1_valueOfPlacing qG3 p1 p2 p3 w0 Z := hw
  unfold pX1_valueOfPlacing at hw
  refine lv_aload_n hx hb dX1_valueOfPlacing_0 rfl (lv_at hl 0 rfl) ?_
  refine lv_iload_n hx hb dX1_valueOfPlacing_1 rfl (lv_at hl 1 rfl) ?_
  refine lv_iload_n hx hb dX1_valueOfPlacing_2 rfl (lv_at hl 2 rfl) ?_
  refine gWVv (S := SB) (As := [.int p1, .int p2]) (rest := []) (wc := wB kI o0_b o0_pr w0) (wr := []) (cs1 := (fun zz : SB => wB kI o0_b o0_pr zz)) (ws2 := (fun zz : SB => wB kI o0_b o0_pr zz)) ⟨hx, hb, hml, hown, hts⟩ (fun sz => kX0_put l D kI kC kG kJ o0_b o0_pr sz w0 p1 p2 _ hw) (cwV 2 hts gX1_valueOfPlacing_X0_put rfl rfl rfl hdX0_put ⟨Nat.le_of_ble_eq_true rfl, Nat.le_of_ble_eq_true rfl⟩) hK hP hD hE hS hA [0, 1] [] rfl rfl rfl rfl (by decide) [0, 1] rfl (fun _ => rfl) (ci := 0) (q0 := 0) rfl rfl rfl rfl hl.1 rfl (Nat.le_of_ble_eq_true rfl) dX1_valueOfPlacing_3 ⟨Nat.le_of_ble_eq_true rfl, Nat.le_of_ble_eq_true rfl⟩ (fun w1 H locs hw hP hD hS => ?_)
  have hP : va_P D vwCl (wB kI o0_b o0_pr w1) H := hP
  have hD : va_D A (wB kI o0_b o0_pr w1) := hD
  refine lv_aload_n hx hb dX1_valueOfPlacing_6 rfl (lv_at hl 0 rfl) ?_
  refine gVi (As := []) (rest := []) (cs' := wB kI o0_b o0_pr w1) ⟨hx, hb, hml, hown, hts⟩ (kX0_hasWonLine l D kI kC kG kJ o0_b o0_pr w1 _ hw) (cwV 0 hts gX1_valueOfPlacing_X0_hasWonLine rfl rfl rfl hdX0_hasWonLine ⟨Nat.le_of_ble_eq_true rfl, Nat.le_of_ble_eq_true rfl⟩) hK hP hE hS [0, 1] rfl (ci := 0) (q0 := 0) rfl rfl rfl rfl hl.1 rfl (Nat.le_of_ble_eq_true rfl) dX1_valueOfPlacing_7 ⟨Nat.le_of_ble_eq_true rfl, Nat.le_of_ble_eq_true rfl⟩ (fun r2 hw => ?_)
  refine lv_if_eq (tgt := 17) hx hb dX1_valueOfPlacing_10 (by decide) (fun c3 => ?_) (fun c3 => ?_)
  · replace hw := Eq.mp (if_pos c3) hw
    refine lv_aload_n hx hb dX1_valueOfPlacing_17 rfl (lv_at hl 0 rfl) ?_
    refine lv_iload_n hx hb dX1_valueOfPlacing_18 rfl (lv_at hl 3 rfl) ?_
    refine lv_iconst (v := 1) hx hb dX1_valueOfPlacing_19 (by decide) ?_
    refine lv_isub hx hb dX1_valueOfPlacing_20 ?_
    refine gWSi (S := SB) (As := [.ref o0_b, .int (p3 - 1)]) (rest := []) (wc := wB kI o0_b o0_pr w1) (wr := []) (cs1 := (fun zz : SB => wB kI o0_b o0_pr zz)) (ws2 := (fun zz : SB => wB kI o0_b o0_pr zz)) ⟨hx, hb, hml, hown, hts⟩ (fun sz => kX1_valueToGiver_3 l D kI kC kG kJ o0_b o0_pr sz w1 (p3 - 1) _ hw) (va_cwS 2 hts gX1_valueOfPlacing_X1_valueToGiver rfl rfl rfl hdX1_valueToGiver ⟨Nat.le_of_ble_eq_true rfl, Nat.le_of_ble_eq_true rfl⟩) hK hP hD hE hS hA [0, 1] [] rfl rfl rfl rfl (by decide) [0, 1] rfl (fun _ => rfl) rfl hl.1 rfl (Nat.le_of_ble_eq_true rfl) dX1_valueOfPlacing_21 ⟨Nat.le_of_ble_eq_true rfl, Nat.le_of_ble_eq_true rfl⟩ (fun r4 w4 H locs hw hP hD hS => ?_)
    have hP : va_P D vwCl (wB kI o0_b o0_pr w4) H := hP
    have hD : va_D A (wB kI o0_b o0_pr w4) := hD
    refine lv_istore (lv' := [(4, .int r4), (0, .ref o0_b), (1, .int p1), (2, .int p2), (3, .int p3)]) hx hb dX1_valueOfPlacing_24 hl (by decide) rfl (fun ls hl => ?_)
    refine lv_aload_n hx hb dX1_valueOfPlacing_26 rfl (lv_at hl 1 rfl) ?_
    refine lv_iload_n hx hb dX1_valueOfPlacing_27 rfl (lv_at hl 2 rfl) ?_
    refine lv_iload_n hx hb dX1_valueOfPlacing_28 rfl (lv_at hl 3 rfl) ?_
    refine gWVv (S := SB) (As := [.int p1, .int p2]) (rest := []) (wc := wB kI o0_b o0_pr w4) (wr := []) (cs1 := (fun zz : SB => wB kI o0_b o0_pr zz)) (ws2 := (fun zz : SB => wB kI o0_b o0_pr zz)) ⟨hx, hb, hml, hown, hts⟩ (fun sz => kX0_lift l D kI kC kG kJ o0_b o0_pr sz w4 p1 p2 _ hw) (cwV 2 hts gX1_valueOfPlacing_X0_lift rfl rfl rfl hdX0_lift ⟨Nat.le_of_ble_eq_true rfl, Nat.le_of_ble_eq_true rfl⟩) hK hP hD hE hS hA [0, 1] [] rfl rfl rfl rfl (by decide) [0, 1] rfl (fun _ => rfl) (ci := 0) (q0 := 0) rfl rfl rfl rfl hl.1 rfl (Nat.le_of_ble_eq_true rfl) dX1_valueOfPlacing_29 ⟨Nat.le_of_ble_eq_true rfl, Nat.le_of_ble_eq_true rfl⟩ (fun w5 H locs hw hP hD hS => ?_)
    have hP : va_P D vwCl (wB kI o0_b o0_pr w5) H := hP
    have hD : va_D A (wB kI o0_b o0_pr w5) := hD
    refine lv_iload hx hb dX1_valueOfPlacing_32 (lv_at hl 0 rfl) ?_
    exact W.iret (v := r4) hx hb hr (fun t ht hW => ⟨⟨r4, w5, rfl, hw, by rw [ht]; exact hP, va_K.moved hW.alike hK, hD⟩, hS.F ht⟩) hS.2.2 dX1_valueOfPlacing_34
  · replace hw := Eq.mp (if_neg c3) hw
    refine lv_iconst (v := 1) hx hb dX1_valueOfPlacing_13 (by decide) ?_
    refine lv_goto (tgt := 24) hx hb dX1_valueOfPlacing_14 (by decide) ?_
    refine lv_istore (lv' := [(4, .int 1), (0, .ref o0_b), (1, .int p1), (2, .int p2), (3, .int p3)]) hx hb dX1_valueOfPlacing_24 hl (by decide) rfl (fun ls hl => ?_)
    refine lv_aload_n hx hb dX1_valueOfPlacing_26 rfl (lv_at hl 1 rfl) ?_
    refine lv_iload_n hx hb dX1_valueOfPlacing_27 rfl (lv_at hl 2 rfl) ?_
    refine lv_iload_n hx hb dX1_valueOfPlacing_28 rfl (lv_at hl 3 rfl) ?_
    refine gWVv (S := SB) (As := [.int p1, .int p2]) (rest := []) (wc := wB kI o0_b o0_pr w1) (wr := []) (cs1 := (fun zz : SB => wB kI o0_b o0_pr zz)) (ws2 := (fun zz : SB => wB kI o0_b o0_pr zz)) ⟨hx, hb, hml, hown, hts⟩ (fun sz => kX0_lift l D kI kC kG kJ o0_b o0_pr sz w1 p1 p2 _ hw) (cwV 2 hts gX1_valueOfPlacing_X0_lift rfl rfl rfl hdX0_lift ⟨Nat.le_of_ble_eq_true rfl, Nat.le_of_ble_eq_true rfl⟩) hK hP hD hE hS hA [0, 1] [] rfl rfl rfl rfl (by decide) [0, 1] rfl (fun _ => rfl) (ci := 0) (q0 := 0) rfl rfl rfl rfl hl.1 rfl (Nat.le_of_ble_eq_true rfl) dX1_valueOfPlacing_29 ⟨Nat.le_of_ble_eq_true rfl, Nat.le_of_ble_eq_true rfl⟩ (fun w6 H locs hw hP hD hS => ?_)
    have hP : va_P D vwCl (wB kI o0_b o0_pr w6) H := hP
    have hD : va_D A (wB kI o0_b o0_pr w6) := hD
    refine lv_iload hx hb dX1_valueOfPlacing_32 (lv_at hl 0 rfl) ?_
    exact W.iret (v := 1) hx hb hr (fun t ht hW => ⟨⟨1, w6, rfl, hw, by rw [ht]; exact hP, va_K.moved hW.alike hK, hD⟩, hS.F ht⟩) hS.2.2 dX1_valueOfPlacing_34
set_option maxHeartbeats 4000000 in
set_option maxRecDepth 100000 in
theorem kX1_valueToPlacer_4 (l : Launch) (D : va_G) (kI kC kG kJ : ClassId) (o0_b o0_pr : Nat) (sz : Nat) (w0 : SB) (p1 : Int32) (p2 : Int32) (Z : Int32 → SB → Prop) (hw : qP4 p1 p2 w0 Z) : Met l yX1_valueToPlacer wsX1_valueToPlacer ({ frames := 12, cells := 0, slots := 0, locals := 282 } : Room) (gPw D (gT kI kC kG kJ) [.ref o0_b, .int p1, .int p2] (wB kI o0_b o0_pr w0) sz) (va_Qi Z (gB D (gT kI kC kG kJ) (fun (zz : SB) => wB kI o0_b o0_pr zz) (va_A (wB kI o0_b o0_pr w0) sz)) (va_A (wB kI o0_b o0_pr w0) sz)) 0 0 (va_A (wB kI o0_b o0_pr w0) sz) := by
  refine Met.ofW (cc := cX1_valueToPlacer) (maxL := 5) (ret := (some .int)) (by decide) rfl ?_
  intro p e s m args below meth c s₁ B hml hv
  obtain ⟨rfl, hsz, hP, hK, hD0, hE⟩ := hv
  have hx := B.exec
  have hb := B.bytes
  have hr := B.returns
  have hts := atoms_spec (ws := wsX1_valueToPlacer) B.pre
  have hown : s.vm.findClass RX1 = some m.cls := findClass_of_methodNamed B.named
  have hlocks := B.notSynchronized
  subst hsz
  have hD := hD0.self (sz := s.heap.size)
  generalize hAe : va_A (wB kI o0_b o0_pr w0) s.heap.size = A at hD hE ⊢
  have hA : ∀ q : Nat, s.heap.size ≤ q → A q := fun q h => by rw [← hAe]; exact Or.inr h
  have hS : va_S A s.heap s.heap [] := va_S.rf
  clear hAe hD0
  have hl := lv_entry ([.ref o0_b, .int p1, .int p2]) (n := 5) (Nat.le_of_ble_eq_true rfl)
  rw [lg_entry_eq]
  generalize (lg_sl ([.ref o0_b, .int p1, .int p2]) ++ List.replicate (5 - (lg_sl ([.ref o0_b, .int p1, .int p2])).length) Slot.unset).toArray = ls at hl ⊢
  have hl : lv_has ls 5 [(0, .ref o0_b), (1, .int p1), (2, .int p2)] := hl
  have hP : va_P D vwCl (wB kI o0_b o0_pr w0) s.heap := hP
  have L16 : ∀ (v1 : Int32) (v2 : Int32), ∀ (n : Nat), ∀ (v3 : Int32) (v4 : Int32) (w0 : SB) (H : Heap) (locs : List Loc) (ls : Array Slot), va_P D vwCl (wB kI o0_b o0_pr w0) H → va_D A (wB kI o0_b o0_pr w0) → va_S A s.heap H locs → lv_has ls 5 [(0, .ref o0_b), (1, .int v1), (2, .int v2), (3, .int v3), (4, .int v4)] → pX1_valueToPlacer_16 qV4 Z v1 v2 n v3 v4 w0 → W p l e (headSpec wsX1_valueToPlacer ({ frames := 12, cells := 0, slots := 0, locals := 282 } : Room)).room s m ([.ref o0_b, .int p1, .int p2] : List Value).toArray below meth c H locs 0 0 (MQ below (va_Qi Z (gB D (gT kI kC kG kJ) (fun (zz : SB) => wB kI o0_b o0_pr zz) A) A) ([.ref o0_b, .int p1, .int p2] : List Value).toArray s 0 0 A) (F0 m 16 ls []) := by
    intro v1 v2 n
    induction n with
    | zero => intro v3 v4 w0 H locs ls hP hD hS hl hw; exact hw.elim
    | succ n ih =>
    intro v3 v4 w0 H locs ls hP hD hS hl hw
    rw [pX1_valueToPlacer_16] at hw
    refine lv_iload hx hb dX1_valueToPlacer_16 (lv_at hl 4 rfl) ?_
    refine lv_bipush (v := 16) hx hb dX1_valueToPlacer_18 (by decide) ?_
    refine lv_icmp_ge (tgt := 56) hx hb dX1_valueToPlacer_20 (by decide) (fun c3 => ?_) (fun c3 => ?_)
    · replace hw := Eq.mp (if_pos c3) hw
      refine lv_iload_n hx hb dX1_valueToPlacer_56 rfl (lv_at hl 3 rfl) ?_
      exact W.iret (v := v3) hx hb hr (fun t ht hW => ⟨⟨v3, w0, rfl, hw, by rw [ht]; exact hP, va_K.moved hW.alike hK, hD⟩, hS.F ht⟩) hS.2.2 dX1_valueToPlacer_57
    · replace hw := Eq.mp (if_neg c3) hw
      refine lv_iload_n hx hb dX1_valueToPlacer_23 rfl (lv_at hl 3 rfl) ?_
      refine lv_iconst (v := 1) hx hb dX1_valueToPlacer_24 (by decide) ?_
      refine lv_icmp_eq (tgt := 56) hx hb dX1_valueToPlacer_25 (by decide) (fun c4 => ?_) (fun c4 => ?_)
      · replace hw := Eq.mp (if_pos c4) hw
        refine lv_iload_n hx hb dX1_valueToPlacer_56 rfl (lv_at hl 3 rfl) ?_
        exact W.iret (v := v3) hx hb hr (fun t ht hW => ⟨⟨v3, w0, rfl, hw, by rw [ht]; exact hP, va_K.moved hW.alike hK, hD⟩, hS.F ht⟩) hS.2.2 dX1_valueToPlacer_57
      · replace hw := Eq.mp (if_neg c4) hw
        refine lv_aload_n hx hb dX1_valueToPlacer_28 rfl (lv_at hl 0 rfl) ?_
        refine lv_iload hx hb dX1_valueToPlacer_29 (lv_at hl 4 rfl) ?_
        refine gVi (As := [.int v4]) (rest := []) (cs' := wB kI o0_b o0_pr w0) ⟨hx, hb, hml, hown, hts⟩ (kX0_isEmpty l D kI kC kG kJ o0_b o0_pr w0 v4 _ hw) (cwV 1 hts gX1_valueToPlacer_X0_isEmpty rfl rfl rfl hdX0_isEmpty ⟨Nat.le_of_ble_eq_true rfl, Nat.le_of_ble_eq_true rfl⟩) hK hP hE hS [0, 1] rfl (ci := 0) (q0 := 0) rfl rfl rfl rfl hl.1 rfl (Nat.le_of_ble_eq_true rfl) dX1_valueToPlacer_31 ⟨Nat.le_of_ble_eq_true rfl, Nat.le_of_ble_eq_true rfl⟩ (fun r5 hw => ?_)
        refine lv_if_eq (tgt := 50) hx hb dX1_valueToPlacer_34 (by decide) (fun c6 => ?_) (fun c6 => ?_)
        · replace hw := Eq.mp (if_pos c6) hw
          obtain ⟨x7, ex7⟩ : ∃ y : Int32, y = (v4 + 1) := ⟨_, rfl⟩
          replace hw := hw x7 ex7
          refine lv_iinc (v := x7) (lv' := [(4, .int x7), (0, .ref o0_b), (1, .int v1), (2, .int v2), (3, .int v3)]) hx hb dX1_valueToPlacer_50 hl (k := 4) rfl (by rw [ex7]; rfl) (by decide) rfl (fun ls hl => ?_)
          refine lv_goto (tgt := 16) hx hb dX1_valueToPlacer_53 (by decide) ?_
          exact ih v3 x7 w0 H locs ls hP hD hS (lv_sub hl [1, 2, 3, 4, 0] rfl) hw
        · replace hw := Eq.mp (if_neg c6) hw
          refine lv_iload_n hx hb dX1_valueToPlacer_37 rfl (lv_at hl 3 rfl) ?_
          refine lv_aload_n hx hb dX1_valueToPlacer_38 rfl (lv_at hl 0 rfl) ?_
          refine lv_iload_n hx hb dX1_valueToPlacer_39 rfl (lv_at hl 1 rfl) ?_
          refine lv_iload hx hb dX1_valueToPlacer_40 (lv_at hl 4 rfl) ?_
          refine lv_iload_n hx hb dX1_valueToPlacer_42 rfl (lv_at hl 2 rfl) ?_
          refine gWSi (S := SB) (As := [.ref o0_b, .int v1, .int v4, .int v2]) (rest := [.int v3]) (wc := wB kI o0_b o0_pr w0) (wr := []) (cs1 := (fun zz : SB => wB kI o0_b o0_pr zz)) (ws2 := (fun zz : SB => wB kI o0_b o0_pr zz)) ⟨hx, hb, hml, hown, hts⟩ (fun sz => kX1_valueOfPlacing_4 l D kI kC kG kJ o0_b o0_pr sz w0 v1 v4 v2 _ hw) (va_cwS 4 hts gX1_valueToPlacer_X1_valueOfPlacing rfl rfl rfl hdX1_valueOfPlacing ⟨Nat.le_of_ble_eq_true rfl, Nat.le_of_ble_eq_true rfl⟩) hK hP hD hE hS hA [0, 1] [] rfl rfl rfl rfl (by decide) [0, 1] rfl (fun _ => rfl) rfl hl.1 rfl (Nat.le_of_ble_eq_true rfl) dX1_valueToPlacer_43 ⟨Nat.le_of_ble_eq_true rfl, Nat.le_of_ble_eq_true rfl⟩ (fun r8 w8 H locs hw hP hD hS => ?_)
          have hP : va_P D vwCl (wB kI o0_b o0_pr w8) H := hP
          have hD : va_D A (wB kI o0_b o0_pr w8) := hD
          refine va_mmax hx hb (hml.trans hl.1.symm) hown (hts (.methodLink RX1 60 Lib.Math.max.name) (List.mem_of_getElem? (i := 1) rfl)) (hts (.static Lib.Math.max.name) (List.mem_of_getElem? (i := 2) rfl)) (hts (.initialized "java/lang/Math") (List.mem_of_getElem? (i := 3) rfl)) (hts (.code Lib.Math.max.name Lib.Math.max.code 2 (some .int)) (List.mem_of_getElem? (i := 4) rfl)) (Nat.le_of_ble_eq_true rfl) (Nat.le_of_ble_eq_true rfl) (Nat.le_of_ble_eq_true rfl) (Nat.le_of_ble_eq_true rfl) dX1_valueToPlacer_46 ?_
          refine lv_topi (fun x9 ex9 => ?_)
          replace hw := hw x9 ex9
          refine lv_istore_n (lv' := [(3, .int x9), (0, .ref o0_b), (1, .int v1), (2, .int v2), (4, .int v4)]) hx hb dX1_valueToPlacer_49 rfl hl (by decide) rfl (fun ls hl => ?_)
          obtain ⟨x10, ex10⟩ : ∃ y : Int32, y = (v4 + 1) := ⟨_, rfl⟩
          replace hw := hw x10 ex10
          refine lv_iinc (v := x10) (lv' := [(4, .int x10), (3, .int x9), (0, .ref o0_b), (1, .int v1), (2, .int v2)]) hx hb dX1_valueToPlacer_50 hl (k := 4) rfl (by rw [ex10]; rfl) (by decide) rfl (fun ls hl => ?_)
          refine lv_goto (tgt := 16) hx hb dX1_valueToPlacer_53 (by decide) ?_
          exact ih x9 x10 w8 H locs ls hP hD hS (lv_sub hl [2, 3, 4, 1, 0] rfl) hw
  have hw : pX1_valueToPlacer qV4 p1 p2 w0 Z := hw
  unfold pX1_valueToPlacer at hw
  refine lv_iload_n hx hb dX1_valueToPlacer_0 rfl (lv_at hl 2 rfl) ?_
  refine lv_if_le (tgt := 9) hx hb dX1_valueToPlacer_1 (by decide) (fun c1 => ?_) (fun c1 => ?_)
  · replace hw := Eq.mp (if_pos c1) hw
    refine lv_iconst (v := 0) hx hb dX1_valueToPlacer_9 (by decide) ?_
    exact W.iret (v := 0) hx hb hr (fun t ht hW => ⟨⟨0, w0, rfl, hw, by rw [ht]; exact hP, va_K.moved hW.alike hK, hD⟩, hS.F ht⟩) hS.2.2 dX1_valueToPlacer_10
  · replace hw := Eq.mp (if_neg c1) hw
    refine lv_iload_n hx hb dX1_valueToPlacer_4 rfl (lv_at hl 2 rfl) ?_
    refine lv_iconst (v := 4) hx hb dX1_valueToPlacer_5 (by decide) ?_
    refine lv_icmp_le (tgt := 11) hx hb dX1_valueToPlacer_6 (by decide) (fun c2 => ?_) (fun c2 => ?_)
    · replace hw := Eq.mp (if_pos c2) hw
      refine lv_iconst (v := (-1)) hx hb dX1_valueToPlacer_11 (by decide) ?_
      refine lv_istore_n (lv' := [(3, .int (-1)), (0, .ref o0_b), (1, .int p1), (2, .int p2)]) hx hb dX1_valueToPlacer_12 rfl hl (by decide) rfl (fun ls hl => ?_)
      refine lv_iconst (v := 0) hx hb dX1_valueToPlacer_13 (by decide) ?_
      refine lv_istore (lv' := [(4, .int 0), (3, .int (-1)), (0, .ref o0_b), (1, .int p1), (2, .int p2)]) hx hb dX1_valueToPlacer_14 hl (by decide) rfl (fun ls hl => ?_)
      obtain ⟨n9, hw⟩ := hw
      exact L16 p1 p2 n9 (-1) 0 w0 s.heap [] ls hP hD hS (lv_sub hl [2, 3, 4, 1, 0] rfl) hw
    · replace hw := Eq.mp (if_neg c2) hw
      refine lv_iconst (v := 0) hx hb dX1_valueToPlacer_9 (by decide) ?_
      exact W.iret (v := 0) hx hb hr (fun t ht hW => ⟨⟨0, w0, rfl, hw, by rw [ht]; exact hP, va_K.moved hW.alike hK, hD⟩, hS.F ht⟩) hS.2.2 dX1_valueToPlacer_10
set_option maxHeartbeats 4000000 in
set_option maxRecDepth 100000 in
theorem kX1_valueToGiver_4 (l : Launch) (D : va_G) (kI kC kG kJ : ClassId) (o0_b o0_pr : Nat) (sz : Nat) (w0 : SB) (p1 : Int32) (Z : Int32 → SB → Prop) (hw : qG4 p1 w0 Z) : Met l yX1_valueToGiver wsX1_valueToGiver ({ frames := 13, cells := 0, slots := 0, locals := 306 } : Room) (gPw D (gT kI kC kG kJ) [.ref o0_b, .int p1] (wB kI o0_b o0_pr w0) sz) (va_Qi Z (gB D (gT kI kC kG kJ) (fun (zz : SB) => wB kI o0_b o0_pr zz) (va_A (wB kI o0_b o0_pr w0) sz)) (va_A (wB kI o0_b o0_pr w0) sz)) 0 0 (va_A (wB kI o0_b o0_pr w0) sz) := by
  refine Met.ofW (cc := cX1_valueToGiver) (maxL := 4) (ret := (some .int)) (by decide) rfl ?_
  intro p e s m args below meth c s₁ B hml hv
  obtain ⟨rfl, hsz, hP, hK, hD0, hE⟩ := hv
  have hx := B.exec
  have hb := B.bytes
  have hr := B.returns
  have hts := atoms_spec (ws := wsX1_valueToGiver) B.pre
  have hown : s.vm.findClass RX1 = some m.cls := findClass_of_methodNamed B.named
  have hlocks := B.notSynchronized
  subst hsz
  have hD := hD0.self (sz := s.heap.size)
  generalize hAe : va_A (wB kI o0_b o0_pr w0) s.heap.size = A at hD hE ⊢
  have hA : ∀ q : Nat, s.heap.size ≤ q → A q := fun q h => by rw [← hAe]; exact Or.inr h
  have hS : va_S A s.heap s.heap [] := va_S.rf
  clear hAe hD0
  have hl := lv_entry ([.ref o0_b, .int p1]) (n := 4) (Nat.le_of_ble_eq_true rfl)
  rw [lg_entry_eq]
  generalize (lg_sl ([.ref o0_b, .int p1]) ++ List.replicate (4 - (lg_sl ([.ref o0_b, .int p1])).length) Slot.unset).toArray = ls at hl ⊢
  have hl : lv_has ls 4 [(0, .ref o0_b), (1, .int p1)] := hl
  have hP : va_P D vwCl (wB kI o0_b o0_pr w0) s.heap := hP
  have L15 : ∀ (v1 : Int32), ∀ (n : Nat), ∀ (v2 : Int32) (v3 : Int32) (w0 : SB) (H : Heap) (locs : List Loc) (ls : Array Slot), va_P D vwCl (wB kI o0_b o0_pr w0) H → va_D A (wB kI o0_b o0_pr w0) → va_S A s.heap H locs → lv_has ls 4 [(0, .ref o0_b), (1, .int v1), (2, .int v2), (3, .int v3)] → pX1_valueToGiver_15 qP4 Z v1 n v2 v3 w0 → W p l e (headSpec wsX1_valueToGiver ({ frames := 13, cells := 0, slots := 0, locals := 306 } : Room)).room s m ([.ref o0_b, .int p1] : List Value).toArray below meth c H locs 0 0 (MQ below (va_Qi Z (gB D (gT kI kC kG kJ) (fun (zz : SB) => wB kI o0_b o0_pr zz) A) A) ([.ref o0_b, .int p1] : List Value).toArray s 0 0 A) (F0 m 15 ls []) := by
    intro v1 n
    induction n with
    | zero => intro v2 v3 w0 H locs ls hP hD hS hl hw; exact hw.elim
    | succ n ih =>
    intro v2 v3 w0 H locs ls hP hD hS hl hw
    rw [pX1_valueToGiver_15] at hw
    refine lv_iload_n hx hb dX1_valueToGiver_15 rfl (lv_at hl 3 rfl) ?_
    refine lv_bipush (v := 16) hx hb dX1_valueToGiver_16 (by decide) ?_
    refine lv_icmp_ge (tgt := 52) hx hb dX1_valueToGiver_18 (by decide) (fun c3 => ?_) (fun c3 => ?_)
    · replace hw := Eq.mp (if_pos c3) hw
      refine lv_iload_n hx hb dX1_valueToGiver_52 rfl (lv_at hl 2 rfl) ?_
      exact W.iret (v := v2) hx hb hr (fun t ht hW => ⟨⟨v2, w0, rfl, hw, by rw [ht]; exact hP, va_K.moved hW.alike hK, hD⟩, hS.F ht⟩) hS.2.2 dX1_valueToGiver_53
    · replace hw := Eq.mp (if_neg c3) hw
      refine lv_iload_n hx hb dX1_valueToGiver_21 rfl (lv_at hl 2 rfl) ?_
      refine lv_iconst (v := 1) hx hb dX1_valueToGiver_22 (by decide) ?_
      refine lv_icmp_eq (tgt := 52) hx hb dX1_valueToGiver_23 (by decide) (fun c4 => ?_) (fun c4 => ?_)
      · replace hw := Eq.mp (if_pos c4) hw
        refine lv_iload_n hx hb dX1_valueToGiver_52 rfl (lv_at hl 2 rfl) ?_
        exact W.iret (v := v2) hx hb hr (fun t ht hW => ⟨⟨v2, w0, rfl, hw, by rw [ht]; exact hP, va_K.moved hW.alike hK, hD⟩, hS.F ht⟩) hS.2.2 dX1_valueToGiver_53
      · replace hw := Eq.mp (if_neg c4) hw
        refine lv_aload_n hx hb dX1_valueToGiver_26 rfl (lv_at hl 0 rfl) ?_
        refine lv_iload_n hx hb dX1_valueToGiver_27 rfl (lv_at hl 3 rfl) ?_
        refine gVi (As := [.int v3]) (rest := []) (cs' := wB kI o0_b o0_pr w0) ⟨hx, hb, hml, hown, hts⟩ (kX0_holds l D kI kC kG kJ o0_b o0_pr w0 v3 _ hw) (cwV 1 hts gX1_valueToGiver_X0_holds rfl rfl rfl hdX0_holds ⟨Nat.le_of_ble_eq_true rfl, Nat.le_of_ble_eq_true rfl⟩) hK hP hE hS [0, 1] rfl (ci := 0) (q0 := 0) rfl rfl rfl rfl hl.1 rfl (Nat.le_of_ble_eq_true rfl) dX1_valueToGiver_28 ⟨Nat.le_of_ble_eq_true rfl, Nat.le_of_ble_eq_true rfl⟩ (fun r5 hw => ?_)
        refine lv_if_ne (tgt := 46) hx hb dX1_valueToGiver_31 (by decide) (fun c6 => ?_) (fun c6 => ?_)
        · replace hw := Eq.mp (if_neg c6) hw
          obtain ⟨x7, ex7⟩ : ∃ y : Int32, y = (v3 + 1) := ⟨_, rfl⟩
          replace hw := hw x7 ex7
          refine lv_iinc (v := x7) (lv' := [(3, .int x7), (0, .ref o0_b), (1, .int v1), (2, .int v2)]) hx hb dX1_valueToGiver_46 hl (k := 3) rfl (by rw [ex7]; rfl) (by decide) rfl (fun ls hl => ?_)
          refine lv_goto (tgt := 15) hx hb dX1_valueToGiver_49 (by decide) ?_
          exact ih v2 x7 w0 H locs ls hP hD hS (lv_sub hl [1, 2, 3, 0] rfl) hw
        · replace hw := Eq.mp (if_pos c6) hw
          refine lv_iload_n hx hb dX1_valueToGiver_34 rfl (lv_at hl 2 rfl) ?_
          refine lv_aload_n hx hb dX1_valueToGiver_35 rfl (lv_at hl 0 rfl) ?_
          refine lv_iload_n hx hb dX1_valueToGiver_36 rfl (lv_at hl 3 rfl) ?_
          refine lv_iload_n hx hb dX1_valueToGiver_37 rfl (lv_at hl 1 rfl) ?_
          refine gWSi (S := SB) (As := [.ref o0_b, .int v3, .int v1]) (rest := [.int v2]) (wc := wB kI o0_b o0_pr w0) (wr := []) (cs1 := (fun zz : SB => wB kI o0_b o0_pr zz)) (ws2 := (fun zz : SB => wB kI o0_b o0_pr zz)) ⟨hx, hb, hml, hown, hts⟩ (fun sz => kX1_valueToPlacer_4 l D kI kC kG kJ o0_b o0_pr sz w0 v3 v1 _ hw) (va_cwS 3 hts gX1_valueToGiver_X1_valueToPlacer rfl rfl rfl hdX1_valueToPlacer ⟨Nat.le_of_ble_eq_true rfl, Nat.le_of_ble_eq_true rfl⟩) hK hP hD hE hS hA [0, 1] [] rfl rfl rfl rfl (by decide) [0, 1] rfl (fun _ => rfl) rfl hl.1 rfl (Nat.le_of_ble_eq_true rfl) dX1_valueToGiver_38 ⟨Nat.le_of_ble_eq_true rfl, Nat.le_of_ble_eq_true rfl⟩ (fun r8 w8 H locs hw hP hD hS => ?_)
          have hP : va_P D vwCl (wB kI o0_b o0_pr w8) H := hP
          have hD : va_D A (wB kI o0_b o0_pr w8) := hD
          refine lv_ineg hx hb dX1_valueToGiver_41 ?_
          refine va_mmax hx hb (hml.trans hl.1.symm) hown (hts (.methodLink RX1 60 Lib.Math.max.name) (List.mem_of_getElem? (i := 1) rfl)) (hts (.static Lib.Math.max.name) (List.mem_of_getElem? (i := 2) rfl)) (hts (.initialized "java/lang/Math") (List.mem_of_getElem? (i := 3) rfl)) (hts (.code Lib.Math.max.name Lib.Math.max.code 2 (some .int)) (List.mem_of_getElem? (i := 4) rfl)) (Nat.le_of_ble_eq_true rfl) (Nat.le_of_ble_eq_true rfl) (Nat.le_of_ble_eq_true rfl) (Nat.le_of_ble_eq_true rfl) dX1_valueToGiver_42 ?_
          refine lv_topi (fun x9 ex9 => ?_)
          replace hw := hw x9 ex9
          refine lv_istore_n (lv' := [(2, .int x9), (0, .ref o0_b), (1, .int v1), (3, .int v3)]) hx hb dX1_valueToGiver_45 rfl hl (by decide) rfl (fun ls hl => ?_)
          obtain ⟨x10, ex10⟩ : ∃ y : Int32, y = (v3 + 1) := ⟨_, rfl⟩
          replace hw := hw x10 ex10
          refine lv_iinc (v := x10) (lv' := [(3, .int x10), (2, .int x9), (0, .ref o0_b), (1, .int v1)]) hx hb dX1_valueToGiver_46 hl (k := 3) rfl (by rw [ex10]; rfl) (by decide) rfl (fun ls hl => ?_)
          refine lv_goto (tgt := 15) hx hb dX1_valueToGiver_49 (by decide) ?_
          exact ih x9 x10 w8 H locs ls hP hD hS (lv_sub hl [2, 3, 1, 0] rfl) hw
  have hw : pX1_valueToGiver qP4 p1 w0 Z := hw
  unfold pX1_valueToGiver at hw
  refine lv_iload_n hx hb dX1_valueToGiver_0 rfl (lv_at hl 1 rfl) ?_
  refine lv_if_le (tgt := 9) hx hb dX1_valueToGiver_1 (by decide) (fun c1 => ?_) (fun c1 => ?_)
  · replace hw := Eq.mp (if_pos c1) hw
    refine lv_iconst (v := 0) hx hb dX1_valueToGiver_9 (by decide) ?_
    exact W.iret (v := 0) hx hb hr (fun t ht hW => ⟨⟨0, w0, rfl, hw, by rw [ht]; exact hP, va_K.moved hW.alike hK, hD⟩, hS.F ht⟩) hS.2.2 dX1_valueToGiver_10
  · replace hw := Eq.mp (if_neg c1) hw
    refine lv_iload_n hx hb dX1_valueToGiver_4 rfl (lv_at hl 1 rfl) ?_
    refine lv_iconst (v := 4) hx hb dX1_valueToGiver_5 (by decide) ?_
    refine lv_icmp_le (tgt := 11) hx hb dX1_valueToGiver_6 (by decide) (fun c2 => ?_) (fun c2 => ?_)
    · replace hw := Eq.mp (if_pos c2) hw
      refine lv_iconst (v := (-1)) hx hb dX1_valueToGiver_11 (by decide) ?_
      refine lv_istore_n (lv' := [(2, .int (-1)), (0, .ref o0_b), (1, .int p1)]) hx hb dX1_valueToGiver_12 rfl hl (by decide) rfl (fun ls hl => ?_)
      refine lv_iconst (v := 0) hx hb dX1_valueToGiver_13 (by decide) ?_
      refine lv_istore_n (lv' := [(3, .int 0), (2, .int (-1)), (0, .ref o0_b), (1, .int p1)]) hx hb dX1_valueToGiver_14 rfl hl (by decide) rfl (fun ls hl => ?_)
      obtain ⟨n9, hw⟩ := hw
      exact L15 p1 n9 (-1) 0 w0 s.heap [] ls hP hD hS (lv_sub hl [2, 3, 1, 0] rfl) hw
    · replace hw := Eq.mp (if_neg c2) hw
      refine lv_iconst (v := 0) hx hb dX1_valueToGiver_9 (by decide) ?_
      exact W.iret (v := 0) hx hb hr (fun t ht hW => ⟨⟨0, w0, rfl, hw, by rw [ht]; exact hP, va_K.moved hW.alike hK, hD⟩, hS.F ht⟩) hS.2.2 dX1_valueToGiver_10
set_option maxHeartbeats 4000000 in
set_option maxRecDepth 100000 in
theorem kX1_valueOf (l : Launch) (D : va_G) (kI kC kG kJ : ClassId) (o0_a : AG) (sz : Nat) (w0 : SG) (Z : Int32 → SG → Prop) (hw : pX1_valueOf w0 Z) : Met l yX1_valueOf wsX1_valueOf ({ frames := 14, cells := 0, slots := 0, locals := 329 } : Room) (gPw D (gT kI kC kG kJ) [.ref o0_a.1] (wG kI o0_a w0) sz) (va_Qi Z (gB D (gT kI kC kG kJ) (fun (zz : SG) => wG kI o0_a zz) (va_A (wG kI o0_a w0) sz)) (va_A (wG kI o0_a w0) sz)) 0 0 (va_A (wG kI o0_a w0) sz) := by
  refine Met.ofW (cc := cX1_valueOf) (maxL := 2) (ret := (some .int)) (by decide) rfl ?_
  intro p e s m args below meth c s₁ B hml hv
  obtain ⟨rfl, hsz, hP, hK, hD0, hE⟩ := hv
  have hx := B.exec
  have hb := B.bytes
  have hr := B.returns
  have hts := atoms_spec (ws := wsX1_valueOf) B.pre
  have hown : s.vm.findClass RX1 = some m.cls := findClass_of_methodNamed B.named
  have hlocks := B.notSynchronized
  subst hsz
  have hD := hD0.self (sz := s.heap.size)
  generalize hAe : va_A (wG kI o0_a w0) s.heap.size = A at hD hE ⊢
  have hA : ∀ q : Nat, s.heap.size ≤ q → A q := fun q h => by rw [← hAe]; exact Or.inr h
  have hS : va_S A s.heap s.heap [] := va_S.rf
  clear hAe hD0
  have hl := lv_entry ([.ref o0_a.1]) (n := 2) (Nat.le_of_ble_eq_true rfl)
  rw [lg_entry_eq]
  generalize (lg_sl ([.ref o0_a.1]) ++ List.replicate (2 - (lg_sl ([.ref o0_a.1])).length) Slot.unset).toArray = ls at hl ⊢
  have hl : lv_has ls 2 [(0, .ref o0_a.1)] := hl
  have hP : va_P D vwCl (wG kI o0_a w0) s.heap := hP
  unfold pX1_valueOf at hw
  refine lv_aload_n hx hb dX1_valueOf_0 rfl (lv_at hl 0 rfl) ?_
  refine gVa (r := .ref o0_a.2.1) (As := []) (rest := []) (cs' := wG kI o0_a w0) ⟨hx, hb, hml, hown, hts⟩ (kX2_board l D kI kC kG kJ o0_a w0) (cwV 0 hts gX1_valueOf_X2_board rfl rfl rfl hdX2_board ⟨Nat.le_of_ble_eq_true rfl, Nat.le_of_ble_eq_true rfl⟩) hK hP hE hS [0, 1, 2, 3] rfl (ci := 1) (q0 := 0) rfl rfl rfl rfl hl.1 rfl (Nat.le_of_ble_eq_true rfl) dX1_valueOf_1 ⟨Nat.le_of_ble_eq_true rfl, Nat.le_of_ble_eq_true rfl⟩ ?_
  refine gVi (As := []) (rest := []) (cs' := wB kI o0_a.2.1 o0_a.2.2.1 w0.2.2.2) ⟨hx, hb, hml, hown, hts⟩ (kX0_emptyCount l D kI kC kG kJ o0_a.2.1 o0_a.2.2.1 w0.2.2.2 _ hw) (cwV 0 hts gX1_valueOf_X0_emptyCount rfl rfl rfl hdX0_emptyCount ⟨Nat.le_of_ble_eq_true rfl, Nat.le_of_ble_eq_true rfl⟩) hK hP hE hS [2, 3] rfl (ci := 0) (q0 := 0) rfl rfl rfl rfl hl.1 rfl (Nat.le_of_ble_eq_true rfl) dX1_valueOf_4 ⟨Nat.le_of_ble_eq_true rfl, Nat.le_of_ble_eq_true rfl⟩ (fun r2 hw => ?_)
  refine lv_istore_n (lv' := [(1, .int r2), (0, .ref o0_a.1)]) hx hb dX1_valueOf_7 rfl hl (by decide) rfl (fun ls hl => ?_)
  refine lv_aload_n hx hb dX1_valueOf_8 rfl (lv_at hl 1 rfl) ?_
  refine gVi (As := []) (rest := []) (cs' := wG kI o0_a w0) ⟨hx, hb, hml, hown, hts⟩ (kX2_pending l D kI kC kG kJ o0_a w0 _ hw) (cwV 0 hts gX1_valueOf_X2_pending rfl rfl rfl hdX2_pending ⟨Nat.le_of_ble_eq_true rfl, Nat.le_of_ble_eq_true rfl⟩) hK hP hE hS [0, 1, 2, 3] rfl (ci := 1) (q0 := 0) rfl rfl rfl rfl hl.1 rfl (Nat.le_of_ble_eq_true rfl) dX1_valueOf_9 ⟨Nat.le_of_ble_eq_true rfl, Nat.le_of_ble_eq_true rfl⟩ (fun r3 hw => ?_)
  refine lv_iconst (v := (-1)) hx hb dX1_valueOf_12 (by decide) ?_
  refine lv_icmp_ne (tgt := 25) hx hb dX1_valueOf_13 (by decide) (fun c4 => ?_) (fun c4 => ?_)
  · replace hw := Eq.mp (if_neg c4) hw
    refine lv_aload_n hx hb dX1_valueOf_25 rfl (lv_at hl 1 rfl) ?_
    refine gVa (r := .ref o0_a.2.1) (As := []) (rest := []) (cs' := wG kI o0_a w0) ⟨hx, hb, hml, hown, hts⟩ (kX2_board l D kI kC kG kJ o0_a w0) (cwV 0 hts gX1_valueOf_X2_board rfl rfl rfl hdX2_board ⟨Nat.le_of_ble_eq_true rfl, Nat.le_of_ble_eq_true rfl⟩) hK hP hE hS [0, 1, 2, 3] rfl (ci := 1) (q0 := 0) rfl rfl rfl rfl hl.1 rfl (Nat.le_of_ble_eq_true rfl) dX1_valueOf_26 ⟨Nat.le_of_ble_eq_true rfl, Nat.le_of_ble_eq_true rfl⟩ ?_
    refine lv_aload_n hx hb dX1_valueOf_29 rfl (lv_at hl 1 rfl) ?_
    refine gVi (As := []) (rest := [.ref o0_a.2.1]) (cs' := wG kI o0_a w0) ⟨hx, hb, hml, hown, hts⟩ (kX2_pending l D kI kC kG kJ o0_a w0 _ hw) (cwV 0 hts gX1_valueOf_X2_pending rfl rfl rfl hdX2_pending ⟨Nat.le_of_ble_eq_true rfl, Nat.le_of_ble_eq_true rfl⟩) hK hP hE hS [0, 1, 2, 3] rfl (ci := 1) (q0 := 0) rfl rfl rfl rfl hl.1 rfl (Nat.le_of_ble_eq_true rfl) dX1_valueOf_30 ⟨Nat.le_of_ble_eq_true rfl, Nat.le_of_ble_eq_true rfl⟩ (fun r6 hw => ?_)
    refine lv_iload_n hx hb dX1_valueOf_33 rfl (lv_at hl 0 rfl) ?_
    refine gWSi (S := SB) (As := [.ref o0_a.2.1, .int r6, .int r2]) (rest := []) (wc := wB kI o0_a.2.1 o0_a.2.2.1 w0.2.2.2) (wr := [(o0_a.1, .inr (1, [.ref o0_a.2.1, .int w0.1, .int w0.2.1, .ref o0_a.2.2.2])), (o0_a.2.2.2, .inl (kI, 2, .inl w0.2.2.1))]) (cs1 := (fun zz : SB => wB kI o0_a.2.1 o0_a.2.2.1 zz)) (ws2 := (fun zz : SB => wG kI o0_a (w0.1, w0.2.1, w0.2.2.1, zz))) ⟨hx, hb, hml, hown, hts⟩ (fun sz => kX1_valueToPlacer_4 l D kI kC kG kJ o0_a.2.1 o0_a.2.2.1 sz w0.2.2.2 r6 r2 _ hw) (va_cwS 3 hts gX1_valueOf_X1_valueToPlacer rfl rfl rfl hdX1_valueToPlacer ⟨Nat.le_of_ble_eq_true rfl, Nat.le_of_ble_eq_true rfl⟩) hK hP hD hE hS hA [2, 3] [0, 1] rfl rfl rfl rfl (by decide) [0, 1, 2, 3] rfl (fun _ => rfl) rfl hl.1 rfl (Nat.le_of_ble_eq_true rfl) dX1_valueOf_34 ⟨Nat.le_of_ble_eq_true rfl, Nat.le_of_ble_eq_true rfl⟩ (fun r7 w7 H locs hw hP hD hS => ?_)
    have hP : va_P D vwCl (wG kI o0_a (w0.1, w0.2.1, w0.2.2.1, w7)) H := hP
    have hD : va_D A (wG kI o0_a (w0.1, w0.2.1, w0.2.2.1, w7)) := hD
    exact W.iret (v := r7) hx hb hr (fun t ht hW => ⟨⟨r7, (w0.1, w0.2.1, w0.2.2.1, w7), rfl, hw, by rw [ht]; exact hP, va_K.moved hW.alike hK, hD⟩, hS.F ht⟩) hS.2.2 dX1_valueOf_37
  · replace hw := Eq.mp (if_pos c4) hw
    refine lv_aload_n hx hb dX1_valueOf_16 rfl (lv_at hl 1 rfl) ?_
    refine gVa (r := .ref o0_a.2.1) (As := []) (rest := []) (cs' := wG kI o0_a w0) ⟨hx, hb, hml, hown, hts⟩ (kX2_board l D kI kC kG kJ o0_a w0) (cwV 0 hts gX1_valueOf_X2_board rfl rfl rfl hdX2_board ⟨Nat.le_of_ble_eq_true rfl, Nat.le_of_ble_eq_true rfl⟩) hK hP hE hS [0, 1, 2, 3] rfl (ci := 1) (q0 := 0) rfl rfl rfl rfl hl.1 rfl (Nat.le_of_ble_eq_true rfl) dX1_valueOf_17 ⟨Nat.le_of_ble_eq_true rfl, Nat.le_of_ble_eq_true rfl⟩ ?_
    refine lv_iload_n hx hb dX1_valueOf_20 rfl (lv_at hl 0 rfl) ?_
    refine gWSi (S := SB) (As := [.ref o0_a.2.1, .int r2]) (rest := []) (wc := wB kI o0_a.2.1 o0_a.2.2.1 w0.2.2.2) (wr := [(o0_a.1, .inr (1, [.ref o0_a.2.1, .int w0.1, .int w0.2.1, .ref o0_a.2.2.2])), (o0_a.2.2.2, .inl (kI, 2, .inl w0.2.2.1))]) (cs1 := (fun zz : SB => wB kI o0_a.2.1 o0_a.2.2.1 zz)) (ws2 := (fun zz : SB => wG kI o0_a (w0.1, w0.2.1, w0.2.2.1, zz))) ⟨hx, hb, hml, hown, hts⟩ (fun sz => kX1_valueToGiver_4 l D kI kC kG kJ o0_a.2.1 o0_a.2.2.1 sz w0.2.2.2 r2 _ hw) (va_cwS 2 hts gX1_valueOf_X1_valueToGiver rfl rfl rfl hdX1_valueToGiver ⟨Nat.le_of_ble_eq_true rfl, Nat.le_of_ble_eq_true rfl⟩) hK hP hD hE hS hA [2, 3] [0, 1] rfl rfl rfl rfl (by decide) [0, 1, 2, 3] rfl (fun _ => rfl) rfl hl.1 rfl (Nat.le_of_ble_eq_true rfl) dX1_valueOf_21 ⟨Nat.le_of_ble_eq_true rfl, Nat.le_of_ble_eq_true rfl⟩ (fun r9 w9 H locs hw hP hD hS => ?_)
    have hP : va_P D vwCl (wG kI o0_a (w0.1, w0.2.1, w0.2.2.1, w9)) H := hP
    have hD : va_D A (wG kI o0_a (w0.1, w0.2.1, w0.2.2.1, w9)) := hD
    exact W.iret (v := r9) hx hb hr (fun t ht hW => ⟨⟨r9, (w0.1, w0.2.1, w0.2.2.1, w9), rfl, hw, by rw [ht]; exact hP, va_K.moved hW.alike hK, hD⟩, hS.F ht⟩) hS.2.2 dX1_valueOf_24
