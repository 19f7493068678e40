set_option maxHeartbeats 4000000 in
set_option maxRecDepth 100000 in
theorem kX5_requirePiece (l : Launch) (D : va_G) (kI kC kG kJ : ClassId) (hlt : l.stackTraces = false) (sz : Nat) (p0 : Int32) (Z : Unit → Prop) (X : String → Unit → Prop) (hw : pX5_requirePiece p0 Z X) : vx_Met l yX5_requirePiece wsX5_requirePiece ({ frames := 6, cells := 1, slots := 6, locals := 90 } : Room) (gPw D (gT kI kC kG kJ) [.int p0] (([] : va_W)) sz) (va_Qv Z (gB D (gT kI kC kG kJ) (fun (zz : Unit) => ([] : va_W)) (va_A (([] : va_W)) sz)) (va_A (([] : va_W)) sz)) (gX D (gT kI kC kG kJ) (fun (zz : Unit) => ([] : va_W)) (va_A (([] : va_W)) sz) X) 1 6 (va_A (([] : va_W)) sz) := by
  refine vx_ofW (cc := cX5_requirePiece) (maxL := 1) (ret := none) (by decide) rfl ?_
  intro p e s m args below meth c s₁ B hml hnx hv
  obtain ⟨rfl, hsz, hP, hK, hD0, hE⟩ := hv
  have hx := B.exec
  have hb := B.bytes
  have hr := B.returns
  have hts := atoms_spec (ws := wsX5_requirePiece) B.pre
  have hown : s.vm.findClass RX5 = some m.cls := findClass_of_methodNamed B.named
  have hlocks := B.notSynchronized
  subst hsz
  have hD := hD0.self (sz := s.heap.size)
  generalize hAe : va_A (([] : va_W)) s.heap.size = A at hD hE ⊢
  have hA : ∀ q : Nat, s.heap.size ≤ q → A q := fun q h => by rw [← hAe]; exact Or.inr h
  have hS : va_S A s.heap s.heap [] := va_S.rf
  clear hAe hD0
  have hl := lv_entry ([.int p0]) (n := 1) (Nat.le_of_ble_eq_true rfl)
  rw [lg_entry_eq]
  generalize (lg_sl ([.int p0]) ++ List.replicate (1 - (lg_sl ([.int p0])).length) Slot.unset).toArray = ls at hl ⊢
  have hl : lv_has ls 1 [(0, .int p0)] := hl
  have hP : va_P D vwCl (([] : va_W)) s.heap := hP
  unfold pX5_requirePiece at hw
  refine lv_iload_n hx hb dX5_requirePiece_0 rfl (lv_at hl 0 rfl) ?_
  refine lv_if_lt (tgt := 10) hx hb dX5_requirePiece_1 (by decide) (fun c1 => ?_) (fun c1 => ?_)
  · replace hw := Eq.mp (if_pos c1) hw
    exact gThrow (uO := ()) (text := "no such piece") hx hb hlt hown (by decide) (hts (.classLink RX5 168 "java/lang/IndexOutOfBoundsException") (List.mem_of_getElem? (i := 1) rfl)) (hts (.initialized "java/lang/IndexOutOfBoundsException") (List.mem_of_getElem? (i := 2) rfl)) (fun w h => hts w (List.mem_cons_of_mem _ (List.mem_append_right _ h))) gXn1 gXg1 (List.mem_of_getElem? (i := 8) rfl) hK hP hD hE hS rfl hw (hl.1.trans hml.symm) dX5_requirePiece_10 dX5_requirePiece_13 dX5_requirePiece_14 dX5_requirePiece_16 dX5_requirePiece_19 hnx (Nat.le_of_ble_eq_true rfl) (Nat.le_of_ble_eq_true rfl) (Nat.le_of_ble_eq_true rfl) (Nat.le_of_ble_eq_true rfl) hlocks (Nat.le_of_ble_eq_true rfl) (Nat.le_of_ble_eq_true rfl)
  · replace hw := Eq.mp (if_neg c1) hw
    refine lv_iload_n hx hb dX5_requirePiece_4 rfl (lv_at hl 0 rfl) ?_
    refine lv_bipush (v := 16) hx hb dX5_requirePiece_5 (by decide) ?_
    refine lv_icmp_lt (tgt := 20) hx hb dX5_requirePiece_7 (by decide) (fun c2 => ?_) (fun c2 => ?_)
    · replace hw := Eq.mp (if_pos c2) hw
      refine vx_ret ?_
      refine W.widen (k := 1) (n := 6) (Nat.le_of_ble_eq_true rfl) (Nat.le_of_ble_eq_true rfl) ?_
      exact W.vret hx hb hr (fun t ht hW => ⟨⟨(), rfl, hw, by rw [ht]; exact hP, va_K.moved hW.alike hK, hD⟩, hS.F ht⟩) hS.2.2 dX5_requirePiece_20
    · replace hw := Eq.mp (if_neg c2) hw
      exact gThrow (uO := ()) (text := "no such piece") hx hb hlt hown (by decide) (hts (.classLink RX5 168 "java/lang/IndexOutOfBoundsException") (List.mem_of_getElem? (i := 1) rfl)) (hts (.initialized "java/lang/IndexOutOfBoundsException") (List.mem_of_getElem? (i := 2) rfl)) (fun w h => hts w (List.mem_cons_of_mem _ (List.mem_append_right _ h))) gXn1 gXg1 (List.mem_of_getElem? (i := 8) rfl) hK hP hD hE hS rfl hw (hl.1.trans hml.symm) dX5_requirePiece_10 dX5_requirePiece_13 dX5_requirePiece_14 dX5_requirePiece_16 dX5_requirePiece_19 hnx (Nat.le_of_ble_eq_true rfl) (Nat.le_of_ble_eq_true rfl) (Nat.le_of_ble_eq_true rfl) (Nat.le_of_ble_eq_true rfl) hlocks (Nat.le_of_ble_eq_true rfl) (Nat.le_of_ble_eq_true rfl)
set_option maxHeartbeats 4000000 in
set_option maxRecDepth 100000 in
theorem kX5_requireCell (l : Launch) (D : va_G) (kI kC kG kJ : ClassId) (hlt : l.stackTraces = false) (sz : Nat) (p0 : Int32) (Z : Unit → Prop) (X : String → Unit → Prop) (hw : pX5_requireCell p0 Z X) : vx_Met l yX5_requireCell wsX5_requireCell ({ frames := 6, cells := 1, slots := 6, locals := 90 } : Room) (gPw D (gT kI kC kG kJ) [.int p0] (([] : va_W)) sz) (va_Qv Z (gB D (gT kI kC kG kJ) (fun (zz : Unit) => ([] : va_W)) (va_A (([] : va_W)) sz)) (va_A (([] : va_W)) sz)) (gX D (gT kI kC kG kJ) (fun (zz : Unit) => ([] : va_W)) (va_A (([] : va_W)) sz) X) 1 6 (va_A (([] : va_W)) sz) := by
  refine vx_ofW (cc := cX5_requireCell) (maxL := 1) (ret := none) (by decide) rfl ?_
  intro p e s m args below meth c s₁ B hml hnx hv
  obtain ⟨rfl, hsz, hP, hK, hD0, hE⟩ := hv
  have hx := B.exec
  have hb := B.bytes
  have hr := B.returns
  have hts := atoms_spec (ws := wsX5_requireCell) B.pre
  have hown : s.vm.findClass RX5 = some m.cls := findClass_of_methodNamed B.named
  have hlocks := B.notSynchronized
  subst hsz
  have hD := hD0.self (sz := s.heap.size)
  generalize hAe : va_A (([] : va_W)) s.heap.size = A at hD hE ⊢
  have hA : ∀ q : Nat, s.heap.size ≤ q → A q := fun q h => by rw [← hAe]; exact Or.inr h
  have hS : va_S A s.heap s.heap [] := va_S.rf
  clear hAe hD0
  have hl := lv_entry ([.int p0]) (n := 1) (Nat.le_of_ble_eq_true rfl)
  rw [lg_entry_eq]
  generalize (lg_sl ([.int p0]) ++ List.replicate (1 - (lg_sl ([.int p0])).length) Slot.unset).toArray = ls at hl ⊢
  have hl : lv_has ls 1 [(0, .int p0)] := hl
  have hP : va_P D vwCl (([] : va_W)) s.heap := hP
  unfold pX5_requireCell at hw
  refine lv_iload_n hx hb dX5_requireCell_0 rfl (lv_at hl 0 rfl) ?_
  refine lv_if_lt (tgt := 10) hx hb dX5_requireCell_1 (by decide) (fun c1 => ?_) (fun c1 => ?_)
  · replace hw := Eq.mp (if_pos c1) hw
    exact gThrow (uO := ()) (text := "no such cell") hx hb hlt hown (by decide) (hts (.classLink RX5 168 "java/lang/IndexOutOfBoundsException") (List.mem_of_getElem? (i := 1) rfl)) (hts (.initialized "java/lang/IndexOutOfBoundsException") (List.mem_of_getElem? (i := 2) rfl)) (fun w h => hts w (List.mem_cons_of_mem _ (List.mem_append_right _ h))) gXn1 gXg1 (List.mem_of_getElem? (i := 9) rfl) hK hP hD hE hS rfl hw (hl.1.trans hml.symm) dX5_requireCell_10 dX5_requireCell_13 dX5_requireCell_14 dX5_requireCell_16 dX5_requireCell_19 hnx (Nat.le_of_ble_eq_true rfl) (Nat.le_of_ble_eq_true rfl) (Nat.le_of_ble_eq_true rfl) (Nat.le_of_ble_eq_true rfl) hlocks (Nat.le_of_ble_eq_true rfl) (Nat.le_of_ble_eq_true rfl)
  · replace hw := Eq.mp (if_neg c1) hw
    refine lv_iload_n hx hb dX5_requireCell_4 rfl (lv_at hl 0 rfl) ?_
    refine lv_bipush (v := 16) hx hb dX5_requireCell_5 (by decide) ?_
    refine lv_icmp_lt (tgt := 20) hx hb dX5_requireCell_7 (by decide) (fun c2 => ?_) (fun c2 => ?_)
    · replace hw := Eq.mp (if_pos c2) hw
      refine vx_ret ?_
      refine W.widen (k := 1) (n := 6) (Nat.le_of_ble_eq_true rfl) (Nat.le_of_ble_eq_true rfl) ?_
      exact W.vret hx hb hr (fun t ht hW => ⟨⟨(), rfl, hw, by rw [ht]; exact hP, va_K.moved hW.alike hK, hD⟩, hS.F ht⟩) hS.2.2 dX5_requireCell_20
    · replace hw := Eq.mp (if_neg c2) hw
      exact gThrow (uO := ()) (text := "no such cell") hx hb hlt hown (by decide) (hts (.classLink RX5 168 "java/lang/IndexOutOfBoundsException") (List.mem_of_getElem? (i := 1) rfl)) (hts (.initialized "java/lang/IndexOutOfBoundsException") (List.mem_of_getElem? (i := 2) rfl)) (fun w h => hts w (List.mem_cons_of_mem _ (List.mem_append_right _ h))) gXn1 gXg1 (List.mem_of_getElem? (i := 9) rfl) hK hP hD hE hS rfl hw (hl.1.trans hml.symm) dX5_requireCell_10 dX5_requireCell_13 dX5_requireCell_14 dX5_requireCell_16 dX5_requireCell_19 hnx (Nat.le_of_ble_eq_true rfl) (Nat.le_of_ble_eq_true rfl) (Nat.le_of_ble_eq_true rfl) (Nat.le_of_ble_eq_true rfl) hlocks (Nat.le_of_ble_eq_true rfl) (Nat.le_of_ble_eq_true rfl)
set_option maxHeartbeats 4000000 in
set_option maxRecDepth 100000 in
theorem kX5_requireLine (l : Launch) (D : va_G) (kI kC kG kJ : ClassId) (hlt : l.stackTraces = false) (x : Nat) (ag at_ as_ : AG) (hh hst : Nat) (a0 a1 a2 a3 : AG) (tx tch : Nat) (sz : Nat) (u : SX) (p0 : Int32) (Z : SX → Prop) (X : String → SX → Prop) (hw : pX5_requireLine p0 u Z X) : vx_Met l yX5_requireLine wsX5_requireLine ({ frames := 6, cells := 1, slots := 6, locals := 90 } : Room) (gPw D (gT kI kC kG kJ) [.ref x, .int p0] (wX kI kC kG x ag at_ as_ hh hst a0 a1 a2 a3 tx tch u) sz) (va_Qv Z (gB D (gT kI kC kG kJ) (fun (zz : SX) => wX kI kC kG x ag at_ as_ hh hst a0 a1 a2 a3 tx tch zz) (va_A (wX kI kC kG x ag at_ as_ hh hst a0 a1 a2 a3 tx tch u) sz)) (va_A (wX kI kC kG x ag at_ as_ hh hst a0 a1 a2 a3 tx tch u) sz)) (gX D (gT kI kC kG kJ) (fun (zz : SX) => wX kI kC kG x ag at_ as_ hh hst a0 a1 a2 a3 tx tch zz) (va_A (wX kI kC kG x ag at_ as_ hh hst a0 a1 a2 a3 tx tch u) sz) X) 1 6 (va_A (wX kI kC kG x ag at_ as_ hh hst a0 a1 a2 a3 tx tch u) sz) := by
  refine vx_ofW (cc := cX5_requireLine) (maxL := 2) (ret := none) (by decide) rfl ?_
  intro p e s m args below meth c s₁ B hml hnx hv
  obtain ⟨rfl, hsz, hP, hK, hD0, hE⟩ := hv
  have hx := B.exec
  have hb := B.bytes
  have hr := B.returns
  have hts := atoms_spec (ws := wsX5_requireLine) B.pre
  have hown : s.vm.findClass RX5 = some m.cls := findClass_of_methodNamed B.named
  have hlocks := B.notSynchronized
  subst hsz
  have hD := hD0.self (sz := s.heap.size)
  generalize hAe : va_A (wX kI kC kG x ag at_ as_ hh hst a0 a1 a2 a3 tx tch u) s.heap.size = A at hD hE ⊢
  have hA : ∀ q : Nat, s.heap.size ≤ q → A q := fun q h => by rw [← hAe]; exact Or.inr h
  have hS : va_S A s.heap s.heap [] := va_S.rf
  clear hAe hD0
  have hl := lv_entry ([.ref x, .int p0]) (n := 2) (Nat.le_of_ble_eq_true rfl)
  rw [lg_entry_eq]
  generalize (lg_sl ([.ref x, .int p0]) ++ List.replicate (2 - (lg_sl ([.ref x, .int p0])).length) Slot.unset).toArray = ls at hl ⊢
  have hl : lv_has ls 2 [(0, .ref x), (1, .int p0)] := hl
  have hP : va_P D vwCl (wX kI kC kG x ag at_ as_ hh hst a0 a1 a2 a3 tx tch u) s.heap := hP
  unfold pX5_requireLine at hw
  refine lv_iload_n hx hb dX5_requireLine_0 rfl (lv_at hl 1 rfl) ?_
  refine lv_if_lt (tgt := 18) hx hb dX5_requireLine_1 (by decide) (fun c1 => ?_) (fun c1 => ?_)
  · replace hw := Eq.mp (if_pos c1) hw
    exact gThrow (uO := u) (text := "no such line") hx hb hlt hown (by decide) (hts (.classLink RX5 168 "java/lang/IndexOutOfBoundsException") (List.mem_of_getElem? (i := 1) rfl)) (hts (.initialized "java/lang/IndexOutOfBoundsException") (List.mem_of_getElem? (i := 2) rfl)) (fun w h => hts w (List.mem_cons_of_mem _ (List.mem_append_right _ h))) gXn1 gXg1 (List.mem_of_getElem? (i := 10) rfl) hK hP hD hE hS rfl hw (hl.1.trans hml.symm) dX5_requireLine_18 dX5_requireLine_21 dX5_requireLine_22 dX5_requireLine_24 dX5_requireLine_27 hnx (Nat.le_of_ble_eq_true rfl) (Nat.le_of_ble_eq_true rfl) (Nat.le_of_ble_eq_true rfl) (Nat.le_of_ble_eq_true rfl) hlocks (Nat.le_of_ble_eq_true rfl) (Nat.le_of_ble_eq_true rfl)
  · replace hw := Eq.mp (if_neg c1) hw
    refine lv_iload_n hx hb dX5_requireLine_4 rfl (lv_at hl 1 rfl) ?_
    refine lv_aload_n hx hb dX5_requireLine_5 rfl (lv_at hl 0 rfl) ?_
    refine va_get (D := D) (ci := 4) (v := .ref ag.1) (C := RX5) (T := TX5) (N := 6) hx hb hts (fun _ h => List.mem_cons_of_mem _ (List.mem_append_left _ (List.mem_append_left _ (List.mem_append_left _ (List.mem_append_right _ h))))) hown hK hP 0 rfl rfl 0 (by decide) (hts (.fieldLink RX5 10 "HazelGift" "game" "LHazelGift$Game;") (List.mem_of_getElem? (i := 3) rfl)) (fun _ h9 => h9) rfl dX5_requireLine_6 ?_
    refine gVa (r := .ref ag.2.1) (As := []) (rest := [.int p0]) (cs' := wG kI ag u.2.1) ⟨hx, hb, hml, hown, hts⟩ (kX2_board l D kI kC kG kJ ag u.2.1) (cwV 0 hts gX5_requireLine_X2_board rfl rfl rfl hdX2_board ⟨Nat.le_of_ble_eq_true rfl, Nat.le_of_ble_eq_true rfl⟩) hK hP hE hS [1, 2, 3, 4] rfl (ci := 1) (q0 := 0) rfl rfl rfl rfl hl.1 rfl (Nat.le_of_ble_eq_true rfl) dX5_requireLine_9 ⟨Nat.le_of_ble_eq_true rfl, Nat.le_of_ble_eq_true rfl⟩ ?_
    refine gVi (As := []) (rest := [.int p0]) (cs' := wB kI ag.2.1 ag.2.2.1 u.2.1.2.2.2) ⟨hx, hb, hml, hown, hts⟩ (kX0_lineCount l D kI kC kG kJ ag.2.1 ag.2.2.1 u.2.1.2.2.2 _ hw) (cwV 0 hts gX5_requireLine_X0_lineCount rfl rfl rfl hdX0_lineCount ⟨Nat.le_of_ble_eq_true rfl, Nat.le_of_ble_eq_true rfl⟩) hK hP hE hS [3, 4] rfl (ci := 0) (q0 := 0) rfl rfl rfl rfl hl.1 rfl (Nat.le_of_ble_eq_true rfl) dX5_requireLine_12 ⟨Nat.le_of_ble_eq_true rfl, Nat.le_of_ble_eq_true rfl⟩ (fun r3 hw => ?_)
    refine lv_icmp_lt (tgt := 28) hx hb dX5_requireLine_15 (by decide) (fun c4 => ?_) (fun c4 => ?_)
    · replace hw := Eq.mp (if_pos c4) hw
      refine vx_ret ?_
      refine W.widen (k := 1) (n := 6) (Nat.le_of_ble_eq_true rfl) (Nat.le_of_ble_eq_true rfl) ?_
      exact W.vret hx hb hr (fun t ht hW => ⟨⟨u, rfl, hw, by rw [ht]; exact hP, va_K.moved hW.alike hK, hD⟩, hS.F ht⟩) hS.2.2 dX5_requireLine_28
    · replace hw := Eq.mp (if_neg c4) hw
      exact gThrow (uO := u) (text := "no such line") hx hb hlt hown (by decide) (hts (.classLink RX5 168 "java/lang/IndexOutOfBoundsException") (List.mem_of_getElem? (i := 1) rfl)) (hts (.initialized "java/lang/IndexOutOfBoundsException") (List.mem_of_getElem? (i := 2) rfl)) (fun w h => hts w (List.mem_cons_of_mem _ (List.mem_append_right _ h))) gXn1 gXg1 (List.mem_of_getElem? (i := 10) rfl) hK hP hD hE hS rfl hw (hl.1.trans hml.symm) dX5_requireLine_18 dX5_requireLine_21 dX5_requireLine_22 dX5_requireLine_24 dX5_requireLine_27 hnx (Nat.le_of_ble_eq_true rfl) (Nat.le_of_ble_eq_true rfl) (Nat.le_of_ble_eq_true rfl) (Nat.le_of_ble_eq_true rfl) hlocks (Nat.le_of_ble_eq_true rfl) (Nat.le_of_ble_eq_true rfl)
set_option maxHeartbeats 4000000 in
set_option maxRecDepth 100000 in
theorem kX5_requireValidText (l : Launch) (D : va_G) (kI kC kG kJ : ClassId) (hlt : l.stackTraces = false) (x : Nat) (ag at_ as_ : AG) (hh hst : Nat) (a0 a1 a2 a3 : AG) (tx tch : Nat) (sz : Nat) (u : SX) (Z : SX → Prop) (X : String → SX → Prop) (hw : pX5_requireValidText u Z X) : vx_Met l yX5_requireValidText wsX5_requireValidText ({ frames := 6, cells := 1, slots := 6, locals := 90 } : Room) (gPw D (gT kI kC kG kJ) [.ref x] (wX kI kC kG x ag at_ as_ hh hst a0 a1 a2 a3 tx tch u) sz) (va_Qv Z (gB D (gT kI kC kG kJ) (fun (zz : SX) => wX kI kC kG x ag at_ as_ hh hst a0 a1 a2 a3 tx tch zz) (va_A (wX kI kC kG x ag at_ as_ hh hst a0 a1 a2 a3 tx tch u) sz)) (va_A (wX kI kC kG x ag at_ as_ hh hst a0 a1 a2 a3 tx tch u) sz)) (gX D (gT kI kC kG kJ) (fun (zz : SX) => wX kI kC kG x ag at_ as_ hh hst a0 a1 a2 a3 tx tch zz) (va_A (wX kI kC kG x ag at_ as_ hh hst a0 a1 a2 a3 tx tch u) sz) X) 1 6 (va_A (wX kI kC kG x ag at_ as_ hh hst a0 a1 a2 a3 tx tch u) sz) := by
  refine vx_ofW (cc := cX5_requireValidText) (maxL := 1) (ret := none) (by decide) rfl ?_
  intro p e s m args below meth c s₁ B hml hnx hv
  obtain ⟨rfl, hsz, hP, hK, hD0, hE⟩ := hv
  have hx := B.exec
  have hb := B.bytes
  have hr := B.returns
  have hts := atoms_spec (ws := wsX5_requireValidText) B.pre
  have hown : s.vm.findClass RX5 = some m.cls := findClass_of_methodNamed B.named
  have hlocks := B.notSynchronized
  subst hsz
  have hD := hD0.self (sz := s.heap.size)
  generalize hAe : va_A (wX kI kC kG x ag at_ as_ hh hst a0 a1 a2 a3 tx tch u) s.heap.size = A at hD hE ⊢
  have hA : ∀ q : Nat, s.heap.size ≤ q → A q := fun q h => by rw [← hAe]; exact Or.inr h
  have hS : va_S A s.heap s.heap [] := va_S.rf
  clear hAe hD0
  have hl := lv_entry ([.ref x]) (n := 1) (Nat.le_of_ble_eq_true rfl)
  rw [lg_entry_eq]
  generalize (lg_sl ([.ref x]) ++ List.replicate (1 - (lg_sl ([.ref x])).length) Slot.unset).toArray = ls at hl ⊢
  have hl : lv_has ls 1 [(0, .ref x)] := hl
  have hP : va_P D vwCl (wX kI kC kG x ag at_ as_ hh hst a0 a1 a2 a3 tx tch u) s.heap := hP
  unfold pX5_requireValidText at hw
  refine lv_aload_n hx hb dX5_requireValidText_0 rfl (lv_at hl 0 rfl) ?_
  refine va_get (D := D) (ci := 4) (v := .ref tx) (C := RX5) (T := TX5) (N := 6) hx hb hts (fun _ h => List.mem_cons_of_mem _ (List.mem_append_left _ (List.mem_append_left _ (List.mem_append_right _ h)))) hown hK hP 0 rfl rfl 5 (by decide) (hts (.fieldLink RX5 36 "HazelGift" "text" "LHazelGift$MoveText;") (List.mem_of_getElem? (i := 3) rfl)) (fun _ h9 => h9) rfl dX5_requireValidText_1 ?_
  refine gVi (As := []) (rest := []) (cs' := wT kC tx tch u.2.2.2.2.2) ⟨hx, hb, hml, hown, hts⟩ (kX4_firstError l D kI kC kG kJ tx tch u.2.2.2.2.2 _ hw) (cwV 0 hts gX5_requireValidText_X4_firstError rfl rfl rfl hdX4_firstError ⟨Nat.le_of_ble_eq_true rfl, Nat.le_of_ble_eq_true rfl⟩) hK hP hE hS [31, 32] rfl (ci := 3) (q0 := 0) rfl rfl rfl rfl hl.1 rfl (Nat.le_of_ble_eq_true rfl) dX5_requireValidText_4 ⟨Nat.le_of_ble_eq_true rfl, Nat.le_of_ble_eq_true rfl⟩ (fun r1 hw => ?_)
  refine lv_iconst (v := (-1)) hx hb dX5_requireValidText_7 (by decide) ?_
  refine lv_icmp_eq (tgt := 21) hx hb dX5_requireValidText_8 (by decide) (fun c2 => ?_) (fun c2 => ?_)
  · replace hw := Eq.mp (if_pos c2) hw
    refine vx_ret ?_
    refine W.widen (k := 1) (n := 6) (Nat.le_of_ble_eq_true rfl) (Nat.le_of_ble_eq_true rfl) ?_
    exact W.vret hx hb hr (fun t ht hW => ⟨⟨u, rfl, hw, by rw [ht]; exact hP, va_K.moved hW.alike hK, hD⟩, hS.F ht⟩) hS.2.2 dX5_requireValidText_21
  · replace hw := Eq.mp (if_neg c2) hw
    exact gThrow (uO := u) (text := "the text is not valid") hx hb hlt hown (by decide) (hts (.classLink RX5 48 "java/lang/IllegalStateException") (List.mem_of_getElem? (i := 1) rfl)) (hts (.initialized "java/lang/IllegalStateException") (List.mem_of_getElem? (i := 2) rfl)) (fun w h => hts w (List.mem_cons_of_mem _ (List.mem_append_right _ h))) gXn0 gXg0 (List.mem_of_getElem? (i := 11) rfl) hK hP hD hE hS rfl hw (hl.1.trans hml.symm) dX5_requireValidText_11 dX5_requireValidText_14 dX5_requireValidText_15 dX5_requireValidText_17 dX5_requireValidText_20 hnx (Nat.le_of_ble_eq_true rfl) (Nat.le_of_ble_eq_true rfl) (Nat.le_of_ble_eq_true rfl) (Nat.le_of_ble_eq_true rfl) hlocks (Nat.le_of_ble_eq_true rfl) (Nat.le_of_ble_eq_true rfl)
set_option maxHeartbeats 4000000 in
set_option maxRecDepth 100000 in
theorem kX5_requireSearchable (l : Launch) (D : va_G) (kI kC kG kJ : ClassId) (hlt : l.stackTraces = false) (x : Nat) (ag at_ as_ : AG) (hh hst : Nat) (a0 a1 a2 a3 : AG) (tx tch : Nat) (sz : Nat) (u : SX) (Z : SX → Prop) (X : String → SX → Prop) (hw : pX5_requireSearchable u Z X) : vx_Met l yX5_requireSearchable wsX5_requireSearchable ({ frames := 6, cells := 1, slots := 6, locals := 90 } : Room) (gPw D (gT kI kC kG kJ) [.ref x] (wX kI kC kG x ag at_ as_ hh hst a0 a1 a2 a3 tx tch u) sz) (va_Qv Z (gB D (gT kI kC kG kJ) (fun (zz : SX) => wX kI kC kG x ag at_ as_ hh hst a0 a1 a2 a3 tx tch zz) (va_A (wX kI kC kG x ag at_ as_ hh hst a0 a1 a2 a3 tx tch u) sz)) (va_A (wX kI kC kG x ag at_ as_ hh hst a0 a1 a2 a3 tx tch u) sz)) (gX D (gT kI kC kG kJ) (fun (zz : SX) => wX kI kC kG x ag at_ as_ hh hst a0 a1 a2 a3 tx tch zz) (va_A (wX kI kC kG x ag at_ as_ hh hst a0 a1 a2 a3 tx tch u) sz) X) 1 6 (va_A (wX kI kC kG x ag at_ as_ hh hst a0 a1 a2 a3 tx tch u) sz) := by
  refine vx_ofW (cc := cX5_requireSearchable) (maxL := 1) (ret := none) (by decide) rfl ?_
  intro p e s m args below meth c s₁ B hml hnx hv
  obtain ⟨rfl, hsz, hP, hK, hD0, hE⟩ := hv
  have hx := B.exec
  have hb := B.bytes
  have hr := B.returns
  have hts := atoms_spec (ws := wsX5_requireSearchable) B.pre
  have hown : s.vm.findClass RX5 = some m.cls := findClass_of_methodNamed B.named
  have hlocks := B.notSynchronized
  subst hsz
  have hD := hD0.self (sz := s.heap.size)
  generalize hAe : va_A (wX kI kC kG x ag at_ as_ hh hst a0 a1 a2 a3 tx tch u) s.heap.size = A at hD hE ⊢
  have hA : ∀ q : Nat, s.heap.size ≤ q → A q := fun q h => by rw [← hAe]; exact Or.inr h
  have hS : va_S A s.heap s.heap [] := va_S.rf
  clear hAe hD0
  have hl := lv_entry ([.ref x]) (n := 1) (Nat.le_of_ble_eq_true rfl)
  rw [lg_entry_eq]
  generalize (lg_sl ([.ref x]) ++ List.replicate (1 - (lg_sl ([.ref x])).length) Slot.unset).toArray = ls at hl ⊢
  have hl : lv_has ls 1 [(0, .ref x)] := hl
  have hP : va_P D vwCl (wX kI kC kG x ag at_ as_ hh hst a0 a1 a2 a3 tx tch u) s.heap := hP
  unfold pX5_requireSearchable at hw
  refine lv_aload_n hx hb dX5_requireSearchable_0 rfl (lv_at hl 0 rfl) ?_
  refine va_get (D := D) (ci := 4) (v := .ref ag.1) (C := RX5) (T := TX5) (N := 6) hx hb hts (fun _ h => List.mem_cons_of_mem _ (List.mem_append_left _ (List.mem_append_left _ (List.mem_append_left _ (List.mem_append_right _ h))))) hown hK hP 0 rfl rfl 0 (by decide) (hts (.fieldLink RX5 10 "HazelGift" "game" "LHazelGift$Game;") (List.mem_of_getElem? (i := 3) rfl)) (fun _ h9 => h9) rfl dX5_requireSearchable_1 ?_
  refine gVi (As := []) (rest := []) (cs' := wG kI ag u.2.1) ⟨hx, hb, hml, hown, hts⟩ (kX2_hasEnded l D kI kC kG kJ ag u.2.1 _ hw) (cwV 0 hts gX5_requireSearchable_X2_hasEnded rfl rfl rfl hdX2_hasEnded ⟨Nat.le_of_ble_eq_true rfl, Nat.le_of_ble_eq_true rfl⟩) hK hP hE hS [1, 2, 3, 4] rfl (ci := 1) (q0 := 0) rfl rfl rfl rfl hl.1 rfl (Nat.le_of_ble_eq_true rfl) dX5_requireSearchable_4 ⟨Nat.le_of_ble_eq_true rfl, Nat.le_of_ble_eq_true rfl⟩ (fun r1 hw => ?_)
  refine lv_if_ne (tgt := 24) hx hb dX5_requireSearchable_7 (by decide) (fun c2 => ?_) (fun c2 => ?_)
  · replace hw := Eq.mp (if_neg c2) hw
    exact gThrow (uO := u) (text := "the end cannot be searched") hx hb hlt hown (by decide) (hts (.classLink RX5 48 "java/lang/IllegalStateException") (List.mem_of_getElem? (i := 1) rfl)) (hts (.initialized "java/lang/IllegalStateException") (List.mem_of_getElem? (i := 2) rfl)) (fun w h => hts w (List.mem_cons_of_mem _ (List.mem_append_right _ h))) gXn0 gXg0 (List.mem_of_getElem? (i := 12) rfl) hK hP hD hE hS rfl hw (hl.1.trans hml.symm) dX5_requireSearchable_24 dX5_requireSearchable_27 dX5_requireSearchable_28 dX5_requireSearchable_30 dX5_requireSearchable_33 hnx (Nat.le_of_ble_eq_true rfl) (Nat.le_of_ble_eq_true rfl) (Nat.le_of_ble_eq_true rfl) (Nat.le_of_ble_eq_true rfl) hlocks (Nat.le_of_ble_eq_true rfl) (Nat.le_of_ble_eq_true rfl)
  · replace hw := Eq.mp (if_pos c2) hw
    refine lv_aload_n hx hb dX5_requireSearchable_10 rfl (lv_at hl 0 rfl) ?_
    refine va_get (D := D) (ci := 4) (v := .ref ag.1) (C := RX5) (T := TX5) (N := 6) hx hb hts (fun _ h => List.mem_cons_of_mem _ (List.mem_append_left _ (List.mem_append_left _ (List.mem_append_left _ (List.mem_append_right _ h))))) hown hK hP 0 rfl rfl 0 (by decide) (hts (.fieldLink RX5 10 "HazelGift" "game" "LHazelGift$Game;") (List.mem_of_getElem? (i := 3) rfl)) (fun _ h9 => h9) rfl dX5_requireSearchable_11 ?_
    refine gVa (r := .ref ag.2.1) (As := []) (rest := []) (cs' := wG kI ag u.2.1) ⟨hx, hb, hml, hown, hts⟩ (kX2_board l D kI kC kG kJ ag u.2.1) (cwV 0 hts gX5_requireSearchable_X2_board rfl rfl rfl hdX2_board ⟨Nat.le_of_ble_eq_true rfl, Nat.le_of_ble_eq_true rfl⟩) hK hP hE hS [1, 2, 3, 4] rfl (ci := 1) (q0 := 0) rfl rfl rfl rfl hl.1 rfl (Nat.le_of_ble_eq_true rfl) dX5_requireSearchable_14 ⟨Nat.le_of_ble_eq_true rfl, Nat.le_of_ble_eq_true rfl⟩ ?_
    refine gVi (As := []) (rest := []) (cs' := wB kI ag.2.1 ag.2.2.1 u.2.1.2.2.2) ⟨hx, hb, hml, hown, hts⟩ (kX0_emptyCount l D kI kC kG kJ ag.2.1 ag.2.2.1 u.2.1.2.2.2 _ hw) (cwV 0 hts gX5_requireSearchable_X0_emptyCount rfl rfl rfl hdX0_emptyCount ⟨Nat.le_of_ble_eq_true rfl, Nat.le_of_ble_eq_true rfl⟩) hK hP hE hS [3, 4] rfl (ci := 0) (q0 := 0) rfl rfl rfl rfl hl.1 rfl (Nat.le_of_ble_eq_true rfl) dX5_requireSearchable_17 ⟨Nat.le_of_ble_eq_true rfl, Nat.le_of_ble_eq_true rfl⟩ (fun r4 hw => ?_)
    refine lv_iconst (v := 4) hx hb dX5_requireSearchable_20 (by decide) ?_
    refine lv_icmp_le (tgt := 34) hx hb dX5_requireSearchable_21 (by decide) (fun c5 => ?_) (fun c5 => ?_)
    · replace hw := Eq.mp (if_pos c5) hw
      refine vx_ret ?_
      refine W.widen (k := 1) (n := 6) (Nat.le_of_ble_eq_true rfl) (Nat.le_of_ble_eq_true rfl) ?_
      exact W.vret hx hb hr (fun t ht hW => ⟨⟨u, rfl, hw, by rw [ht]; exact hP, va_K.moved hW.alike hK, hD⟩, hS.F ht⟩) hS.2.2 dX5_requireSearchable_34
    · replace hw := Eq.mp (if_neg c5) hw
      exact gThrow (uO := u) (text := "the end cannot be searched") hx hb hlt hown (by decide) (hts (.classLink RX5 48 "java/lang/IllegalStateException") (List.mem_of_getElem? (i := 1) rfl)) (hts (.initialized "java/lang/IllegalStateException") (List.mem_of_getElem? (i := 2) rfl)) (fun w h => hts w (List.mem_cons_of_mem _ (List.mem_append_right _ h))) gXn0 gXg0 (List.mem_of_getElem? (i := 12) rfl) hK hP hD hE hS rfl hw (hl.1.trans hml.symm) dX5_requireSearchable_24 dX5_requireSearchable_27 dX5_requireSearchable_28 dX5_requireSearchable_30 dX5_requireSearchable_33 hnx (Nat.le_of_ble_eq_true rfl) (Nat.le_of_ble_eq_true rfl) (Nat.le_of_ble_eq_true rfl) (Nat.le_of_ble_eq_true rfl) hlocks (Nat.le_of_ble_eq_true rfl) (Nat.le_of_ble_eq_true rfl)
set_option maxHeartbeats 4000000 in
set_option maxRecDepth 100000 in
theorem kX5_traitsOf (l : Launch) (D : va_G) (kI kC kG kJ : ClassId) (p0 : Int32) (Z : Int32 → Prop) (hw : pX5_traitsOf p0 Z) : Met l yX5_traitsOf wsX5_traitsOf ({ frames := 0, cells := 0, slots := 0, locals := 0 } : Room) (gPr D (gT kI kC kG kJ) [.int p0] (([] : va_W))) (vp_Si Z) 0 0 (fun _ => False) := by
  refine Met.ofW (cc := cX5_traitsOf) (maxL := 1) (ret := (some .int)) (by decide) rfl ?_
  intro p e s m args below meth c s₁ B hml hv
  obtain ⟨rfl, hP, hK, hE⟩ := hv
  have hx := B.exec
  have hb := B.bytes
  have hr := B.returns
  have hts := atoms_spec (ws := wsX5_traitsOf) B.pre
  have hown : s.vm.findClass RX5 = some m.cls := findClass_of_methodNamed B.named
  have hlocks := B.notSynchronized
  have hS : va_S (fun _ => False) s.heap s.heap [] := va_S.rf
  have hl := lv_entry ([.int p0]) (n := 1) (Nat.le_of_ble_eq_true rfl)
  rw [lg_entry_eq]
  generalize (lg_sl ([.int p0]) ++ List.replicate (1 - (lg_sl ([.int p0])).length) Slot.unset).toArray = ls at hl ⊢
  have hl : lv_has ls 1 [(0, .int p0)] := hl
  unfold pX5_traitsOf at hw
  refine lv_iload_n hx hb dX5_traitsOf_0 rfl (lv_at hl 0 rfl) ?_
  refine lv_iload_n hx hb dX5_traitsOf_1 rfl (lv_at hl 0 rfl) ?_
  refine lv_iconst (v := (-1)) hx hb dX5_traitsOf_2 (by decide) ?_
  refine lv_ixor hx hb dX5_traitsOf_3 ?_
  refine lv_bipush (v := 15) hx hb dX5_traitsOf_4 (by decide) ?_
  refine lv_iand hx hb dX5_traitsOf_6 ?_
  refine lv_iconst (v := 4) hx hb dX5_traitsOf_7 (by decide) ?_
  refine lv_ishl hx hb dX5_traitsOf_8 ?_
  refine lv_ior hx hb dX5_traitsOf_9 ?_
  exact W.iret (v := (p0 ||| (((p0 ^^^ (-1)) &&& 15) <<< (4 &&& 31)))) hx hb hr (fun t ht hW => ⟨_, rfl, hw, ht⟩) (fun _ h => by cases h) dX5_traitsOf_10
set_option maxHeartbeats 4000000 in
set_option maxRecDepth 100000 in
theorem kX5_tryText (l : Launch) (D : va_G) (kI kC kG kJ : ClassId) (x : Nat) (ag at_ as_ : AG) (hh hst : Nat) (a0 a1 a2 a3 : AG) (tx tch : Nat) (sz : Nat) (u : SX) (Z : Int32 → SX → Prop) (hw : pX5_tryText u Z) : Met l yX5_tryText wsX5_tryText ({ frames := 7, cells := 0, slots := 0, locals := 145 } : Room) (gPw D (gT kI kC kG kJ) [.ref x] (wX kI kC kG x ag at_ as_ hh hst a0 a1 a2 a3 tx tch u) sz) (va_Qi Z (gB D (gT kI kC kG kJ) (fun (zz : SX) => wX kI kC kG x ag at_ as_ hh hst a0 a1 a2 a3 tx tch zz) (va_A (wX kI kC kG x ag at_ as_ hh hst a0 a1 a2 a3 tx tch u) sz)) (va_A (wX kI kC kG x ag at_ as_ hh hst a0 a1 a2 a3 tx tch u) sz)) 0 0 (va_A (wX kI kC kG x ag at_ as_ hh hst a0 a1 a2 a3 tx tch u) sz) := by
  refine Met.ofW (cc := cX5_tryText) (maxL := 4) (ret := (some .int)) (by decide) rfl ?_
  intro p e s m args below meth c s₁ B hml hv
  obtain ⟨rfl, hsz, hP, hK, hD0, hE⟩ := hv
  have hx := B.exec
  have hb := B.bytes
  have hr := B.returns
  have hts := atoms_spec (ws := wsX5_tryText) B.pre
  have hown : s.vm.findClass RX5 = some m.cls := findClass_of_methodNamed B.named
  have hlocks := B.notSynchronized
  subst hsz
  have hD := hD0.self (sz := s.heap.size)
  generalize hAe : va_A (wX kI kC kG x ag at_ as_ hh hst a0 a1 a2 a3 tx tch u) s.heap.size = A at hD hE ⊢
  have hA : ∀ q : Nat, s.heap.size ≤ q → A q := fun q h => by rw [← hAe]; exact Or.inr h
  have hS : va_S A s.heap s.heap [] := va_S.rf
  clear hAe hD0
  have hl := lv_entry ([.ref x]) (n := 4) (Nat.le_of_ble_eq_true rfl)
  rw [lg_entry_eq]
  generalize (lg_sl ([.ref x]) ++ List.replicate (4 - (lg_sl ([.ref x])).length) Slot.unset).toArray = ls at hl ⊢
  have hl : lv_has ls 4 [(0, .ref x)] := hl
  have hP : va_P D vwCl (wX kI kC kG x ag at_ as_ hh hst a0 a1 a2 a3 tx tch u) s.heap := hP
  have L17 : ∀ (_ : Unit), ∀ (n : Nat), ∀ (v1 : Int32) (v2 : Int32) (v3 : Int32) (u : SX) (H : Heap) (locs : List Loc) (ls : Array Slot), va_P D vwCl (wX kI kC kG x ag at_ as_ hh hst a0 a1 a2 a3 tx tch u) H → va_D A (wX kI kC kG x ag at_ as_ hh hst a0 a1 a2 a3 tx tch u) → va_S A s.heap H locs → lv_has ls 4 [(0, .ref x), (1, .int v1), (2, .int v2), (3, .int v3)] → pX5_tryText_17 Z n v1 v2 v3 u → W p l e (headSpec wsX5_tryText ({ frames := 7, cells := 0, slots := 0, locals := 145 } : Room)).room s m ([.ref x] : List Value).toArray below meth c H locs 0 0 (MQ below (va_Qi Z (gB D (gT kI kC kG kJ) (fun (zz : SX) => wX kI kC kG x ag at_ as_ hh hst a0 a1 a2 a3 tx tch zz) A) A) ([.ref x] : List Value).toArray s 0 0 A) (F0 m 17 ls []) := by
    intro _ n
    induction n with
    | zero => intro v1 v2 v3 u H locs ls hP hD hS hl hw; exact hw.elim
    | succ n ih =>
    intro v1 v2 v3 u H locs ls hP hD hS hl hw
    rw [pX5_tryText_17] at hw
    refine lv_iload_n hx hb dX5_tryText_17 rfl (lv_at hl 3 rfl) ?_
    refine lv_aload_n hx hb dX5_tryText_18 rfl (lv_at hl 0 rfl) ?_
    refine va_get (D := D) (ci := 4) (v := .ref tx) (C := RX5) (T := TX5) (N := 6) hx hb hts (fun _ h => List.mem_cons_of_mem _ (List.mem_append_left _ (List.mem_append_left _ (List.mem_append_left _ (List.mem_append_right _ h))))) hown hK hP 0 rfl rfl 5 (by decide) (hts (.fieldLink RX5 36 "HazelGift" "text" "LHazelGift$MoveText;") (List.mem_of_getElem? (i := 3) rfl)) (fun _ h9 => h9) rfl dX5_tryText_19 ?_
    refine gVi (As := []) (rest := [.int v3]) (cs' := wT kC tx tch u.2.2.2.2.2) ⟨hx, hb, hml, hown, hts⟩ (kX4_length l D kI kC kG kJ tx tch u.2.2.2.2.2 _ hw) (cwV 0 hts gX5_tryText_X4_length rfl rfl rfl hdX4_length ⟨Nat.le_of_ble_eq_true rfl, Nat.le_of_ble_eq_true rfl⟩) hK hP hE hS [31, 32] rfl (ci := 3) (q0 := 0) rfl rfl rfl rfl hl.1 rfl (Nat.le_of_ble_eq_true rfl) dX5_tryText_22 ⟨Nat.le_of_ble_eq_true rfl, Nat.le_of_ble_eq_true rfl⟩ (fun r2 hw => ?_)
    refine lv_icmp_gt (tgt := 83) hx hb dX5_tryText_25 (by decide) (fun c3 => ?_) (fun c3 => ?_)
    · replace hw := Eq.mp (if_pos c3) hw
      refine lv_iconst (v := (-1)) hx hb dX5_tryText_83 (by decide) ?_
      exact W.iret (v := (-1)) hx hb hr (fun t ht hW => ⟨⟨(-1), u, rfl, hw, by rw [ht]; exact hP, va_K.moved hW.alike hK, hD⟩, hS.F ht⟩) hS.2.2 dX5_tryText_84
    · replace hw := Eq.mp (if_neg c3) hw
      refine lv_aload_n hx hb dX5_tryText_28 rfl (lv_at hl 0 rfl) ?_
      refine va_get (D := D) (ci := 4) (v := .ref tx) (C := RX5) (T := TX5) (N := 6) hx hb hts (fun _ h => List.mem_cons_of_mem _ (List.mem_append_left _ (List.mem_append_left _ (List.mem_append_left _ (List.mem_append_right _ h))))) hown hK hP 0 rfl rfl 5 (by decide) (hts (.fieldLink RX5 36 "HazelGift" "text" "LHazelGift$MoveText;") (List.mem_of_getElem? (i := 3) rfl)) (fun _ h9 => h9) rfl dX5_tryText_29 ?_
      refine lv_iload_n hx hb dX5_tryText_32 rfl (lv_at hl 3 rfl) ?_
      refine gVi (As := [.int v3]) (rest := []) (cs' := wT kC tx tch u.2.2.2.2.2) ⟨hx, hb, hml, hown, hts⟩ (kX4_endsMove l D kI kC kG kJ tx tch u.2.2.2.2.2 v3 _ hw) (cwV 1 hts gX5_tryText_X4_endsMove rfl rfl rfl hdX4_endsMove ⟨Nat.le_of_ble_eq_true rfl, Nat.le_of_ble_eq_true rfl⟩) hK hP hE hS [31, 32] rfl (ci := 3) (q0 := 0) rfl rfl rfl rfl hl.1 rfl (Nat.le_of_ble_eq_true rfl) dX5_tryText_33 ⟨Nat.le_of_ble_eq_true rfl, Nat.le_of_ble_eq_true rfl⟩ (fun r4 hw => ?_)
      refine lv_if_eq (tgt := 77) hx hb dX5_tryText_36 (by decide) (fun c5 => ?_) (fun c5 => ?_)
      · replace hw := Eq.mp (if_pos c5) hw
        obtain ⟨x6, ex6⟩ : ∃ y : Int32, y = (v3 + 1) := ⟨_, rfl⟩
        replace hw := hw x6 ex6
        refine lv_iinc (v := x6) (lv' := [(3, .int x6), (0, .ref x), (1, .int v1), (2, .int v2)]) hx hb dX5_tryText_77 hl (k := 3) rfl (by rw [ex6]; rfl) (by decide) rfl (fun ls hl => ?_)
        refine lv_goto (tgt := 17) hx hb dX5_tryText_80 (by decide) ?_
        exact ih v1 v2 x6 u H locs ls hP hD hS (lv_sub hl [1, 2, 3, 0] rfl) hw
      · replace hw := Eq.mp (if_neg c5) hw
        refine lv_aload_n hx hb dX5_tryText_39 rfl (lv_at hl 0 rfl) ?_
        refine va_get (D := D) (ci := 4) (v := .ref at_.1) (C := RX5) (T := TX5) (N := 6) hx hb hts (fun _ h => List.mem_cons_of_mem _ (List.mem_append_left _ (List.mem_append_left _ (List.mem_append_left _ (List.mem_append_right _ h))))) hown hK hP 0 rfl rfl 1 (by decide) (hts (.fieldLink RX5 16 "HazelGift" "trial" "LHazelGift$Game;") (List.mem_of_getElem? (i := 1) rfl)) (fun _ h9 => h9) rfl dX5_tryText_40 ?_
        refine lv_aload_n hx hb dX5_tryText_43 rfl (lv_at hl 0 rfl) ?_
        refine va_get (D := D) (ci := 4) (v := .ref tx) (C := RX5) (T := TX5) (N := 6) hx hb hts (fun _ h => List.mem_cons_of_mem _ (List.mem_append_left _ (List.mem_append_left _ (List.mem_append_left _ (List.mem_append_right _ h))))) hown hK hP 0 rfl rfl 5 (by decide) (hts (.fieldLink RX5 36 "HazelGift" "text" "LHazelGift$MoveText;") (List.mem_of_getElem? (i := 3) rfl)) (fun _ h9 => h9) rfl dX5_tryText_44 ?_
        refine lv_iload_n hx hb dX5_tryText_47 rfl (lv_at hl 2 rfl) ?_
        refine gVi (As := [.int v2]) (rest := [.ref at_.1]) (cs' := wT kC tx tch u.2.2.2.2.2) ⟨hx, hb, hml, hown, hts⟩ (kX4_isGift l D kI kC kG kJ tx tch u.2.2.2.2.2 v2 _ hw) (cwV 1 hts gX5_tryText_X4_isGift rfl rfl rfl hdX4_isGift ⟨Nat.le_of_ble_eq_true rfl, Nat.le_of_ble_eq_true rfl⟩) hK hP hE hS [31, 32] rfl (ci := 3) (q0 := 0) rfl rfl rfl rfl hl.1 rfl (Nat.le_of_ble_eq_true rfl) dX5_tryText_48 ⟨Nat.le_of_ble_eq_true rfl, Nat.le_of_ble_eq_true rfl⟩ (fun r7 hw => ?_)
        refine lv_aload_n hx hb dX5_tryText_51 rfl (lv_at hl 0 rfl) ?_
        refine va_get (D := D) (ci := 4) (v := .ref tx) (C := RX5) (T := TX5) (N := 6) hx hb hts (fun _ h => List.mem_cons_of_mem _ (List.mem_append_left _ (List.mem_append_left _ (List.mem_append_left _ (List.mem_append_right _ h))))) hown hK hP 0 rfl rfl 5 (by decide) (hts (.fieldLink RX5 36 "HazelGift" "text" "LHazelGift$MoveText;") (List.mem_of_getElem? (i := 3) rfl)) (fun _ h9 => h9) rfl dX5_tryText_52 ?_
        refine lv_iload_n hx hb dX5_tryText_55 rfl (lv_at hl 2 rfl) ?_
        refine lv_iconst (v := 1) hx hb dX5_tryText_56 (by decide) ?_
        refine lv_iadd hx hb dX5_tryText_57 ?_
        refine lv_iload_n hx hb dX5_tryText_58 rfl (lv_at hl 3 rfl) ?_
        refine gVi (As := [.int (v2 + 1), .int v3]) (rest := [.int r7, .ref at_.1]) (cs' := wT kC tx tch u.2.2.2.2.2) ⟨hx, hb, hml, hown, hts⟩ (kX4_number l D kI kC kG kJ tx tch u.2.2.2.2.2 (v2 + 1) v3 _ hw) (cwV 2 hts gX5_tryText_X4_number rfl rfl rfl hdX4_number ⟨Nat.le_of_ble_eq_true rfl, Nat.le_of_ble_eq_true rfl⟩) hK hP hE hS [31, 32] rfl (ci := 3) (q0 := 0) rfl rfl rfl rfl hl.1 rfl (Nat.le_of_ble_eq_true rfl) dX5_tryText_59 ⟨Nat.le_of_ble_eq_true rfl, Nat.le_of_ble_eq_true rfl⟩ (fun r8 hw => ?_)
        refine gWVi (S := SG) (As := [.int r7, .int r8]) (rest := []) (wc := wG kI at_ u.2.2.1) (wr := [(x, .inr (4, [.ref ag.1, .ref at_.1, .ref as_.1, .int u.1, .ref hh, .ref tx]))] ++ wG kI ag u.2.1 ++ wG kI as_ u.2.2.2.1 ++ [(hh, .inr (2, [.ref hst, .int u.2.2.2.2.1.1, .int u.2.2.2.2.1.2.1])), (hst, .inl (kG, 4, .inr (.inr (.inr (.inr (fH a0 a1 a2 a3))))))] ++ wG kI a0 u.2.2.2.2.1.2.2.1 ++ wG kI a1 u.2.2.2.2.1.2.2.2.1 ++ wG kI a2 u.2.2.2.2.1.2.2.2.2.1 ++ wG kI a3 u.2.2.2.2.1.2.2.2.2.2 ++ wT kC tx tch u.2.2.2.2.2) (cs1 := (fun zz : SG => wG kI at_ zz)) (ws2 := (fun zz : SG => wX kI kC kG x ag at_ as_ hh hst a0 a1 a2 a3 tx tch (u.1, u.2.1, zz, u.2.2.2.1, u.2.2.2.2.1, u.2.2.2.2.2))) ⟨hx, hb, hml, hown, hts⟩ (fun sz => kX2_tryMove l D kI kC kG kJ at_ sz u.2.2.1 r7 r8 _ hw) (cwV 2 hts gX5_tryText_X2_tryMove rfl rfl rfl hdX2_tryMove ⟨Nat.le_of_ble_eq_true rfl, Nat.le_of_ble_eq_true rfl⟩) hK hP hD hE hS hA [5, 6, 7, 8] [0, 1, 2, 3, 4, 9, 10, 11, 12, 13, 14, 15, 16, 17, 18, 19, 20, 21, 22, 23, 24, 25, 26, 27, 28, 29, 30, 31, 32] rfl rfl rfl rfl (by decide) [0, 1, 2, 3, 4, 29, 30, 31, 32, 5, 6, 7, 8, 9, 10, 11, 12, 13, 14, 15, 16, 17, 18, 19, 20, 21, 22, 23, 24, 25, 26, 27, 28] rfl (fun _ => rfl) (ci := 1) (q0 := 0) rfl rfl rfl rfl hl.1 rfl (Nat.le_of_ble_eq_true rfl) dX5_tryText_62 ⟨Nat.le_of_ble_eq_true rfl, Nat.le_of_ble_eq_true rfl⟩ (fun r9 w9 H locs hw hP hD hS => ?_)
        have hP : va_P D vwCl (wX kI kC kG x ag at_ as_ hh hst a0 a1 a2 a3 tx tch (u.1, u.2.1, w9, u.2.2.2.1, u.2.2.2.2.1, u.2.2.2.2.2)) H := hP
        have hD : va_D A (wX kI kC kG x ag at_ as_ hh hst a0 a1 a2 a3 tx tch (u.1, u.2.1, w9, u.2.2.2.1, u.2.2.2.2.1, u.2.2.2.2.2)) := hD
        refine lv_if_ne (tgt := 70) hx hb dX5_tryText_65 (by decide) (fun c10 => ?_) (fun c10 => ?_)
        · replace hw := Eq.mp (if_neg c10) hw
          obtain ⟨x11, ex11⟩ : ∃ y : Int32, y = (v1 + 1) := ⟨_, rfl⟩
          replace hw := hw x11 ex11
          refine lv_iinc (v := x11) (lv' := [(1, .int x11), (0, .ref x), (2, .int v2), (3, .int v3)]) hx hb dX5_tryText_70 hl (k := 1) rfl (by rw [ex11]; rfl) (by decide) rfl (fun ls hl => ?_)
          refine lv_iload_n hx hb dX5_tryText_73 rfl (lv_at hl 3 rfl) ?_
          refine lv_iconst (v := 1) hx hb dX5_tryText_74 (by decide) ?_
          refine lv_iadd hx hb dX5_tryText_75 ?_
          refine lv_topi (fun x12 ex12 => ?_)
          replace hw := hw x12 ex12
          refine lv_istore_n (lv' := [(2, .int x12), (1, .int x11), (0, .ref x), (3, .int v3)]) hx hb dX5_tryText_76 rfl hl (by decide) rfl (fun ls hl => ?_)
          obtain ⟨x13, ex13⟩ : ∃ y : Int32, y = (v3 + 1) := ⟨_, rfl⟩
          replace hw := hw x13 ex13
          refine lv_iinc (v := x13) (lv' := [(3, .int x13), (2, .int x12), (1, .int x11), (0, .ref x)]) hx hb dX5_tryText_77 hl (k := 3) rfl (by rw [ex13]; rfl) (by decide) rfl (fun ls hl => ?_)
          refine lv_goto (tgt := 17) hx hb dX5_tryText_80 (by decide) ?_
          exact ih x11 x12 x13 (u.1, u.2.1, w9, u.2.2.2.1, u.2.2.2.2.1, u.2.2.2.2.2) H locs ls hP hD hS (lv_sub hl [3, 2, 1, 0] rfl) hw
        · replace hw := Eq.mp (if_pos c10) hw
          refine lv_iload_n hx hb dX5_tryText_68 rfl (lv_at hl 1 rfl) ?_
          exact W.iret (v := v1) hx hb hr (fun t ht hW => ⟨⟨v1, (u.1, u.2.1, w9, u.2.2.2.1, u.2.2.2.2.1, u.2.2.2.2.2), rfl, hw, by rw [ht]; exact hP, va_K.moved hW.alike hK, hD⟩, hS.F ht⟩) hS.2.2 dX5_tryText_69
  unfold pX5_tryText at hw
  refine lv_aload_n hx hb dX5_tryText_0 rfl (lv_at hl 0 rfl) ?_
  refine va_get (D := D) (ci := 4) (v := .ref at_.1) (C := RX5) (T := TX5) (N := 6) hx hb hts (fun _ h => List.mem_cons_of_mem _ (List.mem_append_left _ (List.mem_append_left _ (List.mem_append_left _ (List.mem_append_right _ h))))) hown hK hP 0 rfl rfl 1 (by decide) (hts (.fieldLink RX5 16 "HazelGift" "trial" "LHazelGift$Game;") (List.mem_of_getElem? (i := 1) rfl)) (fun _ h9 => h9) rfl dX5_tryText_1 ?_
  refine lv_aload_n hx hb dX5_tryText_4 rfl (lv_at hl 0 rfl) ?_
  refine va_get (D := D) (ci := 4) (v := .ref ag.1) (C := RX5) (T := TX5) (N := 6) hx hb hts (fun _ h => List.mem_cons_of_mem _ (List.mem_append_left _ (List.mem_append_left _ (List.mem_append_left _ (List.mem_append_right _ h))))) hown hK hP 0 rfl rfl 0 (by decide) (hts (.fieldLink RX5 10 "HazelGift" "game" "LHazelGift$Game;") (List.mem_of_getElem? (i := 2) rfl)) (fun _ h9 => h9) rfl dX5_tryText_5 ?_
  refine gWVv (S := SG × SG) (As := [.ref ag.1]) (rest := []) (wc := wG kI at_ u.2.2.1 ++ wG kI ag u.2.1) (wr := [(x, .inr (4, [.ref ag.1, .ref at_.1, .ref as_.1, .int u.1, .ref hh, .ref tx]))] ++ wG kI as_ u.2.2.2.1 ++ [(hh, .inr (2, [.ref hst, .int u.2.2.2.2.1.1, .int u.2.2.2.2.1.2.1])), (hst, .inl (kG, 4, .inr (.inr (.inr (.inr (fH a0 a1 a2 a3))))))] ++ wG kI a0 u.2.2.2.2.1.2.2.1 ++ wG kI a1 u.2.2.2.2.1.2.2.2.1 ++ wG kI a2 u.2.2.2.2.1.2.2.2.2.1 ++ wG kI a3 u.2.2.2.2.1.2.2.2.2.2 ++ wT kC tx tch u.2.2.2.2.2) (cs1 := (fun zz : SG × SG => wG kI at_ zz.1 ++ wG kI ag zz.2)) (ws2 := (fun zz : SG × SG => wX kI kC kG x ag at_ as_ hh hst a0 a1 a2 a3 tx tch (u.1, zz.2, zz.1, u.2.2.2.1, u.2.2.2.2.1, u.2.2.2.2.2))) ⟨hx, hb, hml, hown, hts⟩ (fun sz => kX2_copyFrom l D kI kC kG kJ at_ ag sz u.2.2.1 u.2.1 _ hw) (cwV 1 hts gX5_tryText_X2_copyFrom rfl rfl rfl hdX2_copyFrom ⟨Nat.le_of_ble_eq_true rfl, Nat.le_of_ble_eq_true rfl⟩) hK hP hD hE hS hA [5, 6, 7, 8, 1, 2, 3, 4] [0, 9, 10, 11, 12, 13, 14, 15, 16, 17, 18, 19, 20, 21, 22, 23, 24, 25, 26, 27, 28, 29, 30, 31, 32] rfl rfl rfl rfl (by decide) [0, 29, 30, 31, 32, 25, 26, 27, 28, 1, 2, 3, 4, 5, 6, 7, 8, 9, 10, 11, 12, 13, 14, 15, 16, 17, 18, 19, 20, 21, 22, 23, 24] rfl (fun _ => rfl) (ci := 1) (q0 := 0) rfl rfl rfl rfl hl.1 rfl (Nat.le_of_ble_eq_true rfl) dX5_tryText_8 ⟨Nat.le_of_ble_eq_true rfl, Nat.le_of_ble_eq_true rfl⟩ (fun w1 H locs hw hP hD hS => ?_)
  have hP : va_P D vwCl (wX kI kC kG x ag at_ as_ hh hst a0 a1 a2 a3 tx tch (u.1, w1.2, w1.1, u.2.2.2.1, u.2.2.2.2.1, u.2.2.2.2.2)) H := hP
  have hD : va_D A (wX kI kC kG x ag at_ as_ hh hst a0 a1 a2 a3 tx tch (u.1, w1.2, w1.1, u.2.2.2.1, u.2.2.2.2.1, u.2.2.2.2.2)) := hD
  refine lv_iconst (v := 0) hx hb dX5_tryText_11 (by decide) ?_
  refine lv_istore_n (lv' := [(1, .int 0), (0, .ref x)]) hx hb dX5_tryText_12 rfl hl (by decide) rfl (fun ls hl => ?_)
  refine lv_iconst (v := 0) hx hb dX5_tryText_13 (by decide) ?_
  refine lv_istore_n (lv' := [(2, .int 0), (1, .int 0), (0, .ref x)]) hx hb dX5_tryText_14 rfl hl (by decide) rfl (fun ls hl => ?_)
  refine lv_iconst (v := 0) hx hb dX5_tryText_15 (by decide) ?_
  refine lv_istore_n (lv' := [(3, .int 0), (2, .int 0), (1, .int 0), (0, .ref x)]) hx hb dX5_tryText_16 rfl hl (by decide) rfl (fun ls hl => ?_)
  obtain ⟨n9, hw⟩ := hw
  exact L17 () n9 0 0 0 (u.1, w1.2, w1.1, u.2.2.2.1, u.2.2.2.2.1, u.2.2.2.2.2) H locs ls hP hD hS (lv_sub hl [3, 2, 1, 0] rfl) hw
set_option maxHeartbeats 4000000 in
set_option maxRecDepth 100000 in
theorem kX5_give (l : Launch) (D : va_G) (kI kC kG kJ : ClassId) (hlt : l.stackTraces = false) (x : Nat) (ag at_ as_ : AG) (hh hst : Nat) (a0 a1 a2 a3 : AG) (tx tch : Nat) (sz : Nat) (u : SX) (p0 : Int32) (Z : Int32 → SX → Prop) (X : String → SX → Prop) (hw : pX5_give p0 u Z X) : vx_Met l yX5_give wsX5_give ({ frames := 7, cells := 2, slots := 12, locals := 110 } : Room) (gPw D (gT kI kC kG kJ) [.ref x, .int p0] (wX kI kC kG x ag at_ as_ hh hst a0 a1 a2 a3 tx tch u) sz) (va_Qi Z (gB D (gT kI kC kG kJ) (fun (zz : SX) => wX kI kC kG x ag at_ as_ hh hst a0 a1 a2 a3 tx tch zz) (va_A (wX kI kC kG x ag at_ as_ hh hst a0 a1 a2 a3 tx tch u) sz)) (va_A (wX kI kC kG x ag at_ as_ hh hst a0 a1 a2 a3 tx tch u) sz)) (gX D (gT kI kC kG kJ) (fun (zz : SX) => wX kI kC kG x ag at_ as_ hh hst a0 a1 a2 a3 tx tch zz) (va_A (wX kI kC kG x ag at_ as_ hh hst a0 a1 a2 a3 tx tch u) sz) X) 2 12 (va_A (wX kI kC kG x ag at_ as_ hh hst a0 a1 a2 a3 tx tch u) sz) := by
  refine vx_ofW (cc := cX5_give) (maxL := 2) (ret := (some .int)) (by decide) rfl ?_
  intro p e s m args below meth c s₁ B hml hnx hv
  obtain ⟨rfl, hsz, hP, hK, hD0, hE⟩ := hv
  have hx := B.exec
  have hb := B.bytes
  have hr := B.returns
  have hts := atoms_spec (ws := wsX5_give) B.pre
  have hown : s.vm.findClass RX5 = some m.cls := findClass_of_methodNamed B.named
  have hlocks := B.notSynchronized
  subst hsz
  have hD := hD0.self (sz := s.heap.size)
  generalize hAe : va_A (wX kI kC kG x ag at_ as_ hh hst a0 a1 a2 a3 tx tch u) s.heap.size = A at hD hE ⊢
  have hA : ∀ q : Nat, s.heap.size ≤ q → A q := fun q h => by rw [← hAe]; exact Or.inr h
  have hS : va_S A s.heap s.heap [] := va_S.rf
  clear hAe hD0
  have hl := lv_entry ([.ref x, .int p0]) (n := 2) (Nat.le_of_ble_eq_true rfl)
  rw [lg_entry_eq]
  generalize (lg_sl ([.ref x, .int p0]) ++ List.replicate (2 - (lg_sl ([.ref x, .int p0])).length) Slot.unset).toArray = ls at hl ⊢
  have hl : lv_has ls 2 [(0, .ref x), (1, .int p0)] := hl
  have hP : va_P D vwCl (wX kI kC kG x ag at_ as_ hh hst a0 a1 a2 a3 tx tch u) s.heap := hP
  unfold pX5_give at hw
  refine lv_iload_n hx hb dX5_give_0 rfl (lv_at hl 1 rfl) ?_
  refine gXSv (S := Unit) (As := [.int p0]) (rest := []) (wc := ([] : va_W)) (wr := [(x, .inr (4, [.ref ag.1, .ref at_.1, .ref as_.1, .int u.1, .ref hh, .ref tx]))] ++ wG kI ag u.2.1 ++ wG kI at_ u.2.2.1 ++ wG kI as_ u.2.2.2.1 ++ [(hh, .inr (2, [.ref hst, .int u.2.2.2.2.1.1, .int u.2.2.2.2.1.2.1])), (hst, .inl (kG, 4, .inr (.inr (.inr (.inr (fH a0 a1 a2 a3))))))] ++ wG kI a0 u.2.2.2.2.1.2.2.1 ++ wG kI a1 u.2.2.2.2.1.2.2.2.1 ++ wG kI a2 u.2.2.2.2.1.2.2.2.2.1 ++ wG kI a3 u.2.2.2.2.1.2.2.2.2.2 ++ wT kC tx tch u.2.2.2.2.2) (cs1 := (fun zz : Unit => ([] : va_W))) (ws2 := (fun zz : Unit => wX kI kC kG x ag at_ as_ hh hst a0 a1 a2 a3 tx tch u)) ⟨hx, hb, hml, hown, hts⟩ (fun sz => kX5_requirePiece l D kI kC kG kJ hlt  sz p0 _ _ hw) (va_cwS 1 hts gX5_give_X5_requirePiece rfl rfl rfl hdX5_requirePiece ⟨Nat.le_of_ble_eq_true rfl, Nat.le_of_ble_eq_true rfl⟩) hK hP hD hE hS hA [] [0, 1, 2, 3, 4, 5, 6, 7, 8, 9, 10, 11, 12, 13, 14, 15, 16, 17, 18, 19, 20, 21, 22, 23, 24, 25, 26, 27, 28, 29, 30, 31, 32] rfl rfl rfl rfl (by decide) [0, 1, 2, 3, 4, 5, 6, 7, 8, 9, 10, 11, 12, 13, 14, 15, 16, 17, 18, 19, 20, 21, 22, 23, 24, 25, 26, 27, 28, 29, 30, 31, 32] rfl (fun _ => rfl) (fun w1 => u) (fun _ => rfl) (fun _ _ h => h) hnx hlocks (Nat.le_of_ble_eq_true rfl) (Nat.le_of_ble_eq_true rfl) rfl hl.1 rfl (Nat.le_of_ble_eq_true rfl) dX5_give_1 ⟨Nat.le_of_ble_eq_true rfl, Nat.le_of_ble_eq_true rfl⟩ (fun w1 H locs hw hP hD hS => ?_)
  have hP : va_P D vwCl (wX kI kC kG x ag at_ as_ hh hst a0 a1 a2 a3 tx tch u) H := hP
  have hD : va_D A (wX kI kC kG x ag at_ as_ hh hst a0 a1 a2 a3 tx tch u) := hD
  refine lv_aload_n hx hb dX5_give_4 rfl (lv_at hl 0 rfl) ?_
  refine va_get (D := D) (ci := 4) (v := .ref ag.1) (C := RX5) (T := TX5) (N := 6) hx hb hts (fun _ h => List.mem_cons_of_mem _ (List.mem_append_left _ (List.mem_append_left _ (List.mem_append_left _ (List.mem_append_left _ (List.mem_append_left _ (List.mem_append_right _ h))))))) hown hK hP 0 rfl rfl 0 (by decide) (hts (.fieldLink RX5 10 "HazelGift" "game" "LHazelGift$Game;") (List.mem_of_getElem? (i := 3) rfl)) (fun _ h9 => h9) rfl dX5_give_5 ?_
  refine lv_iload_n hx hb dX5_give_8 rfl (lv_at hl 1 rfl) ?_
  refine gVi (As := [.int p0]) (rest := []) (cs' := wG kI ag u.2.1) ⟨hx, hb, hml, hown, hts⟩ (kX2_canGive l D kI kC kG kJ ag u.2.1 p0 _ hw) (cwV 1 hts gX5_give_X2_canGive rfl rfl rfl hdX2_canGive ⟨Nat.le_of_ble_eq_true rfl, Nat.le_of_ble_eq_true rfl⟩) hK hP hE hS [1, 2, 3, 4] rfl (ci := 1) (q0 := 0) rfl rfl rfl rfl hl.1 rfl (Nat.le_of_ble_eq_true rfl) dX5_give_9 ⟨Nat.le_of_ble_eq_true rfl, Nat.le_of_ble_eq_true rfl⟩ (fun r2 hw => ?_)
  refine lv_if_ne (tgt := 25) hx hb dX5_give_12 (by decide) (fun c3 => ?_) (fun c3 => ?_)
  · replace hw := Eq.mp (if_neg c3) hw
    refine lv_aload_n hx hb dX5_give_25 rfl (lv_at hl 0 rfl) ?_
    refine va_get (D := D) (ci := 4) (v := .ref hh) (C := RX5) (T := TX5) (N := 6) hx hb hts (fun _ h => List.mem_cons_of_mem _ (List.mem_append_left _ (List.mem_append_left _ (List.mem_append_left _ (List.mem_append_left _ (List.mem_append_left _ (List.mem_append_right _ h))))))) hown hK hP 0 rfl rfl 4 (by decide) (hts (.fieldLink RX5 29 "HazelGift" "history" "LHazelGift$History;") (List.mem_of_getElem? (i := 4) rfl)) (fun _ h9 => h9) rfl dX5_give_26 ?_
    refine lv_aload_n hx hb dX5_give_29 rfl (lv_at hl 0 rfl) ?_
    refine va_get (D := D) (ci := 4) (v := .ref ag.1) (C := RX5) (T := TX5) (N := 6) hx hb hts (fun _ h => List.mem_cons_of_mem _ (List.mem_append_left _ (List.mem_append_left _ (List.mem_append_left _ (List.mem_append_left _ (List.mem_append_left _ (List.mem_append_right _ h))))))) hown hK hP 0 rfl rfl 0 (by decide) (hts (.fieldLink RX5 10 "HazelGift" "game" "LHazelGift$Game;") (List.mem_of_getElem? (i := 3) rfl)) (fun _ h9 => h9) rfl dX5_give_30 ?_
    refine gWVv (S := SH × SG) (As := [.ref ag.1]) (rest := []) (wc := wH kI kG hh hst a0 a1 a2 a3 u.2.2.2.2.1 ++ wG kI ag u.2.1) (wr := [(x, .inr (4, [.ref ag.1, .ref at_.1, .ref as_.1, .int u.1, .ref hh, .ref tx]))] ++ wG kI at_ u.2.2.1 ++ wG kI as_ u.2.2.2.1 ++ wT kC tx tch u.2.2.2.2.2) (cs1 := (fun zz : SH × SG => wH kI kG hh hst a0 a1 a2 a3 zz.1 ++ wG kI ag zz.2)) (ws2 := (fun zz : SH × SG => wX kI kC kG x ag at_ as_ hh hst a0 a1 a2 a3 tx tch (u.1, zz.2, u.2.2.1, u.2.2.2.1, zz.1, u.2.2.2.2.2))) ⟨hx, hb, hml, hown, hts⟩ (fun sz => kX3_record l D kI kC kG kJ hh hst a0 a1 a2 a3 ag sz u.2.2.2.2.1 u.2.1 _ hw) (cwV 1 hts gX5_give_X3_record rfl rfl rfl hdX3_record ⟨Nat.le_of_ble_eq_true rfl, Nat.le_of_ble_eq_true rfl⟩) hK hP hD hE hS hA [13, 14, 15, 16, 17, 18, 19, 20, 21, 22, 23, 24, 25, 26, 27, 28, 29, 30, 1, 2, 3, 4] [0, 5, 6, 7, 8, 9, 10, 11, 12, 31, 32] rfl rfl rfl rfl (by decide) [0, 29, 30, 31, 32, 1, 2, 3, 4, 5, 6, 7, 8, 11, 12, 13, 14, 15, 16, 17, 18, 19, 20, 21, 22, 23, 24, 25, 26, 27, 28, 9, 10] rfl (fun _ => rfl) (ci := 2) (q0 := 0) rfl rfl rfl rfl hl.1 rfl (Nat.le_of_ble_eq_true rfl) dX5_give_33 ⟨Nat.le_of_ble_eq_true rfl, Nat.le_of_ble_eq_true rfl⟩ (fun w4 H locs hw hP hD hS => ?_)
    have hP : va_P D vwCl (wX kI kC kG x ag at_ as_ hh hst a0 a1 a2 a3 tx tch (u.1, w4.2, u.2.2.1, u.2.2.2.1, w4.1, u.2.2.2.2.2)) H := hP
    have hD : va_D A (wX kI kC kG x ag at_ as_ hh hst a0 a1 a2 a3 tx tch (u.1, w4.2, u.2.2.1, u.2.2.2.1, w4.1, u.2.2.2.2.2)) := hD
    refine lv_aload_n hx hb dX5_give_36 rfl (lv_at hl 0 rfl) ?_
    refine va_get (D := D) (ci := 4) (v := .ref ag.1) (C := RX5) (T := TX5) (N := 6) hx hb hts (fun _ h => List.mem_cons_of_mem _ (List.mem_append_left _ (List.mem_append_left _ (List.mem_append_left _ (List.mem_append_left _ (List.mem_append_left _ (List.mem_append_right _ h))))))) hown hK hP 0 rfl rfl 0 (by decide) (hts (.fieldLink RX5 10 "HazelGift" "game" "LHazelGift$Game;") (List.mem_of_getElem? (i := 3) rfl)) (fun _ h9 => h9) rfl dX5_give_37 ?_
    refine lv_iload_n hx hb dX5_give_40 rfl (lv_at hl 1 rfl) ?_
    refine gWVv (S := SG) (As := [.int p0]) (rest := []) (wc := wG kI ag w4.2) (wr := [(x, .inr (4, [.ref ag.1, .ref at_.1, .ref as_.1, .int u.1, .ref hh, .ref tx]))] ++ wG kI at_ u.2.2.1 ++ wG kI as_ u.2.2.2.1 ++ [(hh, .inr (2, [.ref hst, .int w4.1.1, .int w4.1.2.1])), (hst, .inl (kG, 4, .inr (.inr (.inr (.inr (fH a0 a1 a2 a3))))))] ++ wG kI a0 w4.1.2.2.1 ++ wG kI a1 w4.1.2.2.2.1 ++ wG kI a2 w4.1.2.2.2.2.1 ++ wG kI a3 w4.1.2.2.2.2.2 ++ wT kC tx tch u.2.2.2.2.2) (cs1 := (fun zz : SG => wG kI ag zz)) (ws2 := (fun zz : SG => wX kI kC kG x ag at_ as_ hh hst a0 a1 a2 a3 tx tch (u.1, zz, u.2.2.1, u.2.2.2.1, w4.1, u.2.2.2.2.2))) ⟨hx, hb, hml, hown, hts⟩ (fun sz => kX2_setGift l D kI kC kG kJ ag sz w4.2 p0 _ hw) (cwV 1 hts gX5_give_X2_setGift rfl rfl rfl hdX2_setGift ⟨Nat.le_of_ble_eq_true rfl, Nat.le_of_ble_eq_true rfl⟩) hK hP hD hE hS hA [1, 2, 3, 4] [0, 5, 6, 7, 8, 9, 10, 11, 12, 13, 14, 15, 16, 17, 18, 19, 20, 21, 22, 23, 24, 25, 26, 27, 28, 29, 30, 31, 32] rfl rfl rfl rfl (by decide) [0, 29, 30, 31, 32, 1, 2, 3, 4, 5, 6, 7, 8, 9, 10, 11, 12, 13, 14, 15, 16, 17, 18, 19, 20, 21, 22, 23, 24, 25, 26, 27, 28] rfl (fun _ => rfl) (ci := 1) (q0 := 0) rfl rfl rfl rfl hl.1 rfl (Nat.le_of_ble_eq_true rfl) dX5_give_41 ⟨Nat.le_of_ble_eq_true rfl, Nat.le_of_ble_eq_true rfl⟩ (fun w5 H locs hw hP hD hS => ?_)
    have hP : va_P D vwCl (wX kI kC kG x ag at_ as_ hh hst a0 a1 a2 a3 tx tch (u.1, w5, u.2.2.1, u.2.2.2.1, w4.1, u.2.2.2.2.2)) H := hP
    have hD : va_D A (wX kI kC kG x ag at_ as_ hh hst a0 a1 a2 a3 tx tch (u.1, w5, u.2.2.1, u.2.2.2.1, w4.1, u.2.2.2.2.2)) := hD
    refine lv_aload_n hx hb dX5_give_44 rfl (lv_at hl 0 rfl) ?_
    refine va_get (D := D) (ci := 4) (v := .ref ag.1) (C := RX5) (T := TX5) (N := 6) hx hb hts (fun _ h => List.mem_cons_of_mem _ (List.mem_append_left _ (List.mem_append_left _ (List.mem_append_left _ (List.mem_append_left _ (List.mem_append_left _ (List.mem_append_right _ h))))))) hown hK hP 0 rfl rfl 0 (by decide) (hts (.fieldLink RX5 10 "HazelGift" "game" "LHazelGift$Game;") (List.mem_of_getElem? (i := 3) rfl)) (fun _ h9 => h9) rfl dX5_give_45 ?_
    refine gVi (As := []) (rest := []) (cs' := wG kI ag w5) ⟨hx, hb, hml, hown, hts⟩ (kX2_mover l D kI kC kG kJ ag w5 _ hw) (cwV 0 hts gX5_give_X2_mover rfl rfl rfl hdX2_mover ⟨Nat.le_of_ble_eq_true rfl, Nat.le_of_ble_eq_true rfl⟩) hK hP hE hS [1, 2, 3, 4] rfl (ci := 1) (q0 := 0) rfl rfl rfl rfl hl.1 rfl (Nat.le_of_ble_eq_true rfl) dX5_give_48 ⟨Nat.le_of_ble_eq_true rfl, Nat.le_of_ble_eq_true rfl⟩ (fun r6 hw => ?_)
    refine vx_ret ?_
    refine W.widen (k := 2) (n := 12) (Nat.le_of_ble_eq_true rfl) (Nat.le_of_ble_eq_true rfl) ?_
    exact W.iret (v := r6) hx hb hr (fun t ht hW => ⟨⟨r6, (u.1, w5, u.2.2.1, u.2.2.2.1, w4.1, u.2.2.2.2.2), rfl, hw, by rw [ht]; exact hP, va_K.moved hW.alike hK, hD⟩, hS.F ht⟩) hS.2.2 dX5_give_51
  · replace hw := Eq.mp (if_pos c3) hw
    exact gThrow (uO := u) (text := "the piece cannot be given") hx hb hlt hown (by decide) (hts (.classLink RX5 48 "java/lang/IllegalStateException") (List.mem_of_getElem? (i := 1) rfl)) (hts (.initialized "java/lang/IllegalStateException") (List.mem_of_getElem? (i := 2) rfl)) (fun w h => hts w (List.mem_cons_of_mem _ (List.mem_append_left _ (List.mem_append_right _ h)))) gXn0 gXg0 (List.mem_of_getElem? (i := 0) rfl) hK hP hD hE hS rfl hw (hl.1.trans hml.symm) dX5_give_15 dX5_give_18 dX5_give_19 dX5_give_21 dX5_give_24 hnx (Nat.le_of_ble_eq_true rfl) (Nat.le_of_ble_eq_true rfl) (Nat.le_of_ble_eq_true rfl) (Nat.le_of_ble_eq_true rfl) hlocks (Nat.le_of_ble_eq_true rfl) (Nat.le_of_ble_eq_true rfl)
set_option maxHeartbeats 4000000 in
set_option maxRecDepth 100000 in
theorem kX5_place (l : Launch) (D : va_G) (kI kC kG kJ : ClassId) (hlt : l.stackTraces = false) (x : Nat) (ag at_ as_ : AG) (hh hst : Nat) (a0 a1 a2 a3 : AG) (tx tch : Nat) (sz : Nat) (u : SX) (p0 : Int32) (Z : Int32 → SX → Prop) (X : String → SX → Prop) (hw : pX5_place p0 u Z X) : vx_Met l yX5_place wsX5_place ({ frames := 7, cells := 2, slots := 12, locals := 123 } : Room) (gPw D (gT kI kC kG kJ) [.ref x, .int p0] (wX kI kC kG x ag at_ as_ hh hst a0 a1 a2 a3 tx tch u) sz) (va_Qi Z (gB D (gT kI kC kG kJ) (fun (zz : SX) => wX kI kC kG x ag at_ as_ hh hst a0 a1 a2 a3 tx tch zz) (va_A (wX kI kC kG x ag at_ as_ hh hst a0 a1 a2 a3 tx tch u) sz)) (va_A (wX kI kC kG x ag at_ as_ hh hst a0 a1 a2 a3 tx tch u) sz)) (gX D (gT kI kC kG kJ) (fun (zz : SX) => wX kI kC kG x ag at_ as_ hh hst a0 a1 a2 a3 tx tch zz) (va_A (wX kI kC kG x ag at_ as_ hh hst a0 a1 a2 a3 tx tch u) sz) X) 2 12 (va_A (wX kI kC kG x ag at_ as_ hh hst a0 a1 a2 a3 tx tch u) sz) := by
  refine vx_ofW (cc := cX5_place) (maxL := 2) (ret := (some .boolean)) (by decide) rfl ?_
  intro p e s m args below meth c s₁ B hml hnx hv
  obtain ⟨rfl, hsz, hP, hK, hD0, hE⟩ := hv
  have hx := B.exec
  have hb := B.bytes
  have hr := B.returns
  have hts := atoms_spec (ws := wsX5_place) B.pre
  have hown : s.vm.findClass RX5 = some m.cls := findClass_of_methodNamed B.named
  have hlocks := B.notSynchronized
  subst hsz
  have hD := hD0.self (sz := s.heap.size)
  generalize hAe : va_A (wX kI kC kG x ag at_ as_ hh hst a0 a1 a2 a3 tx tch u) s.heap.size = A at hD hE ⊢
  have hA : ∀ q : Nat, s.heap.size ≤ q → A q := fun q h => by rw [← hAe]; exact Or.inr h
  have hS : va_S A s.heap s.heap [] := va_S.rf
  clear hAe hD0
  have hl := lv_entry ([.ref x, .int p0]) (n := 2) (Nat.le_of_ble_eq_true rfl)
  rw [lg_entry_eq]
  generalize (lg_sl ([.ref x, .int p0]) ++ List.replicate (2 - (lg_sl ([.ref x, .int p0])).length) Slot.unset).toArray = ls at hl ⊢
  have hl : lv_has ls 2 [(0, .ref x), (1, .int p0)] := hl
  have hP : va_P D vwCl (wX kI kC kG x ag at_ as_ hh hst a0 a1 a2 a3 tx tch u) s.heap := hP
  unfold pX5_place at hw
  refine lv_iload_n hx hb dX5_place_0 rfl (lv_at hl 1 rfl) ?_
  refine gXSv (S := Unit) (As := [.int p0]) (rest := []) (wc := ([] : va_W)) (wr := [(x, .inr (4, [.ref ag.1, .ref at_.1, .ref as_.1, .int u.1, .ref hh, .ref tx]))] ++ wG kI ag u.2.1 ++ wG kI at_ u.2.2.1 ++ wG kI as_ u.2.2.2.1 ++ [(hh, .inr (2, [.ref hst, .int u.2.2.2.2.1.1, .int u.2.2.2.2.1.2.1])), (hst, .inl (kG, 4, .inr (.inr (.inr (.inr (fH a0 a1 a2 a3))))))] ++ wG kI a0 u.2.2.2.2.1.2.2.1 ++ wG kI a1 u.2.2.2.2.1.2.2.2.1 ++ wG kI a2 u.2.2.2.2.1.2.2.2.2.1 ++ wG kI a3 u.2.2.2.2.1.2.2.2.2.2 ++ wT kC tx tch u.2.2.2.2.2) (cs1 := (fun zz : Unit => ([] : va_W))) (ws2 := (fun zz : Unit => wX kI kC kG x ag at_ as_ hh hst a0 a1 a2 a3 tx tch u)) ⟨hx, hb, hml, hown, hts⟩ (fun sz => kX5_requireCell l D kI kC kG kJ hlt  sz p0 _ _ hw) (va_cwS 1 hts gX5_place_X5_requireCell rfl rfl rfl hdX5_requireCell ⟨Nat.le_of_ble_eq_true rfl, Nat.le_of_ble_eq_true rfl⟩) hK hP hD hE hS hA [] [0, 1, 2, 3, 4, 5, 6, 7, 8, 9, 10, 11, 12, 13, 14, 15, 16, 17, 18, 19, 20, 21, 22, 23, 24, 25, 26, 27, 28, 29, 30, 31, 32] rfl rfl rfl rfl (by decide) [0, 1, 2, 3, 4, 5, 6, 7, 8, 9, 10, 11, 12, 13, 14, 15, 16, 17, 18, 19, 20, 21, 22, 23, 24, 25, 26, 27, 28, 29, 30, 31, 32] rfl (fun _ => rfl) (fun w1 => u) (fun _ => rfl) (fun _ _ h => h) hnx hlocks (Nat.le_of_ble_eq_true rfl) (Nat.le_of_ble_eq_true rfl) rfl hl.1 rfl (Nat.le_of_ble_eq_true rfl) dX5_place_1 ⟨Nat.le_of_ble_eq_true rfl, Nat.le_of_ble_eq_true rfl⟩ (fun w1 H locs hw hP hD hS => ?_)
  have hP : va_P D vwCl (wX kI kC kG x ag at_ as_ hh hst a0 a1 a2 a3 tx tch u) H := hP
  have hD : va_D A (wX kI kC kG x ag at_ as_ hh hst a0 a1 a2 a3 tx tch u) := hD
  refine lv_aload_n hx hb dX5_place_4 rfl (lv_at hl 0 rfl) ?_
  refine va_get (D := D) (ci := 4) (v := .ref ag.1) (C := RX5) (T := TX5) (N := 6) hx hb hts (fun _ h => List.mem_cons_of_mem _ (List.mem_append_left _ (List.mem_append_left _ (List.mem_append_left _ (List.mem_append_left _ (List.mem_append_left _ (List.mem_append_right _ h))))))) hown hK hP 0 rfl rfl 0 (by decide) (hts (.fieldLink RX5 10 "HazelGift" "game" "LHazelGift$Game;") (List.mem_of_getElem? (i := 3) rfl)) (fun _ h9 => h9) rfl dX5_place_5 ?_
  refine lv_iload_n hx hb dX5_place_8 rfl (lv_at hl 1 rfl) ?_
  refine gVi (As := [.int p0]) (rest := []) (cs' := wG kI ag u.2.1) ⟨hx, hb, hml, hown, hts⟩ (kX2_canPut l D kI kC kG kJ ag u.2.1 p0 _ hw) (cwV 1 hts gX5_place_X2_canPut rfl rfl rfl hdX2_canPut ⟨Nat.le_of_ble_eq_true rfl, Nat.le_of_ble_eq_true rfl⟩) hK hP hE hS [1, 2, 3, 4] rfl (ci := 1) (q0 := 0) rfl rfl rfl rfl hl.1 rfl (Nat.le_of_ble_eq_true rfl) dX5_place_9 ⟨Nat.le_of_ble_eq_true rfl, Nat.le_of_ble_eq_true rfl⟩ (fun r2 hw => ?_)
  refine lv_if_ne (tgt := 25) hx hb dX5_place_12 (by decide) (fun c3 => ?_) (fun c3 => ?_)
  · replace hw := Eq.mp (if_neg c3) hw
    refine lv_aload_n hx hb dX5_place_25 rfl (lv_at hl 0 rfl) ?_
    refine va_get (D := D) (ci := 4) (v := .ref hh) (C := RX5) (T := TX5) (N := 6) hx hb hts (fun _ h => List.mem_cons_of_mem _ (List.mem_append_left _ (List.mem_append_left _ (List.mem_append_left _ (List.mem_append_left _ (List.mem_append_left _ (List.mem_append_right _ h))))))) hown hK hP 0 rfl rfl 4 (by decide) (hts (.fieldLink RX5 29 "HazelGift" "history" "LHazelGift$History;") (List.mem_of_getElem? (i := 4) rfl)) (fun _ h9 => h9) rfl dX5_place_26 ?_
    refine lv_aload_n hx hb dX5_place_29 rfl (lv_at hl 0 rfl) ?_
    refine va_get (D := D) (ci := 4) (v := .ref ag.1) (C := RX5) (T := TX5) (N := 6) hx hb hts (fun _ h => List.mem_cons_of_mem _ (List.mem_append_left _ (List.mem_append_left _ (List.mem_append_left _ (List.mem_append_left _ (List.mem_append_left _ (List.mem_append_right _ h))))))) hown hK hP 0 rfl rfl 0 (by decide) (hts (.fieldLink RX5 10 "HazelGift" "game" "LHazelGift$Game;") (List.mem_of_getElem? (i := 3) rfl)) (fun _ h9 => h9) rfl dX5_place_30 ?_
    refine gWVv (S := SH × SG) (As := [.ref ag.1]) (rest := []) (wc := wH kI kG hh hst a0 a1 a2 a3 u.2.2.2.2.1 ++ wG kI ag u.2.1) (wr := [(x, .inr (4, [.ref ag.1, .ref at_.1, .ref as_.1, .int u.1, .ref hh, .ref tx]))] ++ wG kI at_ u.2.2.1 ++ wG kI as_ u.2.2.2.1 ++ wT kC tx tch u.2.2.2.2.2) (cs1 := (fun zz : SH × SG => wH kI kG hh hst a0 a1 a2 a3 zz.1 ++ wG kI ag zz.2)) (ws2 := (fun zz : SH × SG => wX kI kC kG x ag at_ as_ hh hst a0 a1 a2 a3 tx tch (u.1, zz.2, u.2.2.1, u.2.2.2.1, zz.1, u.2.2.2.2.2))) ⟨hx, hb, hml, hown, hts⟩ (fun sz => kX3_record l D kI kC kG kJ hh hst a0 a1 a2 a3 ag sz u.2.2.2.2.1 u.2.1 _ hw) (cwV 1 hts gX5_place_X3_record rfl rfl rfl hdX3_record ⟨Nat.le_of_ble_eq_true rfl, Nat.le_of_ble_eq_true rfl⟩) hK hP hD hE hS hA [13, 14, 15, 16, 17, 18, 19, 20, 21, 22, 23, 24, 25, 26, 27, 28, 29, 30, 1, 2, 3, 4] [0, 5, 6, 7, 8, 9, 10, 11, 12, 31, 32] rfl rfl rfl rfl (by decide) [0, 29, 30, 31, 32, 1, 2, 3, 4, 5, 6, 7, 8, 11, 12, 13, 14, 15, 16, 17, 18, 19, 20, 21, 22, 23, 24, 25, 26, 27, 28, 9, 10] rfl (fun _ => rfl) (ci := 2) (q0 := 0) rfl rfl rfl rfl hl.1 rfl (Nat.le_of_ble_eq_true rfl) dX5_place_33 ⟨Nat.le_of_ble_eq_true rfl, Nat.le_of_ble_eq_true rfl⟩ (fun w4 H locs hw hP hD hS => ?_)
    have hP : va_P D vwCl (wX kI kC kG x ag at_ as_ hh hst a0 a1 a2 a3 tx tch (u.1, w4.2, u.2.2.1, u.2.2.2.1, w4.1, u.2.2.2.2.2)) H := hP
    have hD : va_D A (wX kI kC kG x ag at_ as_ hh hst a0 a1 a2 a3 tx tch (u.1, w4.2, u.2.2.1, u.2.2.2.1, w4.1, u.2.2.2.2.2)) := hD
    refine lv_aload_n hx hb dX5_place_36 rfl (lv_at hl 0 rfl) ?_
    refine va_get (D := D) (ci := 4) (v := .ref ag.1) (C := RX5) (T := TX5) (N := 6) hx hb hts (fun _ h => List.mem_cons_of_mem _ (List.mem_append_left _ (List.mem_append_left _ (List.mem_append_left _ (List.mem_append_left _ (List.mem_append_left _ (List.mem_append_right _ h))))))) hown hK hP 0 rfl rfl 0 (by decide) (hts (.fieldLink RX5 10 "HazelGift" "game" "LHazelGift$Game;") (List.mem_of_getElem? (i := 3) rfl)) (fun _ h9 => h9) rfl dX5_place_37 ?_
    refine lv_iload_n hx hb dX5_place_40 rfl (lv_at hl 1 rfl) ?_
    refine gWVi (S := SG) (As := [.int p0]) (rest := []) (wc := wG kI ag w4.2) (wr := [(x, .inr (4, [.ref ag.1, .ref at_.1, .ref as_.1, .int u.1, .ref hh, .ref tx]))] ++ wG kI at_ u.2.2.1 ++ wG kI as_ u.2.2.2.1 ++ [(hh, .inr (2, [.ref hst, .int w4.1.1, .int w4.1.2.1])), (hst, .inl (kG, 4, .inr (.inr (.inr (.inr (fH a0 a1 a2 a3))))))] ++ wG kI a0 w4.1.2.2.1 ++ wG kI a1 w4.1.2.2.2.1 ++ wG kI a2 w4.1.2.2.2.2.1 ++ wG kI a3 w4.1.2.2.2.2.2 ++ wT kC tx tch u.2.2.2.2.2) (cs1 := (fun zz : SG => wG kI ag zz)) (ws2 := (fun zz : SG => wX kI kC kG x ag at_ as_ hh hst a0 a1 a2 a3 tx tch (u.1, zz, u.2.2.1, u.2.2.2.1, w4.1, u.2.2.2.2.2))) ⟨hx, hb, hml, hown, hts⟩ (fun sz => kX2_putGift l D kI kC kG kJ ag sz w4.2 p0 _ hw) (cwV 1 hts gX5_place_X2_putGift rfl rfl rfl hdX2_putGift ⟨Nat.le_of_ble_eq_true rfl, Nat.le_of_ble_eq_true rfl⟩) hK hP hD hE hS hA [1, 2, 3, 4] [0, 5, 6, 7, 8, 9, 10, 11, 12, 13, 14, 15, 16, 17, 18, 19, 20, 21, 22, 23, 24, 25, 26, 27, 28, 29, 30, 31, 32] rfl rfl rfl rfl (by decide) [0, 29, 30, 31, 32, 1, 2, 3, 4, 5, 6, 7, 8, 9, 10, 11, 12, 13, 14, 15, 16, 17, 18, 19, 20, 21, 22, 23, 24, 25, 26, 27, 28] rfl (fun _ => rfl) (ci := 1) (q0 := 0) rfl rfl rfl rfl hl.1 rfl (Nat.le_of_ble_eq_true rfl) dX5_place_41 ⟨Nat.le_of_ble_eq_true rfl, Nat.le_of_ble_eq_true rfl⟩ (fun r5 w5 H locs hw hP hD hS => ?_)
    have hP : va_P D vwCl (wX kI kC kG x ag at_ as_ hh hst a0 a1 a2 a3 tx tch (u.1, w5, u.2.2.1, u.2.2.2.1, w4.1, u.2.2.2.2.2)) H := hP
    have hD : va_D A (wX kI kC kG x ag at_ as_ hh hst a0 a1 a2 a3 tx tch (u.1, w5, u.2.2.1, u.2.2.2.1, w4.1, u.2.2.2.2.2)) := hD
    refine vx_ret ?_
    refine W.widen (k := 2) (n := 12) (Nat.le_of_ble_eq_true rfl) (Nat.le_of_ble_eq_true rfl) ?_
    obtain ⟨hn, hw⟩ := hw
    exact W.zret (v := r5) hx hb hr hn (fun t ht hW => ⟨⟨r5, (u.1, w5, u.2.2.1, u.2.2.2.1, w4.1, u.2.2.2.2.2), rfl, hw, by rw [ht]; exact hP, va_K.moved hW.alike hK, hD⟩, hS.F ht⟩) hS.2.2 dX5_place_44
  · replace hw := Eq.mp (if_pos c3) hw
    exact gThrow (uO := u) (text := "nothing can be placed there") hx hb hlt hown (by decide) (hts (.classLink RX5 48 "java/lang/IllegalStateException") (List.mem_of_getElem? (i := 1) rfl)) (hts (.initialized "java/lang/IllegalStateException") (List.mem_of_getElem? (i := 2) rfl)) (fun w h => hts w (List.mem_cons_of_mem _ (List.mem_append_left _ (List.mem_append_right _ h)))) gXn0 gXg0 (List.mem_of_getElem? (i := 1) rfl) hK hP hD hE hS rfl hw (hl.1.trans hml.symm) dX5_place_15 dX5_place_18 dX5_place_19 dX5_place_21 dX5_place_24 hnx (Nat.le_of_ble_eq_true rfl) (Nat.le_of_ble_eq_true rfl) (Nat.le_of_ble_eq_true rfl) (Nat.le_of_ble_eq_true rfl) hlocks (Nat.le_of_ble_eq_true rfl) (Nat.le_of_ble_eq_true rfl)
set_option maxHeartbeats 4000000 in
set_option maxRecDepth 100000 in
theorem kX5_restart (l : Launch) (D : va_G) (kI kC kG kJ : ClassId) (hlt : l.stackTraces = false) (x : Nat) (ag at_ as_ : AG) (hh hst : Nat) (a0 a1 a2 a3 : AG) (tx tch : Nat) (sz : Nat) (u : SX) (p0 : Int32) (Z : Int32 → SX → Prop) (X : String → SX → Prop) (hw : pX5_restart p0 u Z X) : vx_Met l yX5_restart wsX5_restart ({ frames := 6, cells := 1, slots := 6, locals := 90 } : Room) (gPw D (gT kI kC kG kJ) [.ref x, .int p0] (wX kI kC kG x ag at_ as_ hh hst a0 a1 a2 a3 tx tch u) sz) (va_Qi Z (gB D (gT kI kC kG kJ) (fun (zz : SX) => wX kI kC kG x ag at_ as_ hh hst a0 a1 a2 a3 tx tch zz) (va_A (wX kI kC kG x ag at_ as_ hh hst a0 a1 a2 a3 tx tch u) sz)) (va_A (wX kI kC kG x ag at_ as_ hh hst a0 a1 a2 a3 tx tch u) sz)) (gX D (gT kI kC kG kJ) (fun (zz : SX) => wX kI kC kG x ag at_ as_ hh hst a0 a1 a2 a3 tx tch zz) (va_A (wX kI kC kG x ag at_ as_ hh hst a0 a1 a2 a3 tx tch u) sz) X) 1 6 (va_A (wX kI kC kG x ag at_ as_ hh hst a0 a1 a2 a3 tx tch u) sz) := by
  refine vx_ofW (cc := cX5_restart) (maxL := 3) (ret := (some .int)) (by decide) rfl ?_
  intro p e s m args below meth c s₁ B hml hnx hv
  obtain ⟨rfl, hsz, hP, hK, hD0, hE⟩ := hv
  have hx := B.exec
  have hb := B.bytes
  have hr := B.returns
  have hts := atoms_spec (ws := wsX5_restart) B.pre
  have hown : s.vm.findClass RX5 = some m.cls := findClass_of_methodNamed B.named
  have hlocks := B.notSynchronized
  subst hsz
  have hD := hD0.self (sz := s.heap.size)
  generalize hAe : va_A (wX kI kC kG x ag at_ as_ hh hst a0 a1 a2 a3 tx tch u) s.heap.size = A at hD hE ⊢
  have hA : ∀ q : Nat, s.heap.size ≤ q → A q := fun q h => by rw [← hAe]; exact Or.inr h
  have hS : va_S A s.heap s.heap [] := va_S.rf
  clear hAe hD0
  have hl := lv_entry ([.ref x, .int p0]) (n := 3) (Nat.le_of_ble_eq_true rfl)
  rw [lg_entry_eq]
  generalize (lg_sl ([.ref x, .int p0]) ++ List.replicate (3 - (lg_sl ([.ref x, .int p0])).length) Slot.unset).toArray = ls at hl ⊢
  have hl : lv_has ls 3 [(0, .ref x), (1, .int p0)] := hl
  have hP : va_P D vwCl (wX kI kC kG x ag at_ as_ hh hst a0 a1 a2 a3 tx tch u) s.heap := hP
  unfold pX5_restart at hw
  refine lv_iload_n hx hb dX5_restart_0 rfl (lv_at hl 1 rfl) ?_
  refine lv_if_eq (tgt := 19) hx hb dX5_restart_1 (by decide) (fun c1 => ?_) (fun c1 => ?_)
  · replace hw := Eq.mp (if_pos c1) hw
    refine lv_aload_n hx hb dX5_restart_19 rfl (lv_at hl 0 rfl) ?_
    refine va_get (D := D) (ci := 4) (v := .ref ag.1) (C := RX5) (T := TX5) (N := 6) hx hb hts (fun _ h => List.mem_cons_of_mem _ (List.mem_append_left _ (List.mem_append_left _ (List.mem_append_left _ (List.mem_append_left _ (List.mem_append_right _ h)))))) hown hK hP 0 rfl rfl 0 (by decide) (hts (.fieldLink RX5 10 "HazelGift" "game" "LHazelGift$Game;") (List.mem_of_getElem? (i := 3) rfl)) (fun _ h9 => h9) rfl dX5_restart_20 ?_
    refine gVa (r := .ref ag.2.1) (As := []) (rest := []) (cs' := wG kI ag u.2.1) ⟨hx, hb, hml, hown, hts⟩ (kX2_board l D kI kC kG kJ ag u.2.1) (cwV 0 hts gX5_restart_X2_board rfl rfl rfl hdX2_board ⟨Nat.le_of_ble_eq_true rfl, Nat.le_of_ble_eq_true rfl⟩) hK hP hE hS [1, 2, 3, 4] rfl (ci := 1) (q0 := 0) rfl rfl rfl rfl hl.1 rfl (Nat.le_of_ble_eq_true rfl) dX5_restart_23 ⟨Nat.le_of_ble_eq_true rfl, Nat.le_of_ble_eq_true rfl⟩ ?_
    refine gVi (As := []) (rest := []) (cs' := wB kI ag.2.1 ag.2.2.1 u.2.1.2.2.2) ⟨hx, hb, hml, hown, hts⟩ (kX0_count l D kI kC kG kJ ag.2.1 ag.2.2.1 u.2.1.2.2.2 _ hw) (cwV 0 hts gX5_restart_X0_count rfl rfl rfl hdX0_count ⟨Nat.le_of_ble_eq_true rfl, Nat.le_of_ble_eq_true rfl⟩) hK hP hE hS [3, 4] rfl (ci := 0) (q0 := 0) rfl rfl rfl rfl hl.1 rfl (Nat.le_of_ble_eq_true rfl) dX5_restart_26 ⟨Nat.le_of_ble_eq_true rfl, Nat.le_of_ble_eq_true rfl⟩ (fun r3 hw => ?_)
    refine lv_istore_n (lv' := [(2, .int r3), (0, .ref x), (1, .int p0)]) hx hb dX5_restart_29 rfl hl (by decide) rfl (fun ls hl => ?_)
    refine lv_aload_n hx hb dX5_restart_30 rfl (lv_at hl 1 rfl) ?_
    refine va_get (D := D) (ci := 4) (v := .ref hh) (C := RX5) (T := TX5) (N := 6) hx hb hts (fun _ h => List.mem_cons_of_mem _ (List.mem_append_left _ (List.mem_append_left _ (List.mem_append_left _ (List.mem_append_left _ (List.mem_append_right _ h)))))) hown hK hP 0 rfl rfl 4 (by decide) (hts (.fieldLink RX5 29 "HazelGift" "history" "LHazelGift$History;") (List.mem_of_getElem? (i := 4) rfl)) (fun _ h9 => h9) rfl dX5_restart_31 ?_
    refine lv_aload_n hx hb dX5_restart_34 rfl (lv_at hl 1 rfl) ?_
    refine va_get (D := D) (ci := 4) (v := .ref ag.1) (C := RX5) (T := TX5) (N := 6) hx hb hts (fun _ h => List.mem_cons_of_mem _ (List.mem_append_left _ (List.mem_append_left _ (List.mem_append_left _ (List.mem_append_left _ (List.mem_append_right _ h)))))) hown hK hP 0 rfl rfl 0 (by decide) (hts (.fieldLink RX5 10 "HazelGift" "game" "LHazelGift$Game;") (List.mem_of_getElem? (i := 3) rfl)) (fun _ h9 => h9) rfl dX5_restart_35 ?_
    refine gWVv (S := SH × SG) (As := [.ref ag.1]) (rest := []) (wc := wH kI kG hh hst a0 a1 a2 a3 u.2.2.2.2.1 ++ wG kI ag u.2.1) (wr := [(x, .inr (4, [.ref ag.1, .ref at_.1, .ref as_.1, .int u.1, .ref hh, .ref tx]))] ++ wG kI at_ u.2.2.1 ++ wG kI as_ u.2.2.2.1 ++ wT kC tx tch u.2.2.2.2.2) (cs1 := (fun zz : SH × SG => wH kI kG hh hst a0 a1 a2 a3 zz.1 ++ wG kI ag zz.2)) (ws2 := (fun zz : SH × SG => wX kI kC kG x ag at_ as_ hh hst a0 a1 a2 a3 tx tch (u.1, zz.2, u.2.2.1, u.2.2.2.1, zz.1, u.2.2.2.2.2))) ⟨hx, hb, hml, hown, hts⟩ (fun sz => kX3_record l D kI kC kG kJ hh hst a0 a1 a2 a3 ag sz u.2.2.2.2.1 u.2.1 _ hw) (cwV 1 hts gX5_restart_X3_record rfl rfl rfl hdX3_record ⟨Nat.le_of_ble_eq_true rfl, Nat.le_of_ble_eq_true rfl⟩) hK hP hD hE hS hA [13, 14, 15, 16, 17, 18, 19, 20, 21, 22, 23, 24, 25, 26, 27, 28, 29, 30, 1, 2, 3, 4] [0, 5, 6, 7, 8, 9, 10, 11, 12, 31, 32] rfl rfl rfl rfl (by decide) [0, 29, 30, 31, 32, 1, 2, 3, 4, 5, 6, 7, 8, 11, 12, 13, 14, 15, 16, 17, 18, 19, 20, 21, 22, 23, 24, 25, 26, 27, 28, 9, 10] rfl (fun _ => rfl) (ci := 2) (q0 := 0) rfl rfl rfl rfl hl.1 rfl (Nat.le_of_ble_eq_true rfl) dX5_restart_38 ⟨Nat.le_of_ble_eq_true rfl, Nat.le_of_ble_eq_true rfl⟩ (fun w4 H locs hw hP hD hS => ?_)
    have hP : va_P D vwCl (wX kI kC kG x ag at_ as_ hh hst a0 a1 a2 a3 tx tch (u.1, w4.2, u.2.2.1, u.2.2.2.1, w4.1, u.2.2.2.2.2)) H := hP
    have hD : va_D A (wX kI kC kG x ag at_ as_ hh hst a0 a1 a2 a3 tx tch (u.1, w4.2, u.2.2.1, u.2.2.2.1, w4.1, u.2.2.2.2.2)) := hD
    refine lv_aload_n hx hb dX5_restart_41 rfl (lv_at hl 1 rfl) ?_
    refine va_get (D := D) (ci := 4) (v := .ref ag.1) (C := RX5) (T := TX5) (N := 6) hx hb hts (fun _ h => List.mem_cons_of_mem _ (List.mem_append_left _ (List.mem_append_left _ (List.mem_append_left _ (List.mem_append_left _ (List.mem_append_right _ h)))))) hown hK hP 0 rfl rfl 0 (by decide) (hts (.fieldLink RX5 10 "HazelGift" "game" "LHazelGift$Game;") (List.mem_of_getElem? (i := 3) rfl)) (fun _ h9 => h9) rfl dX5_restart_42 ?_
    refine lv_iload_n hx hb dX5_restart_45 rfl (lv_at hl 2 rfl) ?_
    refine gWVv (S := SG) (As := [.int p0]) (rest := []) (wc := wG kI ag w4.2) (wr := [(x, .inr (4, [.ref ag.1, .ref at_.1, .ref as_.1, .int u.1, .ref hh, .ref tx]))] ++ wG kI at_ u.2.2.1 ++ wG kI as_ u.2.2.2.1 ++ [(hh, .inr (2, [.ref hst, .int w4.1.1, .int w4.1.2.1])), (hst, .inl (kG, 4, .inr (.inr (.inr (.inr (fH a0 a1 a2 a3))))))] ++ wG kI a0 w4.1.2.2.1 ++ wG kI a1 w4.1.2.2.2.1 ++ wG kI a2 w4.1.2.2.2.2.1 ++ wG kI a3 w4.1.2.2.2.2.2 ++ wT kC tx tch u.2.2.2.2.2) (cs1 := (fun zz : SG => wG kI ag zz)) (ws2 := (fun zz : SG => wX kI kC kG x ag at_ as_ hh hst a0 a1 a2 a3 tx tch (u.1, zz, u.2.2.1, u.2.2.2.1, w4.1, u.2.2.2.2.2))) ⟨hx, hb, hml, hown, hts⟩ (fun sz => kX2_begin l D kI kC kG kJ ag sz w4.2 p0 _ hw) (cwV 1 hts gX5_restart_X2_begin rfl rfl rfl hdX2_begin ⟨Nat.le_of_ble_eq_true rfl, Nat.le_of_ble_eq_true rfl⟩) hK hP hD hE hS hA [1, 2, 3, 4] [0, 5, 6, 7, 8, 9, 10, 11, 12, 13, 14, 15, 16, 17, 18, 19, 20, 21, 22, 23, 24, 25, 26, 27, 28, 29, 30, 31, 32] rfl rfl rfl rfl (by decide) [0, 29, 30, 31, 32, 1, 2, 3, 4, 5, 6, 7, 8, 9, 10, 11, 12, 13, 14, 15, 16, 17, 18, 19, 20, 21, 22, 23, 24, 25, 26, 27, 28] rfl (fun _ => rfl) (ci := 1) (q0 := 0) rfl rfl rfl rfl hl.1 rfl (Nat.le_of_ble_eq_true rfl) dX5_restart_46 ⟨Nat.le_of_ble_eq_true rfl, Nat.le_of_ble_eq_true rfl⟩ (fun w5 H locs hw hP hD hS => ?_)
    have hP : va_P D vwCl (wX kI kC kG x ag at_ as_ hh hst a0 a1 a2 a3 tx tch (u.1, w5, u.2.2.1, u.2.2.2.1, w4.1, u.2.2.2.2.2)) H := hP
    have hD : va_D A (wX kI kC kG x ag at_ as_ hh hst a0 a1 a2 a3 tx tch (u.1, w5, u.2.2.1, u.2.2.2.1, w4.1, u.2.2.2.2.2)) := hD
    refine lv_iload_n hx hb dX5_restart_49 rfl (lv_at hl 0 rfl) ?_
    refine vx_ret ?_
    refine W.widen (k := 1) (n := 6) (Nat.le_of_ble_eq_true rfl) (Nat.le_of_ble_eq_true rfl) ?_
    exact W.iret (v := r3) hx hb hr (fun t ht hW => ⟨⟨r3, (u.1, w5, u.2.2.1, u.2.2.2.1, w4.1, u.2.2.2.2.2), rfl, hw, by rw [ht]; exact hP, va_K.moved hW.alike hK, hD⟩, hS.F ht⟩) hS.2.2 dX5_restart_50
  · replace hw := Eq.mp (if_neg c1) hw
    refine lv_iload_n hx hb dX5_restart_4 rfl (lv_at hl 1 rfl) ?_
    refine lv_iconst (v := 1) hx hb dX5_restart_5 (by decide) ?_
    refine lv_icmp_eq (tgt := 19) hx hb dX5_restart_6 (by decide) (fun c6 => ?_) (fun c6 => ?_)
    · replace hw := Eq.mp (if_pos c6) hw
      refine lv_aload_n hx hb dX5_restart_19 rfl (lv_at hl 0 rfl) ?_
      refine va_get (D := D) (ci := 4) (v := .ref ag.1) (C := RX5) (T := TX5) (N := 6) hx hb hts (fun _ h => List.mem_cons_of_mem _ (List.mem_append_left _ (List.mem_append_left _ (List.mem_append_left _ (List.mem_append_left _ (List.mem_append_right _ h)))))) hown hK hP 0 rfl rfl 0 (by decide) (hts (.fieldLink RX5 10 "HazelGift" "game" "LHazelGift$Game;") (List.mem_of_getElem? (i := 3) rfl)) (fun _ h9 => h9) rfl dX5_restart_20 ?_
      refine gVa (r := .ref ag.2.1) (As := []) (rest := []) (cs' := wG kI ag u.2.1) ⟨hx, hb, hml, hown, hts⟩ (kX2_board l D kI kC kG kJ ag u.2.1) (cwV 0 hts gX5_restart_X2_board rfl rfl rfl hdX2_board ⟨Nat.le_of_ble_eq_true rfl, Nat.le_of_ble_eq_true rfl⟩) hK hP hE hS [1, 2, 3, 4] rfl (ci := 1) (q0 := 0) rfl rfl rfl rfl hl.1 rfl (Nat.le_of_ble_eq_true rfl) dX5_restart_23 ⟨Nat.le_of_ble_eq_true rfl, Nat.le_of_ble_eq_true rfl⟩ ?_
      refine gVi (As := []) (rest := []) (cs' := wB kI ag.2.1 ag.2.2.1 u.2.1.2.2.2) ⟨hx, hb, hml, hown, hts⟩ (kX0_count l D kI kC kG kJ ag.2.1 ag.2.2.1 u.2.1.2.2.2 _ hw) (cwV 0 hts gX5_restart_X0_count rfl rfl rfl hdX0_count ⟨Nat.le_of_ble_eq_true rfl, Nat.le_of_ble_eq_true rfl⟩) hK hP hE hS [3, 4] rfl (ci := 0) (q0 := 0) rfl rfl rfl rfl hl.1 rfl (Nat.le_of_ble_eq_true rfl) dX5_restart_26 ⟨Nat.le_of_ble_eq_true rfl, Nat.le_of_ble_eq_true rfl⟩ (fun r8 hw => ?_)
      refine lv_istore_n (lv' := [(2, .int r8), (0, .ref x), (1, .int p0)]) hx hb dX5_restart_29 rfl hl (by decide) rfl (fun ls hl => ?_)
      refine lv_aload_n hx hb dX5_restart_30 rfl (lv_at hl 1 rfl) ?_
      refine va_get (D := D) (ci := 4) (v := .ref hh) (C := RX5) (T := TX5) (N := 6) hx hb hts (fun _ h => List.mem_cons_of_mem _ (List.mem_append_left _ (List.mem_append_left _ (List.mem_append_left _ (List.mem_append_left _ (List.mem_append_right _ h)))))) hown hK hP 0 rfl rfl 4 (by decide) (hts (.fieldLink RX5 29 "HazelGift" "history" "LHazelGift$History;") (List.mem_of_getElem? (i := 4) rfl)) (fun _ h9 => h9) rfl dX5_restart_31 ?_
      refine lv_aload_n hx hb dX5_restart_34 rfl (lv_at hl 1 rfl) ?_
      refine va_get (D := D) (ci := 4) (v := .ref ag.1) (C := RX5) (T := TX5) (N := 6) hx hb hts (fun _ h => List.mem_cons_of_mem _ (List.mem_append_left _ (List.mem_append_left _ (List.mem_append_left _ (List.mem_append_left _ (List.mem_append_right _ h)))))) hown hK hP 0 rfl rfl 0 (by decide) (hts (.fieldLink RX5 10 "HazelGift" "game" "LHazelGift$Game;") (List.mem_of_getElem? (i := 3) rfl)) (fun _ h9 => h9) rfl dX5_restart_35 ?_
      refine gWVv (S := SH × SG) (As := [.ref ag.1]) (rest := []) (wc := wH kI kG hh hst a0 a1 a2 a3 u.2.2.2.2.1 ++ wG kI ag u.2.1) (wr := [(x, .inr (4, [.ref ag.1, .ref at_.1, .ref as_.1, .int u.1, .ref hh, .ref tx]))] ++ wG kI at_ u.2.2.1 ++ wG kI as_ u.2.2.2.1 ++ wT kC tx tch u.2.2.2.2.2) (cs1 := (fun zz : SH × SG => wH kI kG hh hst a0 a1 a2 a3 zz.1 ++ wG kI ag zz.2)) (ws2 := (fun zz : SH × SG => wX kI kC kG x ag at_ as_ hh hst a0 a1 a2 a3 tx tch (u.1, zz.2, u.2.2.1, u.2.2.2.1, zz.1, u.2.2.2.2.2))) ⟨hx, hb, hml, hown, hts⟩ (fun sz => kX3_record l D kI kC kG kJ hh hst a0 a1 a2 a3 ag sz u.2.2.2.2.1 u.2.1 _ hw) (cwV 1 hts gX5_restart_X3_record rfl rfl rfl hdX3_record ⟨Nat.le_of_ble_eq_true rfl, Nat.le_of_ble_eq_true rfl⟩) hK hP hD hE hS hA [13, 14, 15, 16, 17, 18, 19, 20, 21, 22, 23, 24, 25, 26, 27, 28, 29, 30, 1, 2, 3, 4] [0, 5, 6, 7, 8, 9, 10, 11, 12, 31, 32] rfl rfl rfl rfl (by decide) [0, 29, 30, 31, 32, 1, 2, 3, 4, 5, 6, 7, 8, 11, 12, 13, 14, 15, 16, 17, 18, 19, 20, 21, 22, 23, 24, 25, 26, 27, 28, 9, 10] rfl (fun _ => rfl) (ci := 2) (q0 := 0) rfl rfl rfl rfl hl.1 rfl (Nat.le_of_ble_eq_true rfl) dX5_restart_38 ⟨Nat.le_of_ble_eq_true rfl, Nat.le_of_ble_eq_true rfl⟩ (fun w9 H locs hw hP hD hS => ?_)
      have hP : va_P D vwCl (wX kI kC kG x ag at_ as_ hh hst a0 a1 a2 a3 tx tch (u.1, w9.2, u.2.2.1, u.2.2.2.1, w9.1, u.2.2.2.2.2)) H := hP
      have hD : va_D A (wX kI kC kG x ag at_ as_ hh hst a0 a1 a2 a3 tx tch (u.1, w9.2, u.2.2.1, u.2.2.2.1, w9.1, u.2.2.2.2.2)) := hD
      refine lv_aload_n hx hb dX5_restart_41 rfl (lv_at hl 1 rfl) ?_
      refine va_get (D := D) (ci := 4) (v := .ref ag.1) (C := RX5) (T := TX5) (N := 6) hx hb hts (fun _ h => List.mem_cons_of_mem _ (List.mem_append_left _ (List.mem_append_left _ (List.mem_append_left _ (List.mem_append_left _ (List.mem_append_right _ h)))))) hown hK hP 0 rfl rfl 0 (by decide) (hts (.fieldLink RX5 10 "HazelGift" "game" "LHazelGift$Game;") (List.mem_of_getElem? (i := 3) rfl)) (fun _ h9 => h9) rfl dX5_restart_42 ?_
      refine lv_iload_n hx hb dX5_restart_45 rfl (lv_at hl 2 rfl) ?_
      refine gWVv (S := SG) (As := [.int p0]) (rest := []) (wc := wG kI ag w9.2) (wr := [(x, .inr (4, [.ref ag.1, .ref at_.1, .ref as_.1, .int u.1, .ref hh, .ref tx]))] ++ wG kI at_ u.2.2.1 ++ wG kI as_ u.2.2.2.1 ++ [(hh, .inr (2, [.ref hst, .int w9.1.1, .int w9.1.2.1])), (hst, .inl (kG, 4, .inr (.inr (.inr (.inr (fH a0 a1 a2 a3))))))] ++ wG kI a0 w9.1.2.2.1 ++ wG kI a1 w9.1.2.2.2.1 ++ wG kI a2 w9.1.2.2.2.2.1 ++ wG kI a3 w9.1.2.2.2.2.2 ++ wT kC tx tch u.2.2.2.2.2) (cs1 := (fun zz : SG => wG kI ag zz)) (ws2 := (fun zz : SG => wX kI kC kG x ag at_ as_ hh hst a0 a1 a2 a3 tx tch (u.1, zz, u.2.2.1, u.2.2.2.1, w9.1, u.2.2.2.2.2))) ⟨hx, hb, hml, hown, hts⟩ (fun sz => kX2_begin l D kI kC kG kJ ag sz w9.2 p0 _ hw) (cwV 1 hts gX5_restart_X2_begin rfl rfl rfl hdX2_begin ⟨Nat.le_of_ble_eq_true rfl, Nat.le_of_ble_eq_true rfl⟩) hK hP hD hE hS hA [1, 2, 3, 4] [0, 5, 6, 7, 8, 9, 10, 11, 12, 13, 14, 15, 16, 17, 18, 19, 20, 21, 22, 23, 24, 25, 26, 27, 28, 29, 30, 31, 32] rfl rfl rfl rfl (by decide) [0, 29, 30, 31, 32, 1, 2, 3, 4, 5, 6, 7, 8, 9, 10, 11, 12, 13, 14, 15, 16, 17, 18, 19, 20, 21, 22, 23, 24, 25, 26, 27, 28] rfl (fun _ => rfl) (ci := 1) (q0 := 0) rfl rfl rfl rfl hl.1 rfl (Nat.le_of_ble_eq_true rfl) dX5_restart_46 ⟨Nat.le_of_ble_eq_true rfl, Nat.le_of_ble_eq_true rfl⟩ (fun w10 H locs hw hP hD hS => ?_)
      have hP : va_P D vwCl (wX kI kC kG x ag at_ as_ hh hst a0 a1 a2 a3 tx tch (u.1, w10, u.2.2.1, u.2.2.2.1, w9.1, u.2.2.2.2.2)) H := hP
      have hD : va_D A (wX kI kC kG x ag at_ as_ hh hst a0 a1 a2 a3 tx tch (u.1, w10, u.2.2.1, u.2.2.2.1, w9.1, u.2.2.2.2.2)) := hD
      refine lv_iload_n hx hb dX5_restart_49 rfl (lv_at hl 0 rfl) ?_
      refine vx_ret ?_
      refine W.widen (k := 1) (n := 6) (Nat.le_of_ble_eq_true rfl) (Nat.le_of_ble_eq_true rfl) ?_
      exact W.iret (v := r8) hx hb hr (fun t ht hW => ⟨⟨r8, (u.1, w10, u.2.2.1, u.2.2.2.1, w9.1, u.2.2.2.2.2), rfl, hw, by rw [ht]; exact hP, va_K.moved hW.alike hK, hD⟩, hS.F ht⟩) hS.2.2 dX5_restart_50
    · replace hw := Eq.mp (if_neg c6) hw
      exact gThrow (uO := u) (text := "no such rule") hx hb hlt hown (by decide) (hts (.classLink RX5 77 "java/lang/IllegalArgumentException") (List.mem_of_getElem? (i := 1) rfl)) (hts (.initialized "java/lang/IllegalArgumentException") (List.mem_of_getElem? (i := 2) rfl)) (fun w h => hts w (List.mem_cons_of_mem _ (List.mem_append_right _ h))) gXn2 gXg2 (List.mem_of_getElem? (i := 2) rfl) hK hP hD hE hS rfl hw (hl.1.trans hml.symm) dX5_restart_9 dX5_restart_12 dX5_restart_13 dX5_restart_15 dX5_restart_18 hnx (Nat.le_of_ble_eq_true rfl) (Nat.le_of_ble_eq_true rfl) (Nat.le_of_ble_eq_true rfl) (Nat.le_of_ble_eq_true rfl) hlocks (Nat.le_of_ble_eq_true rfl) (Nat.le_of_ble_eq_true rfl)
set_option maxHeartbeats 4000000 in
set_option maxRecDepth 100000 in
theorem kX5_type (l : Launch) (D : va_G) (kI kC kG kJ : ClassId) (hlt : l.stackTraces = false) (x : Nat) (ag at_ as_ : AG) (hh hst : Nat) (a0 a1 a2 a3 : AG) (tx tch : Nat) (sz : Nat) (u : SX) (p0 : Int32) (Z : Int32 → SX → Prop) (X : String → SX → Prop) (hw : pX5_type p0 u Z X) : vx_Met l yX5_type wsX5_type ({ frames := 6, cells := 1, slots := 6, locals := 90 } : Room) (gPw D (gT kI kC kG kJ) [.ref x, .int p0] (wX kI kC kG x ag at_ as_ hh hst a0 a1 a2 a3 tx tch u) sz) (va_Qi Z (gB D (gT kI kC kG kJ) (fun (zz : SX) => wX kI kC kG x ag at_ as_ hh hst a0 a1 a2 a3 tx tch zz) (va_A (wX kI kC kG x ag at_ as_ hh hst a0 a1 a2 a3 tx tch u) sz)) (va_A (wX kI kC kG x ag at_ as_ hh hst a0 a1 a2 a3 tx tch u) sz)) (gX D (gT kI kC kG kJ) (fun (zz : SX) => wX kI kC kG x ag at_ as_ hh hst a0 a1 a2 a3 tx tch zz) (va_A (wX kI kC kG x ag at_ as_ hh hst a0 a1 a2 a3 tx tch u) sz) X) 1 6 (va_A (wX kI kC kG x ag at_ as_ hh hst a0 a1 a2 a3 tx tch u) sz) := by
  refine vx_ofW (cc := cX5_type) (maxL := 2) (ret := (some .int)) (by decide) rfl ?_
  intro p e s m args below meth c s₁ B hml hnx hv
  obtain ⟨rfl, hsz, hP, hK, hD0, hE⟩ := hv
  have hx := B.exec
  have hb := B.bytes
  have hr := B.returns
  have hts := atoms_spec (ws := wsX5_type) B.pre
  have hown : s.vm.findClass RX5 = some m.cls := findClass_of_methodNamed B.named
  have hlocks := B.notSynchronized
  subst hsz
  have hD := hD0.self (sz := s.heap.size)
  generalize hAe : va_A (wX kI kC kG x ag at_ as_ hh hst a0 a1 a2 a3 tx tch u) s.heap.size = A at hD hE ⊢
  have hA : ∀ q : Nat, s.heap.size ≤ q → A q := fun q h => by rw [← hAe]; exact Or.inr h
  have hS : va_S A s.heap s.heap [] := va_S.rf
  clear hAe hD0
  have hl := lv_entry ([.ref x, .int p0]) (n := 2) (Nat.le_of_ble_eq_true rfl)
  rw [lg_entry_eq]
  generalize (lg_sl ([.ref x, .int p0]) ++ List.replicate (2 - (lg_sl ([.ref x, .int p0])).length) Slot.unset).toArray = ls at hl ⊢
  have hl : lv_has ls 2 [(0, .ref x), (1, .int p0)] := hl
  have hP : va_P D vwCl (wX kI kC kG x ag at_ as_ hh hst a0 a1 a2 a3 tx tch u) s.heap := hP
  unfold pX5_type at hw
  refine lv_aload_n hx hb dX5_type_0 rfl (lv_at hl 0 rfl) ?_
  refine va_get (D := D) (ci := 4) (v := .ref tx) (C := RX5) (T := TX5) (N := 6) hx hb hts (fun _ h => List.mem_cons_of_mem _ (List.mem_append_left _ (List.mem_append_left _ (List.mem_append_right _ h)))) hown hK hP 0 rfl rfl 5 (by decide) (hts (.fieldLink RX5 36 "HazelGift" "text" "LHazelGift$MoveText;") (List.mem_of_getElem? (i := 3) rfl)) (fun _ h9 => h9) rfl dX5_type_1 ?_
  refine gVi (As := []) (rest := []) (cs' := wT kC tx tch u.2.2.2.2.2) ⟨hx, hb, hml, hown, hts⟩ (kX4_isFull l D kI kC kG kJ tx tch u.2.2.2.2.2 _ hw) (cwV 0 hts gX5_type_X4_isFull rfl rfl rfl hdX4_isFull ⟨Nat.le_of_ble_eq_true rfl, Nat.le_of_ble_eq_true rfl⟩) hK hP hE hS [31, 32] rfl (ci := 3) (q0 := 0) rfl rfl rfl rfl hl.1 rfl (Nat.le_of_ble_eq_true rfl) dX5_type_4 ⟨Nat.le_of_ble_eq_true rfl, Nat.le_of_ble_eq_true rfl⟩ (fun r1 hw => ?_)
  refine lv_if_eq (tgt := 20) hx hb dX5_type_7 (by decide) (fun c2 => ?_) (fun c2 => ?_)
  · replace hw := Eq.mp (if_pos c2) hw
    refine lv_aload_n hx hb dX5_type_20 rfl (lv_at hl 0 rfl) ?_
    refine va_get (D := D) (ci := 4) (v := .ref tx) (C := RX5) (T := TX5) (N := 6) hx hb hts (fun _ h => List.mem_cons_of_mem _ (List.mem_append_left _ (List.mem_append_left _ (List.mem_append_right _ h)))) hown hK hP 0 rfl rfl 5 (by decide) (hts (.fieldLink RX5 36 "HazelGift" "text" "LHazelGift$MoveText;") (List.mem_of_getElem? (i := 3) rfl)) (fun _ h9 => h9) rfl dX5_type_21 ?_
    refine lv_iload_n hx hb dX5_type_24 rfl (lv_at hl 1 rfl) ?_
    refine gWVv (S := ST) (As := [.int p0]) (rest := []) (wc := wT kC tx tch u.2.2.2.2.2) (wr := [(x, .inr (4, [.ref ag.1, .ref at_.1, .ref as_.1, .int u.1, .ref hh, .ref tx]))] ++ wG kI ag u.2.1 ++ wG kI at_ u.2.2.1 ++ wG kI as_ u.2.2.2.1 ++ [(hh, .inr (2, [.ref hst, .int u.2.2.2.2.1.1, .int u.2.2.2.2.1.2.1])), (hst, .inl (kG, 4, .inr (.inr (.inr (.inr (fH a0 a1 a2 a3))))))] ++ wG kI a0 u.2.2.2.2.1.2.2.1 ++ wG kI a1 u.2.2.2.2.1.2.2.2.1 ++ wG kI a2 u.2.2.2.2.1.2.2.2.2.1 ++ wG kI a3 u.2.2.2.2.1.2.2.2.2.2) (cs1 := (fun zz : ST => wT kC tx tch zz)) (ws2 := (fun zz : ST => wX kI kC kG x ag at_ as_ hh hst a0 a1 a2 a3 tx tch (u.1, u.2.1, u.2.2.1, u.2.2.2.1, u.2.2.2.2.1, zz))) ⟨hx, hb, hml, hown, hts⟩ (fun sz => kX4_append l D kI kC kG kJ tx tch sz u.2.2.2.2.2 p0 _ hw) (cwV 1 hts gX5_type_X4_append rfl rfl rfl hdX4_append ⟨Nat.le_of_ble_eq_true rfl, Nat.le_of_ble_eq_true rfl⟩) hK hP hD hE hS hA [31, 32] [0, 1, 2, 3, 4, 5, 6, 7, 8, 9, 10, 11, 12, 13, 14, 15, 16, 17, 18, 19, 20, 21, 22, 23, 24, 25, 26, 27, 28, 29, 30] rfl rfl rfl rfl (by decide) [0, 1, 2, 3, 4, 5, 6, 7, 8, 9, 10, 11, 12, 13, 14, 15, 16, 17, 18, 19, 20, 21, 22, 23, 24, 25, 26, 27, 28, 29, 30, 31, 32] rfl (fun _ => rfl) (ci := 3) (q0 := 0) rfl rfl rfl rfl hl.1 rfl (Nat.le_of_ble_eq_true rfl) dX5_type_25 ⟨Nat.le_of_ble_eq_true rfl, Nat.le_of_ble_eq_true rfl⟩ (fun w3 H locs hw hP hD hS => ?_)
    have hP : va_P D vwCl (wX kI kC kG x ag at_ as_ hh hst a0 a1 a2 a3 tx tch (u.1, u.2.1, u.2.2.1, u.2.2.2.1, u.2.2.2.2.1, w3)) H := hP
    have hD : va_D A (wX kI kC kG x ag at_ as_ hh hst a0 a1 a2 a3 tx tch (u.1, u.2.1, u.2.2.1, u.2.2.2.1, u.2.2.2.2.1, w3)) := hD
    refine lv_aload_n hx hb dX5_type_28 rfl (lv_at hl 0 rfl) ?_
    refine va_get (D := D) (ci := 4) (v := .ref tx) (C := RX5) (T := TX5) (N := 6) hx hb hts (fun _ h => List.mem_cons_of_mem _ (List.mem_append_left _ (List.mem_append_left _ (List.mem_append_right _ h)))) hown hK hP 0 rfl rfl 5 (by decide) (hts (.fieldLink RX5 36 "HazelGift" "text" "LHazelGift$MoveText;") (List.mem_of_getElem? (i := 3) rfl)) (fun _ h9 => h9) rfl dX5_type_29 ?_
    refine gVi (As := []) (rest := []) (cs' := wT kC tx tch w3) ⟨hx, hb, hml, hown, hts⟩ (kX4_length l D kI kC kG kJ tx tch w3 _ hw) (cwV 0 hts gX5_type_X4_length rfl rfl rfl hdX4_length ⟨Nat.le_of_ble_eq_true rfl, Nat.le_of_ble_eq_true rfl⟩) hK hP hE hS [31, 32] rfl (ci := 3) (q0 := 0) rfl rfl rfl rfl hl.1 rfl (Nat.le_of_ble_eq_true rfl) dX5_type_32 ⟨Nat.le_of_ble_eq_true rfl, Nat.le_of_ble_eq_true rfl⟩ (fun r4 hw => ?_)
    refine vx_ret ?_
    refine W.widen (k := 1) (n := 6) (Nat.le_of_ble_eq_true rfl) (Nat.le_of_ble_eq_true rfl) ?_
    exact W.iret (v := r4) hx hb hr (fun t ht hW => ⟨⟨r4, (u.1, u.2.1, u.2.2.1, u.2.2.2.1, u.2.2.2.2.1, w3), rfl, hw, by rw [ht]; exact hP, va_K.moved hW.alike hK, hD⟩, hS.F ht⟩) hS.2.2 dX5_type_35
  · replace hw := Eq.mp (if_neg c2) hw
    exact gThrow (uO := u) (text := "the text is full") hx hb hlt hown (by decide) (hts (.classLink RX5 48 "java/lang/IllegalStateException") (List.mem_of_getElem? (i := 1) rfl)) (hts (.initialized "java/lang/IllegalStateException") (List.mem_of_getElem? (i := 2) rfl)) (fun w h => hts w (List.mem_cons_of_mem _ (List.mem_append_right _ h))) gXn0 gXg0 (List.mem_of_getElem? (i := 3) rfl) hK hP hD hE hS rfl hw (hl.1.trans hml.symm) dX5_type_10 dX5_type_13 dX5_type_14 dX5_type_16 dX5_type_19 hnx (Nat.le_of_ble_eq_true rfl) (Nat.le_of_ble_eq_true rfl) (Nat.le_of_ble_eq_true rfl) (Nat.le_of_ble_eq_true rfl) hlocks (Nat.le_of_ble_eq_true rfl) (Nat.le_of_ble_eq_true rfl)
set_option maxHeartbeats 4000000 in
set_option maxRecDepth 100000 in
theorem kX5_clearText (l : Launch) (D : va_G) (kI kC kG kJ : ClassId) (x : Nat) (ag at_ as_ : AG) (hh hst : Nat) (a0 a1 a2 a3 : AG) (tx tch : Nat) (sz : Nat) (u : SX) (Z : Int32 → SX → Prop) (hw : pX5_clearText u Z) : Met l yX5_clearText wsX5_clearText ({ frames := 1, cells := 0, slots := 0, locals := 20 } : Room) (gPw D (gT kI kC kG kJ) [.ref x] (wX kI kC kG x ag at_ as_ hh hst a0 a1 a2 a3 tx tch u) sz) (va_Qi Z (gB D (gT kI kC kG kJ) (fun (zz : SX) => wX kI kC kG x ag at_ as_ hh hst a0 a1 a2 a3 tx tch zz) (va_A (wX kI kC kG x ag at_ as_ hh hst a0 a1 a2 a3 tx tch u) sz)) (va_A (wX kI kC kG x ag at_ as_ hh hst a0 a1 a2 a3 tx tch u) sz)) 0 0 (va_A (wX kI kC kG x ag at_ as_ hh hst a0 a1 a2 a3 tx tch u) sz) := by
  refine Met.ofW (cc := cX5_clearText) (maxL := 2) (ret := (some .int)) (by decide) rfl ?_
  intro p e s m args below meth c s₁ B hml hv
  obtain ⟨rfl, hsz, hP, hK, hD0, hE⟩ := hv
  have hx := B.exec
  have hb := B.bytes
  have hr := B.returns
  have hts := atoms_spec (ws := wsX5_clearText) B.pre
  have hown : s.vm.findClass RX5 = some m.cls := findClass_of_methodNamed B.named
  have hlocks := B.notSynchronized
  subst hsz
  have hD := hD0.self (sz := s.heap.size)
  generalize hAe : va_A (wX kI kC kG x ag at_ as_ hh hst a0 a1 a2 a3 tx tch u) s.heap.size = A at hD hE ⊢
  have hA : ∀ q : Nat, s.heap.size ≤ q → A q := fun q h => by rw [← hAe]; exact Or.inr h
  have hS : va_S A s.heap s.heap [] := va_S.rf
  clear hAe hD0
  have hl := lv_entry ([.ref x]) (n := 2) (Nat.le_of_ble_eq_true rfl)
  rw [lg_entry_eq]
  generalize (lg_sl ([.ref x]) ++ List.replicate (2 - (lg_sl ([.ref x])).length) Slot.unset).toArray = ls at hl ⊢
  have hl : lv_has ls 2 [(0, .ref x)] := hl
  have hP : va_P D vwCl (wX kI kC kG x ag at_ as_ hh hst a0 a1 a2 a3 tx tch u) s.heap := hP
  unfold pX5_clearText at hw
  refine lv_aload_n hx hb dX5_clearText_0 rfl (lv_at hl 0 rfl) ?_
  refine va_get (D := D) (ci := 4) (v := .ref tx) (C := RX5) (T := TX5) (N := 6) hx hb hts (fun _ h => List.mem_cons_of_mem _ (List.mem_append_left _ (List.mem_append_right _ h))) hown hK hP 0 rfl rfl 5 (by decide) (hts (.fieldLink RX5 36 "HazelGift" "text" "LHazelGift$MoveText;") (List.mem_of_getElem? (i := 1) rfl)) (fun _ h9 => h9) rfl dX5_clearText_1 ?_
  refine gVi (As := []) (rest := []) (cs' := wT kC tx tch u.2.2.2.2.2) ⟨hx, hb, hml, hown, hts⟩ (kX4_length l D kI kC kG kJ tx tch u.2.2.2.2.2 _ hw) (cwV 0 hts gX5_clearText_X4_length rfl rfl rfl hdX4_length ⟨Nat.le_of_ble_eq_true rfl, Nat.le_of_ble_eq_true rfl⟩) hK hP hE hS [31, 32] rfl (ci := 3) (q0 := 0) rfl rfl rfl rfl hl.1 rfl (Nat.le_of_ble_eq_true rfl) dX5_clearText_4 ⟨Nat.le_of_ble_eq_true rfl, Nat.le_of_ble_eq_true rfl⟩ (fun r1 hw => ?_)
  refine lv_istore_n (lv' := [(1, .int r1), (0, .ref x)]) hx hb dX5_clearText_7 rfl hl (by decide) rfl (fun ls hl => ?_)
  refine lv_aload_n hx hb dX5_clearText_8 rfl (lv_at hl 1 rfl) ?_
  refine va_get (D := D) (ci := 4) (v := .ref tx) (C := RX5) (T := TX5) (N := 6) hx hb hts (fun _ h => List.mem_cons_of_mem _ (List.mem_append_left _ (List.mem_append_right _ h))) hown hK hP 0 rfl rfl 5 (by decide) (hts (.fieldLink RX5 36 "HazelGift" "text" "LHazelGift$MoveText;") (List.mem_of_getElem? (i := 1) rfl)) (fun _ h9 => h9) rfl dX5_clearText_9 ?_
  refine gWVv (S := ST) (As := []) (rest := []) (wc := wT kC tx tch u.2.2.2.2.2) (wr := [(x, .inr (4, [.ref ag.1, .ref at_.1, .ref as_.1, .int u.1, .ref hh, .ref tx]))] ++ wG kI ag u.2.1 ++ wG kI at_ u.2.2.1 ++ wG kI as_ u.2.2.2.1 ++ [(hh, .inr (2, [.ref hst, .int u.2.2.2.2.1.1, .int u.2.2.2.2.1.2.1])), (hst, .inl (kG, 4, .inr (.inr (.inr (.inr (fH a0 a1 a2 a3))))))] ++ wG kI a0 u.2.2.2.2.1.2.2.1 ++ wG kI a1 u.2.2.2.2.1.2.2.2.1 ++ wG kI a2 u.2.2.2.2.1.2.2.2.2.1 ++ wG kI a3 u.2.2.2.2.1.2.2.2.2.2) (cs1 := (fun zz : ST => wT kC tx tch zz)) (ws2 := (fun zz : ST => wX kI kC kG x ag at_ as_ hh hst a0 a1 a2 a3 tx tch (u.1, u.2.1, u.2.2.1, u.2.2.2.1, u.2.2.2.2.1, zz))) ⟨hx, hb, hml, hown, hts⟩ (fun sz => kX4_empty l D kI kC kG kJ tx tch sz u.2.2.2.2.2 _ hw) (cwV 0 hts gX5_clearText_X4_empty rfl rfl rfl hdX4_empty ⟨Nat.le_of_ble_eq_true rfl, Nat.le_of_ble_eq_true rfl⟩) hK hP hD hE hS hA [31, 32] [0, 1, 2, 3, 4, 5, 6, 7, 8, 9, 10, 11, 12, 13, 14, 15, 16, 17, 18, 19, 20, 21, 22, 23, 24, 25, 26, 27, 28, 29, 30] rfl rfl rfl rfl (by decide) [0, 1, 2, 3, 4, 5, 6, 7, 8, 9, 10, 11, 12, 13, 14, 15, 16, 17, 18, 19, 20, 21, 22, 23, 24, 25, 26, 27, 28, 29, 30, 31, 32] rfl (fun _ => rfl) (ci := 3) (q0 := 0) rfl rfl rfl rfl hl.1 rfl (Nat.le_of_ble_eq_true rfl) dX5_clearText_12 ⟨Nat.le_of_ble_eq_true rfl, Nat.le_of_ble_eq_true rfl⟩ (fun w2 H locs hw hP hD hS => ?_)
  have hP : va_P D vwCl (wX kI kC kG x ag at_ as_ hh hst a0 a1 a2 a3 tx tch (u.1, u.2.1, u.2.2.1, u.2.2.2.1, u.2.2.2.2.1, w2)) H := hP
  have hD : va_D A (wX kI kC kG x ag at_ as_ hh hst a0 a1 a2 a3 tx tch (u.1, u.2.1, u.2.2.1, u.2.2.2.1, u.2.2.2.2.1, w2)) := hD
  refine lv_iload_n hx hb dX5_clearText_15 rfl (lv_at hl 0 rfl) ?_
  exact W.iret (v := r1) hx hb hr (fun t ht hW => ⟨⟨r1, (u.1, u.2.1, u.2.2.1, u.2.2.2.1, u.2.2.2.2.1, w2), rfl, hw, by rw [ht]; exact hP, va_K.moved hW.alike hK, hD⟩, hS.F ht⟩) hS.2.2 dX5_clearText_16
set_option maxHeartbeats 4000000 in
set_option maxRecDepth 100000 in
theorem kX5_carryOut (l : Launch) (D : va_G) (kI kC kG kJ : ClassId) (hlt : l.stackTraces = false) (x : Nat) (ag at_ as_ : AG) (hh hst : Nat) (a0 a1 a2 a3 : AG) (tx tch : Nat) (sz : Nat) (u : SX) (Z : Int32 → SX → Prop) (X : String → SX → Prop) (hw : pX5_carryOut u Z X) : vx_Met l yX5_carryOut wsX5_carryOut ({ frames := 8, cells := 2, slots := 12, locals := 168 } : Room) (gPw D (gT kI kC kG kJ) [.ref x] (wX kI kC kG x ag at_ as_ hh hst a0 a1 a2 a3 tx tch u) sz) (va_Qi Z (gB D (gT kI kC kG kJ) (fun (zz : SX) => wX kI kC kG x ag at_ as_ hh hst a0 a1 a2 a3 tx tch zz) (va_A (wX kI kC kG x ag at_ as_ hh hst a0 a1 a2 a3 tx tch u) sz)) (va_A (wX kI kC kG x ag at_ as_ hh hst a0 a1 a2 a3 tx tch u) sz)) (gX D (gT kI kC kG kJ) (fun (zz : SX) => wX kI kC kG x ag at_ as_ hh hst a0 a1 a2 a3 tx tch zz) (va_A (wX kI kC kG x ag at_ as_ hh hst a0 a1 a2 a3 tx tch u) sz) X) 2 12 (va_A (wX kI kC kG x ag at_ as_ hh hst a0 a1 a2 a3 tx tch u) sz) := by
  refine vx_ofW (cc := cX5_carryOut) (maxL := 1) (ret := (some .int)) (by decide) rfl ?_
  intro p e s m args below meth c s₁ B hml hnx hv
  obtain ⟨rfl, hsz, hP, hK, hD0, hE⟩ := hv
  have hx := B.exec
  have hb := B.bytes
  have hr := B.returns
  have hts := atoms_spec (ws := wsX5_carryOut) B.pre
  have hown : s.vm.findClass RX5 = some m.cls := findClass_of_methodNamed B.named
  have hlocks := B.notSynchronized
  subst hsz
  have hD := hD0.self (sz := s.heap.size)
  generalize hAe : va_A (wX kI kC kG x ag at_ as_ hh hst a0 a1 a2 a3 tx tch u) s.heap.size = A at hD hE ⊢
  have hA : ∀ q : Nat, s.heap.size ≤ q → A q := fun q h => by rw [← hAe]; exact Or.inr h
  have hS : va_S A s.heap s.heap [] := va_S.rf
  clear hAe hD0
  have hl := lv_entry ([.ref x]) (n := 1) (Nat.le_of_ble_eq_true rfl)
  rw [lg_entry_eq]
  generalize (lg_sl ([.ref x]) ++ List.replicate (1 - (lg_sl ([.ref x])).length) Slot.unset).toArray = ls at hl ⊢
  have hl : lv_has ls 1 [(0, .ref x)] := hl
  have hP : va_P D vwCl (wX kI kC kG x ag at_ as_ hh hst a0 a1 a2 a3 tx tch u) s.heap := hP
  unfold pX5_carryOut at hw
  refine lv_aload_n hx hb dX5_carryOut_0 rfl (lv_at hl 0 rfl) ?_
  refine gXVv (S := SX) (As := []) (rest := []) (wc := wX kI kC kG x ag at_ as_ hh hst a0 a1 a2 a3 tx tch u) (wr := []) (cs1 := (fun zz : SX => wX kI kC kG x ag at_ as_ hh hst a0 a1 a2 a3 tx tch zz)) (ws2 := (fun zz : SX => wX kI kC kG x ag at_ as_ hh hst a0 a1 a2 a3 tx tch zz)) ⟨hx, hb, hml, hown, hts⟩ (fun sz => kX5_requireValidText l D kI kC kG kJ hlt x ag at_ as_ hh hst a0 a1 a2 a3 tx tch sz u _ _ hw) (cwV 0 hts gX5_carryOut_X5_requireValidText rfl rfl rfl hdX5_requireValidText ⟨Nat.le_of_ble_eq_true rfl, Nat.le_of_ble_eq_true rfl⟩) hK hP hD hE hS hA [0, 1, 2, 3, 4, 5, 6, 7, 8, 9, 10, 11, 12, 13, 14, 15, 16, 17, 18, 19, 20, 21, 22, 23, 24, 25, 26, 27, 28, 29, 30, 31, 32] [] rfl rfl rfl rfl (by decide) [0, 1, 2, 3, 4, 5, 6, 7, 8, 9, 10, 11, 12, 13, 14, 15, 16, 17, 18, 19, 20, 21, 22, 23, 24, 25, 26, 27, 28, 29, 30, 31, 32] rfl (fun _ => rfl) (fun w1 => w1) (fun _ => rfl) (fun _ _ h => h) hnx hlocks (Nat.le_of_ble_eq_true rfl) (Nat.le_of_ble_eq_true rfl) (ci := 4) (q0 := 0) rfl rfl rfl rfl hl.1 rfl (Nat.le_of_ble_eq_true rfl) dX5_carryOut_1 ⟨Nat.le_of_ble_eq_true rfl, Nat.le_of_ble_eq_true rfl⟩ (fun w1 H locs hw hP hD hS => ?_)
  have hP : va_P D vwCl (wX kI kC kG x ag at_ as_ hh hst a0 a1 a2 a3 tx tch w1) H := hP
  have hD : va_D A (wX kI kC kG x ag at_ as_ hh hst a0 a1 a2 a3 tx tch w1) := hD
  refine lv_aload_n hx hb dX5_carryOut_4 rfl (lv_at hl 0 rfl) ?_
  refine gWVi (S := SX) (As := []) (rest := []) (wc := wX kI kC kG x ag at_ as_ hh hst a0 a1 a2 a3 tx tch w1) (wr := []) (cs1 := (fun zz : SX => wX kI kC kG x ag at_ as_ hh hst a0 a1 a2 a3 tx tch zz)) (ws2 := (fun zz : SX => wX kI kC kG x ag at_ as_ hh hst a0 a1 a2 a3 tx tch zz)) ⟨hx, hb, hml, hown, hts⟩ (fun sz => kX5_tryText l D kI kC kG kJ x ag at_ as_ hh hst a0 a1 a2 a3 tx tch sz w1 _ hw) (cwV 0 hts gX5_carryOut_X5_tryText rfl rfl rfl hdX5_tryText ⟨Nat.le_of_ble_eq_true rfl, Nat.le_of_ble_eq_true rfl⟩) hK hP hD hE hS hA [0, 1, 2, 3, 4, 5, 6, 7, 8, 9, 10, 11, 12, 13, 14, 15, 16, 17, 18, 19, 20, 21, 22, 23, 24, 25, 26, 27, 28, 29, 30, 31, 32] [] rfl rfl rfl rfl (by decide) [0, 1, 2, 3, 4, 5, 6, 7, 8, 9, 10, 11, 12, 13, 14, 15, 16, 17, 18, 19, 20, 21, 22, 23, 24, 25, 26, 27, 28, 29, 30, 31, 32] rfl (fun _ => rfl) (ci := 4) (q0 := 0) rfl rfl rfl rfl hl.1 rfl (Nat.le_of_ble_eq_true rfl) dX5_carryOut_5 ⟨Nat.le_of_ble_eq_true rfl, Nat.le_of_ble_eq_true rfl⟩ (fun r2 w2 H locs hw hP hD hS => ?_)
  have hP : va_P D vwCl (wX kI kC kG x ag at_ as_ hh hst a0 a1 a2 a3 tx tch w2) H := hP
  have hD : va_D A (wX kI kC kG x ag at_ as_ hh hst a0 a1 a2 a3 tx tch w2) := hD
  refine lv_iconst (v := (-1)) hx hb dX5_carryOut_8 (by decide) ?_
  refine lv_icmp_eq (tgt := 22) hx hb dX5_carryOut_9 (by decide) (fun c3 => ?_) (fun c3 => ?_)
  · replace hw := Eq.mp (if_pos c3) hw
    refine lv_aload_n hx hb dX5_carryOut_22 rfl (lv_at hl 0 rfl) ?_
    refine va_get (D := D) (ci := 4) (v := .ref hh) (C := RX5) (T := TX5) (N := 6) hx hb hts (fun _ h => List.mem_cons_of_mem _ (List.mem_append_left _ (List.mem_append_left _ (List.mem_append_left _ (List.mem_append_left _ (List.mem_append_left _ (List.mem_append_right _ h))))))) hown hK hP 0 rfl rfl 4 (by decide) (hts (.fieldLink RX5 29 "HazelGift" "history" "LHazelGift$History;") (List.mem_of_getElem? (i := 3) rfl)) (fun _ h9 => h9) rfl dX5_carryOut_23 ?_
    refine lv_aload_n hx hb dX5_carryOut_26 rfl (lv_at hl 0 rfl) ?_
    refine va_get (D := D) (ci := 4) (v := .ref ag.1) (C := RX5) (T := TX5) (N := 6) hx hb hts (fun _ h => List.mem_cons_of_mem _ (List.mem_append_left _ (List.mem_append_left _ (List.mem_append_left _ (List.mem_append_left _ (List.mem_append_left _ (List.mem_append_right _ h))))))) hown hK hP 0 rfl rfl 0 (by decide) (hts (.fieldLink RX5 10 "HazelGift" "game" "LHazelGift$Game;") (List.mem_of_getElem? (i := 4) rfl)) (fun _ h9 => h9) rfl dX5_carryOut_27 ?_
    refine gWVv (S := SH × SG) (As := [.ref ag.1]) (rest := []) (wc := wH kI kG hh hst a0 a1 a2 a3 w2.2.2.2.2.1 ++ wG kI ag w2.2.1) (wr := [(x, .inr (4, [.ref ag.1, .ref at_.1, .ref as_.1, .int w2.1, .ref hh, .ref tx]))] ++ wG kI at_ w2.2.2.1 ++ wG kI as_ w2.2.2.2.1 ++ wT kC tx tch w2.2.2.2.2.2) (cs1 := (fun zz : SH × SG => wH kI kG hh hst a0 a1 a2 a3 zz.1 ++ wG kI ag zz.2)) (ws2 := (fun zz : SH × SG => wX kI kC kG x ag at_ as_ hh hst a0 a1 a2 a3 tx tch (w2.1, zz.2, w2.2.2.1, w2.2.2.2.1, zz.1, w2.2.2.2.2.2))) ⟨hx, hb, hml, hown, hts⟩ (fun sz => kX3_record l D kI kC kG kJ hh hst a0 a1 a2 a3 ag sz w2.2.2.2.2.1 w2.2.1 _ hw) (cwV 1 hts gX5_carryOut_X3_record rfl rfl rfl hdX3_record ⟨Nat.le_of_ble_eq_true rfl, Nat.le_of_ble_eq_true rfl⟩) hK hP hD hE hS hA [13, 14, 15, 16, 17, 18, 19, 20, 21, 22, 23, 24, 25, 26, 27, 28, 29, 30, 1, 2, 3, 4] [0, 5, 6, 7, 8, 9, 10, 11, 12, 31, 32] rfl rfl rfl rfl (by decide) [0, 29, 30, 31, 32, 1, 2, 3, 4, 5, 6, 7, 8, 11, 12, 13, 14, 15, 16, 17, 18, 19, 20, 21, 22, 23, 24, 25, 26, 27, 28, 9, 10] rfl (fun _ => rfl) (ci := 2) (q0 := 0) rfl rfl rfl rfl hl.1 rfl (Nat.le_of_ble_eq_true rfl) dX5_carryOut_30 ⟨Nat.le_of_ble_eq_true rfl, Nat.le_of_ble_eq_true rfl⟩ (fun w4 H locs hw hP hD hS => ?_)
    have hP : va_P D vwCl (wX kI kC kG x ag at_ as_ hh hst a0 a1 a2 a3 tx tch (w2.1, w4.2, w2.2.2.1, w2.2.2.2.1, w4.1, w2.2.2.2.2.2)) H := hP
    have hD : va_D A (wX kI kC kG x ag at_ as_ hh hst a0 a1 a2 a3 tx tch (w2.1, w4.2, w2.2.2.1, w2.2.2.2.1, w4.1, w2.2.2.2.2.2)) := hD
    refine lv_aload_n hx hb dX5_carryOut_33 rfl (lv_at hl 0 rfl) ?_
    refine va_get (D := D) (ci := 4) (v := .ref ag.1) (C := RX5) (T := TX5) (N := 6) hx hb hts (fun _ h => List.mem_cons_of_mem _ (List.mem_append_left _ (List.mem_append_left _ (List.mem_append_left _ (List.mem_append_left _ (List.mem_append_left _ (List.mem_append_right _ h))))))) hown hK hP 0 rfl rfl 0 (by decide) (hts (.fieldLink RX5 10 "HazelGift" "game" "LHazelGift$Game;") (List.mem_of_getElem? (i := 4) rfl)) (fun _ h9 => h9) rfl dX5_carryOut_34 ?_
    refine lv_aload_n hx hb dX5_carryOut_37 rfl (lv_at hl 0 rfl) ?_
    refine va_get (D := D) (ci := 4) (v := .ref at_.1) (C := RX5) (T := TX5) (N := 6) hx hb hts (fun _ h => List.mem_cons_of_mem _ (List.mem_append_left _ (List.mem_append_left _ (List.mem_append_left _ (List.mem_append_left _ (List.mem_append_left _ (List.mem_append_right _ h))))))) hown hK hP 0 rfl rfl 1 (by decide) (hts (.fieldLink RX5 16 "HazelGift" "trial" "LHazelGift$Game;") (List.mem_of_getElem? (i := 5) rfl)) (fun _ h9 => h9) rfl dX5_carryOut_38 ?_
    refine gWVv (S := SG × SG) (As := [.ref at_.1]) (rest := []) (wc := wG kI ag w4.2 ++ wG kI at_ w2.2.2.1) (wr := [(x, .inr (4, [.ref ag.1, .ref at_.1, .ref as_.1, .int w2.1, .ref hh, .ref tx]))] ++ wG kI as_ w2.2.2.2.1 ++ [(hh, .inr (2, [.ref hst, .int w4.1.1, .int w4.1.2.1])), (hst, .inl (kG, 4, .inr (.inr (.inr (.inr (fH a0 a1 a2 a3))))))] ++ wG kI a0 w4.1.2.2.1 ++ wG kI a1 w4.1.2.2.2.1 ++ wG kI a2 w4.1.2.2.2.2.1 ++ wG kI a3 w4.1.2.2.2.2.2 ++ wT kC tx tch w2.2.2.2.2.2) (cs1 := (fun zz : SG × SG => wG kI ag zz.1 ++ wG kI at_ zz.2)) (ws2 := (fun zz : SG × SG => wX kI kC kG x ag at_ as_ hh hst a0 a1 a2 a3 tx tch (w2.1, zz.1, zz.2, w2.2.2.2.1, w4.1, w2.2.2.2.2.2))) ⟨hx, hb, hml, hown, hts⟩ (fun sz => kX2_copyFrom l D kI kC kG kJ ag at_ sz w4.2 w2.2.2.1 _ hw) (cwV 1 hts gX5_carryOut_X2_copyFrom rfl rfl rfl hdX2_copyFrom ⟨Nat.le_of_ble_eq_true rfl, Nat.le_of_ble_eq_true rfl⟩) hK hP hD hE hS hA [1, 2, 3, 4, 5, 6, 7, 8] [0, 9, 10, 11, 12, 13, 14, 15, 16, 17, 18, 19, 20, 21, 22, 23, 24, 25, 26, 27, 28, 29, 30, 31, 32] rfl rfl rfl rfl (by decide) [0, 25, 26, 27, 28, 29, 30, 31, 32, 1, 2, 3, 4, 5, 6, 7, 8, 9, 10, 11, 12, 13, 14, 15, 16, 17, 18, 19, 20, 21, 22, 23, 24] rfl (fun _ => rfl) (ci := 1) (q0 := 0) rfl rfl rfl rfl hl.1 rfl (Nat.le_of_ble_eq_true rfl) dX5_carryOut_41 ⟨Nat.le_of_ble_eq_true rfl, Nat.le_of_ble_eq_true rfl⟩ (fun w5 H locs hw hP hD hS => ?_)
    have hP : va_P D vwCl (wX kI kC kG x ag at_ as_ hh hst a0 a1 a2 a3 tx tch (w2.1, w5.1, w5.2, w2.2.2.2.1, w4.1, w2.2.2.2.2.2)) H := hP
    have hD : va_D A (wX kI kC kG x ag at_ as_ hh hst a0 a1 a2 a3 tx tch (w2.1, w5.1, w5.2, w2.2.2.2.1, w4.1, w2.2.2.2.2.2)) := hD
    refine lv_aload_n hx hb dX5_carryOut_44 rfl (lv_at hl 0 rfl) ?_
    refine va_get (D := D) (ci := 4) (v := .ref tx) (C := RX5) (T := TX5) (N := 6) hx hb hts (fun _ h => List.mem_cons_of_mem _ (List.mem_append_left _ (List.mem_append_left _ (List.mem_append_left _ (List.mem_append_left _ (List.mem_append_left _ (List.mem_append_right _ h))))))) hown hK hP 0 rfl rfl 5 (by decide) (hts (.fieldLink RX5 36 "HazelGift" "text" "LHazelGift$MoveText;") (List.mem_of_getElem? (i := 6) rfl)) (fun _ h9 => h9) rfl dX5_carryOut_45 ?_
    refine gVi (As := []) (rest := []) (cs' := wT kC tx tch w2.2.2.2.2.2) ⟨hx, hb, hml, hown, hts⟩ (kX4_moves l D kI kC kG kJ tx tch w2.2.2.2.2.2 _ hw) (cwV 0 hts gX5_carryOut_X4_moves rfl rfl rfl hdX4_moves ⟨Nat.le_of_ble_eq_true rfl, Nat.le_of_ble_eq_true rfl⟩) hK hP hE hS [31, 32] rfl (ci := 3) (q0 := 0) rfl rfl rfl rfl hl.1 rfl (Nat.le_of_ble_eq_true rfl) dX5_carryOut_48 ⟨Nat.le_of_ble_eq_true rfl, Nat.le_of_ble_eq_true rfl⟩ (fun r6 hw => ?_)
    refine vx_ret ?_
    refine W.widen (k := 2) (n := 12) (Nat.le_of_ble_eq_true rfl) (Nat.le_of_ble_eq_true rfl) ?_
    exact W.iret (v := r6) hx hb hr (fun t ht hW => ⟨⟨r6, (w2.1, w5.1, w5.2, w2.2.2.2.1, w4.1, w2.2.2.2.2.2), rfl, hw, by rw [ht]; exact hP, va_K.moved hW.alike hK, hD⟩, hS.F ht⟩) hS.2.2 dX5_carryOut_51
  · replace hw := Eq.mp (if_neg c3) hw
    exact gThrow (uO := w2) (text := "a move cannot be made") hx hb hlt hown (by decide) (hts (.classLink RX5 48 "java/lang/IllegalStateException") (List.mem_of_getElem? (i := 1) rfl)) (hts (.initialized "java/lang/IllegalStateException") (List.mem_of_getElem? (i := 2) rfl)) (fun w h => hts w (List.mem_cons_of_mem _ (List.mem_append_right _ h))) gXn0 gXg0 (List.mem_of_getElem? (i := 4) rfl) hK hP hD hE hS rfl hw (hl.1.trans hml.symm) dX5_carryOut_12 dX5_carryOut_15 dX5_carryOut_16 dX5_carryOut_18 dX5_carryOut_21 hnx (Nat.le_of_ble_eq_true rfl) (Nat.le_of_ble_eq_true rfl) (Nat.le_of_ble_eq_true rfl) (Nat.le_of_ble_eq_true rfl) hlocks (Nat.le_of_ble_eq_true rfl) (Nat.le_of_ble_eq_true rfl)
set_option maxHeartbeats 4000000 in
set_option maxRecDepth 100000 in
theorem kX5_undo (l : Launch) (D : va_G) (kI kC kG kJ : ClassId) (hlt : l.stackTraces = false) (x : Nat) (ag at_ as_ : AG) (hh hst : Nat) (a0 a1 a2 a3 : AG) (tx tch : Nat) (sz : Nat) (u : SX) (Z : Int32 → SX → Prop) (X : String → SX → Prop) (hw : pX5_undo u Z X) : vx_Met l yX5_undo wsX5_undo ({ frames := 6, cells := 1, slots := 6, locals := 90 } : Room) (gPw D (gT kI kC kG kJ) [.ref x] (wX kI kC kG x ag at_ as_ hh hst a0 a1 a2 a3 tx tch u) sz) (va_Qi Z (gB D (gT kI kC kG kJ) (fun (zz : SX) => wX kI kC kG x ag at_ as_ hh hst a0 a1 a2 a3 tx tch zz) (va_A (wX kI kC kG x ag at_ as_ hh hst a0 a1 a2 a3 tx tch u) sz)) (va_A (wX kI kC kG x ag at_ as_ hh hst a0 a1 a2 a3 tx tch u) sz)) (gX D (gT kI kC kG kJ) (fun (zz : SX) => wX kI kC kG x ag at_ as_ hh hst a0 a1 a2 a3 tx tch zz) (va_A (wX kI kC kG x ag at_ as_ hh hst a0 a1 a2 a3 tx tch u) sz) X) 1 6 (va_A (wX kI kC kG x ag at_ as_ hh hst a0 a1 a2 a3 tx tch u) sz) := by
  refine vx_ofW (cc := cX5_undo) (maxL := 1) (ret := (some .int)) (by decide) rfl ?_
  intro p e s m args below meth c s₁ B hml hnx hv
  obtain ⟨rfl, hsz, hP, hK, hD0, hE⟩ := hv
  have hx := B.exec
  have hb := B.bytes
  have hr := B.returns
  have hts := atoms_spec (ws := wsX5_undo) B.pre
  have hown : s.vm.findClass RX5 = some m.cls := findClass_of_methodNamed B.named
  have hlocks := B.notSynchronized
  subst hsz
  have hD := hD0.self (sz := s.heap.size)
  generalize hAe : va_A (wX kI kC kG x ag at_ as_ hh hst a0 a1 a2 a3 tx tch u) s.heap.size = A at hD hE ⊢
  have hA : ∀ q : Nat, s.heap.size ≤ q → A q := fun q h => by rw [← hAe]; exact Or.inr h
  have hS : va_S A s.heap s.heap [] := va_S.rf
  clear hAe hD0
  have hl := lv_entry ([.ref x]) (n := 1) (Nat.le_of_ble_eq_true rfl)
  rw [lg_entry_eq]
  generalize (lg_sl ([.ref x]) ++ List.replicate (1 - (lg_sl ([.ref x])).length) Slot.unset).toArray = ls at hl ⊢
  have hl : lv_has ls 1 [(0, .ref x)] := hl
  have hP : va_P D vwCl (wX kI kC kG x ag at_ as_ hh hst a0 a1 a2 a3 tx tch u) s.heap := hP
  unfold pX5_undo at hw
  refine lv_aload_n hx hb dX5_undo_0 rfl (lv_at hl 0 rfl) ?_
  refine va_get (D := D) (ci := 4) (v := .ref hh) (C := RX5) (T := TX5) (N := 6) hx hb hts (fun _ h => List.mem_cons_of_mem _ (List.mem_append_left _ (List.mem_append_left _ (List.mem_append_left _ (List.mem_append_left _ (List.mem_append_right _ h)))))) hown hK hP 0 rfl rfl 4 (by decide) (hts (.fieldLink RX5 29 "HazelGift" "history" "LHazelGift$History;") (List.mem_of_getElem? (i := 3) rfl)) (fun _ h9 => h9) rfl dX5_undo_1 ?_
  refine gVi (As := []) (rest := []) (cs' := wH kI kG hh hst a0 a1 a2 a3 u.2.2.2.2.1) ⟨hx, hb, hml, hown, hts⟩ (kX3_size l D kI kC kG kJ hh hst a0 a1 a2 a3 u.2.2.2.2.1 _ hw) (cwV 0 hts gX5_undo_X3_size rfl rfl rfl hdX3_size ⟨Nat.le_of_ble_eq_true rfl, Nat.le_of_ble_eq_true rfl⟩) hK hP hE hS [13, 14, 15, 16, 17, 18, 19, 20, 21, 22, 23, 24, 25, 26, 27, 28, 29, 30] rfl (ci := 2) (q0 := 0) rfl rfl rfl rfl hl.1 rfl (Nat.le_of_ble_eq_true rfl) dX5_undo_4 ⟨Nat.le_of_ble_eq_true rfl, Nat.le_of_ble_eq_true rfl⟩ (fun r1 hw => ?_)
  refine lv_if_ne (tgt := 20) hx hb dX5_undo_7 (by decide) (fun c2 => ?_) (fun c2 => ?_)
  · replace hw := Eq.mp (if_neg c2) hw
    refine lv_aload_n hx hb dX5_undo_20 rfl (lv_at hl 0 rfl) ?_
    refine va_get (D := D) (ci := 4) (v := .ref hh) (C := RX5) (T := TX5) (N := 6) hx hb hts (fun _ h => List.mem_cons_of_mem _ (List.mem_append_left _ (List.mem_append_left _ (List.mem_append_left _ (List.mem_append_left _ (List.mem_append_right _ h)))))) hown hK hP 0 rfl rfl 4 (by decide) (hts (.fieldLink RX5 29 "HazelGift" "history" "LHazelGift$History;") (List.mem_of_getElem? (i := 3) rfl)) (fun _ h9 => h9) rfl dX5_undo_21 ?_
    refine lv_aload_n hx hb dX5_undo_24 rfl (lv_at hl 0 rfl) ?_
    refine va_get (D := D) (ci := 4) (v := .ref ag.1) (C := RX5) (T := TX5) (N := 6) hx hb hts (fun _ h => List.mem_cons_of_mem _ (List.mem_append_left _ (List.mem_append_left _ (List.mem_append_left _ (List.mem_append_left _ (List.mem_append_right _ h)))))) hown hK hP 0 rfl rfl 0 (by decide) (hts (.fieldLink RX5 10 "HazelGift" "game" "LHazelGift$Game;") (List.mem_of_getElem? (i := 4) rfl)) (fun _ h9 => h9) rfl dX5_undo_25 ?_
    refine gWVv (S := SH × SG) (As := [.ref ag.1]) (rest := []) (wc := wH kI kG hh hst a0 a1 a2 a3 u.2.2.2.2.1 ++ wG kI ag u.2.1) (wr := [(x, .inr (4, [.ref ag.1, .ref at_.1, .ref as_.1, .int u.1, .ref hh, .ref tx]))] ++ wG kI at_ u.2.2.1 ++ wG kI as_ u.2.2.2.1 ++ wT kC tx tch u.2.2.2.2.2) (cs1 := (fun zz : SH × SG => wH kI kG hh hst a0 a1 a2 a3 zz.1 ++ wG kI ag zz.2)) (ws2 := (fun zz : SH × SG => wX kI kC kG x ag at_ as_ hh hst a0 a1 a2 a3 tx tch (u.1, zz.2, u.2.2.1, u.2.2.2.1, zz.1, u.2.2.2.2.2))) ⟨hx, hb, hml, hown, hts⟩ (fun sz => kX3_takeBack l D kI kC kG kJ hh hst a0 a1 a2 a3 ag sz u.2.2.2.2.1 u.2.1 _ hw) (cwV 1 hts gX5_undo_X3_takeBack rfl rfl rfl hdX3_takeBack ⟨Nat.le_of_ble_eq_true rfl, Nat.le_of_ble_eq_true rfl⟩) hK hP hD hE hS hA [13, 14, 15, 16, 17, 18, 19, 20, 21, 22, 23, 24, 25, 26, 27, 28, 29, 30, 1, 2, 3, 4] [0, 5, 6, 7, 8, 9, 10, 11, 12, 31, 32] rfl rfl rfl rfl (by decide) [0, 29, 30, 31, 32, 1, 2, 3, 4, 5, 6, 7, 8, 11, 12, 13, 14, 15, 16, 17, 18, 19, 20, 21, 22, 23, 24, 25, 26, 27, 28, 9, 10] rfl (fun _ => rfl) (ci := 2) (q0 := 0) rfl rfl rfl rfl hl.1 rfl (Nat.le_of_ble_eq_true rfl) dX5_undo_28 ⟨Nat.le_of_ble_eq_true rfl, Nat.le_of_ble_eq_true rfl⟩ (fun w3 H locs hw hP hD hS => ?_)
    have hP : va_P D vwCl (wX kI kC kG x ag at_ as_ hh hst a0 a1 a2 a3 tx tch (u.1, w3.2, u.2.2.1, u.2.2.2.1, w3.1, u.2.2.2.2.2)) H := hP
    have hD : va_D A (wX kI kC kG x ag at_ as_ hh hst a0 a1 a2 a3 tx tch (u.1, w3.2, u.2.2.1, u.2.2.2.1, w3.1, u.2.2.2.2.2)) := hD
    refine lv_aload_n hx hb dX5_undo_31 rfl (lv_at hl 0 rfl) ?_
    refine va_get (D := D) (ci := 4) (v := .ref hh) (C := RX5) (T := TX5) (N := 6) hx hb hts (fun _ h => List.mem_cons_of_mem _ (List.mem_append_left _ (List.mem_append_left _ (List.mem_append_left _ (List.mem_append_left _ (List.mem_append_right _ h)))))) hown hK hP 0 rfl rfl 4 (by decide) (hts (.fieldLink RX5 29 "HazelGift" "history" "LHazelGift$History;") (List.mem_of_getElem? (i := 3) rfl)) (fun _ h9 => h9) rfl dX5_undo_32 ?_
    refine gVi (As := []) (rest := []) (cs' := wH kI kG hh hst a0 a1 a2 a3 w3.1) ⟨hx, hb, hml, hown, hts⟩ (kX3_size l D kI kC kG kJ hh hst a0 a1 a2 a3 w3.1 _ hw) (cwV 0 hts gX5_undo_X3_size rfl rfl rfl hdX3_size ⟨Nat.le_of_ble_eq_true rfl, Nat.le_of_ble_eq_true rfl⟩) hK hP hE hS [13, 14, 15, 16, 17, 18, 19, 20, 21, 22, 23, 24, 25, 26, 27, 28, 29, 30] rfl (ci := 2) (q0 := 0) rfl rfl rfl rfl hl.1 rfl (Nat.le_of_ble_eq_true rfl) dX5_undo_35 ⟨Nat.le_of_ble_eq_true rfl, Nat.le_of_ble_eq_true rfl⟩ (fun r4 hw => ?_)
    refine vx_ret ?_
    refine W.widen (k := 1) (n := 6) (Nat.le_of_ble_eq_true rfl) (Nat.le_of_ble_eq_true rfl) ?_
    exact W.iret (v := r4) hx hb hr (fun t ht hW => ⟨⟨r4, (u.1, w3.2, u.2.2.1, u.2.2.2.1, w3.1, u.2.2.2.2.2), rfl, hw, by rw [ht]; exact hP, va_K.moved hW.alike hK, hD⟩, hS.F ht⟩) hS.2.2 dX5_undo_38
  · replace hw := Eq.mp (if_pos c2) hw
    exact gThrow (uO := u) (text := "no state is recorded") hx hb hlt hown (by decide) (hts (.classLink RX5 48 "java/lang/IllegalStateException") (List.mem_of_getElem? (i := 1) rfl)) (hts (.initialized "java/lang/IllegalStateException") (List.mem_of_getElem? (i := 2) rfl)) (fun w h => hts w (List.mem_cons_of_mem _ (List.mem_append_right _ h))) gXn0 gXg0 (List.mem_of_getElem? (i := 5) rfl) hK hP hD hE hS rfl hw (hl.1.trans hml.symm) dX5_undo_10 dX5_undo_13 dX5_undo_14 dX5_undo_16 dX5_undo_19 hnx (Nat.le_of_ble_eq_true rfl) (Nat.le_of_ble_eq_true rfl) (Nat.le_of_ble_eq_true rfl) (Nat.le_of_ble_eq_true rfl) hlocks (Nat.le_of_ble_eq_true rfl) (Nat.le_of_ble_eq_true rfl)
set_option maxHeartbeats 4000000 in
set_option maxRecDepth 100000 in
theorem kX5_restoreSnapshot (l : Launch) (D : va_G) (kI kC kG kJ : ClassId) (hlt : l.stackTraces = false) (x : Nat) (ag at_ as_ : AG) (hh hst : Nat) (a0 a1 a2 a3 : AG) (tx tch : Nat) (sz : Nat) (u : SX) (Z : Int32 → SX → Prop) (X : String → SX → Prop) (hw : pX5_restoreSnapshot u Z X) : vx_Met l yX5_restoreSnapshot wsX5_restoreSnapshot ({ frames := 6, cells := 1, slots := 6, locals := 90 } : Room) (gPw D (gT kI kC kG kJ) [.ref x] (wX kI kC kG x ag at_ as_ hh hst a0 a1 a2 a3 tx tch u) sz) (va_Qi Z (gB D (gT kI kC kG kJ) (fun (zz : SX) => wX kI kC kG x ag at_ as_ hh hst a0 a1 a2 a3 tx tch zz) (va_A (wX kI kC kG x ag at_ as_ hh hst a0 a1 a2 a3 tx tch u) sz)) (va_A (wX kI kC kG x ag at_ as_ hh hst a0 a1 a2 a3 tx tch u) sz)) (gX D (gT kI kC kG kJ) (fun (zz : SX) => wX kI kC kG x ag at_ as_ hh hst a0 a1 a2 a3 tx tch zz) (va_A (wX kI kC kG x ag at_ as_ hh hst a0 a1 a2 a3 tx tch u) sz) X) 1 6 (va_A (wX kI kC kG x ag at_ as_ hh hst a0 a1 a2 a3 tx tch u) sz) := by
  refine vx_ofW (cc := cX5_restoreSnapshot) (maxL := 1) (ret := (some .int)) (by decide) rfl ?_
  intro p e s m args below meth c s₁ B hml hnx hv
  obtain ⟨rfl, hsz, hP, hK, hD0, hE⟩ := hv
  have hx := B.exec
  have hb := B.bytes
  have hr := B.returns
  have hts := atoms_spec (ws := wsX5_restoreSnapshot) B.pre
  have hown : s.vm.findClass RX5 = some m.cls := findClass_of_methodNamed B.named
  have hlocks := B.notSynchronized
  subst hsz
  have hD := hD0.self (sz := s.heap.size)
  generalize hAe : va_A (wX kI kC kG x ag at_ as_ hh hst a0 a1 a2 a3 tx tch u) s.heap.size = A at hD hE ⊢
  have hA : ∀ q : Nat, s.heap.size ≤ q → A q := fun q h => by rw [← hAe]; exact Or.inr h
  have hS : va_S A s.heap s.heap [] := va_S.rf
  clear hAe hD0
  have hl := lv_entry ([.ref x]) (n := 1) (Nat.le_of_ble_eq_true rfl)
  rw [lg_entry_eq]
  generalize (lg_sl ([.ref x]) ++ List.replicate (1 - (lg_sl ([.ref x])).length) Slot.unset).toArray = ls at hl ⊢
  have hl : lv_has ls 1 [(0, .ref x)] := hl
  have hP : va_P D vwCl (wX kI kC kG x ag at_ as_ hh hst a0 a1 a2 a3 tx tch u) s.heap := hP
  unfold pX5_restoreSnapshot at hw
  refine lv_aload_n hx hb dX5_restoreSnapshot_0 rfl (lv_at hl 0 rfl) ?_
  refine va_get (D := D) (ci := 4) (v := .int u.1) (C := RX5) (T := TX5) (N := 6) hx hb hts (fun _ h => List.mem_cons_of_mem _ (List.mem_append_left _ (List.mem_append_left _ (List.mem_append_left _ (List.mem_append_left _ (List.mem_append_right _ h)))))) hown hK hP 0 rfl rfl 3 (by decide) (hts (.fieldLink RX5 22 "HazelGift" "hasSnapshot" "Z") (List.mem_of_getElem? (i := 3) rfl)) (fun _ h9 => h9) rfl dX5_restoreSnapshot_1 ?_
  refine lv_if_ne (tgt := 17) hx hb dX5_restoreSnapshot_4 (by decide) (fun c1 => ?_) (fun c1 => ?_)
  · replace hw := Eq.mp (if_neg c1) hw
    refine lv_aload_n hx hb dX5_restoreSnapshot_17 rfl (lv_at hl 0 rfl) ?_
    refine va_get (D := D) (ci := 4) (v := .ref hh) (C := RX5) (T := TX5) (N := 6) hx hb hts (fun _ h => List.mem_cons_of_mem _ (List.mem_append_left _ (List.mem_append_left _ (List.mem_append_left _ (List.mem_append_left _ (List.mem_append_right _ h)))))) hown hK hP 0 rfl rfl 4 (by decide) (hts (.fieldLink RX5 29 "HazelGift" "history" "LHazelGift$History;") (List.mem_of_getElem? (i := 4) rfl)) (fun _ h9 => h9) rfl dX5_restoreSnapshot_18 ?_
    refine lv_aload_n hx hb dX5_restoreSnapshot_21 rfl (lv_at hl 0 rfl) ?_
    refine va_get (D := D) (ci := 4) (v := .ref ag.1) (C := RX5) (T := TX5) (N := 6) hx hb hts (fun _ h => List.mem_cons_of_mem _ (List.mem_append_left _ (List.mem_append_left _ (List.mem_append_left _ (List.mem_append_left _ (List.mem_append_right _ h)))))) hown hK hP 0 rfl rfl 0 (by decide) (hts (.fieldLink RX5 10 "HazelGift" "game" "LHazelGift$Game;") (List.mem_of_getElem? (i := 5) rfl)) (fun _ h9 => h9) rfl dX5_restoreSnapshot_22 ?_
    refine gWVv (S := SH × SG) (As := [.ref ag.1]) (rest := []) (wc := wH kI kG hh hst a0 a1 a2 a3 u.2.2.2.2.1 ++ wG kI ag u.2.1) (wr := [(x, .inr (4, [.ref ag.1, .ref at_.1, .ref as_.1, .int u.1, .ref hh, .ref tx]))] ++ wG kI at_ u.2.2.1 ++ wG kI as_ u.2.2.2.1 ++ wT kC tx tch u.2.2.2.2.2) (cs1 := (fun zz : SH × SG => wH kI kG hh hst a0 a1 a2 a3 zz.1 ++ wG kI ag zz.2)) (ws2 := (fun zz : SH × SG => wX kI kC kG x ag at_ as_ hh hst a0 a1 a2 a3 tx tch (u.1, zz.2, u.2.2.1, u.2.2.2.1, zz.1, u.2.2.2.2.2))) ⟨hx, hb, hml, hown, hts⟩ (fun sz => kX3_record l D kI kC kG kJ hh hst a0 a1 a2 a3 ag sz u.2.2.2.2.1 u.2.1 _ hw) (cwV 1 hts gX5_restoreSnapshot_X3_record rfl rfl rfl hdX3_record ⟨Nat.le_of_ble_eq_true rfl, Nat.le_of_ble_eq_true rfl⟩) hK hP hD hE hS hA [13, 14, 15, 16, 17, 18, 19, 20, 21, 22, 23, 24, 25, 26, 27, 28, 29, 30, 1, 2, 3, 4] [0, 5, 6, 7, 8, 9, 10, 11, 12, 31, 32] rfl rfl rfl rfl (by decide) [0, 29, 30, 31, 32, 1, 2, 3, 4, 5, 6, 7, 8, 11, 12, 13, 14, 15, 16, 17, 18, 19, 20, 21, 22, 23, 24, 25, 26, 27, 28, 9, 10] rfl (fun _ => rfl) (ci := 2) (q0 := 0) rfl rfl rfl rfl hl.1 rfl (Nat.le_of_ble_eq_true rfl) dX5_restoreSnapshot_25 ⟨Nat.le_of_ble_eq_true rfl, Nat.le_of_ble_eq_true rfl⟩ (fun w2 H locs hw hP hD hS => ?_)
    have hP : va_P D vwCl (wX kI kC kG x ag at_ as_ hh hst a0 a1 a2 a3 tx tch (u.1, w2.2, u.2.2.1, u.2.2.2.1, w2.1, u.2.2.2.2.2)) H := hP
    have hD : va_D A (wX kI kC kG x ag at_ as_ hh hst a0 a1 a2 a3 tx tch (u.1, w2.2, u.2.2.1, u.2.2.2.1, w2.1, u.2.2.2.2.2)) := hD
    refine lv_aload_n hx hb dX5_restoreSnapshot_28 rfl (lv_at hl 0 rfl) ?_
    refine va_get (D := D) (ci := 4) (v := .ref ag.1) (C := RX5) (T := TX5) (N := 6) hx hb hts (fun _ h => List.mem_cons_of_mem _ (List.mem_append_left _ (List.mem_append_left _ (List.mem_append_left _ (List.mem_append_left _ (List.mem_append_right _ h)))))) hown hK hP 0 rfl rfl 0 (by decide) (hts (.fieldLink RX5 10 "HazelGift" "game" "LHazelGift$Game;") (List.mem_of_getElem? (i := 5) rfl)) (fun _ h9 => h9) rfl dX5_restoreSnapshot_29 ?_
    refine lv_aload_n hx hb dX5_restoreSnapshot_32 rfl (lv_at hl 0 rfl) ?_
    refine va_get (D := D) (ci := 4) (v := .ref as_.1) (C := RX5) (T := TX5) (N := 6) hx hb hts (fun _ h => List.mem_cons_of_mem _ (List.mem_append_left _ (List.mem_append_left _ (List.mem_append_left _ (List.mem_append_left _ (List.mem_append_right _ h)))))) hown hK hP 0 rfl rfl 2 (by decide) (hts (.fieldLink RX5 19 "HazelGift" "snapshot" "LHazelGift$Game;") (List.mem_of_getElem? (i := 6) rfl)) (fun _ h9 => h9) rfl dX5_restoreSnapshot_33 ?_
    refine gWVv (S := SG × SG) (As := [.ref as_.1]) (rest := []) (wc := wG kI ag w2.2 ++ wG kI as_ u.2.2.2.1) (wr := [(x, .inr (4, [.ref ag.1, .ref at_.1, .ref as_.1, .int u.1, .ref hh, .ref tx]))] ++ wG kI at_ u.2.2.1 ++ [(hh, .inr (2, [.ref hst, .int w2.1.1, .int w2.1.2.1])), (hst, .inl (kG, 4, .inr (.inr (.inr (.inr (fH a0 a1 a2 a3))))))] ++ wG kI a0 w2.1.2.2.1 ++ wG kI a1 w2.1.2.2.2.1 ++ wG kI a2 w2.1.2.2.2.2.1 ++ wG kI a3 w2.1.2.2.2.2.2 ++ wT kC tx tch u.2.2.2.2.2) (cs1 := (fun zz : SG × SG => wG kI ag zz.1 ++ wG kI as_ zz.2)) (ws2 := (fun zz : SG × SG => wX kI kC kG x ag at_ as_ hh hst a0 a1 a2 a3 tx tch (u.1, zz.1, u.2.2.1, zz.2, w2.1, u.2.2.2.2.2))) ⟨hx, hb, hml, hown, hts⟩ (fun sz => kX2_copyFrom l D kI kC kG kJ ag as_ sz w2.2 u.2.2.2.1 _ hw) (cwV 1 hts gX5_restoreSnapshot_X2_copyFrom rfl rfl rfl hdX2_copyFrom ⟨Nat.le_of_ble_eq_true rfl, Nat.le_of_ble_eq_true rfl⟩) hK hP hD hE hS hA [1, 2, 3, 4, 9, 10, 11, 12] [0, 5, 6, 7, 8, 13, 14, 15, 16, 17, 18, 19, 20, 21, 22, 23, 24, 25, 26, 27, 28, 29, 30, 31, 32] rfl rfl rfl rfl (by decide) [0, 25, 26, 27, 28, 1, 2, 3, 4, 29, 30, 31, 32, 5, 6, 7, 8, 9, 10, 11, 12, 13, 14, 15, 16, 17, 18, 19, 20, 21, 22, 23, 24] rfl (fun _ => rfl) (ci := 1) (q0 := 0) rfl rfl rfl rfl hl.1 rfl (Nat.le_of_ble_eq_true rfl) dX5_restoreSnapshot_36 ⟨Nat.le_of_ble_eq_true rfl, Nat.le_of_ble_eq_true rfl⟩ (fun w3 H locs hw hP hD hS => ?_)
    have hP : va_P D vwCl (wX kI kC kG x ag at_ as_ hh hst a0 a1 a2 a3 tx tch (u.1, w3.1, u.2.2.1, w3.2, w2.1, u.2.2.2.2.2)) H := hP
    have hD : va_D A (wX kI kC kG x ag at_ as_ hh hst a0 a1 a2 a3 tx tch (u.1, w3.1, u.2.2.1, w3.2, w2.1, u.2.2.2.2.2)) := hD
    refine lv_aload_n hx hb dX5_restoreSnapshot_39 rfl (lv_at hl 0 rfl) ?_
    refine va_get (D := D) (ci := 4) (v := .ref ag.1) (C := RX5) (T := TX5) (N := 6) hx hb hts (fun _ h => List.mem_cons_of_mem _ (List.mem_append_left _ (List.mem_append_left _ (List.mem_append_left _ (List.mem_append_left _ (List.mem_append_right _ h)))))) hown hK hP 0 rfl rfl 0 (by decide) (hts (.fieldLink RX5 10 "HazelGift" "game" "LHazelGift$Game;") (List.mem_of_getElem? (i := 5) rfl)) (fun _ h9 => h9) rfl dX5_restoreSnapshot_40 ?_
    refine gVa (r := .ref ag.2.1) (As := []) (rest := []) (cs' := wG kI ag w3.1) ⟨hx, hb, hml, hown, hts⟩ (kX2_board l D kI kC kG kJ ag w3.1) (cwV 0 hts gX5_restoreSnapshot_X2_board rfl rfl rfl hdX2_board ⟨Nat.le_of_ble_eq_true rfl, Nat.le_of_ble_eq_true rfl⟩) hK hP hE hS [1, 2, 3, 4] rfl (ci := 1) (q0 := 0) rfl rfl rfl rfl hl.1 rfl (Nat.le_of_ble_eq_true rfl) dX5_restoreSnapshot_43 ⟨Nat.le_of_ble_eq_true rfl, Nat.le_of_ble_eq_true rfl⟩ ?_
    refine gVi (As := []) (rest := []) (cs' := wB kI ag.2.1 ag.2.2.1 w3.1.2.2.2) ⟨hx, hb, hml, hown, hts⟩ (kX0_count l D kI kC kG kJ ag.2.1 ag.2.2.1 w3.1.2.2.2 _ hw) (cwV 0 hts gX5_restoreSnapshot_X0_count rfl rfl rfl hdX0_count ⟨Nat.le_of_ble_eq_true rfl, Nat.le_of_ble_eq_true rfl⟩) hK hP hE hS [3, 4] rfl (ci := 0) (q0 := 0) rfl rfl rfl rfl hl.1 rfl (Nat.le_of_ble_eq_true rfl) dX5_restoreSnapshot_46 ⟨Nat.le_of_ble_eq_true rfl, Nat.le_of_ble_eq_true rfl⟩ (fun r5 hw => ?_)
    refine vx_ret ?_
    refine W.widen (k := 1) (n := 6) (Nat.le_of_ble_eq_true rfl) (Nat.le_of_ble_eq_true rfl) ?_
    exact W.iret (v := r5) hx hb hr (fun t ht hW => ⟨⟨r5, (u.1, w3.1, u.2.2.1, w3.2, w2.1, u.2.2.2.2.2), rfl, hw, by rw [ht]; exact hP, va_K.moved hW.alike hK, hD⟩, hS.F ht⟩) hS.2.2 dX5_restoreSnapshot_49
  · replace hw := Eq.mp (if_pos c1) hw
    exact gThrow (uO := u) (text := "there is no snapshot") hx hb hlt hown (by decide) (hts (.classLink RX5 48 "java/lang/IllegalStateException") (List.mem_of_getElem? (i := 1) rfl)) (hts (.initialized "java/lang/IllegalStateException") (List.mem_of_getElem? (i := 2) rfl)) (fun w h => hts w (List.mem_cons_of_mem _ (List.mem_append_right _ h))) gXn0 gXg0 (List.mem_of_getElem? (i := 6) rfl) hK hP hD hE hS rfl hw (hl.1.trans hml.symm) dX5_restoreSnapshot_7 dX5_restoreSnapshot_10 dX5_restoreSnapshot_11 dX5_restoreSnapshot_13 dX5_restoreSnapshot_16 hnx (Nat.le_of_ble_eq_true rfl) (Nat.le_of_ble_eq_true rfl) (Nat.le_of_ble_eq_true rfl) (Nat.le_of_ble_eq_true rfl) hlocks (Nat.le_of_ble_eq_true rfl) (Nat.le_of_ble_eq_true rfl)
set_option maxHeartbeats 4000000 in
set_option maxRecDepth 100000 in
theorem kX5_playerToMove (l : Launch) (D : va_G) (kI kC kG kJ : ClassId) (x : Nat) (ag at_ as_ : AG) (hh hst : Nat) (a0 a1 a2 a3 : AG) (tx tch : Nat) (u : SX) (Z : Int32 → Prop) (hw : pX5_playerToMove u Z) : Met l yX5_playerToMove wsX5_playerToMove ({ frames := 5, cells := 0, slots := 0, locals := 101 } : Room) (gPr D (gT kI kC kG kJ) [.ref x] (wX kI kC kG x ag at_ as_ hh hst a0 a1 a2 a3 tx tch u)) (vp_Si Z) 0 0 (fun _ => False) := by
  refine Met.ofW (cc := cX5_playerToMove) (maxL := 1) (ret := (some .int)) (by decide) rfl ?_
  intro p e s m args below meth c s₁ B hml hv
  obtain ⟨rfl, hP, hK, hE⟩ := hv
  have hx := B.exec
  have hb := B.bytes
  have hr := B.returns
  have hts := atoms_spec (ws := wsX5_playerToMove) B.pre
  have hown : s.vm.findClass RX5 = some m.cls := findClass_of_methodNamed B.named
  have hlocks := B.notSynchronized
  have hS : va_S (fun _ => False) s.heap s.heap [] := va_S.rf
  have hl := lv_entry ([.ref x]) (n := 1) (Nat.le_of_ble_eq_true rfl)
  rw [lg_entry_eq]
  generalize (lg_sl ([.ref x]) ++ List.replicate (1 - (lg_sl ([.ref x])).length) Slot.unset).toArray = ls at hl ⊢
  have hl : lv_has ls 1 [(0, .ref x)] := hl
  unfold pX5_playerToMove at hw
  refine lv_aload_n hx hb dX5_playerToMove_0 rfl (lv_at hl 0 rfl) ?_
  refine va_get (D := D) (ci := 4) (v := .ref ag.1) (C := RX5) (T := TX5) (N := 6) hx hb hts (fun _ h => List.mem_cons_of_mem _ (List.mem_append_left _ (List.mem_append_left _ (List.mem_append_right _ h)))) hown hK hP 0 rfl rfl 0 (by decide) (hts (.fieldLink RX5 10 "HazelGift" "game" "LHazelGift$Game;") (List.mem_of_getElem? (i := 1) rfl)) (fun _ h9 => h9) rfl dX5_playerToMove_1 ?_
  refine gVi (As := []) (rest := []) (cs' := wG kI ag u.2.1) ⟨hx, hb, hml, hown, hts⟩ (kX2_mover l D kI kC kG kJ ag u.2.1 _ hw) (cwV 0 hts gX5_playerToMove_X2_mover rfl rfl rfl hdX2_mover ⟨Nat.le_of_ble_eq_true rfl, Nat.le_of_ble_eq_true rfl⟩) hK hP hE hS [1, 2, 3, 4] rfl (ci := 1) (q0 := 0) rfl rfl rfl rfl hl.1 rfl (Nat.le_of_ble_eq_true rfl) dX5_playerToMove_4 ⟨Nat.le_of_ble_eq_true rfl, Nat.le_of_ble_eq_true rfl⟩ (fun r1 hw => ?_)
  exact W.iret (v := r1) hx hb hr (fun t ht hW => ⟨_, rfl, hw, ht⟩) (fun _ h => by cases h) dX5_playerToMove_7
set_option maxHeartbeats 4000000 in
set_option maxRecDepth 100000 in
theorem kX5_gift (l : Launch) (D : va_G) (kI kC kG kJ : ClassId) (x : Nat) (ag at_ as_ : AG) (hh hst : Nat) (a0 a1 a2 a3 : AG) (tx tch : Nat) (u : SX) (Z : Int32 → Prop) (hw : pX5_gift u Z) : Met l yX5_gift wsX5_gift ({ frames := 1, cells := 0, slots := 0, locals := 20 } : Room) (gPr D (gT kI kC kG kJ) [.ref x] (wX kI kC kG x ag at_ as_ hh hst a0 a1 a2 a3 tx tch u)) (vp_Si Z) 0 0 (fun _ => False) := by
  refine Met.ofW (cc := cX5_gift) (maxL := 1) (ret := (some .int)) (by decide) rfl ?_
  intro p e s m args below meth c s₁ B hml hv
  obtain ⟨rfl, hP, hK, hE⟩ := hv
  have hx := B.exec
  have hb := B.bytes
  have hr := B.returns
  have hts := atoms_spec (ws := wsX5_gift) B.pre
  have hown : s.vm.findClass RX5 = some m.cls := findClass_of_methodNamed B.named
  have hlocks := B.notSynchronized
  have hS : va_S (fun _ => False) s.heap s.heap [] := va_S.rf
  have hl := lv_entry ([.ref x]) (n := 1) (Nat.le_of_ble_eq_true rfl)
  rw [lg_entry_eq]
  generalize (lg_sl ([.ref x]) ++ List.replicate (1 - (lg_sl ([.ref x])).length) Slot.unset).toArray = ls at hl ⊢
  have hl : lv_has ls 1 [(0, .ref x)] := hl
  unfold pX5_gift at hw
  refine lv_aload_n hx hb dX5_gift_0 rfl (lv_at hl 0 rfl) ?_
  refine va_get (D := D) (ci := 4) (v := .ref ag.1) (C := RX5) (T := TX5) (N := 6) hx hb hts (fun _ h => List.mem_cons_of_mem _ (List.mem_append_left _ (List.mem_append_right _ h))) hown hK hP 0 rfl rfl 0 (by decide) (hts (.fieldLink RX5 10 "HazelGift" "game" "LHazelGift$Game;") (List.mem_of_getElem? (i := 1) rfl)) (fun _ h9 => h9) rfl dX5_gift_1 ?_
  refine gVi (As := []) (rest := []) (cs' := wG kI ag u.2.1) ⟨hx, hb, hml, hown, hts⟩ (kX2_pending l D kI kC kG kJ ag u.2.1 _ hw) (cwV 0 hts gX5_gift_X2_pending rfl rfl rfl hdX2_pending ⟨Nat.le_of_ble_eq_true rfl, Nat.le_of_ble_eq_true rfl⟩) hK hP hE hS [1, 2, 3, 4] rfl (ci := 1) (q0 := 0) rfl rfl rfl rfl hl.1 rfl (Nat.le_of_ble_eq_true rfl) dX5_gift_4 ⟨Nat.le_of_ble_eq_true rfl, Nat.le_of_ble_eq_true rfl⟩ (fun r1 hw => ?_)
  exact W.iret (v := r1) hx hb hr (fun t ht hW => ⟨_, rfl, hw, ht⟩) (fun _ h => by cases h) dX5_gift_7
set_option maxHeartbeats 4000000 in
set_option maxRecDepth 100000 in
theorem kX5_pieceOn (l : Launch) (D : va_G) (kI kC kG kJ : ClassId) (hlt : l.stackTraces = false) (x : Nat) (ag at_ as_ : AG) (hh hst : Nat) (a0 a1 a2 a3 : AG) (tx tch : Nat) (sz : Nat) (u : SX) (p0 : Int32) (Z : Int32 → SX → Prop) (X : String → SX → Prop) (hw : pX5_pieceOn p0 u Z X) : vx_Met l yX5_pieceOn wsX5_pieceOn ({ frames := 7, cells := 1, slots := 6, locals := 110 } : Room) (gPw D (gT kI kC kG kJ) [.ref x, .int p0] (wX kI kC kG x ag at_ as_ hh hst a0 a1 a2 a3 tx tch u) sz) (va_Qi Z (gB D (gT kI kC kG kJ) (fun (zz : SX) => wX kI kC kG x ag at_ as_ hh hst a0 a1 a2 a3 tx tch zz) (va_A (wX kI kC kG x ag at_ as_ hh hst a0 a1 a2 a3 tx tch u) sz)) (va_A (wX kI kC kG x ag at_ as_ hh hst a0 a1 a2 a3 tx tch u) sz)) (gX D (gT kI kC kG kJ) (fun (zz : SX) => wX kI kC kG x ag at_ as_ hh hst a0 a1 a2 a3 tx tch zz) (va_A (wX kI kC kG x ag at_ as_ hh hst a0 a1 a2 a3 tx tch u) sz) X) 1 6 (va_A (wX kI kC kG x ag at_ as_ hh hst a0 a1 a2 a3 tx tch u) sz) := by
  refine vx_ofW (cc := cX5_pieceOn) (maxL := 2) (ret := (some .int)) (by decide) rfl ?_
  intro p e s m args below meth c s₁ B hml hnx hv
  obtain ⟨rfl, hsz, hP, hK, hD0, hE⟩ := hv
  have hx := B.exec
  have hb := B.bytes
  have hr := B.returns
  have hts := atoms_spec (ws := wsX5_pieceOn) B.pre
  have hown : s.vm.findClass RX5 = some m.cls := findClass_of_methodNamed B.named
  have hlocks := B.notSynchronized
  subst hsz
  have hD := hD0.self (sz := s.heap.size)
  generalize hAe : va_A (wX kI kC kG x ag at_ as_ hh hst a0 a1 a2 a3 tx tch u) s.heap.size = A at hD hE ⊢
  have hA : ∀ q : Nat, s.heap.size ≤ q → A q := fun q h => by rw [← hAe]; exact Or.inr h
  have hS : va_S A s.heap s.heap [] := va_S.rf
  clear hAe hD0
  have hl := lv_entry ([.ref x, .int p0]) (n := 2) (Nat.le_of_ble_eq_true rfl)
  rw [lg_entry_eq]
  generalize (lg_sl ([.ref x, .int p0]) ++ List.replicate (2 - (lg_sl ([.ref x, .int p0])).length) Slot.unset).toArray = ls at hl ⊢
  have hl : lv_has ls 2 [(0, .ref x), (1, .int p0)] := hl
  have hP : va_P D vwCl (wX kI kC kG x ag at_ as_ hh hst a0 a1 a2 a3 tx tch u) s.heap := hP
  unfold pX5_pieceOn at hw
  refine lv_iload_n hx hb dX5_pieceOn_0 rfl (lv_at hl 1 rfl) ?_
  refine gXSv (S := Unit) (As := [.int p0]) (rest := []) (wc := ([] : va_W)) (wr := [(x, .inr (4, [.ref ag.1, .ref at_.1, .ref as_.1, .int u.1, .ref hh, .ref tx]))] ++ wG kI ag u.2.1 ++ wG kI at_ u.2.2.1 ++ wG kI as_ u.2.2.2.1 ++ [(hh, .inr (2, [.ref hst, .int u.2.2.2.2.1.1, .int u.2.2.2.2.1.2.1])), (hst, .inl (kG, 4, .inr (.inr (.inr (.inr (fH a0 a1 a2 a3))))))] ++ wG kI a0 u.2.2.2.2.1.2.2.1 ++ wG kI a1 u.2.2.2.2.1.2.2.2.1 ++ wG kI a2 u.2.2.2.2.1.2.2.2.2.1 ++ wG kI a3 u.2.2.2.2.1.2.2.2.2.2 ++ wT kC tx tch u.2.2.2.2.2) (cs1 := (fun zz : Unit => ([] : va_W))) (ws2 := (fun zz : Unit => wX kI kC kG x ag at_ as_ hh hst a0 a1 a2 a3 tx tch u)) ⟨hx, hb, hml, hown, hts⟩ (fun sz => kX5_requireCell l D kI kC kG kJ hlt  sz p0 _ _ hw) (va_cwS 1 hts gX5_pieceOn_X5_requireCell rfl rfl rfl hdX5_requireCell ⟨Nat.le_of_ble_eq_true rfl, Nat.le_of_ble_eq_true rfl⟩) hK hP hD hE hS hA [] [0, 1, 2, 3, 4, 5, 6, 7, 8, 9, 10, 11, 12, 13, 14, 15, 16, 17, 18, 19, 20, 21, 22, 23, 24, 25, 26, 27, 28, 29, 30, 31, 32] rfl rfl rfl rfl (by decide) [0, 1, 2, 3, 4, 5, 6, 7, 8, 9, 10, 11, 12, 13, 14, 15, 16, 17, 18, 19, 20, 21, 22, 23, 24, 25, 26, 27, 28, 29, 30, 31, 32] rfl (fun _ => rfl) (fun w1 => u) (fun _ => rfl) (fun _ _ h => h) hnx hlocks (Nat.le_of_ble_eq_true rfl) (Nat.le_of_ble_eq_true rfl) rfl hl.1 rfl (Nat.le_of_ble_eq_true rfl) dX5_pieceOn_1 ⟨Nat.le_of_ble_eq_true rfl, Nat.le_of_ble_eq_true rfl⟩ (fun w1 H locs hw hP hD hS => ?_)
  have hP : va_P D vwCl (wX kI kC kG x ag at_ as_ hh hst a0 a1 a2 a3 tx tch u) H := hP
  have hD : va_D A (wX kI kC kG x ag at_ as_ hh hst a0 a1 a2 a3 tx tch u) := hD
  refine lv_aload_n hx hb dX5_pieceOn_4 rfl (lv_at hl 0 rfl) ?_
  refine va_get (D := D) (ci := 4) (v := .ref ag.1) (C := RX5) (T := TX5) (N := 6) hx hb hts (fun _ h => List.mem_cons_of_mem _ (List.mem_append_left _ (List.mem_append_left _ (List.mem_append_left _ (List.mem_append_right _ h))))) hown hK hP 0 rfl rfl 0 (by decide) (hts (.fieldLink RX5 10 "HazelGift" "game" "LHazelGift$Game;") (List.mem_of_getElem? (i := 1) rfl)) (fun _ h9 => h9) rfl dX5_pieceOn_5 ?_
  refine gVa (r := .ref ag.2.1) (As := []) (rest := []) (cs' := wG kI ag u.2.1) ⟨hx, hb, hml, hown, hts⟩ (kX2_board l D kI kC kG kJ ag u.2.1) (cwV 0 hts gX5_pieceOn_X2_board rfl rfl rfl hdX2_board ⟨Nat.le_of_ble_eq_true rfl, Nat.le_of_ble_eq_true rfl⟩) hK hP hE hS [1, 2, 3, 4] rfl (ci := 1) (q0 := 0) rfl rfl rfl rfl hl.1 rfl (Nat.le_of_ble_eq_true rfl) dX5_pieceOn_8 ⟨Nat.le_of_ble_eq_true rfl, Nat.le_of_ble_eq_true rfl⟩ ?_
  refine lv_iload_n hx hb dX5_pieceOn_11 rfl (lv_at hl 1 rfl) ?_
  refine gVi (As := [.int p0]) (rest := []) (cs' := wB kI ag.2.1 ag.2.2.1 u.2.1.2.2.2) ⟨hx, hb, hml, hown, hts⟩ (kX0_pieceAt l D kI kC kG kJ ag.2.1 ag.2.2.1 u.2.1.2.2.2 p0 _ hw) (cwV 1 hts gX5_pieceOn_X0_pieceAt rfl rfl rfl hdX0_pieceAt ⟨Nat.le_of_ble_eq_true rfl, Nat.le_of_ble_eq_true rfl⟩) hK hP hE hS [3, 4] rfl (ci := 0) (q0 := 0) rfl rfl rfl rfl hl.1 rfl (Nat.le_of_ble_eq_true rfl) dX5_pieceOn_12 ⟨Nat.le_of_ble_eq_true rfl, Nat.le_of_ble_eq_true rfl⟩ (fun r3 hw => ?_)
  refine vx_ret ?_
  refine W.widen (k := 1) (n := 6) (Nat.le_of_ble_eq_true rfl) (Nat.le_of_ble_eq_true rfl) ?_
  exact W.iret (v := r3) hx hb hr (fun t ht hW => ⟨⟨r3, u, rfl, hw, by rw [ht]; exact hP, va_K.moved hW.alike hK, hD⟩, hS.F ht⟩) hS.2.2 dX5_pieceOn_15
set_option maxHeartbeats 4000000 in
set_option maxRecDepth 100000 in
theorem kX5_cellOf (l : Launch) (D : va_G) (kI kC kG kJ : ClassId) (hlt : l.stackTraces = false) (x : Nat) (ag at_ as_ : AG) (hh hst : Nat) (a0 a1 a2 a3 : AG) (tx tch : Nat) (sz : Nat) (u : SX) (p0 : Int32) (Z : Int32 → SX → Prop) (X : String → SX → Prop) (hw : pX5_cellOf p0 u Z X) : vx_Met l yX5_cellOf wsX5_cellOf ({ frames := 7, cells := 1, slots := 6, locals := 110 } : Room) (gPw D (gT kI kC kG kJ) [.ref x, .int p0] (wX kI kC kG x ag at_ as_ hh hst a0 a1 a2 a3 tx tch u) sz) (va_Qi Z (gB D (gT kI kC kG kJ) (fun (zz : SX) => wX kI kC kG x ag at_ as_ hh hst a0 a1 a2 a3 tx tch zz) (va_A (wX kI kC kG x ag at_ as_ hh hst a0 a1 a2 a3 tx tch u) sz)) (va_A (wX kI kC kG x ag at_ as_ hh hst a0 a1 a2 a3 tx tch u) sz)) (gX D (gT kI kC kG kJ) (fun (zz : SX) => wX kI kC kG x ag at_ as_ hh hst a0 a1 a2 a3 tx tch zz) (va_A (wX kI kC kG x ag at_ as_ hh hst a0 a1 a2 a3 tx tch u) sz) X) 1 6 (va_A (wX kI kC kG x ag at_ as_ hh hst a0 a1 a2 a3 tx tch u) sz) := by
  refine vx_ofW (cc := cX5_cellOf) (maxL := 2) (ret := (some .int)) (by decide) rfl ?_
  intro p e s m args below meth c s₁ B hml hnx hv
  obtain ⟨rfl, hsz, hP, hK, hD0, hE⟩ := hv
  have hx := B.exec
  have hb := B.bytes
  have hr := B.returns
  have hts := atoms_spec (ws := wsX5_cellOf) B.pre
  have hown : s.vm.findClass RX5 = some m.cls := findClass_of_methodNamed B.named
  have hlocks := B.notSynchronized
  subst hsz
  have hD := hD0.self (sz := s.heap.size)
  generalize hAe : va_A (wX kI kC kG x ag at_ as_ hh hst a0 a1 a2 a3 tx tch u) s.heap.size = A at hD hE ⊢
  have hA : ∀ q : Nat, s.heap.size ≤ q → A q := fun q h => by rw [← hAe]; exact Or.inr h
  have hS : va_S A s.heap s.heap [] := va_S.rf
  clear hAe hD0
  have hl := lv_entry ([.ref x, .int p0]) (n := 2) (Nat.le_of_ble_eq_true rfl)
  rw [lg_entry_eq]
  generalize (lg_sl ([.ref x, .int p0]) ++ List.replicate (2 - (lg_sl ([.ref x, .int p0])).length) Slot.unset).toArray = ls at hl ⊢
  have hl : lv_has ls 2 [(0, .ref x), (1, .int p0)] := hl
  have hP : va_P D vwCl (wX kI kC kG x ag at_ as_ hh hst a0 a1 a2 a3 tx tch u) s.heap := hP
  unfold pX5_cellOf at hw
  refine lv_iload_n hx hb dX5_cellOf_0 rfl (lv_at hl 1 rfl) ?_
  refine gXSv (S := Unit) (As := [.int p0]) (rest := []) (wc := ([] : va_W)) (wr := [(x, .inr (4, [.ref ag.1, .ref at_.1, .ref as_.1, .int u.1, .ref hh, .ref tx]))] ++ wG kI ag u.2.1 ++ wG kI at_ u.2.2.1 ++ wG kI as_ u.2.2.2.1 ++ [(hh, .inr (2, [.ref hst, .int u.2.2.2.2.1.1, .int u.2.2.2.2.1.2.1])), (hst, .inl (kG, 4, .inr (.inr (.inr (.inr (fH a0 a1 a2 a3))))))] ++ wG kI a0 u.2.2.2.2.1.2.2.1 ++ wG kI a1 u.2.2.2.2.1.2.2.2.1 ++ wG kI a2 u.2.2.2.2.1.2.2.2.2.1 ++ wG kI a3 u.2.2.2.2.1.2.2.2.2.2 ++ wT kC tx tch u.2.2.2.2.2) (cs1 := (fun zz : Unit => ([] : va_W))) (ws2 := (fun zz : Unit => wX kI kC kG x ag at_ as_ hh hst a0 a1 a2 a3 tx tch u)) ⟨hx, hb, hml, hown, hts⟩ (fun sz => kX5_requirePiece l D kI kC kG kJ hlt  sz p0 _ _ hw) (va_cwS 1 hts gX5_cellOf_X5_requirePiece rfl rfl rfl hdX5_requirePiece ⟨Nat.le_of_ble_eq_true rfl, Nat.le_of_ble_eq_true rfl⟩) hK hP hD hE hS hA [] [0, 1, 2, 3, 4, 5, 6, 7, 8, 9, 10, 11, 12, 13, 14, 15, 16, 17, 18, 19, 20, 21, 22, 23, 24, 25, 26, 27, 28, 29, 30, 31, 32] rfl rfl rfl rfl (by decide) [0, 1, 2, 3, 4, 5, 6, 7, 8, 9, 10, 11, 12, 13, 14, 15, 16, 17, 18, 19, 20, 21, 22, 23, 24, 25, 26, 27, 28, 29, 30, 31, 32] rfl (fun _ => rfl) (fun w1 => u) (fun _ => rfl) (fun _ _ h => h) hnx hlocks (Nat.le_of_ble_eq_true rfl) (Nat.le_of_ble_eq_true rfl) rfl hl.1 rfl (Nat.le_of_ble_eq_true rfl) dX5_cellOf_1 ⟨Nat.le_of_ble_eq_true rfl, Nat.le_of_ble_eq_true rfl⟩ (fun w1 H locs hw hP hD hS => ?_)
  have hP : va_P D vwCl (wX kI kC kG x ag at_ as_ hh hst a0 a1 a2 a3 tx tch u) H := hP
  have hD : va_D A (wX kI kC kG x ag at_ as_ hh hst a0 a1 a2 a3 tx tch u) := hD
  refine lv_aload_n hx hb dX5_cellOf_4 rfl (lv_at hl 0 rfl) ?_
  refine va_get (D := D) (ci := 4) (v := .ref ag.1) (C := RX5) (T := TX5) (N := 6) hx hb hts (fun _ h => List.mem_cons_of_mem _ (List.mem_append_left _ (List.mem_append_left _ (List.mem_append_left _ (List.mem_append_right _ h))))) hown hK hP 0 rfl rfl 0 (by decide) (hts (.fieldLink RX5 10 "HazelGift" "game" "LHazelGift$Game;") (List.mem_of_getElem? (i := 1) rfl)) (fun _ h9 => h9) rfl dX5_cellOf_5 ?_
  refine gVa (r := .ref ag.2.1) (As := []) (rest := []) (cs' := wG kI ag u.2.1) ⟨hx, hb, hml, hown, hts⟩ (kX2_board l D kI kC kG kJ ag u.2.1) (cwV 0 hts gX5_cellOf_X2_board rfl rfl rfl hdX2_board ⟨Nat.le_of_ble_eq_true rfl, Nat.le_of_ble_eq_true rfl⟩) hK hP hE hS [1, 2, 3, 4] rfl (ci := 1) (q0 := 0) rfl rfl rfl rfl hl.1 rfl (Nat.le_of_ble_eq_true rfl) dX5_cellOf_8 ⟨Nat.le_of_ble_eq_true rfl, Nat.le_of_ble_eq_true rfl⟩ ?_
  refine lv_iload_n hx hb dX5_cellOf_11 rfl (lv_at hl 1 rfl) ?_
  refine gVi (As := [.int p0]) (rest := []) (cs' := wB kI ag.2.1 ag.2.2.1 u.2.1.2.2.2) ⟨hx, hb, hml, hown, hts⟩ (kX0_cellWith l D kI kC kG kJ ag.2.1 ag.2.2.1 u.2.1.2.2.2 p0 _ hw) (cwV 1 hts gX5_cellOf_X0_cellWith rfl rfl rfl hdX0_cellWith ⟨Nat.le_of_ble_eq_true rfl, Nat.le_of_ble_eq_true rfl⟩) hK hP hE hS [3, 4] rfl (ci := 0) (q0 := 0) rfl rfl rfl rfl hl.1 rfl (Nat.le_of_ble_eq_true rfl) dX5_cellOf_12 ⟨Nat.le_of_ble_eq_true rfl, Nat.le_of_ble_eq_true rfl⟩ (fun r3 hw => ?_)
  refine vx_ret ?_
  refine W.widen (k := 1) (n := 6) (Nat.le_of_ble_eq_true rfl) (Nat.le_of_ble_eq_true rfl) ?_
  exact W.iret (v := r3) hx hb hr (fun t ht hW => ⟨⟨r3, u, rfl, hw, by rw [ht]; exact hP, va_K.moved hW.alike hK, hD⟩, hS.F ht⟩) hS.2.2 dX5_cellOf_15
set_option maxHeartbeats 4000000 in
set_option maxRecDepth 100000 in
theorem kX5_placed (l : Launch) (D : va_G) (kI kC kG kJ : ClassId) (x : Nat) (ag at_ as_ : AG) (hh hst : Nat) (a0 a1 a2 a3 : AG) (tx tch : Nat) (u : SX) (Z : Int32 → Prop) (hw : pX5_placed u Z) : Met l yX5_placed wsX5_placed ({ frames := 2, cells := 0, slots := 0, locals := 40 } : Room) (gPr D (gT kI kC kG kJ) [.ref x] (wX kI kC kG x ag at_ as_ hh hst a0 a1 a2 a3 tx tch u)) (vp_Si Z) 0 0 (fun _ => False) := by
  refine Met.ofW (cc := cX5_placed) (maxL := 1) (ret := (some .int)) (by decide) rfl ?_
  intro p e s m args below meth c s₁ B hml hv
  obtain ⟨rfl, hP, hK, hE⟩ := hv
  have hx := B.exec
  have hb := B.bytes
  have hr := B.returns
  have hts := atoms_spec (ws := wsX5_placed) B.pre
  have hown : s.vm.findClass RX5 = some m.cls := findClass_of_methodNamed B.named
  have hlocks := B.notSynchronized
  have hS : va_S (fun _ => False) s.heap s.heap [] := va_S.rf
  have hl := lv_entry ([.ref x]) (n := 1) (Nat.le_of_ble_eq_true rfl)
  rw [lg_entry_eq]
  generalize (lg_sl ([.ref x]) ++ List.replicate (1 - (lg_sl ([.ref x])).length) Slot.unset).toArray = ls at hl ⊢
  have hl : lv_has ls 1 [(0, .ref x)] := hl
  unfold pX5_placed at hw
  refine lv_aload_n hx hb dX5_placed_0 rfl (lv_at hl 0 rfl) ?_
  refine va_get (D := D) (ci := 4) (v := .ref ag.1) (C := RX5) (T := TX5) (N := 6) hx hb hts (fun _ h => List.mem_cons_of_mem _ (List.mem_append_left _ (List.mem_append_left _ (List.mem_append_right _ h)))) hown hK hP 0 rfl rfl 0 (by decide) (hts (.fieldLink RX5 10 "HazelGift" "game" "LHazelGift$Game;") (List.mem_of_getElem? (i := 1) rfl)) (fun _ h9 => h9) rfl dX5_placed_1 ?_
  refine gVa (r := .ref ag.2.1) (As := []) (rest := []) (cs' := wG kI ag u.2.1) ⟨hx, hb, hml, hown, hts⟩ (kX2_board l D kI kC kG kJ ag u.2.1) (cwV 0 hts gX5_placed_X2_board rfl rfl rfl hdX2_board ⟨Nat.le_of_ble_eq_true rfl, Nat.le_of_ble_eq_true rfl⟩) hK hP hE hS [1, 2, 3, 4] rfl (ci := 1) (q0 := 0) rfl rfl rfl rfl hl.1 rfl (Nat.le_of_ble_eq_true rfl) dX5_placed_4 ⟨Nat.le_of_ble_eq_true rfl, Nat.le_of_ble_eq_true rfl⟩ ?_
  refine gVi (As := []) (rest := []) (cs' := wB kI ag.2.1 ag.2.2.1 u.2.1.2.2.2) ⟨hx, hb, hml, hown, hts⟩ (kX0_count l D kI kC kG kJ ag.2.1 ag.2.2.1 u.2.1.2.2.2 _ hw) (cwV 0 hts gX5_placed_X0_count rfl rfl rfl hdX0_count ⟨Nat.le_of_ble_eq_true rfl, Nat.le_of_ble_eq_true rfl⟩) hK hP hE hS [3, 4] rfl (ci := 0) (q0 := 0) rfl rfl rfl rfl hl.1 rfl (Nat.le_of_ble_eq_true rfl) dX5_placed_7 ⟨Nat.le_of_ble_eq_true rfl, Nat.le_of_ble_eq_true rfl⟩ (fun r2 hw => ?_)
  exact W.iret (v := r2) hx hb hr (fun t ht hW => ⟨_, rfl, hw, ht⟩) (fun _ h => by cases h) dX5_placed_10
set_option maxHeartbeats 4000000 in
set_option maxRecDepth 100000 in
theorem kX5_winner (l : Launch) (D : va_G) (kI kC kG kJ : ClassId) (x : Nat) (ag at_ as_ : AG) (hh hst : Nat) (a0 a1 a2 a3 : AG) (tx tch : Nat) (u : SX) (Z : Int32 → Prop) (hw : pX5_winner u Z) : Met l yX5_winner wsX5_winner ({ frames := 1, cells := 0, slots := 0, locals := 20 } : Room) (gPr D (gT kI kC kG kJ) [.ref x] (wX kI kC kG x ag at_ as_ hh hst a0 a1 a2 a3 tx tch u)) (vp_Si Z) 0 0 (fun _ => False) := by
  refine Met.ofW (cc := cX5_winner) (maxL := 1) (ret := (some .int)) (by decide) rfl ?_
  intro p e s m args below meth c s₁ B hml hv
  obtain ⟨rfl, hP, hK, hE⟩ := hv
  have hx := B.exec
  have hb := B.bytes
  have hr := B.returns
  have hts := atoms_spec (ws := wsX5_winner) B.pre
  have hown : s.vm.findClass RX5 = some m.cls := findClass_of_methodNamed B.named
  have hlocks := B.notSynchronized
  have hS : va_S (fun _ => False) s.heap s.heap [] := va_S.rf
  have hl := lv_entry ([.ref x]) (n := 1) (Nat.le_of_ble_eq_true rfl)
  rw [lg_entry_eq]
  generalize (lg_sl ([.ref x]) ++ List.replicate (1 - (lg_sl ([.ref x])).length) Slot.unset).toArray = ls at hl ⊢
  have hl : lv_has ls 1 [(0, .ref x)] := hl
  unfold pX5_winner at hw
  refine lv_aload_n hx hb dX5_winner_0 rfl (lv_at hl 0 rfl) ?_
  refine va_get (D := D) (ci := 4) (v := .ref ag.1) (C := RX5) (T := TX5) (N := 6) hx hb hts (fun _ h => List.mem_cons_of_mem _ (List.mem_append_left _ (List.mem_append_right _ h))) hown hK hP 0 rfl rfl 0 (by decide) (hts (.fieldLink RX5 10 "HazelGift" "game" "LHazelGift$Game;") (List.mem_of_getElem? (i := 1) rfl)) (fun _ h9 => h9) rfl dX5_winner_1 ?_
  refine gVi (As := []) (rest := []) (cs' := wG kI ag u.2.1) ⟨hx, hb, hml, hown, hts⟩ (kX2_victor l D kI kC kG kJ ag u.2.1 _ hw) (cwV 0 hts gX5_winner_X2_victor rfl rfl rfl hdX2_victor ⟨Nat.le_of_ble_eq_true rfl, Nat.le_of_ble_eq_true rfl⟩) hK hP hE hS [1, 2, 3, 4] rfl (ci := 1) (q0 := 0) rfl rfl rfl rfl hl.1 rfl (Nat.le_of_ble_eq_true rfl) dX5_winner_4 ⟨Nat.le_of_ble_eq_true rfl, Nat.le_of_ble_eq_true rfl⟩ (fun r1 hw => ?_)
  exact W.iret (v := r1) hx hb hr (fun t ht hW => ⟨_, rfl, hw, ht⟩) (fun _ h => by cases h) dX5_winner_7
set_option maxHeartbeats 4000000 in
set_option maxRecDepth 100000 in
theorem kX5_isOver (l : Launch) (D : va_G) (kI kC kG kJ : ClassId) (x : Nat) (ag at_ as_ : AG) (hh hst : Nat) (a0 a1 a2 a3 : AG) (tx tch : Nat) (u : SX) (Z : Int32 → Prop) (hw : pX5_isOver u Z) : Met l yX5_isOver wsX5_isOver ({ frames := 4, cells := 0, slots := 0, locals := 80 } : Room) (gPr D (gT kI kC kG kJ) [.ref x] (wX kI kC kG x ag at_ as_ hh hst a0 a1 a2 a3 tx tch u)) (vp_Si Z) 0 0 (fun _ => False) := by
  refine Met.ofW (cc := cX5_isOver) (maxL := 1) (ret := (some .boolean)) (by decide) rfl ?_
  intro p e s m args below meth c s₁ B hml hv
  obtain ⟨rfl, hP, hK, hE⟩ := hv
  have hx := B.exec
  have hb := B.bytes
  have hr := B.returns
  have hts := atoms_spec (ws := wsX5_isOver) B.pre
  have hown : s.vm.findClass RX5 = some m.cls := findClass_of_methodNamed B.named
  have hlocks := B.notSynchronized
  have hS : va_S (fun _ => False) s.heap s.heap [] := va_S.rf
  have hl := lv_entry ([.ref x]) (n := 1) (Nat.le_of_ble_eq_true rfl)
  rw [lg_entry_eq]
  generalize (lg_sl ([.ref x]) ++ List.replicate (1 - (lg_sl ([.ref x])).length) Slot.unset).toArray = ls at hl ⊢
  have hl : lv_has ls 1 [(0, .ref x)] := hl
  unfold pX5_isOver at hw
  refine lv_aload_n hx hb dX5_isOver_0 rfl (lv_at hl 0 rfl) ?_
  refine va_get (D := D) (ci := 4) (v := .ref ag.1) (C := RX5) (T := TX5) (N := 6) hx hb hts (fun _ h => List.mem_cons_of_mem _ (List.mem_append_left _ (List.mem_append_left _ (List.mem_append_right _ h)))) hown hK hP 0 rfl rfl 0 (by decide) (hts (.fieldLink RX5 10 "HazelGift" "game" "LHazelGift$Game;") (List.mem_of_getElem? (i := 1) rfl)) (fun _ h9 => h9) rfl dX5_isOver_1 ?_
  refine gVi (As := []) (rest := []) (cs' := wG kI ag u.2.1) ⟨hx, hb, hml, hown, hts⟩ (kX2_hasEnded l D kI kC kG kJ ag u.2.1 _ hw) (cwV 0 hts gX5_isOver_X2_hasEnded rfl rfl rfl hdX2_hasEnded ⟨Nat.le_of_ble_eq_true rfl, Nat.le_of_ble_eq_true rfl⟩) hK hP hE hS [1, 2, 3, 4] rfl (ci := 1) (q0 := 0) rfl rfl rfl rfl hl.1 rfl (Nat.le_of_ble_eq_true rfl) dX5_isOver_4 ⟨Nat.le_of_ble_eq_true rfl, Nat.le_of_ble_eq_true rfl⟩ (fun r1 hw => ?_)
  obtain ⟨hn, hw⟩ := hw
  exact W.zret (v := r1) hx hb hr hn (fun t ht hW => ⟨_, rfl, hw, ht⟩) (fun _ h => by cases h) dX5_isOver_7
set_option maxHeartbeats 4000000 in
set_option maxRecDepth 100000 in
theorem kX5_lines (l : Launch) (D : va_G) (kI kC kG kJ : ClassId) (x : Nat) (ag at_ as_ : AG) (hh hst : Nat) (a0 a1 a2 a3 : AG) (tx tch : Nat) (u : SX) (Z : Int32 → Prop) (hw : pX5_lines u Z) : Met l yX5_lines wsX5_lines ({ frames := 1, cells := 0, slots := 0, locals := 20 } : Room) (gPr D (gT kI kC kG kJ) [.ref x] (wX kI kC kG x ag at_ as_ hh hst a0 a1 a2 a3 tx tch u)) (vp_Si Z) 0 0 (fun _ => False) := by
  refine Met.ofW (cc := cX5_lines) (maxL := 1) (ret := (some .int)) (by decide) rfl ?_
  intro p e s m args below meth c s₁ B hml hv
  obtain ⟨rfl, hP, hK, hE⟩ := hv
  have hx := B.exec
  have hb := B.bytes
  have hr := B.returns
  have hts := atoms_spec (ws := wsX5_lines) B.pre
  have hown : s.vm.findClass RX5 = some m.cls := findClass_of_methodNamed B.named
  have hlocks := B.notSynchronized
  have hS : va_S (fun _ => False) s.heap s.heap [] := va_S.rf
  have hl := lv_entry ([.ref x]) (n := 1) (Nat.le_of_ble_eq_true rfl)
  rw [lg_entry_eq]
  generalize (lg_sl ([.ref x]) ++ List.replicate (1 - (lg_sl ([.ref x])).length) Slot.unset).toArray = ls at hl ⊢
  have hl : lv_has ls 1 [(0, .ref x)] := hl
  unfold pX5_lines at hw
  refine lv_aload_n hx hb dX5_lines_0 rfl (lv_at hl 0 rfl) ?_
  refine va_get (D := D) (ci := 4) (v := .ref ag.1) (C := RX5) (T := TX5) (N := 6) hx hb hts (fun _ h => List.mem_cons_of_mem _ (List.mem_append_left _ (List.mem_append_left _ (List.mem_append_right _ h)))) hown hK hP 0 rfl rfl 0 (by decide) (hts (.fieldLink RX5 10 "HazelGift" "game" "LHazelGift$Game;") (List.mem_of_getElem? (i := 1) rfl)) (fun _ h9 => h9) rfl dX5_lines_1 ?_
  refine gVa (r := .ref ag.2.1) (As := []) (rest := []) (cs' := wG kI ag u.2.1) ⟨hx, hb, hml, hown, hts⟩ (kX2_board l D kI kC kG kJ ag u.2.1) (cwV 0 hts gX5_lines_X2_board rfl rfl rfl hdX2_board ⟨Nat.le_of_ble_eq_true rfl, Nat.le_of_ble_eq_true rfl⟩) hK hP hE hS [1, 2, 3, 4] rfl (ci := 1) (q0 := 0) rfl rfl rfl rfl hl.1 rfl (Nat.le_of_ble_eq_true rfl) dX5_lines_4 ⟨Nat.le_of_ble_eq_true rfl, Nat.le_of_ble_eq_true rfl⟩ ?_
  refine gVi (As := []) (rest := []) (cs' := wB kI ag.2.1 ag.2.2.1 u.2.1.2.2.2) ⟨hx, hb, hml, hown, hts⟩ (kX0_lineCount l D kI kC kG kJ ag.2.1 ag.2.2.1 u.2.1.2.2.2 _ hw) (cwV 0 hts gX5_lines_X0_lineCount rfl rfl rfl hdX0_lineCount ⟨Nat.le_of_ble_eq_true rfl, Nat.le_of_ble_eq_true rfl⟩) hK hP hE hS [3, 4] rfl (ci := 0) (q0 := 0) rfl rfl rfl rfl hl.1 rfl (Nat.le_of_ble_eq_true rfl) dX5_lines_7 ⟨Nat.le_of_ble_eq_true rfl, Nat.le_of_ble_eq_true rfl⟩ (fun r2 hw => ?_)
  exact W.iret (v := r2) hx hb hr (fun t ht hW => ⟨_, rfl, hw, ht⟩) (fun _ h => by cases h) dX5_lines_10
set_option maxHeartbeats 4000000 in
set_option maxRecDepth 100000 in
theorem kX5_piecesOn (l : Launch) (D : va_G) (kI kC kG kJ : ClassId) (hlt : l.stackTraces = false) (x : Nat) (ag at_ as_ : AG) (hh hst : Nat) (a0 a1 a2 a3 : AG) (tx tch : Nat) (sz : Nat) (u : SX) (p0 : Int32) (Z : Int32 → SX → Prop) (X : String → SX → Prop) (hw : pX5_piecesOn p0 u Z X) : vx_Met l yX5_piecesOn wsX5_piecesOn ({ frames := 7, cells := 1, slots := 6, locals := 111 } : Room) (gPw D (gT kI kC kG kJ) [.ref x, .int p0] (wX kI kC kG x ag at_ as_ hh hst a0 a1 a2 a3 tx tch u) sz) (va_Qi Z (gB D (gT kI kC kG kJ) (fun (zz : SX) => wX kI kC kG x ag at_ as_ hh hst a0 a1 a2 a3 tx tch zz) (va_A (wX kI kC kG x ag at_ as_ hh hst a0 a1 a2 a3 tx tch u) sz)) (va_A (wX kI kC kG x ag at_ as_ hh hst a0 a1 a2 a3 tx tch u) sz)) (gX D (gT kI kC kG kJ) (fun (zz : SX) => wX kI kC kG x ag at_ as_ hh hst a0 a1 a2 a3 tx tch zz) (va_A (wX kI kC kG x ag at_ as_ hh hst a0 a1 a2 a3 tx tch u) sz) X) 1 6 (va_A (wX kI kC kG x ag at_ as_ hh hst a0 a1 a2 a3 tx tch u) sz) := by
  refine vx_ofW (cc := cX5_piecesOn) (maxL := 2) (ret := (some .int)) (by decide) rfl ?_
  intro p e s m args below meth c s₁ B hml hnx hv
  obtain ⟨rfl, hsz, hP, hK, hD0, hE⟩ := hv
  have hx := B.exec
  have hb := B.bytes
  have hr := B.returns
  have hts := atoms_spec (ws := wsX5_piecesOn) B.pre
  have hown : s.vm.findClass RX5 = some m.cls := findClass_of_methodNamed B.named
  have hlocks := B.notSynchronized
  subst hsz
  have hD := hD0.self (sz := s.heap.size)
  generalize hAe : va_A (wX kI kC kG x ag at_ as_ hh hst a0 a1 a2 a3 tx tch u) s.heap.size = A at hD hE ⊢
  have hA : ∀ q : Nat, s.heap.size ≤ q → A q := fun q h => by rw [← hAe]; exact Or.inr h
  have hS : va_S A s.heap s.heap [] := va_S.rf
  clear hAe hD0
  have hl := lv_entry ([.ref x, .int p0]) (n := 2) (Nat.le_of_ble_eq_true rfl)
  rw [lg_entry_eq]
  generalize (lg_sl ([.ref x, .int p0]) ++ List.replicate (2 - (lg_sl ([.ref x, .int p0])).length) Slot.unset).toArray = ls at hl ⊢
  have hl : lv_has ls 2 [(0, .ref x), (1, .int p0)] := hl
  have hP : va_P D vwCl (wX kI kC kG x ag at_ as_ hh hst a0 a1 a2 a3 tx tch u) s.heap := hP
  unfold pX5_piecesOn at hw
  refine lv_aload_n hx hb dX5_piecesOn_0 rfl (lv_at hl 0 rfl) ?_
  refine lv_iload_n hx hb dX5_piecesOn_1 rfl (lv_at hl 1 rfl) ?_
  refine gXVv (S := SX) (As := [.int p0]) (rest := []) (wc := wX kI kC kG x ag at_ as_ hh hst a0 a1 a2 a3 tx tch u) (wr := []) (cs1 := (fun zz : SX => wX kI kC kG x ag at_ as_ hh hst a0 a1 a2 a3 tx tch zz)) (ws2 := (fun zz : SX => wX kI kC kG x ag at_ as_ hh hst a0 a1 a2 a3 tx tch zz)) ⟨hx, hb, hml, hown, hts⟩ (fun sz => kX5_requireLine l D kI kC kG kJ hlt x ag at_ as_ hh hst a0 a1 a2 a3 tx tch sz u p0 _ _ hw) (cwV 1 hts gX5_piecesOn_X5_requireLine rfl rfl rfl hdX5_requireLine ⟨Nat.le_of_ble_eq_true rfl, Nat.le_of_ble_eq_true rfl⟩) hK hP hD hE hS hA [0, 1, 2, 3, 4, 5, 6, 7, 8, 9, 10, 11, 12, 13, 14, 15, 16, 17, 18, 19, 20, 21, 22, 23, 24, 25, 26, 27, 28, 29, 30, 31, 32] [] rfl rfl rfl rfl (by decide) [0, 1, 2, 3, 4, 5, 6, 7, 8, 9, 10, 11, 12, 13, 14, 15, 16, 17, 18, 19, 20, 21, 22, 23, 24, 25, 26, 27, 28, 29, 30, 31, 32] rfl (fun _ => rfl) (fun w1 => w1) (fun _ => rfl) (fun _ _ h => h) hnx hlocks (Nat.le_of_ble_eq_true rfl) (Nat.le_of_ble_eq_true rfl) (ci := 4) (q0 := 0) rfl rfl rfl rfl hl.1 rfl (Nat.le_of_ble_eq_true rfl) dX5_piecesOn_2 ⟨Nat.le_of_ble_eq_true rfl, Nat.le_of_ble_eq_true rfl⟩ (fun w1 H locs hw hP hD hS => ?_)
  have hP : va_P D vwCl (wX kI kC kG x ag at_ as_ hh hst a0 a1 a2 a3 tx tch w1) H := hP
  have hD : va_D A (wX kI kC kG x ag at_ as_ hh hst a0 a1 a2 a3 tx tch w1) := hD
  refine lv_aload_n hx hb dX5_piecesOn_5 rfl (lv_at hl 0 rfl) ?_
  refine va_get (D := D) (ci := 4) (v := .ref ag.1) (C := RX5) (T := TX5) (N := 6) hx hb hts (fun _ h => List.mem_cons_of_mem _ (List.mem_append_left _ (List.mem_append_left _ (List.mem_append_left _ (List.mem_append_right _ h))))) hown hK hP 0 rfl rfl 0 (by decide) (hts (.fieldLink RX5 10 "HazelGift" "game" "LHazelGift$Game;") (List.mem_of_getElem? (i := 1) rfl)) (fun _ h9 => h9) rfl dX5_piecesOn_6 ?_
  refine gVa (r := .ref ag.2.1) (As := []) (rest := []) (cs' := wG kI ag w1.2.1) ⟨hx, hb, hml, hown, hts⟩ (kX2_board l D kI kC kG kJ ag w1.2.1) (cwV 0 hts gX5_piecesOn_X2_board rfl rfl rfl hdX2_board ⟨Nat.le_of_ble_eq_true rfl, Nat.le_of_ble_eq_true rfl⟩) hK hP hE hS [1, 2, 3, 4] rfl (ci := 1) (q0 := 0) rfl rfl rfl rfl hl.1 rfl (Nat.le_of_ble_eq_true rfl) dX5_piecesOn_9 ⟨Nat.le_of_ble_eq_true rfl, Nat.le_of_ble_eq_true rfl⟩ ?_
  refine lv_iload_n hx hb dX5_piecesOn_12 rfl (lv_at hl 1 rfl) ?_
  refine gVi (As := [.int p0]) (rest := []) (cs' := wB kI ag.2.1 ag.2.2.1 w1.2.1.2.2.2) ⟨hx, hb, hml, hown, hts⟩ (kX0_countOn l D kI kC kG kJ ag.2.1 ag.2.2.1 w1.2.1.2.2.2 p0 _ hw) (cwV 1 hts gX5_piecesOn_X0_countOn rfl rfl rfl hdX0_countOn ⟨Nat.le_of_ble_eq_true rfl, Nat.le_of_ble_eq_true rfl⟩) hK hP hE hS [3, 4] rfl (ci := 0) (q0 := 0) rfl rfl rfl rfl hl.1 rfl (Nat.le_of_ble_eq_true rfl) dX5_piecesOn_13 ⟨Nat.le_of_ble_eq_true rfl, Nat.le_of_ble_eq_true rfl⟩ (fun r3 hw => ?_)
  refine vx_ret ?_
  refine W.widen (k := 1) (n := 6) (Nat.le_of_ble_eq_true rfl) (Nat.le_of_ble_eq_true rfl) ?_
  exact W.iret (v := r3) hx hb hr (fun t ht hW => ⟨⟨r3, w1, rfl, hw, by rw [ht]; exact hP, va_K.moved hW.alike hK, hD⟩, hS.F ht⟩) hS.2.2 dX5_piecesOn_16
set_option maxHeartbeats 4000000 in
set_option maxRecDepth 100000 in
theorem kX5_sharedOn (l : Launch) (D : va_G) (kI kC kG kJ : ClassId) (hlt : l.stackTraces = false) (x : Nat) (ag at_ as_ : AG) (hh hst : Nat) (a0 a1 a2 a3 : AG) (tx tch : Nat) (sz : Nat) (u : SX) (p0 : Int32) (Z : Int32 → SX → Prop) (X : String → SX → Prop) (hw : pX5_sharedOn p0 u Z X) : vx_Met l yX5_sharedOn wsX5_sharedOn ({ frames := 7, cells := 1, slots := 6, locals := 111 } : Room) (gPw D (gT kI kC kG kJ) [.ref x, .int p0] (wX kI kC kG x ag at_ as_ hh hst a0 a1 a2 a3 tx tch u) sz) (va_Qi Z (gB D (gT kI kC kG kJ) (fun (zz : SX) => wX kI kC kG x ag at_ as_ hh hst a0 a1 a2 a3 tx tch zz) (va_A (wX kI kC kG x ag at_ as_ hh hst a0 a1 a2 a3 tx tch u) sz)) (va_A (wX kI kC kG x ag at_ as_ hh hst a0 a1 a2 a3 tx tch u) sz)) (gX D (gT kI kC kG kJ) (fun (zz : SX) => wX kI kC kG x ag at_ as_ hh hst a0 a1 a2 a3 tx tch zz) (va_A (wX kI kC kG x ag at_ as_ hh hst a0 a1 a2 a3 tx tch u) sz) X) 1 6 (va_A (wX kI kC kG x ag at_ as_ hh hst a0 a1 a2 a3 tx tch u) sz) := by
  refine vx_ofW (cc := cX5_sharedOn) (maxL := 2) (ret := (some .int)) (by decide) rfl ?_
  intro p e s m args below meth c s₁ B hml hnx hv
  obtain ⟨rfl, hsz, hP, hK, hD0, hE⟩ := hv
  have hx := B.exec
  have hb := B.bytes
  have hr := B.returns
  have hts := atoms_spec (ws := wsX5_sharedOn) B.pre
  have hown : s.vm.findClass RX5 = some m.cls := findClass_of_methodNamed B.named
  have hlocks := B.notSynchronized
  subst hsz
  have hD := hD0.self (sz := s.heap.size)
  generalize hAe : va_A (wX kI kC kG x ag at_ as_ hh hst a0 a1 a2 a3 tx tch u) s.heap.size = A at hD hE ⊢
  have hA : ∀ q : Nat, s.heap.size ≤ q → A q := fun q h => by rw [← hAe]; exact Or.inr h
  have hS : va_S A s.heap s.heap [] := va_S.rf
  clear hAe hD0
  have hl := lv_entry ([.ref x, .int p0]) (n := 2) (Nat.le_of_ble_eq_true rfl)
  rw [lg_entry_eq]
  generalize (lg_sl ([.ref x, .int p0]) ++ List.replicate (2 - (lg_sl ([.ref x, .int p0])).length) Slot.unset).toArray = ls at hl ⊢
  have hl : lv_has ls 2 [(0, .ref x), (1, .int p0)] := hl
  have hP : va_P D vwCl (wX kI kC kG x ag at_ as_ hh hst a0 a1 a2 a3 tx tch u) s.heap := hP
  unfold pX5_sharedOn at hw
  refine lv_aload_n hx hb dX5_sharedOn_0 rfl (lv_at hl 0 rfl) ?_
  refine lv_iload_n hx hb dX5_sharedOn_1 rfl (lv_at hl 1 rfl) ?_
  refine gXVv (S := SX) (As := [.int p0]) (rest := []) (wc := wX kI kC kG x ag at_ as_ hh hst a0 a1 a2 a3 tx tch u) (wr := []) (cs1 := (fun zz : SX => wX kI kC kG x ag at_ as_ hh hst a0 a1 a2 a3 tx tch zz)) (ws2 := (fun zz : SX => wX kI kC kG x ag at_ as_ hh hst a0 a1 a2 a3 tx tch zz)) ⟨hx, hb, hml, hown, hts⟩ (fun sz => kX5_requireLine l D kI kC kG kJ hlt x ag at_ as_ hh hst a0 a1 a2 a3 tx tch sz u p0 _ _ hw) (cwV 1 hts gX5_sharedOn_X5_requireLine rfl rfl rfl hdX5_requireLine ⟨Nat.le_of_ble_eq_true rfl, Nat.le_of_ble_eq_true rfl⟩) hK hP hD hE hS hA [0, 1, 2, 3, 4, 5, 6, 7, 8, 9, 10, 11, 12, 13, 14, 15, 16, 17, 18, 19, 20, 21, 22, 23, 24, 25, 26, 27, 28, 29, 30, 31, 32] [] rfl rfl rfl rfl (by decide) [0, 1, 2, 3, 4, 5, 6, 7, 8, 9, 10, 11, 12, 13, 14, 15, 16, 17, 18, 19, 20, 21, 22, 23, 24, 25, 26, 27, 28, 29, 30, 31, 32] rfl (fun _ => rfl) (fun w1 => w1) (fun _ => rfl) (fun _ _ h => h) hnx hlocks (Nat.le_of_ble_eq_true rfl) (Nat.le_of_ble_eq_true rfl) (ci := 4) (q0 := 0) rfl rfl rfl rfl hl.1 rfl (Nat.le_of_ble_eq_true rfl) dX5_sharedOn_2 ⟨Nat.le_of_ble_eq_true rfl, Nat.le_of_ble_eq_true rfl⟩ (fun w1 H locs hw hP hD hS => ?_)
  have hP : va_P D vwCl (wX kI kC kG x ag at_ as_ hh hst a0 a1 a2 a3 tx tch w1) H := hP
  have hD : va_D A (wX kI kC kG x ag at_ as_ hh hst a0 a1 a2 a3 tx tch w1) := hD
  refine lv_aload_n hx hb dX5_sharedOn_5 rfl (lv_at hl 0 rfl) ?_
  refine va_get (D := D) (ci := 4) (v := .ref ag.1) (C := RX5) (T := TX5) (N := 6) hx hb hts (fun _ h => List.mem_cons_of_mem _ (List.mem_append_left _ (List.mem_append_left _ (List.mem_append_left _ (List.mem_append_right _ h))))) hown hK hP 0 rfl rfl 0 (by decide) (hts (.fieldLink RX5 10 "HazelGift" "game" "LHazelGift$Game;") (List.mem_of_getElem? (i := 1) rfl)) (fun _ h9 => h9) rfl dX5_sharedOn_6 ?_
  refine gVa (r := .ref ag.2.1) (As := []) (rest := []) (cs' := wG kI ag w1.2.1) ⟨hx, hb, hml, hown, hts⟩ (kX2_board l D kI kC kG kJ ag w1.2.1) (cwV 0 hts gX5_sharedOn_X2_board rfl rfl rfl hdX2_board ⟨Nat.le_of_ble_eq_true rfl, Nat.le_of_ble_eq_true rfl⟩) hK hP hE hS [1, 2, 3, 4] rfl (ci := 1) (q0 := 0) rfl rfl rfl rfl hl.1 rfl (Nat.le_of_ble_eq_true rfl) dX5_sharedOn_9 ⟨Nat.le_of_ble_eq_true rfl, Nat.le_of_ble_eq_true rfl⟩ ?_
  refine lv_iload_n hx hb dX5_sharedOn_12 rfl (lv_at hl 1 rfl) ?_
  refine gVi (As := [.int p0]) (rest := []) (cs' := wB kI ag.2.1 ag.2.2.1 w1.2.1.2.2.2) ⟨hx, hb, hml, hown, hts⟩ (kX0_sharedTraits l D kI kC kG kJ ag.2.1 ag.2.2.1 w1.2.1.2.2.2 p0 _ hw) (cwV 1 hts gX5_sharedOn_X0_sharedTraits rfl rfl rfl hdX0_sharedTraits ⟨Nat.le_of_ble_eq_true rfl, Nat.le_of_ble_eq_true rfl⟩) hK hP hE hS [3, 4] rfl (ci := 0) (q0 := 0) rfl rfl rfl rfl hl.1 rfl (Nat.le_of_ble_eq_true rfl) dX5_sharedOn_13 ⟨Nat.le_of_ble_eq_true rfl, Nat.le_of_ble_eq_true rfl⟩ (fun r3 hw => ?_)
  refine vx_ret ?_
  refine W.widen (k := 1) (n := 6) (Nat.le_of_ble_eq_true rfl) (Nat.le_of_ble_eq_true rfl) ?_
  exact W.iret (v := r3) hx hb hr (fun t ht hW => ⟨⟨r3, w1, rfl, hw, by rw [ht]; exact hP, va_K.moved hW.alike hK, hD⟩, hS.F ht⟩) hS.2.2 dX5_sharedOn_16
set_option maxHeartbeats 4000000 in
set_option maxRecDepth 100000 in
theorem kX5_wonLines (l : Launch) (D : va_G) (kI kC kG kJ : ClassId) (x : Nat) (ag at_ as_ : AG) (hh hst : Nat) (a0 a1 a2 a3 : AG) (tx tch : Nat) (u : SX) (Z : Int32 → Prop) (hw : pX5_wonLines u Z) : Met l yX5_wonLines wsX5_wonLines ({ frames := 2, cells := 0, slots := 0, locals := 46 } : Room) (gPr D (gT kI kC kG kJ) [.ref x] (wX kI kC kG x ag at_ as_ hh hst a0 a1 a2 a3 tx tch u)) (vp_Si Z) 0 0 (fun _ => False) := by
  refine Met.ofW (cc := cX5_wonLines) (maxL := 1) (ret := (some .int)) (by decide) rfl ?_
  intro p e s m args below meth c s₁ B hml hv
  obtain ⟨rfl, hP, hK, hE⟩ := hv
  have hx := B.exec
  have hb := B.bytes
  have hr := B.returns
  have hts := atoms_spec (ws := wsX5_wonLines) B.pre
  have hown : s.vm.findClass RX5 = some m.cls := findClass_of_methodNamed B.named
  have hlocks := B.notSynchronized
  have hS : va_S (fun _ => False) s.heap s.heap [] := va_S.rf
  have hl := lv_entry ([.ref x]) (n := 1) (Nat.le_of_ble_eq_true rfl)
  rw [lg_entry_eq]
  generalize (lg_sl ([.ref x]) ++ List.replicate (1 - (lg_sl ([.ref x])).length) Slot.unset).toArray = ls at hl ⊢
  have hl : lv_has ls 1 [(0, .ref x)] := hl
  unfold pX5_wonLines at hw
  refine lv_aload_n hx hb dX5_wonLines_0 rfl (lv_at hl 0 rfl) ?_
  refine va_get (D := D) (ci := 4) (v := .ref ag.1) (C := RX5) (T := TX5) (N := 6) hx hb hts (fun _ h => List.mem_cons_of_mem _ (List.mem_append_left _ (List.mem_append_left _ (List.mem_append_right _ h)))) hown hK hP 0 rfl rfl 0 (by decide) (hts (.fieldLink RX5 10 "HazelGift" "game" "LHazelGift$Game;") (List.mem_of_getElem? (i := 1) rfl)) (fun _ h9 => h9) rfl dX5_wonLines_1 ?_
  refine gVa (r := .ref ag.2.1) (As := []) (rest := []) (cs' := wG kI ag u.2.1) ⟨hx, hb, hml, hown, hts⟩ (kX2_board l D kI kC kG kJ ag u.2.1) (cwV 0 hts gX5_wonLines_X2_board rfl rfl rfl hdX2_board ⟨Nat.le_of_ble_eq_true rfl, Nat.le_of_ble_eq_true rfl⟩) hK hP hE hS [1, 2, 3, 4] rfl (ci := 1) (q0 := 0) rfl rfl rfl rfl hl.1 rfl (Nat.le_of_ble_eq_true rfl) dX5_wonLines_4 ⟨Nat.le_of_ble_eq_true rfl, Nat.le_of_ble_eq_true rfl⟩ ?_
  refine gVi (As := []) (rest := []) (cs' := wB kI ag.2.1 ag.2.2.1 u.2.1.2.2.2) ⟨hx, hb, hml, hown, hts⟩ (kX0_wonCount l D kI kC kG kJ ag.2.1 ag.2.2.1 u.2.1.2.2.2 _ hw) (cwV 0 hts gX5_wonLines_X0_wonCount rfl rfl rfl hdX0_wonCount ⟨Nat.le_of_ble_eq_true rfl, Nat.le_of_ble_eq_true rfl⟩) hK hP hE hS [3, 4] rfl (ci := 0) (q0 := 0) rfl rfl rfl rfl hl.1 rfl (Nat.le_of_ble_eq_true rfl) dX5_wonLines_7 ⟨Nat.le_of_ble_eq_true rfl, Nat.le_of_ble_eq_true rfl⟩ (fun r2 hw => ?_)
  exact W.iret (v := r2) hx hb hr (fun t ht hW => ⟨_, rfl, hw, ht⟩) (fun _ h => by cases h) dX5_wonLines_10
set_option maxHeartbeats 4000000 in
set_option maxRecDepth 100000 in
theorem kX5_winsOf (l : Launch) (D : va_G) (kI kC kG kJ : ClassId) (hlt : l.stackTraces = false) (x : Nat) (ag at_ as_ : AG) (hh hst : Nat) (a0 a1 a2 a3 : AG) (tx tch : Nat) (sz : Nat) (u : SX) (p0 : Int32) (Z : Int32 → SX → Prop) (X : String → SX → Prop) (hw : pX5_winsOf p0 u Z X) : vx_Met l yX5_winsOf wsX5_winsOf ({ frames := 6, cells := 1, slots := 6, locals := 90 } : Room) (gPw D (gT kI kC kG kJ) [.ref x, .int p0] (wX kI kC kG x ag at_ as_ hh hst a0 a1 a2 a3 tx tch u) sz) (va_Qi Z (gB D (gT kI kC kG kJ) (fun (zz : SX) => wX kI kC kG x ag at_ as_ hh hst a0 a1 a2 a3 tx tch zz) (va_A (wX kI kC kG x ag at_ as_ hh hst a0 a1 a2 a3 tx tch u) sz)) (va_A (wX kI kC kG x ag at_ as_ hh hst a0 a1 a2 a3 tx tch u) sz)) (gX D (gT kI kC kG kJ) (fun (zz : SX) => wX kI kC kG x ag at_ as_ hh hst a0 a1 a2 a3 tx tch zz) (va_A (wX kI kC kG x ag at_ as_ hh hst a0 a1 a2 a3 tx tch u) sz) X) 1 6 (va_A (wX kI kC kG x ag at_ as_ hh hst a0 a1 a2 a3 tx tch u) sz) := by
  refine vx_ofW (cc := cX5_winsOf) (maxL := 2) (ret := (some .int)) (by decide) rfl ?_
  intro p e s m args below meth c s₁ B hml hnx hv
  obtain ⟨rfl, hsz, hP, hK, hD0, hE⟩ := hv
  have hx := B.exec
  have hb := B.bytes
  have hr := B.returns
  have hts := atoms_spec (ws := wsX5_winsOf) B.pre
  have hown : s.vm.findClass RX5 = some m.cls := findClass_of_methodNamed B.named
  have hlocks := B.notSynchronized
  subst hsz
  have hD := hD0.self (sz := s.heap.size)
  generalize hAe : va_A (wX kI kC kG x ag at_ as_ hh hst a0 a1 a2 a3 tx tch u) s.heap.size = A at hD hE ⊢
  have hA : ∀ q : Nat, s.heap.size ≤ q → A q := fun q h => by rw [← hAe]; exact Or.inr h
  have hS : va_S A s.heap s.heap [] := va_S.rf
  clear hAe hD0
  have hl := lv_entry ([.ref x, .int p0]) (n := 2) (Nat.le_of_ble_eq_true rfl)
  rw [lg_entry_eq]
  generalize (lg_sl ([.ref x, .int p0]) ++ List.replicate (2 - (lg_sl ([.ref x, .int p0])).length) Slot.unset).toArray = ls at hl ⊢
  have hl : lv_has ls 2 [(0, .ref x), (1, .int p0)] := hl
  have hP : va_P D vwCl (wX kI kC kG x ag at_ as_ hh hst a0 a1 a2 a3 tx tch u) s.heap := hP
  unfold pX5_winsOf at hw
  refine lv_iload_n hx hb dX5_winsOf_0 rfl (lv_at hl 1 rfl) ?_
  refine lv_if_lt (tgt := 9) hx hb dX5_winsOf_1 (by decide) (fun c1 => ?_) (fun c1 => ?_)
  · replace hw := Eq.mp (if_pos c1) hw
    exact gThrow (uO := u) (text := "no such player") hx hb hlt hown (by decide) (hts (.classLink RX5 168 "java/lang/IndexOutOfBoundsException") (List.mem_of_getElem? (i := 1) rfl)) (hts (.initialized "java/lang/IndexOutOfBoundsException") (List.mem_of_getElem? (i := 2) rfl)) (fun w h => hts w (List.mem_cons_of_mem _ (List.mem_append_right _ h))) gXn1 gXg1 (List.mem_of_getElem? (i := 7) rfl) hK hP hD hE hS rfl hw (hl.1.trans hml.symm) dX5_winsOf_9 dX5_winsOf_12 dX5_winsOf_13 dX5_winsOf_15 dX5_winsOf_18 hnx (Nat.le_of_ble_eq_true rfl) (Nat.le_of_ble_eq_true rfl) (Nat.le_of_ble_eq_true rfl) (Nat.le_of_ble_eq_true rfl) hlocks (Nat.le_of_ble_eq_true rfl) (Nat.le_of_ble_eq_true rfl)
  · replace hw := Eq.mp (if_neg c1) hw
    refine lv_iload_n hx hb dX5_winsOf_4 rfl (lv_at hl 1 rfl) ?_
    refine lv_iconst (v := 2) hx hb dX5_winsOf_5 (by decide) ?_
    refine lv_icmp_lt (tgt := 19) hx hb dX5_winsOf_6 (by decide) (fun c2 => ?_) (fun c2 => ?_)
    · replace hw := Eq.mp (if_pos c2) hw
      refine lv_aload_n hx hb dX5_winsOf_19 rfl (lv_at hl 0 rfl) ?_
      refine va_get (D := D) (ci := 4) (v := .ref ag.1) (C := RX5) (T := TX5) (N := 6) hx hb hts (fun _ h => List.mem_cons_of_mem _ (List.mem_append_left _ (List.mem_append_left _ (List.mem_append_right _ h)))) hown hK hP 0 rfl rfl 0 (by decide) (hts (.fieldLink RX5 10 "HazelGift" "game" "LHazelGift$Game;") (List.mem_of_getElem? (i := 3) rfl)) (fun _ h9 => h9) rfl dX5_winsOf_20 ?_
      refine lv_iload_n hx hb dX5_winsOf_23 rfl (lv_at hl 1 rfl) ?_
      refine gVi (As := [.int p0]) (rest := []) (cs' := wG kI ag u.2.1) ⟨hx, hb, hml, hown, hts⟩ (kX2_victoriesOf l D kI kC kG kJ ag u.2.1 p0 _ hw) (cwV 1 hts gX5_winsOf_X2_victoriesOf rfl rfl rfl hdX2_victoriesOf ⟨Nat.le_of_ble_eq_true rfl, Nat.le_of_ble_eq_true rfl⟩) hK hP hE hS [1, 2, 3, 4] rfl (ci := 1) (q0 := 0) rfl rfl rfl rfl hl.1 rfl (Nat.le_of_ble_eq_true rfl) dX5_winsOf_24 ⟨Nat.le_of_ble_eq_true rfl, Nat.le_of_ble_eq_true rfl⟩ (fun r3 hw => ?_)
      refine vx_ret ?_
      refine W.widen (k := 1) (n := 6) (Nat.le_of_ble_eq_true rfl) (Nat.le_of_ble_eq_true rfl) ?_
      exact W.iret (v := r3) hx hb hr (fun t ht hW => ⟨⟨r3, u, rfl, hw, by rw [ht]; exact hP, va_K.moved hW.alike hK, hD⟩, hS.F ht⟩) hS.2.2 dX5_winsOf_27
    · replace hw := Eq.mp (if_neg c2) hw
      exact gThrow (uO := u) (text := "no such player") hx hb hlt hown (by decide) (hts (.classLink RX5 168 "java/lang/IndexOutOfBoundsException") (List.mem_of_getElem? (i := 1) rfl)) (hts (.initialized "java/lang/IndexOutOfBoundsException") (List.mem_of_getElem? (i := 2) rfl)) (fun w h => hts w (List.mem_cons_of_mem _ (List.mem_append_right _ h))) gXn1 gXg1 (List.mem_of_getElem? (i := 7) rfl) hK hP hD hE hS rfl hw (hl.1.trans hml.symm) dX5_winsOf_9 dX5_winsOf_12 dX5_winsOf_13 dX5_winsOf_15 dX5_winsOf_18 hnx (Nat.le_of_ble_eq_true rfl) (Nat.le_of_ble_eq_true rfl) (Nat.le_of_ble_eq_true rfl) (Nat.le_of_ble_eq_true rfl) hlocks (Nat.le_of_ble_eq_true rfl) (Nat.le_of_ble_eq_true rfl)
set_option maxHeartbeats 4000000 in
set_option maxRecDepth 100000 in
theorem kX5_winningCell (l : Launch) (D : va_G) (kI kC kG kJ : ClassId) (hlt : l.stackTraces = false) (x : Nat) (ag at_ as_ : AG) (hh hst : Nat) (a0 a1 a2 a3 : AG) (tx tch : Nat) (sz : Nat) (u : SX) (p0 : Int32) (Z : Int32 → SX → Prop) (X : String → SX → Prop) (hw : pX5_winningCell p0 u Z X) : vx_Met l yX5_winningCell wsX5_winningCell ({ frames := 7, cells := 1, slots := 6, locals := 110 } : Room) (gPw D (gT kI kC kG kJ) [.ref x, .int p0] (wX kI kC kG x ag at_ as_ hh hst a0 a1 a2 a3 tx tch u) sz) (va_Qi Z (gB D (gT kI kC kG kJ) (fun (zz : SX) => wX kI kC kG x ag at_ as_ hh hst a0 a1 a2 a3 tx tch zz) (va_A (wX kI kC kG x ag at_ as_ hh hst a0 a1 a2 a3 tx tch u) sz)) (va_A (wX kI kC kG x ag at_ as_ hh hst a0 a1 a2 a3 tx tch u) sz)) (gX D (gT kI kC kG kJ) (fun (zz : SX) => wX kI kC kG x ag at_ as_ hh hst a0 a1 a2 a3 tx tch zz) (va_A (wX kI kC kG x ag at_ as_ hh hst a0 a1 a2 a3 tx tch u) sz) X) 1 6 (va_A (wX kI kC kG x ag at_ as_ hh hst a0 a1 a2 a3 tx tch u) sz) := by
  refine vx_ofW (cc := cX5_winningCell) (maxL := 2) (ret := (some .int)) (by decide) rfl ?_
  intro p e s m args below meth c s₁ B hml hnx hv
  obtain ⟨rfl, hsz, hP, hK, hD0, hE⟩ := hv
  have hx := B.exec
  have hb := B.bytes
  have hr := B.returns
  have hts := atoms_spec (ws := wsX5_winningCell) B.pre
  have hown : s.vm.findClass RX5 = some m.cls := findClass_of_methodNamed B.named
  have hlocks := B.notSynchronized
  subst hsz
  have hD := hD0.self (sz := s.heap.size)
  generalize hAe : va_A (wX kI kC kG x ag at_ as_ hh hst a0 a1 a2 a3 tx tch u) s.heap.size = A at hD hE ⊢
  have hA : ∀ q : Nat, s.heap.size ≤ q → A q := fun q h => by rw [← hAe]; exact Or.inr h
  have hS : va_S A s.heap s.heap [] := va_S.rf
  clear hAe hD0
  have hl := lv_entry ([.ref x, .int p0]) (n := 2) (Nat.le_of_ble_eq_true rfl)
  rw [lg_entry_eq]
  generalize (lg_sl ([.ref x, .int p0]) ++ List.replicate (2 - (lg_sl ([.ref x, .int p0])).length) Slot.unset).toArray = ls at hl ⊢
  have hl : lv_has ls 2 [(0, .ref x), (1, .int p0)] := hl
  have hP : va_P D vwCl (wX kI kC kG x ag at_ as_ hh hst a0 a1 a2 a3 tx tch u) s.heap := hP
  unfold pX5_winningCell at hw
  refine lv_iload_n hx hb dX5_winningCell_0 rfl (lv_at hl 1 rfl) ?_
  refine gXSv (S := Unit) (As := [.int p0]) (rest := []) (wc := ([] : va_W)) (wr := [(x, .inr (4, [.ref ag.1, .ref at_.1, .ref as_.1, .int u.1, .ref hh, .ref tx]))] ++ wG kI ag u.2.1 ++ wG kI at_ u.2.2.1 ++ wG kI as_ u.2.2.2.1 ++ [(hh, .inr (2, [.ref hst, .int u.2.2.2.2.1.1, .int u.2.2.2.2.1.2.1])), (hst, .inl (kG, 4, .inr (.inr (.inr (.inr (fH a0 a1 a2 a3))))))] ++ wG kI a0 u.2.2.2.2.1.2.2.1 ++ wG kI a1 u.2.2.2.2.1.2.2.2.1 ++ wG kI a2 u.2.2.2.2.1.2.2.2.2.1 ++ wG kI a3 u.2.2.2.2.1.2.2.2.2.2 ++ wT kC tx tch u.2.2.2.2.2) (cs1 := (fun zz : Unit => ([] : va_W))) (ws2 := (fun zz : Unit => wX kI kC kG x ag at_ as_ hh hst a0 a1 a2 a3 tx tch u)) ⟨hx, hb, hml, hown, hts⟩ (fun sz => kX5_requirePiece l D kI kC kG kJ hlt  sz p0 _ _ hw) (va_cwS 1 hts gX5_winningCell_X5_requirePiece rfl rfl rfl hdX5_requirePiece ⟨Nat.le_of_ble_eq_true rfl, Nat.le_of_ble_eq_true rfl⟩) hK hP hD hE hS hA [] [0, 1, 2, 3, 4, 5, 6, 7, 8, 9, 10, 11, 12, 13, 14, 15, 16, 17, 18, 19, 20, 21, 22, 23, 24, 25, 26, 27, 28, 29, 30, 31, 32] rfl rfl rfl rfl (by decide) [0, 1, 2, 3, 4, 5, 6, 7, 8, 9, 10, 11, 12, 13, 14, 15, 16, 17, 18, 19, 20, 21, 22, 23, 24, 25, 26, 27, 28, 29, 30, 31, 32] rfl (fun _ => rfl) (fun w1 => u) (fun _ => rfl) (fun _ _ h => h) hnx hlocks (Nat.le_of_ble_eq_true rfl) (Nat.le_of_ble_eq_true rfl) rfl hl.1 rfl (Nat.le_of_ble_eq_true rfl) dX5_winningCell_1 ⟨Nat.le_of_ble_eq_true rfl, Nat.le_of_ble_eq_true rfl⟩ (fun w1 H locs hw hP hD hS => ?_)
  have hP : va_P D vwCl (wX kI kC kG x ag at_ as_ hh hst a0 a1 a2 a3 tx tch u) H := hP
  have hD : va_D A (wX kI kC kG x ag at_ as_ hh hst a0 a1 a2 a3 tx tch u) := hD
  refine lv_aload_n hx hb dX5_winningCell_4 rfl (lv_at hl 0 rfl) ?_
  refine va_get (D := D) (ci := 4) (v := .ref ag.1) (C := RX5) (T := TX5) (N := 6) hx hb hts (fun _ h => List.mem_cons_of_mem _ (List.mem_append_left _ (List.mem_append_left _ (List.mem_append_left _ (List.mem_append_right _ h))))) hown hK hP 0 rfl rfl 0 (by decide) (hts (.fieldLink RX5 10 "HazelGift" "game" "LHazelGift$Game;") (List.mem_of_getElem? (i := 1) rfl)) (fun _ h9 => h9) rfl dX5_winningCell_5 ?_
  refine gVi (As := []) (rest := []) (cs' := wG kI ag u.2.1) ⟨hx, hb, hml, hown, hts⟩ (kX2_hasEnded l D kI kC kG kJ ag u.2.1 _ hw) (cwV 0 hts gX5_winningCell_X2_hasEnded rfl rfl rfl hdX2_hasEnded ⟨Nat.le_of_ble_eq_true rfl, Nat.le_of_ble_eq_true rfl⟩) hK hP hE hS [1, 2, 3, 4] rfl (ci := 1) (q0 := 0) rfl rfl rfl rfl hl.1 rfl (Nat.le_of_ble_eq_true rfl) dX5_winningCell_8 ⟨Nat.le_of_ble_eq_true rfl, Nat.le_of_ble_eq_true rfl⟩ (fun r2 hw => ?_)
  refine lv_if_ne (tgt := 28) hx hb dX5_winningCell_11 (by decide) (fun c3 => ?_) (fun c3 => ?_)
  · replace hw := Eq.mp (if_neg c3) hw
    refine lv_iconst (v := (-1)) hx hb dX5_winningCell_28 (by decide) ?_
    refine vx_ret ?_
    refine W.widen (k := 1) (n := 6) (Nat.le_of_ble_eq_true rfl) (Nat.le_of_ble_eq_true rfl) ?_
    exact W.iret (v := (-1)) hx hb hr (fun t ht hW => ⟨⟨(-1), u, rfl, hw, by rw [ht]; exact hP, va_K.moved hW.alike hK, hD⟩, hS.F ht⟩) hS.2.2 dX5_winningCell_29
  · replace hw := Eq.mp (if_pos c3) hw
    refine lv_aload_n hx hb dX5_winningCell_14 rfl (lv_at hl 0 rfl) ?_
    refine va_get (D := D) (ci := 4) (v := .ref ag.1) (C := RX5) (T := TX5) (N := 6) hx hb hts (fun _ h => List.mem_cons_of_mem _ (List.mem_append_left _ (List.mem_append_left _ (List.mem_append_left _ (List.mem_append_right _ h))))) hown hK hP 0 rfl rfl 0 (by decide) (hts (.fieldLink RX5 10 "HazelGift" "game" "LHazelGift$Game;") (List.mem_of_getElem? (i := 1) rfl)) (fun _ h9 => h9) rfl dX5_winningCell_15 ?_
    refine gVa (r := .ref ag.2.1) (As := []) (rest := []) (cs' := wG kI ag u.2.1) ⟨hx, hb, hml, hown, hts⟩ (kX2_board l D kI kC kG kJ ag u.2.1) (cwV 0 hts gX5_winningCell_X2_board rfl rfl rfl hdX2_board ⟨Nat.le_of_ble_eq_true rfl, Nat.le_of_ble_eq_true rfl⟩) hK hP hE hS [1, 2, 3, 4] rfl (ci := 1) (q0 := 0) rfl rfl rfl rfl hl.1 rfl (Nat.le_of_ble_eq_true rfl) dX5_winningCell_18 ⟨Nat.le_of_ble_eq_true rfl, Nat.le_of_ble_eq_true rfl⟩ ?_
    refine lv_iload_n hx hb dX5_winningCell_21 rfl (lv_at hl 1 rfl) ?_
    refine gVi (As := [.int p0]) (rest := []) (cs' := wB kI ag.2.1 ag.2.2.1 u.2.1.2.2.2) ⟨hx, hb, hml, hown, hts⟩ (kX0_holds l D kI kC kG kJ ag.2.1 ag.2.2.1 u.2.1.2.2.2 p0 _ hw) (cwV 1 hts gX5_winningCell_X0_holds rfl rfl rfl hdX0_holds ⟨Nat.le_of_ble_eq_true rfl, Nat.le_of_ble_eq_true rfl⟩) hK hP hE hS [3, 4] rfl (ci := 0) (q0 := 0) rfl rfl rfl rfl hl.1 rfl (Nat.le_of_ble_eq_true rfl) dX5_winningCell_22 ⟨Nat.le_of_ble_eq_true rfl, Nat.le_of_ble_eq_true rfl⟩ (fun r5 hw => ?_)
    refine lv_if_eq (tgt := 30) hx hb dX5_winningCell_25 (by decide) (fun c6 => ?_) (fun c6 => ?_)
    · replace hw := Eq.mp (if_pos c6) hw
      refine lv_aload_n hx hb dX5_winningCell_30 rfl (lv_at hl 0 rfl) ?_
      refine va_get (D := D) (ci := 4) (v := .ref at_.1) (C := RX5) (T := TX5) (N := 6) hx hb hts (fun _ h => List.mem_cons_of_mem _ (List.mem_append_left _ (List.mem_append_left _ (List.mem_append_left _ (List.mem_append_right _ h))))) hown hK hP 0 rfl rfl 1 (by decide) (hts (.fieldLink RX5 16 "HazelGift" "trial" "LHazelGift$Game;") (List.mem_of_getElem? (i := 2) rfl)) (fun _ h9 => h9) rfl dX5_winningCell_31 ?_
      refine lv_aload_n hx hb dX5_winningCell_34 rfl (lv_at hl 0 rfl) ?_
      refine va_get (D := D) (ci := 4) (v := .ref ag.1) (C := RX5) (T := TX5) (N := 6) hx hb hts (fun _ h => List.mem_cons_of_mem _ (List.mem_append_left _ (List.mem_append_left _ (List.mem_append_left _ (List.mem_append_right _ h))))) hown hK hP 0 rfl rfl 0 (by decide) (hts (.fieldLink RX5 10 "HazelGift" "game" "LHazelGift$Game;") (List.mem_of_getElem? (i := 1) rfl)) (fun _ h9 => h9) rfl dX5_winningCell_35 ?_
      refine gWVv (S := SG × SG) (As := [.ref ag.1]) (rest := []) (wc := wG kI at_ u.2.2.1 ++ wG kI ag u.2.1) (wr := [(x, .inr (4, [.ref ag.1, .ref at_.1, .ref as_.1, .int u.1, .ref hh, .ref tx]))] ++ wG kI as_ u.2.2.2.1 ++ [(hh, .inr (2, [.ref hst, .int u.2.2.2.2.1.1, .int u.2.2.2.2.1.2.1])), (hst, .inl (kG, 4, .inr (.inr (.inr (.inr (fH a0 a1 a2 a3))))))] ++ wG kI a0 u.2.2.2.2.1.2.2.1 ++ wG kI a1 u.2.2.2.2.1.2.2.2.1 ++ wG kI a2 u.2.2.2.2.1.2.2.2.2.1 ++ wG kI a3 u.2.2.2.2.1.2.2.2.2.2 ++ wT kC tx tch u.2.2.2.2.2) (cs1 := (fun zz : SG × SG => wG kI at_ zz.1 ++ wG kI ag zz.2)) (ws2 := (fun zz : SG × SG => wX kI kC kG x ag at_ as_ hh hst a0 a1 a2 a3 tx tch (u.1, zz.2, zz.1, u.2.2.2.1, u.2.2.2.2.1, u.2.2.2.2.2))) ⟨hx, hb, hml, hown, hts⟩ (fun sz => kX2_copyFrom l D kI kC kG kJ at_ ag sz u.2.2.1 u.2.1 _ hw) (cwV 1 hts gX5_winningCell_X2_copyFrom rfl rfl rfl hdX2_copyFrom ⟨Nat.le_of_ble_eq_true rfl, Nat.le_of_ble_eq_true rfl⟩) hK hP hD hE hS hA [5, 6, 7, 8, 1, 2, 3, 4] [0, 9, 10, 11, 12, 13, 14, 15, 16, 17, 18, 19, 20, 21, 22, 23, 24, 25, 26, 27, 28, 29, 30, 31, 32] rfl rfl rfl rfl (by decide) [0, 29, 30, 31, 32, 25, 26, 27, 28, 1, 2, 3, 4, 5, 6, 7, 8, 9, 10, 11, 12, 13, 14, 15, 16, 17, 18, 19, 20, 21, 22, 23, 24] rfl (fun _ => rfl) (ci := 1) (q0 := 0) rfl rfl rfl rfl hl.1 rfl (Nat.le_of_ble_eq_true rfl) dX5_winningCell_38 ⟨Nat.le_of_ble_eq_true rfl, Nat.le_of_ble_eq_true rfl⟩ (fun w7 H locs hw hP hD hS => ?_)
      have hP : va_P D vwCl (wX kI kC kG x ag at_ as_ hh hst a0 a1 a2 a3 tx tch (u.1, w7.2, w7.1, u.2.2.2.1, u.2.2.2.2.1, u.2.2.2.2.2)) H := hP
      have hD : va_D A (wX kI kC kG x ag at_ as_ hh hst a0 a1 a2 a3 tx tch (u.1, w7.2, w7.1, u.2.2.2.1, u.2.2.2.2.1, u.2.2.2.2.2)) := hD
      refine lv_aload_n hx hb dX5_winningCell_41 rfl (lv_at hl 0 rfl) ?_
      refine va_get (D := D) (ci := 4) (v := .ref at_.1) (C := RX5) (T := TX5) (N := 6) hx hb hts (fun _ h => List.mem_cons_of_mem _ (List.mem_append_left _ (List.mem_append_left _ (List.mem_append_left _ (List.mem_append_right _ h))))) hown hK hP 0 rfl rfl 1 (by decide) (hts (.fieldLink RX5 16 "HazelGift" "trial" "LHazelGift$Game;") (List.mem_of_getElem? (i := 2) rfl)) (fun _ h9 => h9) rfl dX5_winningCell_42 ?_
      refine gVa (r := .ref at_.2.1) (As := []) (rest := []) (cs' := wG kI at_ w7.1) ⟨hx, hb, hml, hown, hts⟩ (kX2_board l D kI kC kG kJ at_ w7.1) (cwV 0 hts gX5_winningCell_X2_board rfl rfl rfl hdX2_board ⟨Nat.le_of_ble_eq_true rfl, Nat.le_of_ble_eq_true rfl⟩) hK hP hE hS [5, 6, 7, 8] rfl (ci := 1) (q0 := 0) rfl rfl rfl rfl hl.1 rfl (Nat.le_of_ble_eq_true rfl) dX5_winningCell_45 ⟨Nat.le_of_ble_eq_true rfl, Nat.le_of_ble_eq_true rfl⟩ ?_
      refine lv_iload_n hx hb dX5_winningCell_48 rfl (lv_at hl 1 rfl) ?_
      refine gWVi (S := SB) (As := [.int p0]) (rest := []) (wc := wB kI at_.2.1 at_.2.2.1 w7.1.2.2.2) (wr := [(x, .inr (4, [.ref ag.1, .ref at_.1, .ref as_.1, .int u.1, .ref hh, .ref tx]))] ++ wG kI ag w7.2 ++ [(at_.1, .inr (1, [.ref at_.2.1, .int w7.1.1, .int w7.1.2.1, .ref at_.2.2.2])), (at_.2.2.2, .inl (kI, 2, .inl w7.1.2.2.1))] ++ wG kI as_ u.2.2.2.1 ++ [(hh, .inr (2, [.ref hst, .int u.2.2.2.2.1.1, .int u.2.2.2.2.1.2.1])), (hst, .inl (kG, 4, .inr (.inr (.inr (.inr (fH a0 a1 a2 a3))))))] ++ wG kI a0 u.2.2.2.2.1.2.2.1 ++ wG kI a1 u.2.2.2.2.1.2.2.2.1 ++ wG kI a2 u.2.2.2.2.1.2.2.2.2.1 ++ wG kI a3 u.2.2.2.2.1.2.2.2.2.2 ++ wT kC tx tch u.2.2.2.2.2) (cs1 := (fun zz : SB => wB kI at_.2.1 at_.2.2.1 zz)) (ws2 := (fun zz : SB => wX kI kC kG x ag at_ as_ hh hst a0 a1 a2 a3 tx tch (u.1, w7.2, (w7.1.1, w7.1.2.1, w7.1.2.2.1, zz), u.2.2.2.1, u.2.2.2.2.1, u.2.2.2.2.2))) ⟨hx, hb, hml, hown, hts⟩ (fun sz => kX0_firstWinningCell l D kI kC kG kJ at_.2.1 at_.2.2.1 sz w7.1.2.2.2 p0 _ hw) (cwV 1 hts gX5_winningCell_X0_firstWinningCell rfl rfl rfl hdX0_firstWinningCell ⟨Nat.le_of_ble_eq_true rfl, Nat.le_of_ble_eq_true rfl⟩) hK hP hD hE hS hA [7, 8] [0, 1, 2, 3, 4, 5, 6, 9, 10, 11, 12, 13, 14, 15, 16, 17, 18, 19, 20, 21, 22, 23, 24, 25, 26, 27, 28, 29, 30, 31, 32] rfl rfl rfl rfl (by decide) [0, 1, 2, 3, 4, 5, 6, 31, 32, 7, 8, 9, 10, 11, 12, 13, 14, 15, 16, 17, 18, 19, 20, 21, 22, 23, 24, 25, 26, 27, 28, 29, 30] rfl (fun _ => rfl) (ci := 0) (q0 := 0) rfl rfl rfl rfl hl.1 rfl (Nat.le_of_ble_eq_true rfl) dX5_winningCell_49 ⟨Nat.le_of_ble_eq_true rfl, Nat.le_of_ble_eq_true rfl⟩ (fun r9 w9 H locs hw hP hD hS => ?_)
      have hP : va_P D vwCl (wX kI kC kG x ag at_ as_ hh hst a0 a1 a2 a3 tx tch (u.1, w7.2, (w7.1.1, w7.1.2.1, w7.1.2.2.1, w9), u.2.2.2.1, u.2.2.2.2.1, u.2.2.2.2.2)) H := hP
      have hD : va_D A (wX kI kC kG x ag at_ as_ hh hst a0 a1 a2 a3 tx tch (u.1, w7.2, (w7.1.1, w7.1.2.1, w7.1.2.2.1, w9), u.2.2.2.1, u.2.2.2.2.1, u.2.2.2.2.2)) := hD
      refine vx_ret ?_
      refine W.widen (k := 1) (n := 6) (Nat.le_of_ble_eq_true rfl) (Nat.le_of_ble_eq_true rfl) ?_
      exact W.iret (v := r9) hx hb hr (fun t ht hW => ⟨⟨r9, (u.1, w7.2, (w7.1.1, w7.1.2.1, w7.1.2.2.1, w9), u.2.2.2.1, u.2.2.2.2.1, u.2.2.2.2.2), rfl, hw, by rw [ht]; exact hP, va_K.moved hW.alike hK, hD⟩, hS.F ht⟩) hS.2.2 dX5_winningCell_52
    · replace hw := Eq.mp (if_neg c6) hw
      refine lv_iconst (v := (-1)) hx hb dX5_winningCell_28 (by decide) ?_
      refine vx_ret ?_
      refine W.widen (k := 1) (n := 6) (Nat.le_of_ble_eq_true rfl) (Nat.le_of_ble_eq_true rfl) ?_
      exact W.iret (v := (-1)) hx hb hr (fun t ht hW => ⟨⟨(-1), u, rfl, hw, by rw [ht]; exact hP, va_K.moved hW.alike hK, hD⟩, hS.F ht⟩) hS.2.2 dX5_winningCell_29
set_option maxHeartbeats 4000000 in
set_option maxRecDepth 100000 in
theorem kX5_safeByTrying (l : Launch) (D : va_G) (kI kC kG kJ : ClassId) (x : Nat) (ag at_ as_ : AG) (hh hst : Nat) (a0 a1 a2 a3 : AG) (tx tch : Nat) (sz : Nat) (u : SX) (Z : Int32 → SX → Prop) (hw : pX5_safeByTrying u Z) : Met l yX5_safeByTrying wsX5_safeByTrying ({ frames := 4, cells := 0, slots := 0, locals := 90 } : Room) (gPw D (gT kI kC kG kJ) [.ref x] (wX kI kC kG x ag at_ as_ hh hst a0 a1 a2 a3 tx tch u) sz) (va_Qi Z (gB D (gT kI kC kG kJ) (fun (zz : SX) => wX kI kC kG x ag at_ as_ hh hst a0 a1 a2 a3 tx tch zz) (va_A (wX kI kC kG x ag at_ as_ hh hst a0 a1 a2 a3 tx tch u) sz)) (va_A (wX kI kC kG x ag at_ as_ hh hst a0 a1 a2 a3 tx tch u) sz)) 0 0 (va_A (wX kI kC kG x ag at_ as_ hh hst a0 a1 a2 a3 tx tch u) sz) := by
  refine Met.ofW (cc := cX5_safeByTrying) (maxL := 3) (ret := (some .int)) (by decide) rfl ?_
  intro p e s m args below meth c s₁ B hml hv
  obtain ⟨rfl, hsz, hP, hK, hD0, hE⟩ := hv
  have hx := B.exec
  have hb := B.bytes
  have hr := B.returns
  have hts := atoms_spec (ws := wsX5_safeByTrying) B.pre
  have hown : s.vm.findClass RX5 = some m.cls := findClass_of_methodNamed B.named
  have hlocks := B.notSynchronized
  subst hsz
  have hD := hD0.self (sz := s.heap.size)
  generalize hAe : va_A (wX kI kC kG x ag at_ as_ hh hst a0 a1 a2 a3 tx tch u) s.heap.size = A at hD hE ⊢
  have hA : ∀ q : Nat, s.heap.size ≤ q → A q := fun q h => by rw [← hAe]; exact Or.inr h
  have hS : va_S A s.heap s.heap [] := va_S.rf
  clear hAe hD0
  have hl := lv_entry ([.ref x]) (n := 3) (Nat.le_of_ble_eq_true rfl)
  rw [lg_entry_eq]
  generalize (lg_sl ([.ref x]) ++ List.replicate (3 - (lg_sl ([.ref x])).length) Slot.unset).toArray = ls at hl ⊢
  have hl : lv_has ls 3 [(0, .ref x)] := hl
  have hP : va_P D vwCl (wX kI kC kG x ag at_ as_ hh hst a0 a1 a2 a3 tx tch u) s.heap := hP
  have L27 : ∀ (_ : Unit), ∀ (n : Nat), ∀ (v1 : Int32) (v2 : Int32) (u : SX) (H : Heap) (locs : List Loc) (ls : Array Slot), va_P D vwCl (wX kI kC kG x ag at_ as_ hh hst a0 a1 a2 a3 tx tch u) H → va_D A (wX kI kC kG x ag at_ as_ hh hst a0 a1 a2 a3 tx tch u) → va_S A s.heap H locs → lv_has ls 3 [(0, .ref x), (1, .int v1), (2, .int v2)] → pX5_safeByTrying_27 Z n v1 v2 u → W p l e (headSpec wsX5_safeByTrying ({ frames := 4, cells := 0, slots := 0, locals := 90 } : Room)).room s m ([.ref x] : List Value).toArray below meth c H locs 0 0 (MQ below (va_Qi Z (gB D (gT kI kC kG kJ) (fun (zz : SX) => wX kI kC kG x ag at_ as_ hh hst a0 a1 a2 a3 tx tch zz) A) A) ([.ref x] : List Value).toArray s 0 0 A) (F0 m 27 ls []) := by
    intro _ n
    induction n with
    | zero => intro v1 v2 u H locs ls hP hD hS hl hw; exact hw.elim
    | succ n ih =>
    intro v1 v2 u H locs ls hP hD hS hl hw
    rw [pX5_safeByTrying_27] at hw
    refine lv_iload_n hx hb dX5_safeByTrying_27 rfl (lv_at hl 2 rfl) ?_
    refine lv_bipush (v := 16) hx hb dX5_safeByTrying_28 (by decide) ?_
    refine lv_icmp_ge (tgt := 71) hx hb dX5_safeByTrying_30 (by decide) (fun c4 => ?_) (fun c4 => ?_)
    · replace hw := Eq.mp (if_pos c4) hw
      refine lv_iload_n hx hb dX5_safeByTrying_71 rfl (lv_at hl 1 rfl) ?_
      exact W.iret (v := v1) hx hb hr (fun t ht hW => ⟨⟨v1, u, rfl, hw, by rw [ht]; exact hP, va_K.moved hW.alike hK, hD⟩, hS.F ht⟩) hS.2.2 dX5_safeByTrying_72
    · replace hw := Eq.mp (if_neg c4) hw
      refine lv_aload_n hx hb dX5_safeByTrying_33 rfl (lv_at hl 0 rfl) ?_
      refine va_get (D := D) (ci := 4) (v := .ref ag.1) (C := RX5) (T := TX5) (N := 6) hx hb hts (fun _ h => List.mem_cons_of_mem _ (List.mem_append_left _ (List.mem_append_left _ (List.mem_append_right _ h)))) hown hK hP 0 rfl rfl 0 (by decide) (hts (.fieldLink RX5 10 "HazelGift" "game" "LHazelGift$Game;") (List.mem_of_getElem? (i := 1) rfl)) (fun _ h9 => h9) rfl dX5_safeByTrying_34 ?_
      refine lv_iload_n hx hb dX5_safeByTrying_37 rfl (lv_at hl 2 rfl) ?_
      refine gVi (As := [.int v2]) (rest := []) (cs' := wG kI ag u.2.1) ⟨hx, hb, hml, hown, hts⟩ (kX2_isFree l D kI kC kG kJ ag u.2.1 v2 _ hw) (cwV 1 hts gX5_safeByTrying_X2_isFree rfl rfl rfl hdX2_isFree ⟨Nat.le_of_ble_eq_true rfl, Nat.le_of_ble_eq_true rfl⟩) hK hP hE hS [1, 2, 3, 4] rfl (ci := 1) (q0 := 0) rfl rfl rfl rfl hl.1 rfl (Nat.le_of_ble_eq_true rfl) dX5_safeByTrying_38 ⟨Nat.le_of_ble_eq_true rfl, Nat.le_of_ble_eq_true rfl⟩ (fun r5 hw => ?_)
      refine lv_if_eq (tgt := 65) hx hb dX5_safeByTrying_41 (by decide) (fun c6 => ?_) (fun c6 => ?_)
      · replace hw := Eq.mp (if_pos c6) hw
        obtain ⟨x7, ex7⟩ : ∃ y : Int32, y = (v2 + 1) := ⟨_, rfl⟩
        replace hw := hw x7 ex7
        refine lv_iinc (v := x7) (lv' := [(2, .int x7), (0, .ref x), (1, .int v1)]) hx hb dX5_safeByTrying_65 hl (k := 2) rfl (by rw [ex7]; rfl) (by decide) rfl (fun ls hl => ?_)
        refine lv_goto (tgt := 27) hx hb dX5_safeByTrying_68 (by decide) ?_
        exact ih v1 x7 u H locs ls hP hD hS (lv_sub hl [1, 2, 0] rfl) hw
      · replace hw := Eq.mp (if_neg c6) hw
        refine lv_aload_n hx hb dX5_safeByTrying_44 rfl (lv_at hl 0 rfl) ?_
        refine va_get (D := D) (ci := 4) (v := .ref at_.1) (C := RX5) (T := TX5) (N := 6) hx hb hts (fun _ h => List.mem_cons_of_mem _ (List.mem_append_left _ (List.mem_append_left _ (List.mem_append_right _ h)))) hown hK hP 0 rfl rfl 1 (by decide) (hts (.fieldLink RX5 16 "HazelGift" "trial" "LHazelGift$Game;") (List.mem_of_getElem? (i := 2) rfl)) (fun _ h9 => h9) rfl dX5_safeByTrying_45 ?_
        refine gVa (r := .ref at_.2.1) (As := []) (rest := []) (cs' := wG kI at_ u.2.2.1) ⟨hx, hb, hml, hown, hts⟩ (kX2_board l D kI kC kG kJ at_ u.2.2.1) (cwV 0 hts gX5_safeByTrying_X2_board rfl rfl rfl hdX2_board ⟨Nat.le_of_ble_eq_true rfl, Nat.le_of_ble_eq_true rfl⟩) hK hP hE hS [5, 6, 7, 8] rfl (ci := 1) (q0 := 0) rfl rfl rfl rfl hl.1 rfl (Nat.le_of_ble_eq_true rfl) dX5_safeByTrying_48 ⟨Nat.le_of_ble_eq_true rfl, Nat.le_of_ble_eq_true rfl⟩ ?_
        refine lv_iload_n hx hb dX5_safeByTrying_51 rfl (lv_at hl 2 rfl) ?_
        refine gWVi (S := SB) (As := [.int v2]) (rest := []) (wc := wB kI at_.2.1 at_.2.2.1 u.2.2.1.2.2.2) (wr := [(x, .inr (4, [.ref ag.1, .ref at_.1, .ref as_.1, .int u.1, .ref hh, .ref tx]))] ++ wG kI ag u.2.1 ++ [(at_.1, .inr (1, [.ref at_.2.1, .int u.2.2.1.1, .int u.2.2.1.2.1, .ref at_.2.2.2])), (at_.2.2.2, .inl (kI, 2, .inl u.2.2.1.2.2.1))] ++ wG kI as_ u.2.2.2.1 ++ [(hh, .inr (2, [.ref hst, .int u.2.2.2.2.1.1, .int u.2.2.2.2.1.2.1])), (hst, .inl (kG, 4, .inr (.inr (.inr (.inr (fH a0 a1 a2 a3))))))] ++ wG kI a0 u.2.2.2.2.1.2.2.1 ++ wG kI a1 u.2.2.2.2.1.2.2.2.1 ++ wG kI a2 u.2.2.2.2.1.2.2.2.2.1 ++ wG kI a3 u.2.2.2.2.1.2.2.2.2.2 ++ wT kC tx tch u.2.2.2.2.2) (cs1 := (fun zz : SB => wB kI at_.2.1 at_.2.2.1 zz)) (ws2 := (fun zz : SB => wX kI kC kG x ag at_ as_ hh hst a0 a1 a2 a3 tx tch (u.1, u.2.1, (u.2.2.1.1, u.2.2.1.2.1, u.2.2.1.2.2.1, zz), u.2.2.2.1, u.2.2.2.2.1, u.2.2.2.2.2))) ⟨hx, hb, hml, hown, hts⟩ (fun sz => kX0_firstWinningCell l D kI kC kG kJ at_.2.1 at_.2.2.1 sz u.2.2.1.2.2.2 v2 _ hw) (cwV 1 hts gX5_safeByTrying_X0_firstWinningCell rfl rfl rfl hdX0_firstWinningCell ⟨Nat.le_of_ble_eq_true rfl, Nat.le_of_ble_eq_true rfl⟩) hK hP hD hE hS hA [7, 8] [0, 1, 2, 3, 4, 5, 6, 9, 10, 11, 12, 13, 14, 15, 16, 17, 18, 19, 20, 21, 22, 23, 24, 25, 26, 27, 28, 29, 30, 31, 32] rfl rfl rfl rfl (by decide) [0, 1, 2, 3, 4, 5, 6, 31, 32, 7, 8, 9, 10, 11, 12, 13, 14, 15, 16, 17, 18, 19, 20, 21, 22, 23, 24, 25, 26, 27, 28, 29, 30] rfl (fun _ => rfl) (ci := 0) (q0 := 0) rfl rfl rfl rfl hl.1 rfl (Nat.le_of_ble_eq_true rfl) dX5_safeByTrying_52 ⟨Nat.le_of_ble_eq_true rfl, Nat.le_of_ble_eq_true rfl⟩ (fun r9 w9 H locs hw hP hD hS => ?_)
        have hP : va_P D vwCl (wX kI kC kG x ag at_ as_ hh hst a0 a1 a2 a3 tx tch (u.1, u.2.1, (u.2.2.1.1, u.2.2.1.2.1, u.2.2.1.2.2.1, w9), u.2.2.2.1, u.2.2.2.2.1, u.2.2.2.2.2)) H := hP
        have hD : va_D A (wX kI kC kG x ag at_ as_ hh hst a0 a1 a2 a3 tx tch (u.1, u.2.1, (u.2.2.1.1, u.2.2.1.2.1, u.2.2.1.2.2.1, w9), u.2.2.2.1, u.2.2.2.2.1, u.2.2.2.2.2)) := hD
        refine lv_iconst (v := (-1)) hx hb dX5_safeByTrying_55 (by decide) ?_
        refine lv_icmp_ne (tgt := 65) hx hb dX5_safeByTrying_56 (by decide) (fun c10 => ?_) (fun c10 => ?_)
        · replace hw := Eq.mp (if_neg c10) hw
          obtain ⟨x11, ex11⟩ : ∃ y : Int32, y = (v2 + 1) := ⟨_, rfl⟩
          replace hw := hw x11 ex11
          refine lv_iinc (v := x11) (lv' := [(2, .int x11), (0, .ref x), (1, .int v1)]) hx hb dX5_safeByTrying_65 hl (k := 2) rfl (by rw [ex11]; rfl) (by decide) rfl (fun ls hl => ?_)
          refine lv_goto (tgt := 27) hx hb dX5_safeByTrying_68 (by decide) ?_
          exact ih v1 x11 (u.1, u.2.1, (u.2.2.1.1, u.2.2.1.2.1, u.2.2.1.2.2.1, w9), u.2.2.2.1, u.2.2.2.2.1, u.2.2.2.2.2) H locs ls hP hD hS (lv_sub hl [1, 2, 0] rfl) hw
        · replace hw := Eq.mp (if_pos c10) hw
          refine lv_iload_n hx hb dX5_safeByTrying_59 rfl (lv_at hl 1 rfl) ?_
          refine lv_iconst (v := 1) hx hb dX5_safeByTrying_60 (by decide) ?_
          refine lv_iload_n hx hb dX5_safeByTrying_61 rfl (lv_at hl 2 rfl) ?_
          refine lv_ishl hx hb dX5_safeByTrying_62 ?_
          refine lv_ior hx hb dX5_safeByTrying_63 ?_
          refine lv_topi (fun x12 ex12 => ?_)
          replace hw := hw x12 ex12
          refine lv_istore_n (lv' := [(1, .int x12), (0, .ref x), (2, .int v2)]) hx hb dX5_safeByTrying_64 rfl hl (by decide) rfl (fun ls hl => ?_)
          obtain ⟨x13, ex13⟩ : ∃ y : Int32, y = (v2 + 1) := ⟨_, rfl⟩
          replace hw := hw x13 ex13
          refine lv_iinc (v := x13) (lv' := [(2, .int x13), (1, .int x12), (0, .ref x)]) hx hb dX5_safeByTrying_65 hl (k := 2) rfl (by rw [ex13]; rfl) (by decide) rfl (fun ls hl => ?_)
          refine lv_goto (tgt := 27) hx hb dX5_safeByTrying_68 (by decide) ?_
          exact ih x12 x13 (u.1, u.2.1, (u.2.2.1.1, u.2.2.1.2.1, u.2.2.1.2.2.1, w9), u.2.2.2.1, u.2.2.2.2.1, u.2.2.2.2.2) H locs ls hP hD hS (lv_sub hl [2, 1, 0] rfl) hw
  unfold pX5_safeByTrying at hw
  refine lv_aload_n hx hb dX5_safeByTrying_0 rfl (lv_at hl 0 rfl) ?_
  refine va_get (D := D) (ci := 4) (v := .ref ag.1) (C := RX5) (T := TX5) (N := 6) hx hb hts (fun _ h => List.mem_cons_of_mem _ (List.mem_append_left _ (List.mem_append_left _ (List.mem_append_right _ h)))) hown hK hP 0 rfl rfl 0 (by decide) (hts (.fieldLink RX5 10 "HazelGift" "game" "LHazelGift$Game;") (List.mem_of_getElem? (i := 1) rfl)) (fun _ h9 => h9) rfl dX5_safeByTrying_1 ?_
  refine gVi (As := []) (rest := []) (cs' := wG kI ag u.2.1) ⟨hx, hb, hml, hown, hts⟩ (kX2_hasEnded l D kI kC kG kJ ag u.2.1 _ hw) (cwV 0 hts gX5_safeByTrying_X2_hasEnded rfl rfl rfl hdX2_hasEnded ⟨Nat.le_of_ble_eq_true rfl, Nat.le_of_ble_eq_true rfl⟩) hK hP hE hS [1, 2, 3, 4] rfl (ci := 1) (q0 := 0) rfl rfl rfl rfl hl.1 rfl (Nat.le_of_ble_eq_true rfl) dX5_safeByTrying_4 ⟨Nat.le_of_ble_eq_true rfl, Nat.le_of_ble_eq_true rfl⟩ (fun r1 hw => ?_)
  refine lv_if_eq (tgt := 12) hx hb dX5_safeByTrying_7 (by decide) (fun c2 => ?_) (fun c2 => ?_)
  · replace hw := Eq.mp (if_pos c2) hw
    refine lv_aload_n hx hb dX5_safeByTrying_12 rfl (lv_at hl 0 rfl) ?_
    refine va_get (D := D) (ci := 4) (v := .ref at_.1) (C := RX5) (T := TX5) (N := 6) hx hb hts (fun _ h => List.mem_cons_of_mem _ (List.mem_append_left _ (List.mem_append_left _ (List.mem_append_right _ h)))) hown hK hP 0 rfl rfl 1 (by decide) (hts (.fieldLink RX5 16 "HazelGift" "trial" "LHazelGift$Game;") (List.mem_of_getElem? (i := 2) rfl)) (fun _ h9 => h9) rfl dX5_safeByTrying_13 ?_
    refine lv_aload_n hx hb dX5_safeByTrying_16 rfl (lv_at hl 0 rfl) ?_
    refine va_get (D := D) (ci := 4) (v := .ref ag.1) (C := RX5) (T := TX5) (N := 6) hx hb hts (fun _ h => List.mem_cons_of_mem _ (List.mem_append_left _ (List.mem_append_left _ (List.mem_append_right _ h)))) hown hK hP 0 rfl rfl 0 (by decide) (hts (.fieldLink RX5 10 "HazelGift" "game" "LHazelGift$Game;") (List.mem_of_getElem? (i := 1) rfl)) (fun _ h9 => h9) rfl dX5_safeByTrying_17 ?_
    refine gWVv (S := SG × SG) (As := [.ref ag.1]) (rest := []) (wc := wG kI at_ u.2.2.1 ++ wG kI ag u.2.1) (wr := [(x, .inr (4, [.ref ag.1, .ref at_.1, .ref as_.1, .int u.1, .ref hh, .ref tx]))] ++ wG kI as_ u.2.2.2.1 ++ [(hh, .inr (2, [.ref hst, .int u.2.2.2.2.1.1, .int u.2.2.2.2.1.2.1])), (hst, .inl (kG, 4, .inr (.inr (.inr (.inr (fH a0 a1 a2 a3))))))] ++ wG kI a0 u.2.2.2.2.1.2.2.1 ++ wG kI a1 u.2.2.2.2.1.2.2.2.1 ++ wG kI a2 u.2.2.2.2.1.2.2.2.2.1 ++ wG kI a3 u.2.2.2.2.1.2.2.2.2.2 ++ wT kC tx tch u.2.2.2.2.2) (cs1 := (fun zz : SG × SG => wG kI at_ zz.1 ++ wG kI ag zz.2)) (ws2 := (fun zz : SG × SG => wX kI kC kG x ag at_ as_ hh hst a0 a1 a2 a3 tx tch (u.1, zz.2, zz.1, u.2.2.2.1, u.2.2.2.2.1, u.2.2.2.2.2))) ⟨hx, hb, hml, hown, hts⟩ (fun sz => kX2_copyFrom l D kI kC kG kJ at_ ag sz u.2.2.1 u.2.1 _ hw) (cwV 1 hts gX5_safeByTrying_X2_copyFrom rfl rfl rfl hdX2_copyFrom ⟨Nat.le_of_ble_eq_true rfl, Nat.le_of_ble_eq_true rfl⟩) hK hP hD hE hS hA [5, 6, 7, 8, 1, 2, 3, 4] [0, 9, 10, 11, 12, 13, 14, 15, 16, 17, 18, 19, 20, 21, 22, 23, 24, 25, 26, 27, 28, 29, 30, 31, 32] rfl rfl rfl rfl (by decide) [0, 29, 30, 31, 32, 25, 26, 27, 28, 1, 2, 3, 4, 5, 6, 7, 8, 9, 10, 11, 12, 13, 14, 15, 16, 17, 18, 19, 20, 21, 22, 23, 24] rfl (fun _ => rfl) (ci := 1) (q0 := 0) rfl rfl rfl rfl hl.1 rfl (Nat.le_of_ble_eq_true rfl) dX5_safeByTrying_20 ⟨Nat.le_of_ble_eq_true rfl, Nat.le_of_ble_eq_true rfl⟩ (fun w3 H locs hw hP hD hS => ?_)
    have hP : va_P D vwCl (wX kI kC kG x ag at_ as_ hh hst a0 a1 a2 a3 tx tch (u.1, w3.2, w3.1, u.2.2.2.1, u.2.2.2.2.1, u.2.2.2.2.2)) H := hP
    have hD : va_D A (wX kI kC kG x ag at_ as_ hh hst a0 a1 a2 a3 tx tch (u.1, w3.2, w3.1, u.2.2.2.1, u.2.2.2.2.1, u.2.2.2.2.2)) := hD
    refine lv_iconst (v := 0) hx hb dX5_safeByTrying_23 (by decide) ?_
    refine lv_istore_n (lv' := [(1, .int 0), (0, .ref x)]) hx hb dX5_safeByTrying_24 rfl hl (by decide) rfl (fun ls hl => ?_)
    refine lv_iconst (v := 0) hx hb dX5_safeByTrying_25 (by decide) ?_
    refine lv_istore_n (lv' := [(2, .int 0), (1, .int 0), (0, .ref x)]) hx hb dX5_safeByTrying_26 rfl hl (by decide) rfl (fun ls hl => ?_)
    obtain ⟨n9, hw⟩ := hw
    exact L27 () n9 0 0 (u.1, w3.2, w3.1, u.2.2.2.1, u.2.2.2.2.1, u.2.2.2.2.2) H locs ls hP hD hS (lv_sub hl [2, 1, 0] rfl) hw
  · replace hw := Eq.mp (if_neg c2) hw
    refine lv_iconst (v := 0) hx hb dX5_safeByTrying_10 (by decide) ?_
    exact W.iret (v := 0) hx hb hr (fun t ht hW => ⟨⟨0, u, rfl, hw, by rw [ht]; exact hP, va_K.moved hW.alike hK, hD⟩, hS.F ht⟩) hS.2.2 dX5_safeByTrying_11
set_option maxHeartbeats 4000000 in
set_option maxRecDepth 100000 in
theorem kX5_safeByLines (l : Launch) (D : va_G) (kI kC kG kJ : ClassId) (x : Nat) (ag at_ as_ : AG) (hh hst : Nat) (a0 a1 a2 a3 : AG) (tx tch : Nat) (u : SX) (Z : Int32 → Prop) (hw : pX5_safeByLines u Z) : Met l yX5_safeByLines wsX5_safeByLines ({ frames := 4, cells := 0, slots := 0, locals := 80 } : Room) (gPr D (gT kI kC kG kJ) [.ref x] (wX kI kC kG x ag at_ as_ hh hst a0 a1 a2 a3 tx tch u)) (vp_Si Z) 0 0 (fun _ => False) := by
  refine Met.ofW (cc := cX5_safeByLines) (maxL := 4) (ret := (some .int)) (by decide) rfl ?_
  intro p e s m args below meth c s₁ B hml hv
  obtain ⟨rfl, hP, hK, hE⟩ := hv
  have hx := B.exec
  have hb := B.bytes
  have hr := B.returns
  have hts := atoms_spec (ws := wsX5_safeByLines) B.pre
  have hown : s.vm.findClass RX5 = some m.cls := findClass_of_methodNamed B.named
  have hlocks := B.notSynchronized
  have hS : va_S (fun _ => False) s.heap s.heap [] := va_S.rf
  have hl := lv_entry ([.ref x]) (n := 4) (Nat.le_of_ble_eq_true rfl)
  rw [lg_entry_eq]
  generalize (lg_sl ([.ref x]) ++ List.replicate (4 - (lg_sl ([.ref x])).length) Slot.unset).toArray = ls at hl ⊢
  have hl : lv_has ls 4 [(0, .ref x)] := hl
  have L27 : ∀ (v1 : Int32), ∀ (n : Nat), ∀ (v2 : Int32) (v3 : Int32) (ls : Array Slot), lv_has ls 4 [(0, .ref x), (1, .int v1), (2, .int v2), (3, .int v3)] → pX5_safeByLines_27 Z v1 u n v2 v3 → W p l e (headSpec wsX5_safeByLines ({ frames := 4, cells := 0, slots := 0, locals := 80 } : Room)).room s m ([.ref x] : List Value).toArray below meth c s.heap [] 0 0 (MQ below (vp_Si Z) ([.ref x] : List Value).toArray s 0 0 (fun _ => False)) (F0 m 27 ls []) := by
    intro v1 n
    induction n with
    | zero => intro v2 v3 ls hl hw; exact hw.elim
    | succ n ih =>
    intro v2 v3 ls hl hw
    rw [pX5_safeByLines_27] at hw
    refine lv_iload_n hx hb dX5_safeByLines_27 rfl (lv_at hl 3 rfl) ?_
    refine lv_bipush (v := 16) hx hb dX5_safeByLines_28 (by decide) ?_
    refine lv_icmp_ge (tgt := 65) hx hb dX5_safeByLines_30 (by decide) (fun c5 => ?_) (fun c5 => ?_)
    · replace hw := Eq.mp (if_pos c5) hw
      refine lv_iload_n hx hb dX5_safeByLines_65 rfl (lv_at hl 2 rfl) ?_
      exact W.iret (v := v2) hx hb hr (fun t ht hW => ⟨_, rfl, hw, ht⟩) (fun _ h => by cases h) dX5_safeByLines_66
    · replace hw := Eq.mp (if_neg c5) hw
      refine lv_aload_n hx hb dX5_safeByLines_33 rfl (lv_at hl 0 rfl) ?_
      refine va_get (D := D) (ci := 4) (v := .ref ag.1) (C := RX5) (T := TX5) (N := 6) hx hb hts (fun _ h => List.mem_cons_of_mem _ (List.mem_append_left _ (List.mem_append_left _ (List.mem_append_right _ h)))) hown hK hP 0 rfl rfl 0 (by decide) (hts (.fieldLink RX5 10 "HazelGift" "game" "LHazelGift$Game;") (List.mem_of_getElem? (i := 1) rfl)) (fun _ h9 => h9) rfl dX5_safeByLines_34 ?_
      refine lv_iload_n hx hb dX5_safeByLines_37 rfl (lv_at hl 3 rfl) ?_
      refine gVi (As := [.int v3]) (rest := []) (cs' := wG kI ag u.2.1) ⟨hx, hb, hml, hown, hts⟩ (kX2_isFree l D kI kC kG kJ ag u.2.1 v3 _ hw) (cwV 1 hts gX5_safeByLines_X2_isFree rfl rfl rfl hdX2_isFree ⟨Nat.le_of_ble_eq_true rfl, Nat.le_of_ble_eq_true rfl⟩) hK hP hE hS [1, 2, 3, 4] rfl (ci := 1) (q0 := 0) rfl rfl rfl rfl hl.1 rfl (Nat.le_of_ble_eq_true rfl) dX5_safeByLines_38 ⟨Nat.le_of_ble_eq_true rfl, Nat.le_of_ble_eq_true rfl⟩ (fun r6 hw => ?_)
      refine lv_if_eq (tgt := 59) hx hb dX5_safeByLines_41 (by decide) (fun c7 => ?_) (fun c7 => ?_)
      · replace hw := Eq.mp (if_pos c7) hw
        obtain ⟨x8, ex8⟩ : ∃ y : Int32, y = (v3 + 1) := ⟨_, rfl⟩
        replace hw := hw x8 ex8
        refine lv_iinc (v := x8) (lv' := [(3, .int x8), (0, .ref x), (1, .int v1), (2, .int v2)]) hx hb dX5_safeByLines_59 hl (k := 3) rfl (by rw [ex8]; rfl) (by decide) rfl (fun ls hl => ?_)
        refine lv_goto (tgt := 27) hx hb dX5_safeByLines_62 (by decide) ?_
        exact ih v2 x8 ls (lv_sub hl [1, 2, 3, 0] rfl) hw
      · replace hw := Eq.mp (if_neg c7) hw
        refine lv_iload_n hx hb dX5_safeByLines_44 rfl (lv_at hl 3 rfl) ?_
        refine gSi (As := [.int v3]) (rest := []) (cs' := ([] : va_W)) ⟨hx, hb, hml, hown, hts⟩ (kX5_traitsOf l D kI kC kG kJ v3 _ hw) (va_cwS 1 hts gX5_safeByLines_X5_traitsOf rfl rfl rfl hdX5_traitsOf ⟨Nat.le_of_ble_eq_true rfl, Nat.le_of_ble_eq_true rfl⟩) hK hP hE hS [] rfl rfl hl.1 rfl (Nat.le_of_ble_eq_true rfl) dX5_safeByLines_45 ⟨Nat.le_of_ble_eq_true rfl, Nat.le_of_ble_eq_true rfl⟩ (fun r9 hw => ?_)
        refine lv_iload_n hx hb dX5_safeByLines_48 rfl (lv_at hl 1 rfl) ?_
        refine lv_iand hx hb dX5_safeByLines_49 ?_
        refine lv_if_ne (tgt := 59) hx hb dX5_safeByLines_50 (by decide) (fun c10 => ?_) (fun c10 => ?_)
        · replace hw := Eq.mp (if_neg c10) hw
          obtain ⟨x11, ex11⟩ : ∃ y : Int32, y = (v3 + 1) := ⟨_, rfl⟩
          replace hw := hw x11 ex11
          refine lv_iinc (v := x11) (lv' := [(3, .int x11), (0, .ref x), (1, .int v1), (2, .int v2)]) hx hb dX5_safeByLines_59 hl (k := 3) rfl (by rw [ex11]; rfl) (by decide) rfl (fun ls hl => ?_)
          refine lv_goto (tgt := 27) hx hb dX5_safeByLines_62 (by decide) ?_
          exact ih v2 x11 ls (lv_sub hl [1, 2, 3, 0] rfl) hw
        · replace hw := Eq.mp (if_pos c10) hw
          refine lv_iload_n hx hb dX5_safeByLines_53 rfl (lv_at hl 2 rfl) ?_
          refine lv_iconst (v := 1) hx hb dX5_safeByLines_54 (by decide) ?_
          refine lv_iload_n hx hb dX5_safeByLines_55 rfl (lv_at hl 3 rfl) ?_
          refine lv_ishl hx hb dX5_safeByLines_56 ?_
          refine lv_ior hx hb dX5_safeByLines_57 ?_
          refine lv_topi (fun x12 ex12 => ?_)
          replace hw := hw x12 ex12
          refine lv_istore_n (lv' := [(2, .int x12), (0, .ref x), (1, .int v1), (3, .int v3)]) hx hb dX5_safeByLines_58 rfl hl (by decide) rfl (fun ls hl => ?_)
          obtain ⟨x13, ex13⟩ : ∃ y : Int32, y = (v3 + 1) := ⟨_, rfl⟩
          replace hw := hw x13 ex13
          refine lv_iinc (v := x13) (lv' := [(3, .int x13), (2, .int x12), (0, .ref x), (1, .int v1)]) hx hb dX5_safeByLines_59 hl (k := 3) rfl (by rw [ex13]; rfl) (by decide) rfl (fun ls hl => ?_)
          refine lv_goto (tgt := 27) hx hb dX5_safeByLines_62 (by decide) ?_
          exact ih x12 x13 ls (lv_sub hl [2, 3, 1, 0] rfl) hw
  unfold pX5_safeByLines at hw
  refine lv_aload_n hx hb dX5_safeByLines_0 rfl (lv_at hl 0 rfl) ?_
  refine va_get (D := D) (ci := 4) (v := .ref ag.1) (C := RX5) (T := TX5) (N := 6) hx hb hts (fun _ h => List.mem_cons_of_mem _ (List.mem_append_left _ (List.mem_append_left _ (List.mem_append_right _ h)))) hown hK hP 0 rfl rfl 0 (by decide) (hts (.fieldLink RX5 10 "HazelGift" "game" "LHazelGift$Game;") (List.mem_of_getElem? (i := 1) rfl)) (fun _ h9 => h9) rfl dX5_safeByLines_1 ?_
  refine gVi (As := []) (rest := []) (cs' := wG kI ag u.2.1) ⟨hx, hb, hml, hown, hts⟩ (kX2_hasEnded l D kI kC kG kJ ag u.2.1 _ hw) (cwV 0 hts gX5_safeByLines_X2_hasEnded rfl rfl rfl hdX2_hasEnded ⟨Nat.le_of_ble_eq_true rfl, Nat.le_of_ble_eq_true rfl⟩) hK hP hE hS [1, 2, 3, 4] rfl (ci := 1) (q0 := 0) rfl rfl rfl rfl hl.1 rfl (Nat.le_of_ble_eq_true rfl) dX5_safeByLines_4 ⟨Nat.le_of_ble_eq_true rfl, Nat.le_of_ble_eq_true rfl⟩ (fun r1 hw => ?_)
  refine lv_if_eq (tgt := 12) hx hb dX5_safeByLines_7 (by decide) (fun c2 => ?_) (fun c2 => ?_)
  · replace hw := Eq.mp (if_pos c2) hw
    refine lv_aload_n hx hb dX5_safeByLines_12 rfl (lv_at hl 0 rfl) ?_
    refine va_get (D := D) (ci := 4) (v := .ref ag.1) (C := RX5) (T := TX5) (N := 6) hx hb hts (fun _ h => List.mem_cons_of_mem _ (List.mem_append_left _ (List.mem_append_left _ (List.mem_append_right _ h)))) hown hK hP 0 rfl rfl 0 (by decide) (hts (.fieldLink RX5 10 "HazelGift" "game" "LHazelGift$Game;") (List.mem_of_getElem? (i := 1) rfl)) (fun _ h9 => h9) rfl dX5_safeByLines_13 ?_
    refine gVa (r := .ref ag.2.1) (As := []) (rest := []) (cs' := wG kI ag u.2.1) ⟨hx, hb, hml, hown, hts⟩ (kX2_board l D kI kC kG kJ ag u.2.1) (cwV 0 hts gX5_safeByLines_X2_board rfl rfl rfl hdX2_board ⟨Nat.le_of_ble_eq_true rfl, Nat.le_of_ble_eq_true rfl⟩) hK hP hE hS [1, 2, 3, 4] rfl (ci := 1) (q0 := 0) rfl rfl rfl rfl hl.1 rfl (Nat.le_of_ble_eq_true rfl) dX5_safeByLines_16 ⟨Nat.le_of_ble_eq_true rfl, Nat.le_of_ble_eq_true rfl⟩ ?_
    refine gVi (As := []) (rest := []) (cs' := wB kI ag.2.1 ag.2.2.1 u.2.1.2.2.2) ⟨hx, hb, hml, hown, hts⟩ (kX0_dangerousTraits l D kI kC kG kJ ag.2.1 ag.2.2.1 u.2.1.2.2.2 _ hw) (cwV 0 hts gX5_safeByLines_X0_dangerousTraits rfl rfl rfl hdX0_dangerousTraits ⟨Nat.le_of_ble_eq_true rfl, Nat.le_of_ble_eq_true rfl⟩) hK hP hE hS [3, 4] rfl (ci := 0) (q0 := 0) rfl rfl rfl rfl hl.1 rfl (Nat.le_of_ble_eq_true rfl) dX5_safeByLines_19 ⟨Nat.le_of_ble_eq_true rfl, Nat.le_of_ble_eq_true rfl⟩ (fun r4 hw => ?_)
    refine lv_istore_n (lv' := [(1, .int r4), (0, .ref x)]) hx hb dX5_safeByLines_22 rfl hl (by decide) rfl (fun ls hl => ?_)
    refine lv_iconst (v := 0) hx hb dX5_safeByLines_23 (by decide) ?_
    refine lv_istore_n (lv' := [(2, .int 0), (1, .int r4), (0, .ref x)]) hx hb dX5_safeByLines_24 rfl hl (by decide) rfl (fun ls hl => ?_)
    refine lv_iconst (v := 0) hx hb dX5_safeByLines_25 (by decide) ?_
    refine lv_istore_n (lv' := [(3, .int 0), (2, .int 0), (1, .int r4), (0, .ref x)]) hx hb dX5_safeByLines_26 rfl hl (by decide) rfl (fun ls hl => ?_)
    obtain ⟨n9, hw⟩ := hw
    exact L27 r4 n9 0 0 ls (lv_sub hl [3, 2, 1, 0] rfl) hw
  · replace hw := Eq.mp (if_neg c2) hw
    refine lv_iconst (v := 0) hx hb dX5_safeByLines_10 (by decide) ?_
    exact W.iret (v := 0) hx hb hr (fun t ht hW => ⟨_, rfl, hw, ht⟩) (fun _ h => by cases h) dX5_safeByLines_11
set_option maxHeartbeats 4000000 in
set_option maxRecDepth 100000 in
theorem kX5_outcome (l : Launch) (D : va_G) (kI kC kG kJ : ClassId) (hlt : l.stackTraces = false) (x : Nat) (ag at_ as_ : AG) (hh hst : Nat) (a0 a1 a2 a3 : AG) (tx tch : Nat) (sz : Nat) (u : SX) (Z : Int32 → SX → Prop) (X : String → SX → Prop) (hw : pX5_outcome u Z X) : vx_Met l yX5_outcome wsX5_outcome ({ frames := 15, cells := 1, slots := 6, locals := 350 } : Room) (gPw D (gT kI kC kG kJ) [.ref x] (wX kI kC kG x ag at_ as_ hh hst a0 a1 a2 a3 tx tch u) sz) (va_Qi Z (gB D (gT kI kC kG kJ) (fun (zz : SX) => wX kI kC kG x ag at_ as_ hh hst a0 a1 a2 a3 tx tch zz) (va_A (wX kI kC kG x ag at_ as_ hh hst a0 a1 a2 a3 tx tch u) sz)) (va_A (wX kI kC kG x ag at_ as_ hh hst a0 a1 a2 a3 tx tch u) sz)) (gX D (gT kI kC kG kJ) (fun (zz : SX) => wX kI kC kG x ag at_ as_ hh hst a0 a1 a2 a3 tx tch zz) (va_A (wX kI kC kG x ag at_ as_ hh hst a0 a1 a2 a3 tx tch u) sz) X) 1 6 (va_A (wX kI kC kG x ag at_ as_ hh hst a0 a1 a2 a3 tx tch u) sz) := by
  refine vx_ofW (cc := cX5_outcome) (maxL := 1) (ret := (some .int)) (by decide) rfl ?_
  intro p e s m args below meth c s₁ B hml hnx hv
  obtain ⟨rfl, hsz, hP, hK, hD0, hE⟩ := hv
  have hx := B.exec
  have hb := B.bytes
  have hr := B.returns
  have hts := atoms_spec (ws := wsX5_outcome) B.pre
  have hown : s.vm.findClass RX5 = some m.cls := findClass_of_methodNamed B.named
  have hlocks := B.notSynchronized
  subst hsz
  have hD := hD0.self (sz := s.heap.size)
  generalize hAe : va_A (wX kI kC kG x ag at_ as_ hh hst a0 a1 a2 a3 tx tch u) s.heap.size = A at hD hE ⊢
  have hA : ∀ q : Nat, s.heap.size ≤ q → A q := fun q h => by rw [← hAe]; exact Or.inr h
  have hS : va_S A s.heap s.heap [] := va_S.rf
  clear hAe hD0
  have hl := lv_entry ([.ref x]) (n := 1) (Nat.le_of_ble_eq_true rfl)
  rw [lg_entry_eq]
  generalize (lg_sl ([.ref x]) ++ List.replicate (1 - (lg_sl ([.ref x])).length) Slot.unset).toArray = ls at hl ⊢
  have hl : lv_has ls 1 [(0, .ref x)] := hl
  have hP : va_P D vwCl (wX kI kC kG x ag at_ as_ hh hst a0 a1 a2 a3 tx tch u) s.heap := hP
  unfold pX5_outcome at hw
  refine lv_aload_n hx hb dX5_outcome_0 rfl (lv_at hl 0 rfl) ?_
  refine gXVv (S := SX) (As := []) (rest := []) (wc := wX kI kC kG x ag at_ as_ hh hst a0 a1 a2 a3 tx tch u) (wr := []) (cs1 := (fun zz : SX => wX kI kC kG x ag at_ as_ hh hst a0 a1 a2 a3 tx tch zz)) (ws2 := (fun zz : SX => wX kI kC kG x ag at_ as_ hh hst a0 a1 a2 a3 tx tch zz)) ⟨hx, hb, hml, hown, hts⟩ (fun sz => kX5_requireSearchable l D kI kC kG kJ hlt x ag at_ as_ hh hst a0 a1 a2 a3 tx tch sz u _ _ hw) (cwV 0 hts gX5_outcome_X5_requireSearchable rfl rfl rfl hdX5_requireSearchable ⟨Nat.le_of_ble_eq_true rfl, Nat.le_of_ble_eq_true rfl⟩) hK hP hD hE hS hA [0, 1, 2, 3, 4, 5, 6, 7, 8, 9, 10, 11, 12, 13, 14, 15, 16, 17, 18, 19, 20, 21, 22, 23, 24, 25, 26, 27, 28, 29, 30, 31, 32] [] rfl rfl rfl rfl (by decide) [0, 1, 2, 3, 4, 5, 6, 7, 8, 9, 10, 11, 12, 13, 14, 15, 16, 17, 18, 19, 20, 21, 22, 23, 24, 25, 26, 27, 28, 29, 30, 31, 32] rfl (fun _ => rfl) (fun w1 => w1) (fun _ => rfl) (fun _ _ h => h) hnx hlocks (Nat.le_of_ble_eq_true rfl) (Nat.le_of_ble_eq_true rfl) (ci := 4) (q0 := 0) rfl rfl rfl rfl hl.1 rfl (Nat.le_of_ble_eq_true rfl) dX5_outcome_1 ⟨Nat.le_of_ble_eq_true rfl, Nat.le_of_ble_eq_true rfl⟩ (fun w1 H locs hw hP hD hS => ?_)
  have hP : va_P D vwCl (wX kI kC kG x ag at_ as_ hh hst a0 a1 a2 a3 tx tch w1) H := hP
  have hD : va_D A (wX kI kC kG x ag at_ as_ hh hst a0 a1 a2 a3 tx tch w1) := hD
  refine lv_aload_n hx hb dX5_outcome_4 rfl (lv_at hl 0 rfl) ?_
  refine va_get (D := D) (ci := 4) (v := .ref at_.1) (C := RX5) (T := TX5) (N := 6) hx hb hts (fun _ h => List.mem_cons_of_mem _ (List.mem_append_left _ (List.mem_append_left _ (List.mem_append_left _ (List.mem_append_right _ h))))) hown hK hP 0 rfl rfl 1 (by decide) (hts (.fieldLink RX5 16 "HazelGift" "trial" "LHazelGift$Game;") (List.mem_of_getElem? (i := 1) rfl)) (fun _ h9 => h9) rfl dX5_outcome_5 ?_
  refine lv_aload_n hx hb dX5_outcome_8 rfl (lv_at hl 0 rfl) ?_
  refine va_get (D := D) (ci := 4) (v := .ref ag.1) (C := RX5) (T := TX5) (N := 6) hx hb hts (fun _ h => List.mem_cons_of_mem _ (List.mem_append_left _ (List.mem_append_left _ (List.mem_append_left _ (List.mem_append_right _ h))))) hown hK hP 0 rfl rfl 0 (by decide) (hts (.fieldLink RX5 10 "HazelGift" "game" "LHazelGift$Game;") (List.mem_of_getElem? (i := 2) rfl)) (fun _ h9 => h9) rfl dX5_outcome_9 ?_
  refine gWVv (S := SG × SG) (As := [.ref ag.1]) (rest := []) (wc := wG kI at_ w1.2.2.1 ++ wG kI ag w1.2.1) (wr := [(x, .inr (4, [.ref ag.1, .ref at_.1, .ref as_.1, .int w1.1, .ref hh, .ref tx]))] ++ wG kI as_ w1.2.2.2.1 ++ [(hh, .inr (2, [.ref hst, .int w1.2.2.2.2.1.1, .int w1.2.2.2.2.1.2.1])), (hst, .inl (kG, 4, .inr (.inr (.inr (.inr (fH a0 a1 a2 a3))))))] ++ wG kI a0 w1.2.2.2.2.1.2.2.1 ++ wG kI a1 w1.2.2.2.2.1.2.2.2.1 ++ wG kI a2 w1.2.2.2.2.1.2.2.2.2.1 ++ wG kI a3 w1.2.2.2.2.1.2.2.2.2.2 ++ wT kC tx tch w1.2.2.2.2.2) (cs1 := (fun zz : SG × SG => wG kI at_ zz.1 ++ wG kI ag zz.2)) (ws2 := (fun zz : SG × SG => wX kI kC kG x ag at_ as_ hh hst a0 a1 a2 a3 tx tch (w1.1, zz.2, zz.1, w1.2.2.2.1, w1.2.2.2.2.1, w1.2.2.2.2.2))) ⟨hx, hb, hml, hown, hts⟩ (fun sz => kX2_copyFrom l D kI kC kG kJ at_ ag sz w1.2.2.1 w1.2.1 _ hw) (cwV 1 hts gX5_outcome_X2_copyFrom rfl rfl rfl hdX2_copyFrom ⟨Nat.le_of_ble_eq_true rfl, Nat.le_of_ble_eq_true rfl⟩) hK hP hD hE hS hA [5, 6, 7, 8, 1, 2, 3, 4] [0, 9, 10, 11, 12, 13, 14, 15, 16, 17, 18, 19, 20, 21, 22, 23, 24, 25, 26, 27, 28, 29, 30, 31, 32] rfl rfl rfl rfl (by decide) [0, 29, 30, 31, 32, 25, 26, 27, 28, 1, 2, 3, 4, 5, 6, 7, 8, 9, 10, 11, 12, 13, 14, 15, 16, 17, 18, 19, 20, 21, 22, 23, 24] rfl (fun _ => rfl) (ci := 1) (q0 := 0) rfl rfl rfl rfl hl.1 rfl (Nat.le_of_ble_eq_true rfl) dX5_outcome_12 ⟨Nat.le_of_ble_eq_true rfl, Nat.le_of_ble_eq_true rfl⟩ (fun w2 H locs hw hP hD hS => ?_)
  have hP : va_P D vwCl (wX kI kC kG x ag at_ as_ hh hst a0 a1 a2 a3 tx tch (w1.1, w2.2, w2.1, w1.2.2.2.1, w1.2.2.2.2.1, w1.2.2.2.2.2)) H := hP
  have hD : va_D A (wX kI kC kG x ag at_ as_ hh hst a0 a1 a2 a3 tx tch (w1.1, w2.2, w2.1, w1.2.2.2.1, w1.2.2.2.2.1, w1.2.2.2.2.2)) := hD
  refine lv_aload_n hx hb dX5_outcome_15 rfl (lv_at hl 0 rfl) ?_
  refine va_get (D := D) (ci := 4) (v := .ref at_.1) (C := RX5) (T := TX5) (N := 6) hx hb hts (fun _ h => List.mem_cons_of_mem _ (List.mem_append_left _ (List.mem_append_left _ (List.mem_append_left _ (List.mem_append_right _ h))))) hown hK hP 0 rfl rfl 1 (by decide) (hts (.fieldLink RX5 16 "HazelGift" "trial" "LHazelGift$Game;") (List.mem_of_getElem? (i := 1) rfl)) (fun _ h9 => h9) rfl dX5_outcome_16 ?_
  refine gWSi (S := SG) (As := [.ref at_.1]) (rest := []) (wc := wG kI at_ w2.1) (wr := [(x, .inr (4, [.ref ag.1, .ref at_.1, .ref as_.1, .int w1.1, .ref hh, .ref tx]))] ++ wG kI ag w2.2 ++ wG kI as_ w1.2.2.2.1 ++ [(hh, .inr (2, [.ref hst, .int w1.2.2.2.2.1.1, .int w1.2.2.2.2.1.2.1])), (hst, .inl (kG, 4, .inr (.inr (.inr (.inr (fH a0 a1 a2 a3))))))] ++ wG kI a0 w1.2.2.2.2.1.2.2.1 ++ wG kI a1 w1.2.2.2.2.1.2.2.2.1 ++ wG kI a2 w1.2.2.2.2.1.2.2.2.2.1 ++ wG kI a3 w1.2.2.2.2.1.2.2.2.2.2 ++ wT kC tx tch w1.2.2.2.2.2) (cs1 := (fun zz : SG => wG kI at_ zz)) (ws2 := (fun zz : SG => wX kI kC kG x ag at_ as_ hh hst a0 a1 a2 a3 tx tch (w1.1, w2.2, zz, w1.2.2.2.1, w1.2.2.2.2.1, w1.2.2.2.2.2))) ⟨hx, hb, hml, hown, hts⟩ (fun sz => kX1_valueOf l D kI kC kG kJ at_ sz w2.1 _ hw) (va_cwS 1 hts gX5_outcome_X1_valueOf rfl rfl rfl hdX1_valueOf ⟨Nat.le_of_ble_eq_true rfl, Nat.le_of_ble_eq_true rfl⟩) hK hP hD hE hS hA [5, 6, 7, 8] [0, 1, 2, 3, 4, 9, 10, 11, 12, 13, 14, 15, 16, 17, 18, 19, 20, 21, 22, 23, 24, 25, 26, 27, 28, 29, 30, 31, 32] rfl rfl rfl rfl (by decide) [0, 1, 2, 3, 4, 29, 30, 31, 32, 5, 6, 7, 8, 9, 10, 11, 12, 13, 14, 15, 16, 17, 18, 19, 20, 21, 22, 23, 24, 25, 26, 27, 28] rfl (fun _ => rfl) rfl hl.1 rfl (Nat.le_of_ble_eq_true rfl) dX5_outcome_19 ⟨Nat.le_of_ble_eq_true rfl, Nat.le_of_ble_eq_true rfl⟩ (fun r3 w3 H locs hw hP hD hS => ?_)
  have hP : va_P D vwCl (wX kI kC kG x ag at_ as_ hh hst a0 a1 a2 a3 tx tch (w1.1, w2.2, w3, w1.2.2.2.1, w1.2.2.2.2.1, w1.2.2.2.2.2)) H := hP
  have hD : va_D A (wX kI kC kG x ag at_ as_ hh hst a0 a1 a2 a3 tx tch (w1.1, w2.2, w3, w1.2.2.2.1, w1.2.2.2.2.1, w1.2.2.2.2.2)) := hD
  refine vx_ret ?_
  refine W.widen (k := 1) (n := 6) (Nat.le_of_ble_eq_true rfl) (Nat.le_of_ble_eq_true rfl) ?_
  exact W.iret (v := r3) hx hb hr (fun t ht hW => ⟨⟨r3, (w1.1, w2.2, w3, w1.2.2.2.1, w1.2.2.2.2.1, w1.2.2.2.2.2), rfl, hw, by rw [ht]; exact hP, va_K.moved hW.alike hK, hD⟩, hS.F ht⟩) hS.2.2 dX5_outcome_22
set_option maxHeartbeats 4000000 in
set_option maxRecDepth 100000 in
theorem kX5_rule (l : Launch) (D : va_G) (kI kC kG kJ : ClassId) (x : Nat) (ag at_ as_ : AG) (hh hst : Nat) (a0 a1 a2 a3 : AG) (tx tch : Nat) (u : SX) (Z : Int32 → Prop) (hw : pX5_rule u Z) : Met l yX5_rule wsX5_rule ({ frames := 1, cells := 0, slots := 0, locals := 20 } : Room) (gPr D (gT kI kC kG kJ) [.ref x] (wX kI kC kG x ag at_ as_ hh hst a0 a1 a2 a3 tx tch u)) (vp_Si Z) 0 0 (fun _ => False) := by
  refine Met.ofW (cc := cX5_rule) (maxL := 1) (ret := (some .int)) (by decide) rfl ?_
  intro p e s m args below meth c s₁ B hml hv
  obtain ⟨rfl, hP, hK, hE⟩ := hv
  have hx := B.exec
  have hb := B.bytes
  have hr := B.returns
  have hts := atoms_spec (ws := wsX5_rule) B.pre
  have hown : s.vm.findClass RX5 = some m.cls := findClass_of_methodNamed B.named
  have hlocks := B.notSynchronized
  have hS : va_S (fun _ => False) s.heap s.heap [] := va_S.rf
  have hl := lv_entry ([.ref x]) (n := 1) (Nat.le_of_ble_eq_true rfl)
  rw [lg_entry_eq]
  generalize (lg_sl ([.ref x]) ++ List.replicate (1 - (lg_sl ([.ref x])).length) Slot.unset).toArray = ls at hl ⊢
  have hl : lv_has ls 1 [(0, .ref x)] := hl
  unfold pX5_rule at hw
  refine lv_aload_n hx hb dX5_rule_0 rfl (lv_at hl 0 rfl) ?_
  refine va_get (D := D) (ci := 4) (v := .ref ag.1) (C := RX5) (T := TX5) (N := 6) hx hb hts (fun _ h => List.mem_cons_of_mem _ (List.mem_append_left _ (List.mem_append_left _ (List.mem_append_right _ h)))) hown hK hP 0 rfl rfl 0 (by decide) (hts (.fieldLink RX5 10 "HazelGift" "game" "LHazelGift$Game;") (List.mem_of_getElem? (i := 1) rfl)) (fun _ h9 => h9) rfl dX5_rule_1 ?_
  refine gVa (r := .ref ag.2.1) (As := []) (rest := []) (cs' := wG kI ag u.2.1) ⟨hx, hb, hml, hown, hts⟩ (kX2_board l D kI kC kG kJ ag u.2.1) (cwV 0 hts gX5_rule_X2_board rfl rfl rfl hdX2_board ⟨Nat.le_of_ble_eq_true rfl, Nat.le_of_ble_eq_true rfl⟩) hK hP hE hS [1, 2, 3, 4] rfl (ci := 1) (q0 := 0) rfl rfl rfl rfl hl.1 rfl (Nat.le_of_ble_eq_true rfl) dX5_rule_4 ⟨Nat.le_of_ble_eq_true rfl, Nat.le_of_ble_eq_true rfl⟩ ?_
  refine gVi (As := []) (rest := []) (cs' := wB kI ag.2.1 ag.2.2.1 u.2.1.2.2.2) ⟨hx, hb, hml, hown, hts⟩ (kX0_lineRule l D kI kC kG kJ ag.2.1 ag.2.2.1 u.2.1.2.2.2 _ hw) (cwV 0 hts gX5_rule_X0_lineRule rfl rfl rfl hdX0_lineRule ⟨Nat.le_of_ble_eq_true rfl, Nat.le_of_ble_eq_true rfl⟩) hK hP hE hS [3, 4] rfl (ci := 0) (q0 := 0) rfl rfl rfl rfl hl.1 rfl (Nat.le_of_ble_eq_true rfl) dX5_rule_7 ⟨Nat.le_of_ble_eq_true rfl, Nat.le_of_ble_eq_true rfl⟩ (fun r2 hw => ?_)
  exact W.iret (v := r2) hx hb hr (fun t ht hW => ⟨_, rfl, hw, ht⟩) (fun _ h => by cases h) dX5_rule_10
set_option maxHeartbeats 4000000 in
set_option maxRecDepth 100000 in
theorem kX5_recordedStates (l : Launch) (D : va_G) (kI kC kG kJ : ClassId) (x : Nat) (ag at_ as_ : AG) (hh hst : Nat) (a0 a1 a2 a3 : AG) (tx tch : Nat) (u : SX) (Z : Int32 → Prop) (hw : pX5_recordedStates u Z) : Met l yX5_recordedStates wsX5_recordedStates ({ frames := 1, cells := 0, slots := 0, locals := 20 } : Room) (gPr D (gT kI kC kG kJ) [.ref x] (wX kI kC kG x ag at_ as_ hh hst a0 a1 a2 a3 tx tch u)) (vp_Si Z) 0 0 (fun _ => False) := by
  refine Met.ofW (cc := cX5_recordedStates) (maxL := 1) (ret := (some .int)) (by decide) rfl ?_
  intro p e s m args below meth c s₁ B hml hv
  obtain ⟨rfl, hP, hK, hE⟩ := hv
  have hx := B.exec
  have hb := B.bytes
  have hr := B.returns
  have hts := atoms_spec (ws := wsX5_recordedStates) B.pre
  have hown : s.vm.findClass RX5 = some m.cls := findClass_of_methodNamed B.named
  have hlocks := B.notSynchronized
  have hS : va_S (fun _ => False) s.heap s.heap [] := va_S.rf
  have hl := lv_entry ([.ref x]) (n := 1) (Nat.le_of_ble_eq_true rfl)
  rw [lg_entry_eq]
  generalize (lg_sl ([.ref x]) ++ List.replicate (1 - (lg_sl ([.ref x])).length) Slot.unset).toArray = ls at hl ⊢
  have hl : lv_has ls 1 [(0, .ref x)] := hl
  unfold pX5_recordedStates at hw
  refine lv_aload_n hx hb dX5_recordedStates_0 rfl (lv_at hl 0 rfl) ?_
  refine va_get (D := D) (ci := 4) (v := .ref hh) (C := RX5) (T := TX5) (N := 6) hx hb hts (fun _ h => List.mem_cons_of_mem _ (List.mem_append_left _ (List.mem_append_right _ h))) hown hK hP 0 rfl rfl 4 (by decide) (hts (.fieldLink RX5 29 "HazelGift" "history" "LHazelGift$History;") (List.mem_of_getElem? (i := 1) rfl)) (fun _ h9 => h9) rfl dX5_recordedStates_1 ?_
  refine gVi (As := []) (rest := []) (cs' := wH kI kG hh hst a0 a1 a2 a3 u.2.2.2.2.1) ⟨hx, hb, hml, hown, hts⟩ (kX3_size l D kI kC kG kJ hh hst a0 a1 a2 a3 u.2.2.2.2.1 _ hw) (cwV 0 hts gX5_recordedStates_X3_size rfl rfl rfl hdX3_size ⟨Nat.le_of_ble_eq_true rfl, Nat.le_of_ble_eq_true rfl⟩) hK hP hE hS [13, 14, 15, 16, 17, 18, 19, 20, 21, 22, 23, 24, 25, 26, 27, 28, 29, 30] rfl (ci := 2) (q0 := 0) rfl rfl rfl rfl hl.1 rfl (Nat.le_of_ble_eq_true rfl) dX5_recordedStates_4 ⟨Nat.le_of_ble_eq_true rfl, Nat.le_of_ble_eq_true rfl⟩ (fun r1 hw => ?_)
  exact W.iret (v := r1) hx hb hr (fun t ht hW => ⟨_, rfl, hw, ht⟩) (fun _ h => by cases h) dX5_recordedStates_7
set_option maxHeartbeats 4000000 in
set_option maxRecDepth 100000 in
theorem kX5_takeSnapshot (l : Launch) (D : va_G) (kI kC kG kJ : ClassId) (x : Nat) (ag at_ as_ : AG) (hh hst : Nat) (a0 a1 a2 a3 : AG) (tx tch : Nat) (sz : Nat) (u : SX) (Z : Int32 → SX → Prop) (hw : pX5_takeSnapshot u Z) : Met l yX5_takeSnapshot wsX5_takeSnapshot ({ frames := 2, cells := 0, slots := 0, locals := 44 } : Room) (gPw D (gT kI kC kG kJ) [.ref x] (wX kI kC kG x ag at_ as_ hh hst a0 a1 a2 a3 tx tch u) sz) (va_Qi Z (gB D (gT kI kC kG kJ) (fun (zz : SX) => wX kI kC kG x ag at_ as_ hh hst a0 a1 a2 a3 tx tch zz) (va_A (wX kI kC kG x ag at_ as_ hh hst a0 a1 a2 a3 tx tch u) sz)) (va_A (wX kI kC kG x ag at_ as_ hh hst a0 a1 a2 a3 tx tch u) sz)) 0 0 (va_A (wX kI kC kG x ag at_ as_ hh hst a0 a1 a2 a3 tx tch u) sz) := by
  refine Met.ofW (cc := cX5_takeSnapshot) (maxL := 1) (ret := (some .int)) (by decide) rfl ?_
  intro p e s m args below meth c s₁ B hml hv
  obtain ⟨rfl, hsz, hP, hK, hD0, hE⟩ := hv
  have hx := B.exec
  have hb := B.bytes
  have hr := B.returns
  have hts := atoms_spec (ws := wsX5_takeSnapshot) B.pre
  have hown : s.vm.findClass RX5 = some m.cls := findClass_of_methodNamed B.named
  have hlocks := B.notSynchronized
  subst hsz
  have hD := hD0.self (sz := s.heap.size)
  generalize hAe : va_A (wX kI kC kG x ag at_ as_ hh hst a0 a1 a2 a3 tx tch u) s.heap.size = A at hD hE ⊢
  have hA : ∀ q : Nat, s.heap.size ≤ q → A q := fun q h => by rw [← hAe]; exact Or.inr h
  have hS : va_S A s.heap s.heap [] := va_S.rf
  clear hAe hD0
  have hl := lv_entry ([.ref x]) (n := 1) (Nat.le_of_ble_eq_true rfl)
  rw [lg_entry_eq]
  generalize (lg_sl ([.ref x]) ++ List.replicate (1 - (lg_sl ([.ref x])).length) Slot.unset).toArray = ls at hl ⊢
  have hl : lv_has ls 1 [(0, .ref x)] := hl
  have hP : va_P D vwCl (wX kI kC kG x ag at_ as_ hh hst a0 a1 a2 a3 tx tch u) s.heap := hP
  unfold pX5_takeSnapshot at hw
  refine lv_aload_n hx hb dX5_takeSnapshot_0 rfl (lv_at hl 0 rfl) ?_
  refine va_get (D := D) (ci := 4) (v := .ref as_.1) (C := RX5) (T := TX5) (N := 6) hx hb hts (fun _ h => List.mem_cons_of_mem _ (List.mem_append_left _ (List.mem_append_left _ (List.mem_append_right _ h)))) hown hK hP 0 rfl rfl 2 (by decide) (hts (.fieldLink RX5 19 "HazelGift" "snapshot" "LHazelGift$Game;") (List.mem_of_getElem? (i := 1) rfl)) (fun _ h9 => h9) rfl dX5_takeSnapshot_1 ?_
  refine lv_aload_n hx hb dX5_takeSnapshot_4 rfl (lv_at hl 0 rfl) ?_
  refine va_get (D := D) (ci := 4) (v := .ref ag.1) (C := RX5) (T := TX5) (N := 6) hx hb hts (fun _ h => List.mem_cons_of_mem _ (List.mem_append_left _ (List.mem_append_left _ (List.mem_append_right _ h)))) hown hK hP 0 rfl rfl 0 (by decide) (hts (.fieldLink RX5 10 "HazelGift" "game" "LHazelGift$Game;") (List.mem_of_getElem? (i := 2) rfl)) (fun _ h9 => h9) rfl dX5_takeSnapshot_5 ?_
  refine gWVv (S := SG × SG) (As := [.ref ag.1]) (rest := []) (wc := wG kI as_ u.2.2.2.1 ++ wG kI ag u.2.1) (wr := [(x, .inr (4, [.ref ag.1, .ref at_.1, .ref as_.1, .int u.1, .ref hh, .ref tx]))] ++ wG kI at_ u.2.2.1 ++ [(hh, .inr (2, [.ref hst, .int u.2.2.2.2.1.1, .int u.2.2.2.2.1.2.1])), (hst, .inl (kG, 4, .inr (.inr (.inr (.inr (fH a0 a1 a2 a3))))))] ++ wG kI a0 u.2.2.2.2.1.2.2.1 ++ wG kI a1 u.2.2.2.2.1.2.2.2.1 ++ wG kI a2 u.2.2.2.2.1.2.2.2.2.1 ++ wG kI a3 u.2.2.2.2.1.2.2.2.2.2 ++ wT kC tx tch u.2.2.2.2.2) (cs1 := (fun zz : SG × SG => wG kI as_ zz.1 ++ wG kI ag zz.2)) (ws2 := (fun zz : SG × SG => wX kI kC kG x ag at_ as_ hh hst a0 a1 a2 a3 tx tch (u.1, zz.2, u.2.2.1, zz.1, u.2.2.2.2.1, u.2.2.2.2.2))) ⟨hx, hb, hml, hown, hts⟩ (fun sz => kX2_copyFrom l D kI kC kG kJ as_ ag sz u.2.2.2.1 u.2.1 _ hw) (cwV 1 hts gX5_takeSnapshot_X2_copyFrom rfl rfl rfl hdX2_copyFrom ⟨Nat.le_of_ble_eq_true rfl, Nat.le_of_ble_eq_true rfl⟩) hK hP hD hE hS hA [9, 10, 11, 12, 1, 2, 3, 4] [0, 5, 6, 7, 8, 13, 14, 15, 16, 17, 18, 19, 20, 21, 22, 23, 24, 25, 26, 27, 28, 29, 30, 31, 32] rfl rfl rfl rfl (by decide) [0, 29, 30, 31, 32, 1, 2, 3, 4, 25, 26, 27, 28, 5, 6, 7, 8, 9, 10, 11, 12, 13, 14, 15, 16, 17, 18, 19, 20, 21, 22, 23, 24] rfl (fun _ => rfl) (ci := 1) (q0 := 0) rfl rfl rfl rfl hl.1 rfl (Nat.le_of_ble_eq_true rfl) dX5_takeSnapshot_8 ⟨Nat.le_of_ble_eq_true rfl, Nat.le_of_ble_eq_true rfl⟩ (fun w1 H locs hw hP hD hS => ?_)
  have hP : va_P D vwCl (wX kI kC kG x ag at_ as_ hh hst a0 a1 a2 a3 tx tch (u.1, w1.2, u.2.2.1, w1.1, u.2.2.2.2.1, u.2.2.2.2.2)) H := hP
  have hD : va_D A (wX kI kC kG x ag at_ as_ hh hst a0 a1 a2 a3 tx tch (u.1, w1.2, u.2.2.1, w1.1, u.2.2.2.2.1, u.2.2.2.2.2)) := hD
  refine lv_aload_n hx hb dX5_takeSnapshot_11 rfl (lv_at hl 0 rfl) ?_
  refine lv_iconst (v := 1) hx hb dX5_takeSnapshot_12 (by decide) ?_
  refine va_put (D := D) (ci := 4) (v := .int 1) (ty := tyX5 3) (C := RX5) (T := TX5) (N := 6) hx hb hts (fun _ h => List.mem_cons_of_mem _ (List.mem_append_left _ (List.mem_append_left _ (List.mem_append_right _ h)))) tyX5 tyX5_ok nmX5 hown hK hP hD hS 0 rfl rfl 3 (by decide) (hts (.fieldLink RX5 22 "HazelGift" "hasSnapshot" "Z") (List.mem_of_getElem? (i := 3) rfl)) (fun _ h9 => h9) rfl (tyX5_ok 3 (by decide)) rfl rfl (Nat.le_of_ble_eq_true rfl) dX5_takeSnapshot_13 (fun H locs hP hD hS => ?_)
  have hP : va_P D vwCl (wX kI kC kG x ag at_ as_ hh hst a0 a1 a2 a3 tx tch (1, w1.2, u.2.2.1, w1.1, u.2.2.2.2.1, u.2.2.2.2.2)) H := hP
  have hD : va_D A (wX kI kC kG x ag at_ as_ hh hst a0 a1 a2 a3 tx tch (1, w1.2, u.2.2.1, w1.1, u.2.2.2.2.1, u.2.2.2.2.2)) := hD
  refine lv_aload_n hx hb dX5_takeSnapshot_16 rfl (lv_at hl 0 rfl) ?_
  refine va_get (D := D) (ci := 4) (v := .ref ag.1) (C := RX5) (T := TX5) (N := 6) hx hb hts (fun _ h => List.mem_cons_of_mem _ (List.mem_append_left _ (List.mem_append_left _ (List.mem_append_right _ h)))) hown hK hP 0 rfl rfl 0 (by decide) (hts (.fieldLink RX5 10 "HazelGift" "game" "LHazelGift$Game;") (List.mem_of_getElem? (i := 2) rfl)) (fun _ h9 => h9) rfl dX5_takeSnapshot_17 ?_
  refine gVa (r := .ref ag.2.1) (As := []) (rest := []) (cs' := wG kI ag w1.2) ⟨hx, hb, hml, hown, hts⟩ (kX2_board l D kI kC kG kJ ag w1.2) (cwV 0 hts gX5_takeSnapshot_X2_board rfl rfl rfl hdX2_board ⟨Nat.le_of_ble_eq_true rfl, Nat.le_of_ble_eq_true rfl⟩) hK hP hE hS [1, 2, 3, 4] rfl (ci := 1) (q0 := 0) rfl rfl rfl rfl hl.1 rfl (Nat.le_of_ble_eq_true rfl) dX5_takeSnapshot_20 ⟨Nat.le_of_ble_eq_true rfl, Nat.le_of_ble_eq_true rfl⟩ ?_
  refine gVi (As := []) (rest := []) (cs' := wB kI ag.2.1 ag.2.2.1 w1.2.2.2.2) ⟨hx, hb, hml, hown, hts⟩ (kX0_count l D kI kC kG kJ ag.2.1 ag.2.2.1 w1.2.2.2.2 _ hw) (cwV 0 hts gX5_takeSnapshot_X0_count rfl rfl rfl hdX0_count ⟨Nat.le_of_ble_eq_true rfl, Nat.le_of_ble_eq_true rfl⟩) hK hP hE hS [3, 4] rfl (ci := 0) (q0 := 0) rfl rfl rfl rfl hl.1 rfl (Nat.le_of_ble_eq_true rfl) dX5_takeSnapshot_23 ⟨Nat.le_of_ble_eq_true rfl, Nat.le_of_ble_eq_true rfl⟩ (fun r3 hw => ?_)
  exact W.iret (v := r3) hx hb hr (fun t ht hW => ⟨⟨r3, (1, w1.2, u.2.2.1, w1.1, u.2.2.2.2.1, u.2.2.2.2.2), rfl, hw, by rw [ht]; exact hP, va_K.moved hW.alike hK, hD⟩, hS.F ht⟩) hS.2.2 dX5_takeSnapshot_26
