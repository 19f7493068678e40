set_option maxHeartbeats 4000000 in
set_option maxRecDepth 100000 in
theorem kX5_requirePiece_n (l : Launch) (D : va_G) (kI kC kG kJ : ClassId) (sz : Nat) (p0 : Int32) (Z : Unit → Prop) (hw : pX5_requirePiece p0 Z (fun _ _ => False)) : Met l yX5_requirePiece wsX5_requirePiece ({ frames := 0, cells := 0, slots := 0, locals := 0 } : Room) (gPw D (gT kI kC kG kJ) [.int p0] (([] : va_W)) sz) (va_Qv Z (gB D (gT kI kC kG kJ) (fun (zz : Unit) => ([] : va_W)) (va_A (([] : va_W)) sz)) (va_A (([] : va_W)) sz)) 0 0 (va_A (([] : va_W)) sz) := by
  refine Met.ofW (cc := cX5_requirePiece) (maxL := 1) (ret := none) (by decide) rfl ?_
  intro p e s m args below meth c s₁ B hml hv
  obtain ⟨rfl, hsz, hP, hK, hD0, hE⟩ := hv
  have hx := B.exec
  have hb := B.bytes
  have hr := B.returns
  have hts := atoms_spec (ws := wsX5_requirePiece) B.pre
  have hown : s.vm.findClass RX5 = some m.cls := findClass_of_methodNamed B.named
  have hlocks := B.notSynchronized
  subst hsz
  have hD := hD0.self (sz := s.heap.size)
  generalize hAe : va_A (([] : va_W)) s.heap.size = A at hD hE ⊢
  have hA : ∀ q : Nat, s.heap.size ≤ q → A q := fun q h => by rw [← hAe]; exact Or.inr h
  have hS : va_S A s.heap s.heap [] := va_S.rf
  clear hAe hD0
  have hl := lv_entry ([.int p0]) (n := 1) (Nat.le_of_ble_eq_true rfl)
  rw [lg_entry_eq]
  generalize (lg_sl ([.int p0]) ++ List.replicate (1 - (lg_sl ([.int p0])).length) Slot.unset).toArray = ls at hl ⊢
  have hl : lv_has ls 1 [(0, .int p0)] := hl
  have hP : va_P D vwCl (([] : va_W)) s.heap := hP
  unfold pX5_requirePiece at hw
  refine lv_iload_n hx hb dX5_requirePiece_0 rfl (lv_at hl 0 rfl) ?_
  refine lv_if_lt (tgt := 10) hx hb dX5_requirePiece_1 (by decide) (fun c1 => ?_) (fun c1 => ?_)
  · replace hw := Eq.mp (if_pos c1) hw
    exact (hw : False).elim
  · replace hw := Eq.mp (if_neg c1) hw
    refine lv_iload_n hx hb dX5_requirePiece_4 rfl (lv_at hl 0 rfl) ?_
    refine lv_bipush (v := 16) hx hb dX5_requirePiece_5 (by decide) ?_
    refine lv_icmp_lt (tgt := 20) hx hb dX5_requirePiece_7 (by decide) (fun c2 => ?_) (fun c2 => ?_)
    · replace hw := Eq.mp (if_pos c2) hw
      exact W.vret hx hb hr (fun t ht hW => ⟨⟨(), rfl, hw, by rw [ht]; exact hP, va_K.moved hW.alike hK, hD⟩, hS.F ht⟩) hS.2.2 dX5_requirePiece_20
    · replace hw := Eq.mp (if_neg c2) hw
      exact (hw : False).elim
set_option maxHeartbeats 4000000 in
set_option maxRecDepth 100000 in
theorem kX5_requireCell_n (l : Launch) (D : va_G) (kI kC kG kJ : ClassId) (sz : Nat) (p0 : Int32) (Z : Unit → Prop) (hw : pX5_requireCell p0 Z (fun _ _ => False)) : Met l yX5_requireCell wsX5_requireCell ({ frames := 0, cells := 0, slots := 0, locals := 0 } : Room) (gPw D (gT kI kC kG kJ) [.int p0] (([] : va_W)) sz) (va_Qv Z (gB D (gT kI kC kG kJ) (fun (zz : Unit) => ([] : va_W)) (va_A (([] : va_W)) sz)) (va_A (([] : va_W)) sz)) 0 0 (va_A (([] : va_W)) sz) := by
  refine Met.ofW (cc := cX5_requireCell) (maxL := 1) (ret := none) (by decide) rfl ?_
  intro p e s m args below meth c s₁ B hml hv
  obtain ⟨rfl, hsz, hP, hK, hD0, hE⟩ := hv
  have hx := B.exec
  have hb := B.bytes
  have hr := B.returns
  have hts := atoms_spec (ws := wsX5_requireCell) B.pre
  have hown : s.vm.findClass RX5 = some m.cls := findClass_of_methodNamed B.named
  have hlocks := B.notSynchronized
  subst hsz
  have hD := hD0.self (sz := s.heap.size)
  generalize hAe : va_A (([] : va_W)) s.heap.size = A at hD hE ⊢
  have hA : ∀ q : Nat, s.heap.size ≤ q → A q := fun q h => by rw [← hAe]; exact Or.inr h
  have hS : va_S A s.heap s.heap [] := va_S.rf
  clear hAe hD0
  have hl := lv_entry ([.int p0]) (n := 1) (Nat.le_of_ble_eq_true rfl)
  rw [lg_entry_eq]
  generalize (lg_sl ([.int p0]) ++ List.replicate (1 - (lg_sl ([.int p0])).length) Slot.unset).toArray = ls at hl ⊢
  have hl : lv_has ls 1 [(0, .int p0)] := hl
  have hP : va_P D vwCl (([] : va_W)) s.heap := hP
  unfold pX5_requireCell at hw
  refine lv_iload_n hx hb dX5_requireCell_0 rfl (lv_at hl 0 rfl) ?_
  refine lv_if_lt (tgt := 10) hx hb dX5_requireCell_1 (by decide) (fun c1 => ?_) (fun c1 => ?_)
  · replace hw := Eq.mp (if_pos c1) hw
    exact (hw : False).elim
  · replace hw := Eq.mp (if_neg c1) hw
    refine lv_iload_n hx hb dX5_requireCell_4 rfl (lv_at hl 0 rfl) ?_
    refine lv_bipush (v := 16) hx hb dX5_requireCell_5 (by decide) ?_
    refine lv_icmp_lt (tgt := 20) hx hb dX5_requireCell_7 (by decide) (fun c2 => ?_) (fun c2 => ?_)
    · replace hw := Eq.mp (if_pos c2) hw
      exact W.vret hx hb hr (fun t ht hW => ⟨⟨(), rfl, hw, by rw [ht]; exact hP, va_K.moved hW.alike hK, hD⟩, hS.F ht⟩) hS.2.2 dX5_requireCell_20
    · replace hw := Eq.mp (if_neg c2) hw
      exact (hw : False).elim
set_option maxHeartbeats 4000000 in
set_option maxRecDepth 100000 in
theorem kX5_requireLine_n (l : Launch) (D : va_G) (kI kC kG kJ : ClassId) (x : Nat) (ag at_ as_ : AG) (hh hst : Nat) (a0 a1 a2 a3 : AG) (tx tch : Nat) (sz : Nat) (u : SX) (p0 : Int32) (Z : SX → Prop) (hw : pX5_requireLine p0 u Z (fun _ _ => False)) : Met l yX5_requireLine wsX5_requireLine ({ frames := 1, cells := 0, slots := 0, locals := 20 } : Room) (gPw D (gT kI kC kG kJ) [.ref x, .int p0] (wX kI kC kG x ag at_ as_ hh hst a0 a1 a2 a3 tx tch u) sz) (va_Qv Z (gB D (gT kI kC kG kJ) (fun (zz : SX) => wX kI kC kG x ag at_ as_ hh hst a0 a1 a2 a3 tx tch zz) (va_A (wX kI kC kG x ag at_ as_ hh hst a0 a1 a2 a3 tx tch u) sz)) (va_A (wX kI kC kG x ag at_ as_ hh hst a0 a1 a2 a3 tx tch u) sz)) 0 0 (va_A (wX kI kC kG x ag at_ as_ hh hst a0 a1 a2 a3 tx tch u) sz) := by
  refine Met.ofW (cc := cX5_requireLine) (maxL := 2) (ret := none) (by decide) rfl ?_
  intro p e s m args below meth c s₁ B hml hv
  obtain ⟨rfl, hsz, hP, hK, hD0, hE⟩ := hv
  have hx := B.exec
  have hb := B.bytes
  have hr := B.returns
  have hts := atoms_spec (ws := wsX5_requireLine) B.pre
  have hown : s.vm.findClass RX5 = some m.cls := findClass_of_methodNamed B.named
  have hlocks := B.notSynchronized
  subst hsz
  have hD := hD0.self (sz := s.heap.size)
  generalize hAe : va_A (wX kI kC kG x ag at_ as_ hh hst a0 a1 a2 a3 tx tch u) s.heap.size = A at hD hE ⊢
  have hA : ∀ q : Nat, s.heap.size ≤ q → A q := fun q h => by rw [← hAe]; exact Or.inr h
  have hS : va_S A s.heap s.heap [] := va_S.rf
  clear hAe hD0
  have hl := lv_entry ([.ref x, .int p0]) (n := 2) (Nat.le_of_ble_eq_true rfl)
  rw [lg_entry_eq]
  generalize (lg_sl ([.ref x, .int p0]) ++ List.replicate (2 - (lg_sl ([.ref x, .int p0])).length) Slot.unset).toArray = ls at hl ⊢
  have hl : lv_has ls 2 [(0, .ref x), (1, .int p0)] := hl
  have hP : va_P D vwCl (wX kI kC kG x ag at_ as_ hh hst a0 a1 a2 a3 tx tch u) s.heap := hP
  unfold pX5_requireLine at hw
  refine lv_iload_n hx hb dX5_requireLine_0 rfl (lv_at hl 1 rfl) ?_
  refine lv_if_lt (tgt := 18) hx hb dX5_requireLine_1 (by decide) (fun c1 => ?_) (fun c1 => ?_)
  · replace hw := Eq.mp (if_pos c1) hw
    exact (hw : False).elim
  · replace hw := Eq.mp (if_neg c1) hw
    refine lv_iload_n hx hb dX5_requireLine_4 rfl (lv_at hl 1 rfl) ?_
    refine lv_aload_n hx hb dX5_requireLine_5 rfl (lv_at hl 0 rfl) ?_
    refine va_get (D := D) (ci := 4) (v := .ref ag.1) (C := RX5) (T := TX5) (N := 6) hx hb hts (fun _ h => List.mem_cons_of_mem _ (List.mem_append_left _ (List.mem_append_left _ (List.mem_append_left _ (List.mem_append_right _ h))))) hown hK hP 0 rfl rfl 0 (by decide) (hts (.fieldLink RX5 10 "HazelGift" "game" "LHazelGift$Game;") (List.mem_of_getElem? (i := 3) rfl)) (fun _ h9 => h9) rfl dX5_requireLine_6 ?_
    refine gVa (r := .ref ag.2.1) (As := []) (rest := [.int p0]) (cs' := wG kI ag u.2.1) ⟨hx, hb, hml, hown, hts⟩ (kX2_board l D kI kC kG kJ ag u.2.1) (cwV 0 hts gX5_requireLine_X2_board rfl rfl rfl hdX2_board ⟨Nat.le_of_ble_eq_true rfl, Nat.le_of_ble_eq_true rfl⟩) hK hP hE hS [1, 2, 3, 4] rfl (ci := 1) (q0 := 0) rfl rfl rfl rfl hl.1 rfl (Nat.le_of_ble_eq_true rfl) dX5_requireLine_9 ⟨Nat.le_of_ble_eq_true rfl, Nat.le_of_ble_eq_true rfl⟩ ?_
    refine gVi (As := []) (rest := [.int p0]) (cs' := wB kI ag.2.1 ag.2.2.1 u.2.1.2.2.2) ⟨hx, hb, hml, hown, hts⟩ (kX0_lineCount l D kI kC kG kJ ag.2.1 ag.2.2.1 u.2.1.2.2.2 _ hw) (cwV 0 hts gX5_requireLine_X0_lineCount rfl rfl rfl hdX0_lineCount ⟨Nat.le_of_ble_eq_true rfl, Nat.le_of_ble_eq_true rfl⟩) hK hP hE hS [3, 4] rfl (ci := 0) (q0 := 0) rfl rfl rfl rfl hl.1 rfl (Nat.le_of_ble_eq_true rfl) dX5_requireLine_12 ⟨Nat.le_of_ble_eq_true rfl, Nat.le_of_ble_eq_true rfl⟩ (fun r3 hw => ?_)
    refine lv_icmp_lt (tgt := 28) hx hb dX5_requireLine_15 (by decide) (fun c4 => ?_) (fun c4 => ?_)
    · replace hw := Eq.mp (if_pos c4) hw
      exact W.vret hx hb hr (fun t ht hW => ⟨⟨u, rfl, hw, by rw [ht]; exact hP, va_K.moved hW.alike hK, hD⟩, hS.F ht⟩) hS.2.2 dX5_requireLine_28
    · replace hw := Eq.mp (if_neg c4) hw
      exact (hw : False).elim
set_option maxHeartbeats 4000000 in
set_option maxRecDepth 100000 in
theorem kX5_restart_n (l : Launch) (D : va_G) (kI kC kG kJ : ClassId) (x : Nat) (ag at_ as_ : AG) (hh hst : Nat) (a0 a1 a2 a3 : AG) (tx tch : Nat) (sz : Nat) (u : SX) (p0 : Int32) (Z : Int32 → SX → Prop) (hw : pX5_restart p0 u Z (fun _ _ => False)) : Met l yX5_restart wsX5_restart ({ frames := 3, cells := 0, slots := 0, locals := 66 } : Room) (gPw D (gT kI kC kG kJ) [.ref x, .int p0] (wX kI kC kG x ag at_ as_ hh hst a0 a1 a2 a3 tx tch u) sz) (va_Qi Z (gB D (gT kI kC kG kJ) (fun (zz : SX) => wX kI kC kG x ag at_ as_ hh hst a0 a1 a2 a3 tx tch zz) (va_A (wX kI kC kG x ag at_ as_ hh hst a0 a1 a2 a3 tx tch u) sz)) (va_A (wX kI kC kG x ag at_ as_ hh hst a0 a1 a2 a3 tx tch u) sz)) 0 0 (va_A (wX kI kC kG x ag at_ as_ hh hst a0 a1 a2 a3 tx tch u) sz) := by
  refine Met.ofW (cc := cX5_restart) (maxL := 3) (ret := (some .int)) (by decide) rfl ?_
  intro p e s m args below meth c s₁ B hml hv
  obtain ⟨rfl, hsz, hP, hK, hD0, hE⟩ := hv
  have hx := B.exec
  have hb := B.bytes
  have hr := B.returns
  have hts := atoms_spec (ws := wsX5_restart) B.pre
  have hown : s.vm.findClass RX5 = some m.cls := findClass_of_methodNamed B.named
  have hlocks := B.notSynchronized
  subst hsz
  have hD := hD0.self (sz := s.heap.size)
  generalize hAe : va_A (wX kI kC kG x ag at_ as_ hh hst a0 a1 a2 a3 tx tch u) s.heap.size = A at hD hE ⊢
  have hA : ∀ q : Nat, s.heap.size ≤ q → A q := fun q h => by rw [← hAe]; exact Or.inr h
  have hS : va_S A s.heap s.heap [] := va_S.rf
  clear hAe hD0
  have hl := lv_entry ([.ref x, .int p0]) (n := 3) (Nat.le_of_ble_eq_true rfl)
  rw [lg_entry_eq]
  generalize (lg_sl ([.ref x, .int p0]) ++ List.replicate (3 - (lg_sl ([.ref x, .int p0])).length) Slot.unset).toArray = ls at hl ⊢
  have hl : lv_has ls 3 [(0, .ref x), (1, .int p0)] := hl
  have hP : va_P D vwCl (wX kI kC kG x ag at_ as_ hh hst a0 a1 a2 a3 tx tch u) s.heap := hP
  unfold pX5_restart at hw
  refine lv_iload_n hx hb dX5_restart_0 rfl (lv_at hl 1 rfl) ?_
  refine lv_if_eq (tgt := 19) hx hb dX5_restart_1 (by decide) (fun c1 => ?_) (fun c1 => ?_)
  · replace hw := Eq.mp (if_pos c1) hw
    refine lv_aload_n hx hb dX5_restart_19 rfl (lv_at hl 0 rfl) ?_
    refine va_get (D := D) (ci := 4) (v := .ref ag.1) (C := RX5) (T := TX5) (N := 6) hx hb hts (fun _ h => List.mem_cons_of_mem _ (List.mem_append_left _ (List.mem_append_left _ (List.mem_append_left _ (List.mem_append_left _ (List.mem_append_right _ h)))))) hown hK hP 0 rfl rfl 0 (by decide) (hts (.fieldLink RX5 10 "HazelGift" "game" "LHazelGift$Game;") (List.mem_of_getElem? (i := 3) rfl)) (fun _ h9 => h9) rfl dX5_restart_20 ?_
    refine gVa (r := .ref ag.2.1) (As := []) (rest := []) (cs' := wG kI ag u.2.1) ⟨hx, hb, hml, hown, hts⟩ (kX2_board l D kI kC kG kJ ag u.2.1) (cwV 0 hts gX5_restart_X2_board rfl rfl rfl hdX2_board ⟨Nat.le_of_ble_eq_true rfl, Nat.le_of_ble_eq_true rfl⟩) hK hP hE hS [1, 2, 3, 4] rfl (ci := 1) (q0 := 0) rfl rfl rfl rfl hl.1 rfl (Nat.le_of_ble_eq_true rfl) dX5_restart_23 ⟨Nat.le_of_ble_eq_true rfl, Nat.le_of_ble_eq_true rfl⟩ ?_
    refine gVi (As := []) (rest := []) (cs' := wB kI ag.2.1 ag.2.2.1 u.2.1.2.2.2) ⟨hx, hb, hml, hown, hts⟩ (kX0_count l D kI kC kG kJ ag.2.1 ag.2.2.1 u.2.1.2.2.2 _ hw) (cwV 0 hts gX5_restart_X0_count rfl rfl rfl hdX0_count ⟨Nat.le_of_ble_eq_true rfl, Nat.le_of_ble_eq_true rfl⟩) hK hP hE hS [3, 4] rfl (ci := 0) (q0 := 0) rfl rfl rfl rfl hl.1 rfl (Nat.le_of_ble_eq_true rfl) dX5_restart_26 ⟨Nat.le_of_ble_eq_true rfl, Nat.le_of_ble_eq_true rfl⟩ (fun r3 hw => ?_)
    refine lv_istore_n (lv' := [(2, .int r3), (0, .ref x), (1, .int p0)]) hx hb dX5_restart_29 rfl hl (by decide) rfl (fun ls hl => ?_)
    refine lv_aload_n hx hb dX5_restart_30 rfl (lv_at hl 1 rfl) ?_
    refine va_get (D := D) (ci := 4) (v := .ref hh) (C := RX5) (T := TX5) (N := 6) hx hb hts (fun _ h => List.mem_cons_of_mem _ (List.mem_append_left _ (List.mem_append_left _ (List.mem_append_left _ (List.mem_append_left _ (List.mem_append_right _ h)))))) hown hK hP 0 rfl rfl 4 (by decide) (hts (.fieldLink RX5 29 "HazelGift" "history" "LHazelGift$History;") (List.mem_of_getElem? (i := 4) rfl)) (fun _ h9 => h9) rfl dX5_restart_31 ?_
    refine lv_aload_n hx hb dX5_restart_34 rfl (lv_at hl 1 rfl) ?_
    refine va_get (D := D) (ci := 4) (v := .ref ag.1) (C := RX5) (T := TX5) (N := 6) hx hb hts (fun _ h => List.mem_cons_of_mem _ (List.mem_append_left _ (List.mem_append_left _ (List.mem_append_left _ (List.mem_append_left _ (List.mem_append_right _ h)))))) hown hK hP 0 rfl rfl 0 (by decide) (hts (.fieldLink RX5 10 "HazelGift" "game" "LHazelGift$Game;") (List.mem_of_getElem? (i := 3) rfl)) (fun _ h9 => h9) rfl dX5_restart_35 ?_
    refine gWVv (S := SH × SG) (As := [.ref ag.1]) (rest := []) (wc := wH kI kG hh hst a0 a1 a2 a3 u.2.2.2.2.1 ++ wG kI ag u.2.1) (wr := [(x, .inr (4, [.ref ag.1, .ref at_.1, .ref as_.1, .int u.1, .ref hh, .ref tx]))] ++ wG kI at_ u.2.2.1 ++ wG kI as_ u.2.2.2.1 ++ wT kC tx tch u.2.2.2.2.2) (cs1 := (fun zz : SH × SG => wH kI kG hh hst a0 a1 a2 a3 zz.1 ++ wG kI ag zz.2)) (ws2 := (fun zz : SH × SG => wX kI kC kG x ag at_ as_ hh hst a0 a1 a2 a3 tx tch (u.1, zz.2, u.2.2.1, u.2.2.2.1, zz.1, u.2.2.2.2.2))) ⟨hx, hb, hml, hown, hts⟩ (fun sz => kX3_record l D kI kC kG kJ hh hst a0 a1 a2 a3 ag sz u.2.2.2.2.1 u.2.1 _ hw) (cwV 1 hts gX5_restart_X3_record rfl rfl rfl hdX3_record ⟨Nat.le_of_ble_eq_true rfl, Nat.le_of_ble_eq_true rfl⟩) hK hP hD hE hS hA [13, 14, 15, 16, 17, 18, 19, 20, 21, 22, 23, 24, 25, 26, 27, 28, 29, 30, 1, 2, 3, 4] [0, 5, 6, 7, 8, 9, 10, 11, 12, 31, 32] rfl rfl rfl rfl (by decide) [0, 29, 30, 31, 32, 1, 2, 3, 4, 5, 6, 7, 8, 11, 12, 13, 14, 15, 16, 17, 18, 19, 20, 21, 22, 23, 24, 25, 26, 27, 28, 9, 10] rfl (fun _ => rfl) (ci := 2) (q0 := 0) rfl rfl rfl rfl hl.1 rfl (Nat.le_of_ble_eq_true rfl) dX5_restart_38 ⟨Nat.le_of_ble_eq_true rfl, Nat.le_of_ble_eq_true rfl⟩ (fun w4 H locs hw hP hD hS => ?_)
    have hP : va_P D vwCl (wX kI kC kG x ag at_ as_ hh hst a0 a1 a2 a3 tx tch (u.1, w4.2, u.2.2.1, u.2.2.2.1, w4.1, u.2.2.2.2.2)) H := hP
    have hD : va_D A (wX kI kC kG x ag at_ as_ hh hst a0 a1 a2 a3 tx tch (u.1, w4.2, u.2.2.1, u.2.2.2.1, w4.1, u.2.2.2.2.2)) := hD
    refine lv_aload_n hx hb dX5_restart_41 rfl (lv_at hl 1 rfl) ?_
    refine va_get (D := D) (ci := 4) (v := .ref ag.1) (C := RX5) (T := TX5) (N := 6) hx hb hts (fun _ h => List.mem_cons_of_mem _ (List.mem_append_left _ (List.mem_append_left _ (List.mem_append_left _ (List.mem_append_left _ (List.mem_append_right _ h)))))) hown hK hP 0 rfl rfl 0 (by decide) (hts (.fieldLink RX5 10 "HazelGift" "game" "LHazelGift$Game;") (List.mem_of_getElem? (i := 3) rfl)) (fun _ h9 => h9) rfl dX5_restart_42 ?_
    refine lv_iload_n hx hb dX5_restart_45 rfl (lv_at hl 2 rfl) ?_
    refine gWVv (S := SG) (As := [.int p0]) (rest := []) (wc := wG kI ag w4.2) (wr := [(x, .inr (4, [.ref ag.1, .ref at_.1, .ref as_.1, .int u.1, .ref hh, .ref tx]))] ++ wG kI at_ u.2.2.1 ++ wG kI as_ u.2.2.2.1 ++ [(hh, .inr (2, [.ref hst, .int w4.1.1, .int w4.1.2.1])), (hst, .inl (kG, 4, .inr (.inr (.inr (.inr (fH a0 a1 a2 a3))))))] ++ wG kI a0 w4.1.2.2.1 ++ wG kI a1 w4.1.2.2.2.1 ++ wG kI a2 w4.1.2.2.2.2.1 ++ wG kI a3 w4.1.2.2.2.2.2 ++ wT kC tx tch u.2.2.2.2.2) (cs1 := (fun zz : SG => wG kI ag zz)) (ws2 := (fun zz : SG => wX kI kC kG x ag at_ as_ hh hst a0 a1 a2 a3 tx tch (u.1, zz, u.2.2.1, u.2.2.2.1, w4.1, u.2.2.2.2.2))) ⟨hx, hb, hml, hown, hts⟩ (fun sz => kX2_begin l D kI kC kG kJ ag sz w4.2 p0 _ hw) (cwV 1 hts gX5_restart_X2_begin rfl rfl rfl hdX2_begin ⟨Nat.le_of_ble_eq_true rfl, Nat.le_of_ble_eq_true rfl⟩) hK hP hD hE hS hA [1, 2, 3, 4] [0, 5, 6, 7, 8, 9, 10, 11, 12, 13, 14, 15, 16, 17, 18, 19, 20, 21, 22, 23, 24, 25, 26, 27, 28, 29, 30, 31, 32] rfl rfl rfl rfl (by decide) [0, 29, 30, 31, 32, 1, 2, 3, 4, 5, 6, 7, 8, 9, 10, 11, 12, 13, 14, 15, 16, 17, 18, 19, 20, 21, 22, 23, 24, 25, 26, 27, 28] rfl (fun _ => rfl) (ci := 1) (q0 := 0) rfl rfl rfl rfl hl.1 rfl (Nat.le_of_ble_eq_true rfl) dX5_restart_46 ⟨Nat.le_of_ble_eq_true rfl, Nat.le_of_ble_eq_true rfl⟩ (fun w5 H locs hw hP hD hS => ?_)
    have hP : va_P D vwCl (wX kI kC kG x ag at_ as_ hh hst a0 a1 a2 a3 tx tch (u.1, w5, u.2.2.1, u.2.2.2.1, w4.1, u.2.2.2.2.2)) H := hP
    have hD : va_D A (wX kI kC kG x ag at_ as_ hh hst a0 a1 a2 a3 tx tch (u.1, w5, u.2.2.1, u.2.2.2.1, w4.1, u.2.2.2.2.2)) := hD
    refine lv_iload_n hx hb dX5_restart_49 rfl (lv_at hl 0 rfl) ?_
    exact W.iret (v := r3) hx hb hr (fun t ht hW => ⟨⟨r3, (u.1, w5, u.2.2.1, u.2.2.2.1, w4.1, u.2.2.2.2.2), rfl, hw, by rw [ht]; exact hP, va_K.moved hW.alike hK, hD⟩, hS.F ht⟩) hS.2.2 dX5_restart_50
  · replace hw := Eq.mp (if_neg c1) hw
    refine lv_iload_n hx hb dX5_restart_4 rfl (lv_at hl 1 rfl) ?_
    refine lv_iconst (v := 1) hx hb dX5_restart_5 (by decide) ?_
    refine lv_icmp_eq (tgt := 19) hx hb dX5_restart_6 (by decide) (fun c6 => ?_) (fun c6 => ?_)
    · replace hw := Eq.mp (if_pos c6) hw
      refine lv_aload_n hx hb dX5_restart_19 rfl (lv_at hl 0 rfl) ?_
      refine va_get (D := D) (ci := 4) (v := .ref ag.1) (C := RX5) (T := TX5) (N := 6) hx hb hts (fun _ h => List.mem_cons_of_mem _ (List.mem_append_left _ (List.mem_append_left _ (List.mem_append_left _ (List.mem_append_left _ (List.mem_append_right _ h)))))) hown hK hP 0 rfl rfl 0 (by decide) (hts (.fieldLink RX5 10 "HazelGift" "game" "LHazelGift$Game;") (List.mem_of_getElem? (i := 3) rfl)) (fun _ h9 => h9) rfl dX5_restart_20 ?_
      refine gVa (r := .ref ag.2.1) (As := []) (rest := []) (cs' := wG kI ag u.2.1) ⟨hx, hb, hml, hown, hts⟩ (kX2_board l D kI kC kG kJ ag u.2.1) (cwV 0 hts gX5_restart_X2_board rfl rfl rfl hdX2_board ⟨Nat.le_of_ble_eq_true rfl, Nat.le_of_ble_eq_true rfl⟩) hK hP hE hS [1, 2, 3, 4] rfl (ci := 1) (q0 := 0) rfl rfl rfl rfl hl.1 rfl (Nat.le_of_ble_eq_true rfl) dX5_restart_23 ⟨Nat.le_of_ble_eq_true rfl, Nat.le_of_ble_eq_true rfl⟩ ?_
      refine gVi (As := []) (rest := []) (cs' := wB kI ag.2.1 ag.2.2.1 u.2.1.2.2.2) ⟨hx, hb, hml, hown, hts⟩ (kX0_count l D kI kC kG kJ ag.2.1 ag.2.2.1 u.2.1.2.2.2 _ hw) (cwV 0 hts gX5_restart_X0_count rfl rfl rfl hdX0_count ⟨Nat.le_of_ble_eq_true rfl, Nat.le_of_ble_eq_true rfl⟩) hK hP hE hS [3, 4] rfl (ci := 0) (q0 := 0) rfl rfl rfl rfl hl.1 rfl (Nat.le_of_ble_eq_true rfl) dX5_restart_26 ⟨Nat.le_of_ble_eq_true rfl, Nat.le_of_ble_eq_true rfl⟩ (fun r8 hw => ?_)
      refine lv_istore_n (lv' := [(2, .int r8), (0, .ref x), (1, .int p0)]) hx hb dX5_restart_29 rfl hl (by decide) rfl (fun ls hl => ?_)
      refine lv_aload_n hx hb dX5_restart_30 rfl (lv_at hl 1 rfl) ?_
      refine va_get (D := D) (ci := 4) (v := .ref hh) (C := RX5) (T := TX5) (N := 6) hx hb hts (fun _ h => List.mem_cons_of_mem _ (List.mem_append_left _ (List.mem_append_left _ (List.mem_append_left _ (List.mem_append_left _ (List.mem_append_right _ h)))))) hown hK hP 0 rfl rfl 4 (by decide) (hts (.fieldLink RX5 29 "HazelGift" "history" "LHazelGift$History;") (List.mem_of_getElem? (i := 4) rfl)) (fun _ h9 => h9) rfl dX5_restart_31 ?_
      refine lv_aload_n hx hb dX5_restart_34 rfl (lv_at hl 1 rfl) ?_
      refine va_get (D := D) (ci := 4) (v := .ref ag.1) (C := RX5) (T := TX5) (N := 6) hx hb hts (fun _ h => List.mem_cons_of_mem _ (List.mem_append_left _ (List.mem_append_left _ (List.mem_append_left _ (List.mem_append_left _ (List.mem_append_right _ h)))))) hown hK hP 0 rfl rfl 0 (by decide) (hts (.fieldLink RX5 10 "HazelGift" "game" "LHazelGift$Game;") (List.mem_of_getElem? (i := 3) rfl)) (fun _ h9 => h9) rfl dX5_restart_35 ?_
      refine gWVv (S := SH × SG) (As := [.ref ag.1]) (rest := []) (wc := wH kI kG hh hst a0 a1 a2 a3 u.2.2.2.2.1 ++ wG kI ag u.2.1) (wr := [(x, .inr (4, [.ref ag.1, .ref at_.1, .ref as_.1, .int u.1, .ref hh, .ref tx]))] ++ wG kI at_ u.2.2.1 ++ wG kI as_ u.2.2.2.1 ++ wT kC tx tch u.2.2.2.2.2) (cs1 := (fun zz : SH × SG => wH kI kG hh hst a0 a1 a2 a3 zz.1 ++ wG kI ag zz.2)) (ws2 := (fun zz : SH × SG => wX kI kC kG x ag at_ as_ hh hst a0 a1 a2 a3 tx tch (u.1, zz.2, u.2.2.1, u.2.2.2.1, zz.1, u.2.2.2.2.2))) ⟨hx, hb, hml, hown, hts⟩ (fun sz => kX3_record l D kI kC kG kJ hh hst a0 a1 a2 a3 ag sz u.2.2.2.2.1 u.2.1 _ hw) (cwV 1 hts gX5_restart_X3_record rfl rfl rfl hdX3_record ⟨Nat.le_of_ble_eq_true rfl, Nat.le_of_ble_eq_true rfl⟩) hK hP hD hE hS hA [13, 14, 15, 16, 17, 18, 19, 20, 21, 22, 23, 24, 25, 26, 27, 28, 29, 30, 1, 2, 3, 4] [0, 5, 6, 7, 8, 9, 10, 11, 12, 31, 32] rfl rfl rfl rfl (by decide) [0, 29, 30, 31, 32, 1, 2, 3, 4, 5, 6, 7, 8, 11, 12, 13, 14, 15, 16, 17, 18, 19, 20, 21, 22, 23, 24, 25, 26, 27, 28, 9, 10] rfl (fun _ => rfl) (ci := 2) (q0 := 0) rfl rfl rfl rfl hl.1 rfl (Nat.le_of_ble_eq_true rfl) dX5_restart_38 ⟨Nat.le_of_ble_eq_true rfl, Nat.le_of_ble_eq_true rfl⟩ (fun w9 H locs hw hP hD hS => ?_)
      have hP : va_P D vwCl (wX kI kC kG x ag at_ as_ hh hst a0 a1 a2 a3 tx tch (u.1, w9.2, u.2.2.1, u.2.2.2.1, w9.1, u.2.2.2.2.2)) H := hP
      have hD : va_D A (wX kI kC kG x ag at_ as_ hh hst a0 a1 a2 a3 tx tch (u.1, w9.2, u.2.2.1, u.2.2.2.1, w9.1, u.2.2.2.2.2)) := hD
      refine lv_aload_n hx hb dX5_restart_41 rfl (lv_at hl 1 rfl) ?_
      refine va_get (D := D) (ci := 4) (v := .ref ag.1) (C := RX5) (T := TX5) (N := 6) hx hb hts (fun _ h => List.mem_cons_of_mem _ (List.mem_append_left _ (List.mem_append_left _ (List.mem_append_left _ (List.mem_append_left _ (List.mem_append_right _ h)))))) hown hK hP 0 rfl rfl 0 (by decide) (hts (.fieldLink RX5 10 "HazelGift" "game" "LHazelGift$Game;") (List.mem_of_getElem? (i := 3) rfl)) (fun _ h9 => h9) rfl dX5_restart_42 ?_
      refine lv_iload_n hx hb dX5_restart_45 rfl (lv_at hl 2 rfl) ?_
      refine gWVv (S := SG) (As := [.int p0]) (rest := []) (wc := wG kI ag w9.2) (wr := [(x, .inr (4, [.ref ag.1, .ref at_.1, .ref as_.1, .int u.1, .ref hh, .ref tx]))] ++ wG kI at_ u.2.2.1 ++ wG kI as_ u.2.2.2.1 ++ [(hh, .inr (2, [.ref hst, .int w9.1.1, .int w9.1.2.1])), (hst, .inl (kG, 4, .inr (.inr (.inr (.inr (fH a0 a1 a2 a3))))))] ++ wG kI a0 w9.1.2.2.1 ++ wG kI a1 w9.1.2.2.2.1 ++ wG kI a2 w9.1.2.2.2.2.1 ++ wG kI a3 w9.1.2.2.2.2.2 ++ wT kC tx tch u.2.2.2.2.2) (cs1 := (fun zz : SG => wG kI ag zz)) (ws2 := (fun zz : SG => wX kI kC kG x ag at_ as_ hh hst a0 a1 a2 a3 tx tch (u.1, zz, u.2.2.1, u.2.2.2.1, w9.1, u.2.2.2.2.2))) ⟨hx, hb, hml, hown, hts⟩ (fun sz => kX2_begin l D kI kC kG kJ ag sz w9.2 p0 _ hw) (cwV 1 hts gX5_restart_X2_begin rfl rfl rfl hdX2_begin ⟨Nat.le_of_ble_eq_true rfl, Nat.le_of_ble_eq_true rfl⟩) hK hP hD hE hS hA [1, 2, 3, 4] [0, 5, 6, 7, 8, 9, 10, 11, 12, 13, 14, 15, 16, 17, 18, 19, 20, 21, 22, 23, 24, 25, 26, 27, 28, 29, 30, 31, 32] rfl rfl rfl rfl (by decide) [0, 29, 30, 31, 32, 1, 2, 3, 4, 5, 6, 7, 8, 9, 10, 11, 12, 13, 14, 15, 16, 17, 18, 19, 20, 21, 22, 23, 24, 25, 26, 27, 28] rfl (fun _ => rfl) (ci := 1) (q0 := 0) rfl rfl rfl rfl hl.1 rfl (Nat.le_of_ble_eq_true rfl) dX5_restart_46 ⟨Nat.le_of_ble_eq_true rfl, Nat.le_of_ble_eq_true rfl⟩ (fun w10 H locs hw hP hD hS => ?_)
      have hP : va_P D vwCl (wX kI kC kG x ag at_ as_ hh hst a0 a1 a2 a3 tx tch (u.1, w10, u.2.2.1, u.2.2.2.1, w9.1, u.2.2.2.2.2)) H := hP
      have hD : va_D A (wX kI kC kG x ag at_ as_ hh hst a0 a1 a2 a3 tx tch (u.1, w10, u.2.2.1, u.2.2.2.1, w9.1, u.2.2.2.2.2)) := hD
      refine lv_iload_n hx hb dX5_restart_49 rfl (lv_at hl 0 rfl) ?_
      exact W.iret (v := r8) hx hb hr (fun t ht hW => ⟨⟨r8, (u.1, w10, u.2.2.1, u.2.2.2.1, w9.1, u.2.2.2.2.2), rfl, hw, by rw [ht]; exact hP, va_K.moved hW.alike hK, hD⟩, hS.F ht⟩) hS.2.2 dX5_restart_50
    · replace hw := Eq.mp (if_neg c6) hw
      exact (hw : False).elim
set_option maxHeartbeats 4000000 in
set_option maxRecDepth 100000 in
theorem kX5_type_n (l : Launch) (D : va_G) (kI kC kG kJ : ClassId) (x : Nat) (ag at_ as_ : AG) (hh hst : Nat) (a0 a1 a2 a3 : AG) (tx tch : Nat) (sz : Nat) (u : SX) (p0 : Int32) (Z : Int32 → SX → Prop) (hw : pX5_type p0 u Z (fun _ _ => False)) : Met l yX5_type wsX5_type ({ frames := 1, cells := 0, slots := 0, locals := 21 } : Room) (gPw D (gT kI kC kG kJ) [.ref x, .int p0] (wX kI kC kG x ag at_ as_ hh hst a0 a1 a2 a3 tx tch u) sz) (va_Qi Z (gB D (gT kI kC kG kJ) (fun (zz : SX) => wX kI kC kG x ag at_ as_ hh hst a0 a1 a2 a3 tx tch zz) (va_A (wX kI kC kG x ag at_ as_ hh hst a0 a1 a2 a3 tx tch u) sz)) (va_A (wX kI kC kG x ag at_ as_ hh hst a0 a1 a2 a3 tx tch u) sz)) 0 0 (va_A (wX kI kC kG x ag at_ as_ hh hst a0 a1 a2 a3 tx tch u) sz) := by
  refine Met.ofW (cc := cX5_type) (maxL := 2) (ret := (some .int)) (by decide) rfl ?_
  intro p e s m args below meth c s₁ B hml hv
  obtain ⟨rfl, hsz, hP, hK, hD0, hE⟩ := hv
  have hx := B.exec
  have hb := B.bytes
  have hr := B.returns
  have hts := atoms_spec (ws := wsX5_type) B.pre
  have hown : s.vm.findClass RX5 = some m.cls := findClass_of_methodNamed B.named
  have hlocks := B.notSynchronized
  subst hsz
  have hD := hD0.self (sz := s.heap.size)
  generalize hAe : va_A (wX kI kC kG x ag at_ as_ hh hst a0 a1 a2 a3 tx tch u) s.heap.size = A at hD hE ⊢
  have hA : ∀ q : Nat, s.heap.size ≤ q → A q := fun q h => by rw [← hAe]; exact Or.inr h
  have hS : va_S A s.heap s.heap [] := va_S.rf
  clear hAe hD0
  have hl := lv_entry ([.ref x, .int p0]) (n := 2) (Nat.le_of_ble_eq_true rfl)
  rw [lg_entry_eq]
  generalize (lg_sl ([.ref x, .int p0]) ++ List.replicate (2 - (lg_sl ([.ref x, .int p0])).length) Slot.unset).toArray = ls at hl ⊢
  have hl : lv_has ls 2 [(0, .ref x), (1, .int p0)] := hl
  have hP : va_P D vwCl (wX kI kC kG x ag at_ as_ hh hst a0 a1 a2 a3 tx tch u) s.heap := hP
  unfold pX5_type at hw
  refine lv_aload_n hx hb dX5_type_0 rfl (lv_at hl 0 rfl) ?_
  refine va_get (D := D) (ci := 4) (v := .ref tx) (C := RX5) (T := TX5) (N := 6) hx hb hts (fun _ h => List.mem_cons_of_mem _ (List.mem_append_left _ (List.mem_append_left _ (List.mem_append_right _ h)))) hown hK hP 0 rfl rfl 5 (by decide) (hts (.fieldLink RX5 36 "HazelGift" "text" "LHazelGift$MoveText;") (List.mem_of_getElem? (i := 3) rfl)) (fun _ h9 => h9) rfl dX5_type_1 ?_
  refine gVi (As := []) (rest := []) (cs' := wT kC tx tch u.2.2.2.2.2) ⟨hx, hb, hml, hown, hts⟩ (kX4_isFull l D kI kC kG kJ tx tch u.2.2.2.2.2 _ hw) (cwV 0 hts gX5_type_X4_isFull rfl rfl rfl hdX4_isFull ⟨Nat.le_of_ble_eq_true rfl, Nat.le_of_ble_eq_true rfl⟩) hK hP hE hS [31, 32] rfl (ci := 3) (q0 := 0) rfl rfl rfl rfl hl.1 rfl (Nat.le_of_ble_eq_true rfl) dX5_type_4 ⟨Nat.le_of_ble_eq_true rfl, Nat.le_of_ble_eq_true rfl⟩ (fun r1 hw => ?_)
  refine lv_if_eq (tgt := 20) hx hb dX5_type_7 (by decide) (fun c2 => ?_) (fun c2 => ?_)
  · replace hw := Eq.mp (if_pos c2) hw
    refine lv_aload_n hx hb dX5_type_20 rfl (lv_at hl 0 rfl) ?_
    refine va_get (D := D) (ci := 4) (v := .ref tx) (C := RX5) (T := TX5) (N := 6) hx hb hts (fun _ h => List.mem_cons_of_mem _ (List.mem_append_left _ (List.mem_append_left _ (List.mem_append_right _ h)))) hown hK hP 0 rfl rfl 5 (by decide) (hts (.fieldLink RX5 36 "HazelGift" "text" "LHazelGift$MoveText;") (List.mem_of_getElem? (i := 3) rfl)) (fun _ h9 => h9) rfl dX5_type_21 ?_
    refine lv_iload_n hx hb dX5_type_24 rfl (lv_at hl 1 rfl) ?_
    refine gWVv (S := ST) (As := [.int p0]) (rest := []) (wc := wT kC tx tch u.2.2.2.2.2) (wr := [(x, .inr (4, [.ref ag.1, .ref at_.1, .ref as_.1, .int u.1, .ref hh, .ref tx]))] ++ wG kI ag u.2.1 ++ wG kI at_ u.2.2.1 ++ wG kI as_ u.2.2.2.1 ++ [(hh, .inr (2, [.ref hst, .int u.2.2.2.2.1.1, .int u.2.2.2.2.1.2.1])), (hst, .inl (kG, 4, .inr (.inr (.inr (.inr (fH a0 a1 a2 a3))))))] ++ wG kI a0 u.2.2.2.2.1.2.2.1 ++ wG kI a1 u.2.2.2.2.1.2.2.2.1 ++ wG kI a2 u.2.2.2.2.1.2.2.2.2.1 ++ wG kI a3 u.2.2.2.2.1.2.2.2.2.2) (cs1 := (fun zz : ST => wT kC tx tch zz)) (ws2 := (fun zz : ST => wX kI kC kG x ag at_ as_ hh hst a0 a1 a2 a3 tx tch (u.1, u.2.1, u.2.2.1, u.2.2.2.1, u.2.2.2.2.1, zz))) ⟨hx, hb, hml, hown, hts⟩ (fun sz => kX4_append l D kI kC kG kJ tx tch sz u.2.2.2.2.2 p0 _ hw) (cwV 1 hts gX5_type_X4_append rfl rfl rfl hdX4_append ⟨Nat.le_of_ble_eq_true rfl, Nat.le_of_ble_eq_true rfl⟩) hK hP hD hE hS hA [31, 32] [0, 1, 2, 3, 4, 5, 6, 7, 8, 9, 10, 11, 12, 13, 14, 15, 16, 17, 18, 19, 20, 21, 22, 23, 24, 25, 26, 27, 28, 29, 30] rfl rfl rfl rfl (by decide) [0, 1, 2, 3, 4, 5, 6, 7, 8, 9, 10, 11, 12, 13, 14, 15, 16, 17, 18, 19, 20, 21, 22, 23, 24, 25, 26, 27, 28, 29, 30, 31, 32] rfl (fun _ => rfl) (ci := 3) (q0 := 0) rfl rfl rfl rfl hl.1 rfl (Nat.le_of_ble_eq_true rfl) dX5_type_25 ⟨Nat.le_of_ble_eq_true rfl, Nat.le_of_ble_eq_true rfl⟩ (fun w3 H locs hw hP hD hS => ?_)
    have hP : va_P D vwCl (wX kI kC kG x ag at_ as_ hh hst a0 a1 a2 a3 tx tch (u.1, u.2.1, u.2.2.1, u.2.2.2.1, u.2.2.2.2.1, w3)) H := hP
    have hD : va_D A (wX kI kC kG x ag at_ as_ hh hst a0 a1 a2 a3 tx tch (u.1, u.2.1, u.2.2.1, u.2.2.2.1, u.2.2.2.2.1, w3)) := hD
    refine lv_aload_n hx hb dX5_type_28 rfl (lv_at hl 0 rfl) ?_
    refine va_get (D := D) (ci := 4) (v := .ref tx) (C := RX5) (T := TX5) (N := 6) hx hb hts (fun _ h => List.mem_cons_of_mem _ (List.mem_append_left _ (List.mem_append_left _ (List.mem_append_right _ h)))) hown hK hP 0 rfl rfl 5 (by decide) (hts (.fieldLink RX5 36 "HazelGift" "text" "LHazelGift$MoveText;") (List.mem_of_getElem? (i := 3) rfl)) (fun _ h9 => h9) rfl dX5_type_29 ?_
    refine gVi (As := []) (rest := []) (cs' := wT kC tx tch w3) ⟨hx, hb, hml, hown, hts⟩ (kX4_length l D kI kC kG kJ tx tch w3 _ hw) (cwV 0 hts gX5_type_X4_length rfl rfl rfl hdX4_length ⟨Nat.le_of_ble_eq_true rfl, Nat.le_of_ble_eq_true rfl⟩) hK hP hE hS [31, 32] rfl (ci := 3) (q0 := 0) rfl rfl rfl rfl hl.1 rfl (Nat.le_of_ble_eq_true rfl) dX5_type_32 ⟨Nat.le_of_ble_eq_true rfl, Nat.le_of_ble_eq_true rfl⟩ (fun r4 hw => ?_)
    exact W.iret (v := r4) hx hb hr (fun t ht hW => ⟨⟨r4, (u.1, u.2.1, u.2.2.1, u.2.2.2.1, u.2.2.2.2.1, w3), rfl, hw, by rw [ht]; exact hP, va_K.moved hW.alike hK, hD⟩, hS.F ht⟩) hS.2.2 dX5_type_35
  · replace hw := Eq.mp (if_neg c2) hw
    exact (hw : False).elim
set_option maxHeartbeats 4000000 in
set_option maxRecDepth 100000 in
theorem kX5_pieceOn_n (l : Launch) (D : va_G) (kI kC kG kJ : ClassId) (x : Nat) (ag at_ as_ : AG) (hh hst : Nat) (a0 a1 a2 a3 : AG) (tx tch : Nat) (sz : Nat) (u : SX) (p0 : Int32) (Z : Int32 → SX → Prop) (hw : pX5_pieceOn p0 u Z (fun _ _ => False)) : Met l yX5_pieceOn wsX5_pieceOn ({ frames := 2, cells := 0, slots := 0, locals := 44 } : Room) (gPw D (gT kI kC kG kJ) [.ref x, .int p0] (wX kI kC kG x ag at_ as_ hh hst a0 a1 a2 a3 tx tch u) sz) (va_Qi Z (gB D (gT kI kC kG kJ) (fun (zz : SX) => wX kI kC kG x ag at_ as_ hh hst a0 a1 a2 a3 tx tch zz) (va_A (wX kI kC kG x ag at_ as_ hh hst a0 a1 a2 a3 tx tch u) sz)) (va_A (wX kI kC kG x ag at_ as_ hh hst a0 a1 a2 a3 tx tch u) sz)) 0 0 (va_A (wX kI kC kG x ag at_ as_ hh hst a0 a1 a2 a3 tx tch u) sz) := by
  refine Met.ofW (cc := cX5_pieceOn) (maxL := 2) (ret := (some .int)) (by decide) rfl ?_
  intro p e s m args below meth c s₁ B hml hv
  obtain ⟨rfl, hsz, hP, hK, hD0, hE⟩ := hv
  have hx := B.exec
  have hb := B.bytes
  have hr := B.returns
  have hts := atoms_spec (ws := wsX5_pieceOn) B.pre
  have hown : s.vm.findClass RX5 = some m.cls := findClass_of_methodNamed B.named
  have hlocks := B.notSynchronized
  subst hsz
  have hD := hD0.self (sz := s.heap.size)
  generalize hAe : va_A (wX kI kC kG x ag at_ as_ hh hst a0 a1 a2 a3 tx tch u) s.heap.size = A at hD hE ⊢
  have hA : ∀ q : Nat, s.heap.size ≤ q → A q := fun q h => by rw [← hAe]; exact Or.inr h
  have hS : va_S A s.heap s.heap [] := va_S.rf
  clear hAe hD0
  have hl := lv_entry ([.ref x, .int p0]) (n := 2) (Nat.le_of_ble_eq_true rfl)
  rw [lg_entry_eq]
  generalize (lg_sl ([.ref x, .int p0]) ++ List.replicate (2 - (lg_sl ([.ref x, .int p0])).length) Slot.unset).toArray = ls at hl ⊢
  have hl : lv_has ls 2 [(0, .ref x), (1, .int p0)] := hl
  have hP : va_P D vwCl (wX kI kC kG x ag at_ as_ hh hst a0 a1 a2 a3 tx tch u) s.heap := hP
  unfold pX5_pieceOn at hw
  refine lv_iload_n hx hb dX5_pieceOn_0 rfl (lv_at hl 1 rfl) ?_
  refine gWSv (S := Unit) (As := [.int p0]) (rest := []) (wc := ([] : va_W)) (wr := [(x, .inr (4, [.ref ag.1, .ref at_.1, .ref as_.1, .int u.1, .ref hh, .ref tx]))] ++ wG kI ag u.2.1 ++ wG kI at_ u.2.2.1 ++ wG kI as_ u.2.2.2.1 ++ [(hh, .inr (2, [.ref hst, .int u.2.2.2.2.1.1, .int u.2.2.2.2.1.2.1])), (hst, .inl (kG, 4, .inr (.inr (.inr (.inr (fH a0 a1 a2 a3))))))] ++ wG kI a0 u.2.2.2.2.1.2.2.1 ++ wG kI a1 u.2.2.2.2.1.2.2.2.1 ++ wG kI a2 u.2.2.2.2.1.2.2.2.2.1 ++ wG kI a3 u.2.2.2.2.1.2.2.2.2.2 ++ wT kC tx tch u.2.2.2.2.2) (cs1 := (fun zz : Unit => ([] : va_W))) (ws2 := (fun zz : Unit => wX kI kC kG x ag at_ as_ hh hst a0 a1 a2 a3 tx tch u)) ⟨hx, hb, hml, hown, hts⟩ (fun sz => kX5_requireCell_n l D kI kC kG kJ  sz p0 _ hw) (va_cwS 1 hts gX5_pieceOn_X5_requireCell rfl rfl rfl hdX5_requireCell ⟨Nat.le_of_ble_eq_true rfl, Nat.le_of_ble_eq_true rfl⟩) hK hP hD hE hS hA [] [0, 1, 2, 3, 4, 5, 6, 7, 8, 9, 10, 11, 12, 13, 14, 15, 16, 17, 18, 19, 20, 21, 22, 23, 24, 25, 26, 27, 28, 29, 30, 31, 32] rfl rfl rfl rfl (by decide) [0, 1, 2, 3, 4, 5, 6, 7, 8, 9, 10, 11, 12, 13, 14, 15, 16, 17, 18, 19, 20, 21, 22, 23, 24, 25, 26, 27, 28, 29, 30, 31, 32] rfl (fun _ => rfl) rfl hl.1 rfl (Nat.le_of_ble_eq_true rfl) dX5_pieceOn_1 ⟨Nat.le_of_ble_eq_true rfl, Nat.le_of_ble_eq_true rfl⟩ (fun w1 H locs hw hP hD hS => ?_)
  have hP : va_P D vwCl (wX kI kC kG x ag at_ as_ hh hst a0 a1 a2 a3 tx tch u) H := hP
  have hD : va_D A (wX kI kC kG x ag at_ as_ hh hst a0 a1 a2 a3 tx tch u) := hD
  refine lv_aload_n hx hb dX5_pieceOn_4 rfl (lv_at hl 0 rfl) ?_
  refine va_get (D := D) (ci := 4) (v := .ref ag.1) (C := RX5) (T := TX5) (N := 6) hx hb hts (fun _ h => List.mem_cons_of_mem _ (List.mem_append_left _ (List.mem_append_left _ (List.mem_append_left _ (List.mem_append_right _ h))))) hown hK hP 0 rfl rfl 0 (by decide) (hts (.fieldLink RX5 10 "HazelGift" "game" "LHazelGift$Game;") (List.mem_of_getElem? (i := 1) rfl)) (fun _ h9 => h9) rfl dX5_pieceOn_5 ?_
  refine gVa (r := .ref ag.2.1) (As := []) (rest := []) (cs' := wG kI ag u.2.1) ⟨hx, hb, hml, hown, hts⟩ (kX2_board l D kI kC kG kJ ag u.2.1) (cwV 0 hts gX5_pieceOn_X2_board rfl rfl rfl hdX2_board ⟨Nat.le_of_ble_eq_true rfl, Nat.le_of_ble_eq_true rfl⟩) hK hP hE hS [1, 2, 3, 4] rfl (ci := 1) (q0 := 0) rfl rfl rfl rfl hl.1 rfl (Nat.le_of_ble_eq_true rfl) dX5_pieceOn_8 ⟨Nat.le_of_ble_eq_true rfl, Nat.le_of_ble_eq_true rfl⟩ ?_
  refine lv_iload_n hx hb dX5_pieceOn_11 rfl (lv_at hl 1 rfl) ?_
  refine gVi (As := [.int p0]) (rest := []) (cs' := wB kI ag.2.1 ag.2.2.1 u.2.1.2.2.2) ⟨hx, hb, hml, hown, hts⟩ (kX0_pieceAt l D kI kC kG kJ ag.2.1 ag.2.2.1 u.2.1.2.2.2 p0 _ hw) (cwV 1 hts gX5_pieceOn_X0_pieceAt rfl rfl rfl hdX0_pieceAt ⟨Nat.le_of_ble_eq_true rfl, Nat.le_of_ble_eq_true rfl⟩) hK hP hE hS [3, 4] rfl (ci := 0) (q0 := 0) rfl rfl rfl rfl hl.1 rfl (Nat.le_of_ble_eq_true rfl) dX5_pieceOn_12 ⟨Nat.le_of_ble_eq_true rfl, Nat.le_of_ble_eq_true rfl⟩ (fun r3 hw => ?_)
  exact W.iret (v := r3) hx hb hr (fun t ht hW => ⟨⟨r3, u, rfl, hw, by rw [ht]; exact hP, va_K.moved hW.alike hK, hD⟩, hS.F ht⟩) hS.2.2 dX5_pieceOn_15
set_option maxHeartbeats 4000000 in
set_option maxRecDepth 100000 in
theorem kX5_cellOf_n (l : Launch) (D : va_G) (kI kC kG kJ : ClassId) (x : Nat) (ag at_ as_ : AG) (hh hst : Nat) (a0 a1 a2 a3 : AG) (tx tch : Nat) (sz : Nat) (u : SX) (p0 : Int32) (Z : Int32 → SX → Prop) (hw : pX5_cellOf p0 u Z (fun _ _ => False)) : Met l yX5_cellOf wsX5_cellOf ({ frames := 3, cells := 0, slots := 0, locals := 66 } : Room) (gPw D (gT kI kC kG kJ) [.ref x, .int p0] (wX kI kC kG x ag at_ as_ hh hst a0 a1 a2 a3 tx tch u) sz) (va_Qi Z (gB D (gT kI kC kG kJ) (fun (zz : SX) => wX kI kC kG x ag at_ as_ hh hst a0 a1 a2 a3 tx tch zz) (va_A (wX kI kC kG x ag at_ as_ hh hst a0 a1 a2 a3 tx tch u) sz)) (va_A (wX kI kC kG x ag at_ as_ hh hst a0 a1 a2 a3 tx tch u) sz)) 0 0 (va_A (wX kI kC kG x ag at_ as_ hh hst a0 a1 a2 a3 tx tch u) sz) := by
  refine Met.ofW (cc := cX5_cellOf) (maxL := 2) (ret := (some .int)) (by decide) rfl ?_
  intro p e s m args below meth c s₁ B hml hv
  obtain ⟨rfl, hsz, hP, hK, hD0, hE⟩ := hv
  have hx := B.exec
  have hb := B.bytes
  have hr := B.returns
  have hts := atoms_spec (ws := wsX5_cellOf) B.pre
  have hown : s.vm.findClass RX5 = some m.cls := findClass_of_methodNamed B.named
  have hlocks := B.notSynchronized
  subst hsz
  have hD := hD0.self (sz := s.heap.size)
  generalize hAe : va_A (wX kI kC kG x ag at_ as_ hh hst a0 a1 a2 a3 tx tch u) s.heap.size = A at hD hE ⊢
  have hA : ∀ q : Nat, s.heap.size ≤ q → A q := fun q h => by rw [← hAe]; exact Or.inr h
  have hS : va_S A s.heap s.heap [] := va_S.rf
  clear hAe hD0
  have hl := lv_entry ([.ref x, .int p0]) (n := 2) (Nat.le_of_ble_eq_true rfl)
  rw [lg_entry_eq]
  generalize (lg_sl ([.ref x, .int p0]) ++ List.replicate (2 - (lg_sl ([.ref x, .int p0])).length) Slot.unset).toArray = ls at hl ⊢
  have hl : lv_has ls 2 [(0, .ref x), (1, .int p0)] := hl
  have hP : va_P D vwCl (wX kI kC kG x ag at_ as_ hh hst a0 a1 a2 a3 tx tch u) s.heap := hP
  unfold pX5_cellOf at hw
  refine lv_iload_n hx hb dX5_cellOf_0 rfl (lv_at hl 1 rfl) ?_
  refine gWSv (S := Unit) (As := [.int p0]) (rest := []) (wc := ([] : va_W)) (wr := [(x, .inr (4, [.ref ag.1, .ref at_.1, .ref as_.1, .int u.1, .ref hh, .ref tx]))] ++ wG kI ag u.2.1 ++ wG kI at_ u.2.2.1 ++ wG kI as_ u.2.2.2.1 ++ [(hh, .inr (2, [.ref hst, .int u.2.2.2.2.1.1, .int u.2.2.2.2.1.2.1])), (hst, .inl (kG, 4, .inr (.inr (.inr (.inr (fH a0 a1 a2 a3))))))] ++ wG kI a0 u.2.2.2.2.1.2.2.1 ++ wG kI a1 u.2.2.2.2.1.2.2.2.1 ++ wG kI a2 u.2.2.2.2.1.2.2.2.2.1 ++ wG kI a3 u.2.2.2.2.1.2.2.2.2.2 ++ wT kC tx tch u.2.2.2.2.2) (cs1 := (fun zz : Unit => ([] : va_W))) (ws2 := (fun zz : Unit => wX kI kC kG x ag at_ as_ hh hst a0 a1 a2 a3 tx tch u)) ⟨hx, hb, hml, hown, hts⟩ (fun sz => kX5_requirePiece_n l D kI kC kG kJ  sz p0 _ hw) (va_cwS 1 hts gX5_cellOf_X5_requirePiece rfl rfl rfl hdX5_requirePiece ⟨Nat.le_of_ble_eq_true rfl, Nat.le_of_ble_eq_true rfl⟩) hK hP hD hE hS hA [] [0, 1, 2, 3, 4, 5, 6, 7, 8, 9, 10, 11, 12, 13, 14, 15, 16, 17, 18, 19, 20, 21, 22, 23, 24, 25, 26, 27, 28, 29, 30, 31, 32] rfl rfl rfl rfl (by decide) [0, 1, 2, 3, 4, 5, 6, 7, 8, 9, 10, 11, 12, 13, 14, 15, 16, 17, 18, 19, 20, 21, 22, 23, 24, 25, 26, 27, 28, 29, 30, 31, 32] rfl (fun _ => rfl) rfl hl.1 rfl (Nat.le_of_ble_eq_true rfl) dX5_cellOf_1 ⟨Nat.le_of_ble_eq_true rfl, Nat.le_of_ble_eq_true rfl⟩ (fun w1 H locs hw hP hD hS => ?_)
  have hP : va_P D vwCl (wX kI kC kG x ag at_ as_ hh hst a0 a1 a2 a3 tx tch u) H := hP
  have hD : va_D A (wX kI kC kG x ag at_ as_ hh hst a0 a1 a2 a3 tx tch u) := hD
  refine lv_aload_n hx hb dX5_cellOf_4 rfl (lv_at hl 0 rfl) ?_
  refine va_get (D := D) (ci := 4) (v := .ref ag.1) (C := RX5) (T := TX5) (N := 6) hx hb hts (fun _ h => List.mem_cons_of_mem _ (List.mem_append_left _ (List.mem_append_left _ (List.mem_append_left _ (List.mem_append_right _ h))))) hown hK hP 0 rfl rfl 0 (by decide) (hts (.fieldLink RX5 10 "HazelGift" "game" "LHazelGift$Game;") (List.mem_of_getElem? (i := 1) rfl)) (fun _ h9 => h9) rfl dX5_cellOf_5 ?_
  refine gVa (r := .ref ag.2.1) (As := []) (rest := []) (cs' := wG kI ag u.2.1) ⟨hx, hb, hml, hown, hts⟩ (kX2_board l D kI kC kG kJ ag u.2.1) (cwV 0 hts gX5_cellOf_X2_board rfl rfl rfl hdX2_board ⟨Nat.le_of_ble_eq_true rfl, Nat.le_of_ble_eq_true rfl⟩) hK hP hE hS [1, 2, 3, 4] rfl (ci := 1) (q0 := 0) rfl rfl rfl rfl hl.1 rfl (Nat.le_of_ble_eq_true rfl) dX5_cellOf_8 ⟨Nat.le_of_ble_eq_true rfl, Nat.le_of_ble_eq_true rfl⟩ ?_
  refine lv_iload_n hx hb dX5_cellOf_11 rfl (lv_at hl 1 rfl) ?_
  refine gVi (As := [.int p0]) (rest := []) (cs' := wB kI ag.2.1 ag.2.2.1 u.2.1.2.2.2) ⟨hx, hb, hml, hown, hts⟩ (kX0_cellWith l D kI kC kG kJ ag.2.1 ag.2.2.1 u.2.1.2.2.2 p0 _ hw) (cwV 1 hts gX5_cellOf_X0_cellWith rfl rfl rfl hdX0_cellWith ⟨Nat.le_of_ble_eq_true rfl, Nat.le_of_ble_eq_true rfl⟩) hK hP hE hS [3, 4] rfl (ci := 0) (q0 := 0) rfl rfl rfl rfl hl.1 rfl (Nat.le_of_ble_eq_true rfl) dX5_cellOf_12 ⟨Nat.le_of_ble_eq_true rfl, Nat.le_of_ble_eq_true rfl⟩ (fun r3 hw => ?_)
  exact W.iret (v := r3) hx hb hr (fun t ht hW => ⟨⟨r3, u, rfl, hw, by rw [ht]; exact hP, va_K.moved hW.alike hK, hD⟩, hS.F ht⟩) hS.2.2 dX5_cellOf_15
set_option maxHeartbeats 4000000 in
set_option maxRecDepth 100000 in
theorem kX5_piecesOn_n (l : Launch) (D : va_G) (kI kC kG kJ : ClassId) (x : Nat) (ag at_ as_ : AG) (hh hst : Nat) (a0 a1 a2 a3 : AG) (tx tch : Nat) (sz : Nat) (u : SX) (p0 : Int32) (Z : Int32 → SX → Prop) (hw : pX5_piecesOn p0 u Z (fun _ _ => False)) : Met l yX5_piecesOn wsX5_piecesOn ({ frames := 2, cells := 0, slots := 0, locals := 41 } : Room) (gPw D (gT kI kC kG kJ) [.ref x, .int p0] (wX kI kC kG x ag at_ as_ hh hst a0 a1 a2 a3 tx tch u) sz) (va_Qi Z (gB D (gT kI kC kG kJ) (fun (zz : SX) => wX kI kC kG x ag at_ as_ hh hst a0 a1 a2 a3 tx tch zz) (va_A (wX kI kC kG x ag at_ as_ hh hst a0 a1 a2 a3 tx tch u) sz)) (va_A (wX kI kC kG x ag at_ as_ hh hst a0 a1 a2 a3 tx tch u) sz)) 0 0 (va_A (wX kI kC kG x ag at_ as_ hh hst a0 a1 a2 a3 tx tch u) sz) := by
  refine Met.ofW (cc := cX5_piecesOn) (maxL := 2) (ret := (some .int)) (by decide) rfl ?_
  intro p e s m args below meth c s₁ B hml hv
  obtain ⟨rfl, hsz, hP, hK, hD0, hE⟩ := hv
  have hx := B.exec
  have hb := B.bytes
  have hr := B.returns
  have hts := atoms_spec (ws := wsX5_piecesOn) B.pre
  have hown : s.vm.findClass RX5 = some m.cls := findClass_of_methodNamed B.named
  have hlocks := B.notSynchronized
  subst hsz
  have hD := hD0.self (sz := s.heap.size)
  generalize hAe : va_A (wX kI kC kG x ag at_ as_ hh hst a0 a1 a2 a3 tx tch u) s.heap.size = A at hD hE ⊢
  have hA : ∀ q : Nat, s.heap.size ≤ q → A q := fun q h => by rw [← hAe]; exact Or.inr h
  have hS : va_S A s.heap s.heap [] := va_S.rf
  clear hAe hD0
  have hl := lv_entry ([.ref x, .int p0]) (n := 2) (Nat.le_of_ble_eq_true rfl)
  rw [lg_entry_eq]
  generalize (lg_sl ([.ref x, .int p0]) ++ List.replicate (2 - (lg_sl ([.ref x, .int p0])).length) Slot.unset).toArray = ls at hl ⊢
  have hl : lv_has ls 2 [(0, .ref x), (1, .int p0)] := hl
  have hP : va_P D vwCl (wX kI kC kG x ag at_ as_ hh hst a0 a1 a2 a3 tx tch u) s.heap := hP
  unfold pX5_piecesOn at hw
  refine lv_aload_n hx hb dX5_piecesOn_0 rfl (lv_at hl 0 rfl) ?_
  refine lv_iload_n hx hb dX5_piecesOn_1 rfl (lv_at hl 1 rfl) ?_
  refine gWVv (S := SX) (As := [.int p0]) (rest := []) (wc := wX kI kC kG x ag at_ as_ hh hst a0 a1 a2 a3 tx tch u) (wr := []) (cs1 := (fun zz : SX => wX kI kC kG x ag at_ as_ hh hst a0 a1 a2 a3 tx tch zz)) (ws2 := (fun zz : SX => wX kI kC kG x ag at_ as_ hh hst a0 a1 a2 a3 tx tch zz)) ⟨hx, hb, hml, hown, hts⟩ (fun sz => kX5_requireLine_n l D kI kC kG kJ x ag at_ as_ hh hst a0 a1 a2 a3 tx tch sz u p0 _ hw) (cwV 1 hts gX5_piecesOn_X5_requireLine rfl rfl rfl hdX5_requireLine ⟨Nat.le_of_ble_eq_true rfl, Nat.le_of_ble_eq_true rfl⟩) hK hP hD hE hS hA [0, 1, 2, 3, 4, 5, 6, 7, 8, 9, 10, 11, 12, 13, 14, 15, 16, 17, 18, 19, 20, 21, 22, 23, 24, 25, 26, 27, 28, 29, 30, 31, 32] [] rfl rfl rfl rfl (by decide) [0, 1, 2, 3, 4, 5, 6, 7, 8, 9, 10, 11, 12, 13, 14, 15, 16, 17, 18, 19, 20, 21, 22, 23, 24, 25, 26, 27, 28, 29, 30, 31, 32] rfl (fun _ => rfl) (ci := 4) (q0 := 0) rfl rfl rfl rfl hl.1 rfl (Nat.le_of_ble_eq_true rfl) dX5_piecesOn_2 ⟨Nat.le_of_ble_eq_true rfl, Nat.le_of_ble_eq_true rfl⟩ (fun w1 H locs hw hP hD hS => ?_)
  have hP : va_P D vwCl (wX kI kC kG x ag at_ as_ hh hst a0 a1 a2 a3 tx tch w1) H := hP
  have hD : va_D A (wX kI kC kG x ag at_ as_ hh hst a0 a1 a2 a3 tx tch w1) := hD
  refine lv_aload_n hx hb dX5_piecesOn_5 rfl (lv_at hl 0 rfl) ?_
  refine va_get (D := D) (ci := 4) (v := .ref ag.1) (C := RX5) (T := TX5) (N := 6) hx hb hts (fun _ h => List.mem_cons_of_mem _ (List.mem_append_left _ (List.mem_append_left _ (List.mem_append_left _ (List.mem_append_right _ h))))) hown hK hP 0 rfl rfl 0 (by decide) (hts (.fieldLink RX5 10 "HazelGift" "game" "LHazelGift$Game;") (List.mem_of_getElem? (i := 1) rfl)) (fun _ h9 => h9) rfl dX5_piecesOn_6 ?_
  refine gVa (r := .ref ag.2.1) (As := []) (rest := []) (cs' := wG kI ag w1.2.1) ⟨hx, hb, hml, hown, hts⟩ (kX2_board l D kI kC kG kJ ag w1.2.1) (cwV 0 hts gX5_piecesOn_X2_board rfl rfl rfl hdX2_board ⟨Nat.le_of_ble_eq_true rfl, Nat.le_of_ble_eq_true rfl⟩) hK hP hE hS [1, 2, 3, 4] rfl (ci := 1) (q0 := 0) rfl rfl rfl rfl hl.1 rfl (Nat.le_of_ble_eq_true rfl) dX5_piecesOn_9 ⟨Nat.le_of_ble_eq_true rfl, Nat.le_of_ble_eq_true rfl⟩ ?_
  refine lv_iload_n hx hb dX5_piecesOn_12 rfl (lv_at hl 1 rfl) ?_
  refine gVi (As := [.int p0]) (rest := []) (cs' := wB kI ag.2.1 ag.2.2.1 w1.2.1.2.2.2) ⟨hx, hb, hml, hown, hts⟩ (kX0_countOn l D kI kC kG kJ ag.2.1 ag.2.2.1 w1.2.1.2.2.2 p0 _ hw) (cwV 1 hts gX5_piecesOn_X0_countOn rfl rfl rfl hdX0_countOn ⟨Nat.le_of_ble_eq_true rfl, Nat.le_of_ble_eq_true rfl⟩) hK hP hE hS [3, 4] rfl (ci := 0) (q0 := 0) rfl rfl rfl rfl hl.1 rfl (Nat.le_of_ble_eq_true rfl) dX5_piecesOn_13 ⟨Nat.le_of_ble_eq_true rfl, Nat.le_of_ble_eq_true rfl⟩ (fun r3 hw => ?_)
  exact W.iret (v := r3) hx hb hr (fun t ht hW => ⟨⟨r3, w1, rfl, hw, by rw [ht]; exact hP, va_K.moved hW.alike hK, hD⟩, hS.F ht⟩) hS.2.2 dX5_piecesOn_16
set_option maxHeartbeats 4000000 in
set_option maxRecDepth 100000 in
theorem kX5_sharedOn_n (l : Launch) (D : va_G) (kI kC kG kJ : ClassId) (x : Nat) (ag at_ as_ : AG) (hh hst : Nat) (a0 a1 a2 a3 : AG) (tx tch : Nat) (sz : Nat) (u : SX) (p0 : Int32) (Z : Int32 → SX → Prop) (hw : pX5_sharedOn p0 u Z (fun _ _ => False)) : Met l yX5_sharedOn wsX5_sharedOn ({ frames := 2, cells := 0, slots := 0, locals := 45 } : Room) (gPw D (gT kI kC kG kJ) [.ref x, .int p0] (wX kI kC kG x ag at_ as_ hh hst a0 a1 a2 a3 tx tch u) sz) (va_Qi Z (gB D (gT kI kC kG kJ) (fun (zz : SX) => wX kI kC kG x ag at_ as_ hh hst a0 a1 a2 a3 tx tch zz) (va_A (wX kI kC kG x ag at_ as_ hh hst a0 a1 a2 a3 tx tch u) sz)) (va_A (wX kI kC kG x ag at_ as_ hh hst a0 a1 a2 a3 tx tch u) sz)) 0 0 (va_A (wX kI kC kG x ag at_ as_ hh hst a0 a1 a2 a3 tx tch u) sz) := by
  refine Met.ofW (cc := cX5_sharedOn) (maxL := 2) (ret := (some .int)) (by decide) rfl ?_
  intro p e s m args below meth c s₁ B hml hv
  obtain ⟨rfl, hsz, hP, hK, hD0, hE⟩ := hv
  have hx := B.exec
  have hb := B.bytes
  have hr := B.returns
  have hts := atoms_spec (ws := wsX5_sharedOn) B.pre
  have hown : s.vm.findClass RX5 = some m.cls := findClass_of_methodNamed B.named
  have hlocks := B.notSynchronized
  subst hsz
  have hD := hD0.self (sz := s.heap.size)
  generalize hAe : va_A (wX kI kC kG x ag at_ as_ hh hst a0 a1 a2 a3 tx tch u) s.heap.size = A at hD hE ⊢
  have hA : ∀ q : Nat, s.heap.size ≤ q → A q := fun q h => by rw [← hAe]; exact Or.inr h
  have hS : va_S A s.heap s.heap [] := va_S.rf
  clear hAe hD0
  have hl := lv_entry ([.ref x, .int p0]) (n := 2) (Nat.le_of_ble_eq_true rfl)
  rw [lg_entry_eq]
  generalize (lg_sl ([.ref x, .int p0]) ++ List.replicate (2 - (lg_sl ([.ref x, .int p0])).length) Slot.unset).toArray = ls at hl ⊢
  have hl : lv_has ls 2 [(0, .ref x), (1, .int p0)] := hl
  have hP : va_P D vwCl (wX kI kC kG x ag at_ as_ hh hst a0 a1 a2 a3 tx tch u) s.heap := hP
  unfold pX5_sharedOn at hw
  refine lv_aload_n hx hb dX5_sharedOn_0 rfl (lv_at hl 0 rfl) ?_
  refine lv_iload_n hx hb dX5_sharedOn_1 rfl (lv_at hl 1 rfl) ?_
  refine gWVv (S := SX) (As := [.int p0]) (rest := []) (wc := wX kI kC kG x ag at_ as_ hh hst a0 a1 a2 a3 tx tch u) (wr := []) (cs1 := (fun zz : SX => wX kI kC kG x ag at_ as_ hh hst a0 a1 a2 a3 tx tch zz)) (ws2 := (fun zz : SX => wX kI kC kG x ag at_ as_ hh hst a0 a1 a2 a3 tx tch zz)) ⟨hx, hb, hml, hown, hts⟩ (fun sz => kX5_requireLine_n l D kI kC kG kJ x ag at_ as_ hh hst a0 a1 a2 a3 tx tch sz u p0 _ hw) (cwV 1 hts gX5_sharedOn_X5_requireLine rfl rfl rfl hdX5_requireLine ⟨Nat.le_of_ble_eq_true rfl, Nat.le_of_ble_eq_true rfl⟩) hK hP hD hE hS hA [0, 1, 2, 3, 4, 5, 6, 7, 8, 9, 10, 11, 12, 13, 14, 15, 16, 17, 18, 19, 20, 21, 22, 23, 24, 25, 26, 27, 28, 29, 30, 31, 32] [] rfl rfl rfl rfl (by decide) [0, 1, 2, 3, 4, 5, 6, 7, 8, 9, 10, 11, 12, 13, 14, 15, 16, 17, 18, 19, 20, 21, 22, 23, 24, 25, 26, 27, 28, 29, 30, 31, 32] rfl (fun _ => rfl) (ci := 4) (q0 := 0) rfl rfl rfl rfl hl.1 rfl (Nat.le_of_ble_eq_true rfl) dX5_sharedOn_2 ⟨Nat.le_of_ble_eq_true rfl, Nat.le_of_ble_eq_true rfl⟩ (fun w1 H locs hw hP hD hS => ?_)
  have hP : va_P D vwCl (wX kI kC kG x ag at_ as_ hh hst a0 a1 a2 a3 tx tch w1) H := hP
  have hD : va_D A (wX kI kC kG x ag at_ as_ hh hst a0 a1 a2 a3 tx tch w1) := hD
  refine lv_aload_n hx hb dX5_sharedOn_5 rfl (lv_at hl 0 rfl) ?_
  refine va_get (D := D) (ci := 4) (v := .ref ag.1) (C := RX5) (T := TX5) (N := 6) hx hb hts (fun _ h => List.mem_cons_of_mem _ (List.mem_append_left _ (List.mem_append_left _ (List.mem_append_left _ (List.mem_append_right _ h))))) hown hK hP 0 rfl rfl 0 (by decide) (hts (.fieldLink RX5 10 "HazelGift" "game" "LHazelGift$Game;") (List.mem_of_getElem? (i := 1) rfl)) (fun _ h9 => h9) rfl dX5_sharedOn_6 ?_
  refine gVa (r := .ref ag.2.1) (As := []) (rest := []) (cs' := wG kI ag w1.2.1) ⟨hx, hb, hml, hown, hts⟩ (kX2_board l D kI kC kG kJ ag w1.2.1) (cwV 0 hts gX5_sharedOn_X2_board rfl rfl rfl hdX2_board ⟨Nat.le_of_ble_eq_true rfl, Nat.le_of_ble_eq_true rfl⟩) hK hP hE hS [1, 2, 3, 4] rfl (ci := 1) (q0 := 0) rfl rfl rfl rfl hl.1 rfl (Nat.le_of_ble_eq_true rfl) dX5_sharedOn_9 ⟨Nat.le_of_ble_eq_true rfl, Nat.le_of_ble_eq_true rfl⟩ ?_
  refine lv_iload_n hx hb dX5_sharedOn_12 rfl (lv_at hl 1 rfl) ?_
  refine gVi (As := [.int p0]) (rest := []) (cs' := wB kI ag.2.1 ag.2.2.1 w1.2.1.2.2.2) ⟨hx, hb, hml, hown, hts⟩ (kX0_sharedTraits l D kI kC kG kJ ag.2.1 ag.2.2.1 w1.2.1.2.2.2 p0 _ hw) (cwV 1 hts gX5_sharedOn_X0_sharedTraits rfl rfl rfl hdX0_sharedTraits ⟨Nat.le_of_ble_eq_true rfl, Nat.le_of_ble_eq_true rfl⟩) hK hP hE hS [3, 4] rfl (ci := 0) (q0 := 0) rfl rfl rfl rfl hl.1 rfl (Nat.le_of_ble_eq_true rfl) dX5_sharedOn_13 ⟨Nat.le_of_ble_eq_true rfl, Nat.le_of_ble_eq_true rfl⟩ (fun r3 hw => ?_)
  exact W.iret (v := r3) hx hb hr (fun t ht hW => ⟨⟨r3, w1, rfl, hw, by rw [ht]; exact hP, va_K.moved hW.alike hK, hD⟩, hS.F ht⟩) hS.2.2 dX5_sharedOn_16
set_option maxHeartbeats 4000000 in
set_option maxRecDepth 100000 in
theorem kX5_winsOf_n (l : Launch) (D : va_G) (kI kC kG kJ : ClassId) (x : Nat) (ag at_ as_ : AG) (hh hst : Nat) (a0 a1 a2 a3 : AG) (tx tch : Nat) (sz : Nat) (u : SX) (p0 : Int32) (Z : Int32 → SX → Prop) (hw : pX5_winsOf p0 u Z (fun _ _ => False)) : Met l yX5_winsOf wsX5_winsOf ({ frames := 1, cells := 0, slots := 0, locals := 21 } : Room) (gPw D (gT kI kC kG kJ) [.ref x, .int p0] (wX kI kC kG x ag at_ as_ hh hst a0 a1 a2 a3 tx tch u) sz) (va_Qi Z (gB D (gT kI kC kG kJ) (fun (zz : SX) => wX kI kC kG x ag at_ as_ hh hst a0 a1 a2 a3 tx tch zz) (va_A (wX kI kC kG x ag at_ as_ hh hst a0 a1 a2 a3 tx tch u) sz)) (va_A (wX kI kC kG x ag at_ as_ hh hst a0 a1 a2 a3 tx tch u) sz)) 0 0 (va_A (wX kI kC kG x ag at_ as_ hh hst a0 a1 a2 a3 tx tch u) sz) := by
  refine Met.ofW (cc := cX5_winsOf) (maxL := 2) (ret := (some .int)) (by decide) rfl ?_
  intro p e s m args below meth c s₁ B hml hv
  obtain ⟨rfl, hsz, hP, hK, hD0, hE⟩ := hv
  have hx := B.exec
  have hb := B.bytes
  have hr := B.returns
  have hts := atoms_spec (ws := wsX5_winsOf) B.pre
  have hown : s.vm.findClass RX5 = some m.cls := findClass_of_methodNamed B.named
  have hlocks := B.notSynchronized
  subst hsz
  have hD := hD0.self (sz := s.heap.size)
  generalize hAe : va_A (wX kI kC kG x ag at_ as_ hh hst a0 a1 a2 a3 tx tch u) s.heap.size = A at hD hE ⊢
  have hA : ∀ q : Nat, s.heap.size ≤ q → A q := fun q h => by rw [← hAe]; exact Or.inr h
  have hS : va_S A s.heap s.heap [] := va_S.rf
  clear hAe hD0
  have hl := lv_entry ([.ref x, .int p0]) (n := 2) (Nat.le_of_ble_eq_true rfl)
  rw [lg_entry_eq]
  generalize (lg_sl ([.ref x, .int p0]) ++ List.replicate (2 - (lg_sl ([.ref x, .int p0])).length) Slot.unset).toArray = ls at hl ⊢
  have hl : lv_has ls 2 [(0, .ref x), (1, .int p0)] := hl
  have hP : va_P D vwCl (wX kI kC kG x ag at_ as_ hh hst a0 a1 a2 a3 tx tch u) s.heap := hP
  unfold pX5_winsOf at hw
  refine lv_iload_n hx hb dX5_winsOf_0 rfl (lv_at hl 1 rfl) ?_
  refine lv_if_lt (tgt := 9) hx hb dX5_winsOf_1 (by decide) (fun c1 => ?_) (fun c1 => ?_)
  · replace hw := Eq.mp (if_pos c1) hw
    exact (hw : False).elim
  · replace hw := Eq.mp (if_neg c1) hw
    refine lv_iload_n hx hb dX5_winsOf_4 rfl (lv_at hl 1 rfl) ?_
    refine lv_iconst (v := 2) hx hb dX5_winsOf_5 (by decide) ?_
    refine lv_icmp_lt (tgt := 19) hx hb dX5_winsOf_6 (by decide) (fun c2 => ?_) (fun c2 => ?_)
    · replace hw := Eq.mp (if_pos c2) hw
      refine lv_aload_n hx hb dX5_winsOf_19 rfl (lv_at hl 0 rfl) ?_
      refine va_get (D := D) (ci := 4) (v := .ref ag.1) (C := RX5) (T := TX5) (N := 6) hx hb hts (fun _ h => List.mem_cons_of_mem _ (List.mem_append_left _ (List.mem_append_left _ (List.mem_append_right _ h)))) hown hK hP 0 rfl rfl 0 (by decide) (hts (.fieldLink RX5 10 "HazelGift" "game" "LHazelGift$Game;") (List.mem_of_getElem? (i := 3) rfl)) (fun _ h9 => h9) rfl dX5_winsOf_20 ?_
      refine lv_iload_n hx hb dX5_winsOf_23 rfl (lv_at hl 1 rfl) ?_
      refine gVi (As := [.int p0]) (rest := []) (cs' := wG kI ag u.2.1) ⟨hx, hb, hml, hown, hts⟩ (kX2_victoriesOf l D kI kC kG kJ ag u.2.1 p0 _ hw) (cwV 1 hts gX5_winsOf_X2_victoriesOf rfl rfl rfl hdX2_victoriesOf ⟨Nat.le_of_ble_eq_true rfl, Nat.le_of_ble_eq_true rfl⟩) hK hP hE hS [1, 2, 3, 4] rfl (ci := 1) (q0 := 0) rfl rfl rfl rfl hl.1 rfl (Nat.le_of_ble_eq_true rfl) dX5_winsOf_24 ⟨Nat.le_of_ble_eq_true rfl, Nat.le_of_ble_eq_true rfl⟩ (fun r3 hw => ?_)
      exact W.iret (v := r3) hx hb hr (fun t ht hW => ⟨⟨r3, u, rfl, hw, by rw [ht]; exact hP, va_K.moved hW.alike hK, hD⟩, hS.F ht⟩) hS.2.2 dX5_winsOf_27
    · replace hw := Eq.mp (if_neg c2) hw
      exact (hw : False).elim
set_option maxHeartbeats 4000000 in
set_option maxRecDepth 100000 in
theorem kX5_winningCell_n (l : Launch) (D : va_G) (kI kC kG kJ : ClassId) (x : Nat) (ag at_ as_ : AG) (hh hst : Nat) (a0 a1 a2 a3 : AG) (tx tch : Nat) (sz : Nat) (u : SX) (p0 : Int32) (Z : Int32 → SX → Prop) (hw : pX5_winningCell p0 u Z (fun _ _ => False)) : Met l yX5_winningCell wsX5_winningCell ({ frames := 4, cells := 0, slots := 0, locals := 90 } : Room) (gPw D (gT kI kC kG kJ) [.ref x, .int p0] (wX kI kC kG x ag at_ as_ hh hst a0 a1 a2 a3 tx tch u) sz) (va_Qi Z (gB D (gT kI kC kG kJ) (fun (zz : SX) => wX kI kC kG x ag at_ as_ hh hst a0 a1 a2 a3 tx tch zz) (va_A (wX kI kC kG x ag at_ as_ hh hst a0 a1 a2 a3 tx tch u) sz)) (va_A (wX kI kC kG x ag at_ as_ hh hst a0 a1 a2 a3 tx tch u) sz)) 0 0 (va_A (wX kI kC kG x ag at_ as_ hh hst a0 a1 a2 a3 tx tch u) sz) := by
  refine Met.ofW (cc := cX5_winningCell) (maxL := 2) (ret := (some .int)) (by decide) rfl ?_
  intro p e s m args below meth c s₁ B hml hv
  obtain ⟨rfl, hsz, hP, hK, hD0, hE⟩ := hv
  have hx := B.exec
  have hb := B.bytes
  have hr := B.returns
  have hts := atoms_spec (ws := wsX5_winningCell) B.pre
  have hown : s.vm.findClass RX5 = some m.cls := findClass_of_methodNamed B.named
  have hlocks := B.notSynchronized
  subst hsz
  have hD := hD0.self (sz := s.heap.size)
  generalize hAe : va_A (wX kI kC kG x ag at_ as_ hh hst a0 a1 a2 a3 tx tch u) s.heap.size = A at hD hE ⊢
  have hA : ∀ q : Nat, s.heap.size ≤ q → A q := fun q h => by rw [← hAe]; exact Or.inr h
  have hS : va_S A s.heap s.heap [] := va_S.rf
  clear hAe hD0
  have hl := lv_entry ([.ref x, .int p0]) (n := 2) (Nat.le_of_ble_eq_true rfl)
  rw [lg_entry_eq]
  generalize (lg_sl ([.ref x, .int p0]) ++ List.replicate (2 - (lg_sl ([.ref x, .int p0])).length) Slot.unset).toArray = ls at hl ⊢
  have hl : lv_has ls 2 [(0, .ref x), (1, .int p0)] := hl
  have hP : va_P D vwCl (wX kI kC kG x ag at_ as_ hh hst a0 a1 a2 a3 tx tch u) s.heap := hP
  unfold pX5_winningCell at hw
  refine lv_iload_n hx hb dX5_winningCell_0 rfl (lv_at hl 1 rfl) ?_
  refine gWSv (S := Unit) (As := [.int p0]) (rest := []) (wc := ([] : va_W)) (wr := [(x, .inr (4, [.ref ag.1, .ref at_.1, .ref as_.1, .int u.1, .ref hh, .ref tx]))] ++ wG kI ag u.2.1 ++ wG kI at_ u.2.2.1 ++ wG kI as_ u.2.2.2.1 ++ [(hh, .inr (2, [.ref hst, .int u.2.2.2.2.1.1, .int u.2.2.2.2.1.2.1])), (hst, .inl (kG, 4, .inr (.inr (.inr (.inr (fH a0 a1 a2 a3))))))] ++ wG kI a0 u.2.2.2.2.1.2.2.1 ++ wG kI a1 u.2.2.2.2.1.2.2.2.1 ++ wG kI a2 u.2.2.2.2.1.2.2.2.2.1 ++ wG kI a3 u.2.2.2.2.1.2.2.2.2.2 ++ wT kC tx tch u.2.2.2.2.2) (cs1 := (fun zz : Unit => ([] : va_W))) (ws2 := (fun zz : Unit => wX kI kC kG x ag at_ as_ hh hst a0 a1 a2 a3 tx tch u)) ⟨hx, hb, hml, hown, hts⟩ (fun sz => kX5_requirePiece_n l D kI kC kG kJ  sz p0 _ hw) (va_cwS 1 hts gX5_winningCell_X5_requirePiece rfl rfl rfl hdX5_requirePiece ⟨Nat.le_of_ble_eq_true rfl, Nat.le_of_ble_eq_true rfl⟩) hK hP hD hE hS hA [] [0, 1, 2, 3, 4, 5, 6, 7, 8, 9, 10, 11, 12, 13, 14, 15, 16, 17, 18, 19, 20, 21, 22, 23, 24, 25, 26, 27, 28, 29, 30, 31, 32] rfl rfl rfl rfl (by decide) [0, 1, 2, 3, 4, 5, 6, 7, 8, 9, 10, 11, 12, 13, 14, 15, 16, 17, 18, 19, 20, 21, 22, 23, 24, 25, 26, 27, 28, 29, 30, 31, 32] rfl (fun _ => rfl) rfl hl.1 rfl (Nat.le_of_ble_eq_true rfl) dX5_winningCell_1 ⟨Nat.le_of_ble_eq_true rfl, Nat.le_of_ble_eq_true rfl⟩ (fun w1 H locs hw hP hD hS => ?_)
  have hP : va_P D vwCl (wX kI kC kG x ag at_ as_ hh hst a0 a1 a2 a3 tx tch u) H := hP
  have hD : va_D A (wX kI kC kG x ag at_ as_ hh hst a0 a1 a2 a3 tx tch u) := hD
  refine lv_aload_n hx hb dX5_winningCell_4 rfl (lv_at hl 0 rfl) ?_
  refine va_get (D := D) (ci := 4) (v := .ref ag.1) (C := RX5) (T := TX5) (N := 6) hx hb hts (fun _ h => List.mem_cons_of_mem _ (List.mem_append_left _ (List.mem_append_left _ (List.mem_append_left _ (List.mem_append_right _ h))))) hown hK hP 0 rfl rfl 0 (by decide) (hts (.fieldLink RX5 10 "HazelGift" "game" "LHazelGift$Game;") (List.mem_of_getElem? (i := 1) rfl)) (fun _ h9 => h9) rfl dX5_winningCell_5 ?_
  refine gVi (As := []) (rest := []) (cs' := wG kI ag u.2.1) ⟨hx, hb, hml, hown, hts⟩ (kX2_hasEnded l D kI kC kG kJ ag u.2.1 _ hw) (cwV 0 hts gX5_winningCell_X2_hasEnded rfl rfl rfl hdX2_hasEnded ⟨Nat.le_of_ble_eq_true rfl, Nat.le_of_ble_eq_true rfl⟩) hK hP hE hS [1, 2, 3, 4] rfl (ci := 1) (q0 := 0) rfl rfl rfl rfl hl.1 rfl (Nat.le_of_ble_eq_true rfl) dX5_winningCell_8 ⟨Nat.le_of_ble_eq_true rfl, Nat.le_of_ble_eq_true rfl⟩ (fun r2 hw => ?_)
  refine lv_if_ne (tgt := 28) hx hb dX5_winningCell_11 (by decide) (fun c3 => ?_) (fun c3 => ?_)
  · replace hw := Eq.mp (if_neg c3) hw
    refine lv_iconst (v := (-1)) hx hb dX5_winningCell_28 (by decide) ?_
    exact W.iret (v := (-1)) hx hb hr (fun t ht hW => ⟨⟨(-1), u, rfl, hw, by rw [ht]; exact hP, va_K.moved hW.alike hK, hD⟩, hS.F ht⟩) hS.2.2 dX5_winningCell_29
  · replace hw := Eq.mp (if_pos c3) hw
    refine lv_aload_n hx hb dX5_winningCell_14 rfl (lv_at hl 0 rfl) ?_
    refine va_get (D := D) (ci := 4) (v := .ref ag.1) (C := RX5) (T := TX5) (N := 6) hx hb hts (fun _ h => List.mem_cons_of_mem _ (List.mem_append_left _ (List.mem_append_left _ (List.mem_append_left _ (List.mem_append_right _ h))))) hown hK hP 0 rfl rfl 0 (by decide) (hts (.fieldLink RX5 10 "HazelGift" "game" "LHazelGift$Game;") (List.mem_of_getElem? (i := 1) rfl)) (fun _ h9 => h9) rfl dX5_winningCell_15 ?_
    refine gVa (r := .ref ag.2.1) (As := []) (rest := []) (cs' := wG kI ag u.2.1) ⟨hx, hb, hml, hown, hts⟩ (kX2_board l D kI kC kG kJ ag u.2.1) (cwV 0 hts gX5_winningCell_X2_board rfl rfl rfl hdX2_board ⟨Nat.le_of_ble_eq_true rfl, Nat.le_of_ble_eq_true rfl⟩) hK hP hE hS [1, 2, 3, 4] rfl (ci := 1) (q0 := 0) rfl rfl rfl rfl hl.1 rfl (Nat.le_of_ble_eq_true rfl) dX5_winningCell_18 ⟨Nat.le_of_ble_eq_true rfl, Nat.le_of_ble_eq_true rfl⟩ ?_
    refine lv_iload_n hx hb dX5_winningCell_21 rfl (lv_at hl 1 rfl) ?_
    refine gVi (As := [.int p0]) (rest := []) (cs' := wB kI ag.2.1 ag.2.2.1 u.2.1.2.2.2) ⟨hx, hb, hml, hown, hts⟩ (kX0_holds l D kI kC kG kJ ag.2.1 ag.2.2.1 u.2.1.2.2.2 p0 _ hw) (cwV 1 hts gX5_winningCell_X0_holds rfl rfl rfl hdX0_holds ⟨Nat.le_of_ble_eq_true rfl, Nat.le_of_ble_eq_true rfl⟩) hK hP hE hS [3, 4] rfl (ci := 0) (q0 := 0) rfl rfl rfl rfl hl.1 rfl (Nat.le_of_ble_eq_true rfl) dX5_winningCell_22 ⟨Nat.le_of_ble_eq_true rfl, Nat.le_of_ble_eq_true rfl⟩ (fun r5 hw => ?_)
    refine lv_if_eq (tgt := 30) hx hb dX5_winningCell_25 (by decide) (fun c6 => ?_) (fun c6 => ?_)
    · replace hw := Eq.mp (if_pos c6) hw
      refine lv_aload_n hx hb dX5_winningCell_30 rfl (lv_at hl 0 rfl) ?_
      refine va_get (D := D) (ci := 4) (v := .ref at_.1) (C := RX5) (T := TX5) (N := 6) hx hb hts (fun _ h => List.mem_cons_of_mem _ (List.mem_append_left _ (List.mem_append_left _ (List.mem_append_left _ (List.mem_append_right _ h))))) hown hK hP 0 rfl rfl 1 (by decide) (hts (.fieldLink RX5 16 "HazelGift" "trial" "LHazelGift$Game;") (List.mem_of_getElem? (i := 2) rfl)) (fun _ h9 => h9) rfl dX5_winningCell_31 ?_
      refine lv_aload_n hx hb dX5_winningCell_34 rfl (lv_at hl 0 rfl) ?_
      refine va_get (D := D) (ci := 4) (v := .ref ag.1) (C := RX5) (T := TX5) (N := 6) hx hb hts (fun _ h => List.mem_cons_of_mem _ (List.mem_append_left _ (List.mem_append_left _ (List.mem_append_left _ (List.mem_append_right _ h))))) hown hK hP 0 rfl rfl 0 (by decide) (hts (.fieldLink RX5 10 "HazelGift" "game" "LHazelGift$Game;") (List.mem_of_getElem? (i := 1) rfl)) (fun _ h9 => h9) rfl dX5_winningCell_35 ?_
      refine gWVv (S := SG × SG) (As := [.ref ag.1]) (rest := []) (wc := wG kI at_ u.2.2.1 ++ wG kI ag u.2.1) (wr := [(x, .inr (4, [.ref ag.1, .ref at_.1, .ref as_.1, .int u.1, .ref hh, .ref tx]))] ++ wG kI as_ u.2.2.2.1 ++ [(hh, .inr (2, [.ref hst, .int u.2.2.2.2.1.1, .int u.2.2.2.2.1.2.1])), (hst, .inl (kG, 4, .inr (.inr (.inr (.inr (fH a0 a1 a2 a3))))))] ++ wG kI a0 u.2.2.2.2.1.2.2.1 ++ wG kI a1 u.2.2.2.2.1.2.2.2.1 ++ wG kI a2 u.2.2.2.2.1.2.2.2.2.1 ++ wG kI a3 u.2.2.2.2.1.2.2.2.2.2 ++ wT kC tx tch u.2.2.2.2.2) (cs1 := (fun zz : SG × SG => wG kI at_ zz.1 ++ wG kI ag zz.2)) (ws2 := (fun zz : SG × SG => wX kI kC kG x ag at_ as_ hh hst a0 a1 a2 a3 tx tch (u.1, zz.2, zz.1, u.2.2.2.1, u.2.2.2.2.1, u.2.2.2.2.2))) ⟨hx, hb, hml, hown, hts⟩ (fun sz => kX2_copyFrom l D kI kC kG kJ at_ ag sz u.2.2.1 u.2.1 _ hw) (cwV 1 hts gX5_winningCell_X2_copyFrom rfl rfl rfl hdX2_copyFrom ⟨Nat.le_of_ble_eq_true rfl, Nat.le_of_ble_eq_true rfl⟩) hK hP hD hE hS hA [5, 6, 7, 8, 1, 2, 3, 4] [0, 9, 10, 11, 12, 13, 14, 15, 16, 17, 18, 19, 20, 21, 22, 23, 24, 25, 26, 27, 28, 29, 30, 31, 32] rfl rfl rfl rfl (by decide) [0, 29, 30, 31, 32, 25, 26, 27, 28, 1, 2, 3, 4, 5, 6, 7, 8, 9, 10, 11, 12, 13, 14, 15, 16, 17, 18, 19, 20, 21, 22, 23, 24] rfl (fun _ => rfl) (ci := 1) (q0 := 0) rfl rfl rfl rfl hl.1 rfl (Nat.le_of_ble_eq_true rfl) dX5_winningCell_38 ⟨Nat.le_of_ble_eq_true rfl, Nat.le_of_ble_eq_true rfl⟩ (fun w7 H locs hw hP hD hS => ?_)
      have hP : va_P D vwCl (wX kI kC kG x ag at_ as_ hh hst a0 a1 a2 a3 tx tch (u.1, w7.2, w7.1, u.2.2.2.1, u.2.2.2.2.1, u.2.2.2.2.2)) H := hP
      have hD : va_D A (wX kI kC kG x ag at_ as_ hh hst a0 a1 a2 a3 tx tch (u.1, w7.2, w7.1, u.2.2.2.1, u.2.2.2.2.1, u.2.2.2.2.2)) := hD
      refine lv_aload_n hx hb dX5_winningCell_41 rfl (lv_at hl 0 rfl) ?_
      refine va_get (D := D) (ci := 4) (v := .ref at_.1) (C := RX5) (T := TX5) (N := 6) hx hb hts (fun _ h => List.mem_cons_of_mem _ (List.mem_append_left _ (List.mem_append_left _ (List.mem_append_left _ (List.mem_append_right _ h))))) hown hK hP 0 rfl rfl 1 (by decide) (hts (.fieldLink RX5 16 "HazelGift" "trial" "LHazelGift$Game;") (List.mem_of_getElem? (i := 2) rfl)) (fun _ h9 => h9) rfl dX5_winningCell_42 ?_
      refine gVa (r := .ref at_.2.1) (As := []) (rest := []) (cs' := wG kI at_ w7.1) ⟨hx, hb, hml, hown, hts⟩ (kX2_board l D kI kC kG kJ at_ w7.1) (cwV 0 hts gX5_winningCell_X2_board rfl rfl rfl hdX2_board ⟨Nat.le_of_ble_eq_true rfl, Nat.le_of_ble_eq_true rfl⟩) hK hP hE hS [5, 6, 7, 8] rfl (ci := 1) (q0 := 0) rfl rfl rfl rfl hl.1 rfl (Nat.le_of_ble_eq_true rfl) dX5_winningCell_45 ⟨Nat.le_of_ble_eq_true rfl, Nat.le_of_ble_eq_true rfl⟩ ?_
      refine lv_iload_n hx hb dX5_winningCell_48 rfl (lv_at hl 1 rfl) ?_
      refine gWVi (S := SB) (As := [.int p0]) (rest := []) (wc := wB kI at_.2.1 at_.2.2.1 w7.1.2.2.2) (wr := [(x, .inr (4, [.ref ag.1, .ref at_.1, .ref as_.1, .int u.1, .ref hh, .ref tx]))] ++ wG kI ag w7.2 ++ [(at_.1, .inr (1, [.ref at_.2.1, .int w7.1.1, .int w7.1.2.1, .ref at_.2.2.2])), (at_.2.2.2, .inl (kI, 2, .inl w7.1.2.2.1))] ++ wG kI as_ u.2.2.2.1 ++ [(hh, .inr (2, [.ref hst, .int u.2.2.2.2.1.1, .int u.2.2.2.2.1.2.1])), (hst, .inl (kG, 4, .inr (.inr (.inr (.inr (fH a0 a1 a2 a3))))))] ++ wG kI a0 u.2.2.2.2.1.2.2.1 ++ wG kI a1 u.2.2.2.2.1.2.2.2.1 ++ wG kI a2 u.2.2.2.2.1.2.2.2.2.1 ++ wG kI a3 u.2.2.2.2.1.2.2.2.2.2 ++ wT kC tx tch u.2.2.2.2.2) (cs1 := (fun zz : SB => wB kI at_.2.1 at_.2.2.1 zz)) (ws2 := (fun zz : SB => wX kI kC kG x ag at_ as_ hh hst a0 a1 a2 a3 tx tch (u.1, w7.2, (w7.1.1, w7.1.2.1, w7.1.2.2.1, zz), u.2.2.2.1, u.2.2.2.2.1, u.2.2.2.2.2))) ⟨hx, hb, hml, hown, hts⟩ (fun sz => kX0_firstWinningCell l D kI kC kG kJ at_.2.1 at_.2.2.1 sz w7.1.2.2.2 p0 _ hw) (cwV 1 hts gX5_winningCell_X0_firstWinningCell rfl rfl rfl hdX0_firstWinningCell ⟨Nat.le_of_ble_eq_true rfl, Nat.le_of_ble_eq_true rfl⟩) hK hP hD hE hS hA [7, 8] [0, 1, 2, 3, 4, 5, 6, 9, 10, 11, 12, 13, 14, 15, 16, 17, 18, 19, 20, 21, 22, 23, 24, 25, 26, 27, 28, 29, 30, 31, 32] rfl rfl rfl rfl (by decide) [0, 1, 2, 3, 4, 5, 6, 31, 32, 7, 8, 9, 10, 11, 12, 13, 14, 15, 16, 17, 18, 19, 20, 21, 22, 23, 24, 25, 26, 27, 28, 29, 30] rfl (fun _ => rfl) (ci := 0) (q0 := 0) rfl rfl rfl rfl hl.1 rfl (Nat.le_of_ble_eq_true rfl) dX5_winningCell_49 ⟨Nat.le_of_ble_eq_true rfl, Nat.le_of_ble_eq_true rfl⟩ (fun r9 w9 H locs hw hP hD hS => ?_)
      have hP : va_P D vwCl (wX kI kC kG x ag at_ as_ hh hst a0 a1 a2 a3 tx tch (u.1, w7.2, (w7.1.1, w7.1.2.1, w7.1.2.2.1, w9), u.2.2.2.1, u.2.2.2.2.1, u.2.2.2.2.2)) H := hP
      have hD : va_D A (wX kI kC kG x ag at_ as_ hh hst a0 a1 a2 a3 tx tch (u.1, w7.2, (w7.1.1, w7.1.2.1, w7.1.2.2.1, w9), u.2.2.2.1, u.2.2.2.2.1, u.2.2.2.2.2)) := hD
      exact W.iret (v := r9) hx hb hr (fun t ht hW => ⟨⟨r9, (u.1, w7.2, (w7.1.1, w7.1.2.1, w7.1.2.2.1, w9), u.2.2.2.1, u.2.2.2.2.1, u.2.2.2.2.2), rfl, hw, by rw [ht]; exact hP, va_K.moved hW.alike hK, hD⟩, hS.F ht⟩) hS.2.2 dX5_winningCell_52
    · replace hw := Eq.mp (if_neg c6) hw
      refine lv_iconst (v := (-1)) hx hb dX5_winningCell_28 (by decide) ?_
      exact W.iret (v := (-1)) hx hb hr (fun t ht hW => ⟨⟨(-1), u, rfl, hw, by rw [ht]; exact hP, va_K.moved hW.alike hK, hD⟩, hS.F ht⟩) hS.2.2 dX5_winningCell_29
