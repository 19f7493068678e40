set_option maxHeartbeats 4000000 in
set_option maxRecDepth 100000 in
theorem kJ6_bitCount_0f7a4 (l : Launch) (D : va_G) (kI kC kG kJ : ClassId) (p0 : Int32) (Z : Int32 → Prop) (hw : pJ6_bitCount_0f7a4 p0 Z) : Met l yJ6_bitCount_0f7a4 wsJ6_bitCount_0f7a4 ({ frames := 0, cells := 0, slots := 0, locals := 0 } : Room) (gPr D (gT kI kC kG kJ) [.int p0] (([] : va_W))) (vp_Si Z) 0 0 (fun _ => False) := by
  refine Met.ofW (cc := cJ6_bitCount_0f7a4) (maxL := 1) (ret := (some .int)) (by decide) rfl ?_
  intro p e s m args below meth c s₁ B hml hv
  obtain ⟨rfl, hP, hK, hE⟩ := hv
  have hx := B.exec
  have hb := B.bytes
  have hr := B.returns
  have hts := atoms_spec (ws := wsJ6_bitCount_0f7a4) B.pre
  have hown : s.vm.findClass RJ6 = some m.cls := findClass_of_methodNamed B.named
  have hlocks := B.notSynchronized
  have hS : va_S (fun _ => False) s.heap s.heap [] := va_S.rf
  have hl := lv_entry ([.int p0]) (n := 1) (Nat.le_of_ble_eq_true rfl)
  rw [lg_entry_eq]
  generalize (lg_sl ([.int p0]) ++ List.replicate (1 - (lg_sl ([.int p0])).length) Slot.unset).toArray = ls at hl ⊢
  have hl : lv_has ls 1 [(0, .int p0)] := hl
  unfold pJ6_bitCount_0f7a4 at hw
  refine lv_iload_n hx hb dJ6_bitCount_0f7a4_0 rfl (lv_at hl 0 rfl) ?_
  refine lv_iload_n hx hb dJ6_bitCount_0f7a4_1 rfl (lv_at hl 0 rfl) ?_
  refine lv_iconst (v := 1) hx hb dJ6_bitCount_0f7a4_2 (by decide) ?_
  refine lv_iushr (v := (((p0).toUInt32 >>> ((1 : Int32).toUInt32 &&& Int32.toUInt32 31)).toInt32)) hx hb dJ6_bitCount_0f7a4_3 rfl ?_
  refine lv_ldcw (v := 1431655765) hx hb hown (hts (.constant RJ6 265 (1431655765)) (List.mem_of_getElem? (i := 1) rfl)) dJ6_bitCount_0f7a4_4 ?_
  refine lv_iand hx hb dJ6_bitCount_0f7a4_7 ?_
  refine lv_isub hx hb dJ6_bitCount_0f7a4_8 ?_
  refine lv_topi (fun x1 ex1 => ?_)
  replace hw := hw x1 ex1
  refine lv_istore_n (lv' := [(0, .int x1)]) hx hb dJ6_bitCount_0f7a4_9 rfl hl (by decide) rfl (fun ls hl => ?_)
  refine lv_iload_n hx hb dJ6_bitCount_0f7a4_10 rfl (lv_at hl 0 rfl) ?_
  refine lv_ldcw (v := 858993459) hx hb hown (hts (.constant RJ6 266 (858993459)) (List.mem_of_getElem? (i := 2) rfl)) dJ6_bitCount_0f7a4_11 ?_
  refine lv_iand hx hb dJ6_bitCount_0f7a4_14 ?_
  refine lv_iload_n hx hb dJ6_bitCount_0f7a4_15 rfl (lv_at hl 0 rfl) ?_
  refine lv_iconst (v := 2) hx hb dJ6_bitCount_0f7a4_16 (by decide) ?_
  refine lv_iushr (v := (((x1).toUInt32 >>> ((2 : Int32).toUInt32 &&& Int32.toUInt32 31)).toInt32)) hx hb dJ6_bitCount_0f7a4_17 rfl ?_
  refine lv_ldcw (v := 858993459) hx hb hown (hts (.constant RJ6 266 (858993459)) (List.mem_of_getElem? (i := 2) rfl)) dJ6_bitCount_0f7a4_18 ?_
  refine lv_iand hx hb dJ6_bitCount_0f7a4_21 ?_
  refine lv_iadd hx hb dJ6_bitCount_0f7a4_22 ?_
  refine lv_topi (fun x2 ex2 => ?_)
  replace hw := hw x2 ex2
  refine lv_istore_n (lv' := [(0, .int x2)]) hx hb dJ6_bitCount_0f7a4_23 rfl hl (by decide) rfl (fun ls hl => ?_)
  refine lv_iload_n hx hb dJ6_bitCount_0f7a4_24 rfl (lv_at hl 0 rfl) ?_
  refine lv_iload_n hx hb dJ6_bitCount_0f7a4_25 rfl (lv_at hl 0 rfl) ?_
  refine lv_iconst (v := 4) hx hb dJ6_bitCount_0f7a4_26 (by decide) ?_
  refine lv_iushr (v := (((x2).toUInt32 >>> ((4 : Int32).toUInt32 &&& Int32.toUInt32 31)).toInt32)) hx hb dJ6_bitCount_0f7a4_27 rfl ?_
  refine lv_iadd hx hb dJ6_bitCount_0f7a4_28 ?_
  refine lv_ldcw (v := 252645135) hx hb hown (hts (.constant RJ6 267 (252645135)) (List.mem_of_getElem? (i := 3) rfl)) dJ6_bitCount_0f7a4_29 ?_
  refine lv_iand hx hb dJ6_bitCount_0f7a4_32 ?_
  refine lv_topi (fun x3 ex3 => ?_)
  replace hw := hw x3 ex3
  refine lv_istore_n (lv' := [(0, .int x3)]) hx hb dJ6_bitCount_0f7a4_33 rfl hl (by decide) rfl (fun ls hl => ?_)
  refine lv_iload_n hx hb dJ6_bitCount_0f7a4_34 rfl (lv_at hl 0 rfl) ?_
  refine lv_iload_n hx hb dJ6_bitCount_0f7a4_35 rfl (lv_at hl 0 rfl) ?_
  refine lv_bipush (v := 8) hx hb dJ6_bitCount_0f7a4_36 (by decide) ?_
  refine lv_iushr (v := (((x3).toUInt32 >>> ((8 : Int32).toUInt32 &&& Int32.toUInt32 31)).toInt32)) hx hb dJ6_bitCount_0f7a4_38 rfl ?_
  refine lv_iadd hx hb dJ6_bitCount_0f7a4_39 ?_
  refine lv_topi (fun x4 ex4 => ?_)
  replace hw := hw x4 ex4
  refine lv_istore_n (lv' := [(0, .int x4)]) hx hb dJ6_bitCount_0f7a4_40 rfl hl (by decide) rfl (fun ls hl => ?_)
  refine lv_iload_n hx hb dJ6_bitCount_0f7a4_41 rfl (lv_at hl 0 rfl) ?_
  refine lv_iload_n hx hb dJ6_bitCount_0f7a4_42 rfl (lv_at hl 0 rfl) ?_
  refine lv_bipush (v := 16) hx hb dJ6_bitCount_0f7a4_43 (by decide) ?_
  refine lv_iushr (v := (((x4).toUInt32 >>> ((16 : Int32).toUInt32 &&& Int32.toUInt32 31)).toInt32)) hx hb dJ6_bitCount_0f7a4_45 rfl ?_
  refine lv_iadd hx hb dJ6_bitCount_0f7a4_46 ?_
  refine lv_topi (fun x5 ex5 => ?_)
  replace hw := hw x5 ex5
  refine lv_istore_n (lv' := [(0, .int x5)]) hx hb dJ6_bitCount_0f7a4_47 rfl hl (by decide) rfl (fun ls hl => ?_)
  refine lv_iload_n hx hb dJ6_bitCount_0f7a4_48 rfl (lv_at hl 0 rfl) ?_
  refine lv_bipush (v := 63) hx hb dJ6_bitCount_0f7a4_49 (by decide) ?_
  refine lv_iand hx hb dJ6_bitCount_0f7a4_51 ?_
  exact W.iret (v := (x5 &&& 63)) hx hb hr (fun t ht hW => ⟨_, rfl, hw, ht⟩) (fun _ h => by cases h) dJ6_bitCount_0f7a4_52
set_option maxHeartbeats 4000000 in
set_option maxRecDepth 100000 in
theorem kX0_lineRule (l : Launch) (D : va_G) (kI kC kG kJ : ClassId) (t_b t_pr : Nat) (u : SB) (Z : Int32 → Prop) (hw : pX0_lineRule u Z) : Met l yX0_lineRule wsX0_lineRule ({ frames := 0, cells := 0, slots := 0, locals := 0 } : Room) (gPr D (gT kI kC kG kJ) [.ref t_b] (wB kI t_b t_pr u)) (vp_Si Z) 0 0 (fun _ => False) := by
  refine Met.ofW (cc := cX0_lineRule) (maxL := 1) (ret := (some .int)) (by decide) rfl ?_
  intro p e s m args below meth c s₁ B hml hv
  obtain ⟨rfl, hP, hK, hE⟩ := hv
  have hx := B.exec
  have hb := B.bytes
  have hr := B.returns
  have hts := atoms_spec (ws := wsX0_lineRule) B.pre
  have hown : s.vm.findClass RX0 = some m.cls := findClass_of_methodNamed B.named
  have hlocks := B.notSynchronized
  have hS : va_S (fun _ => False) s.heap s.heap [] := va_S.rf
  have hl := lv_entry ([.ref t_b]) (n := 1) (Nat.le_of_ble_eq_true rfl)
  rw [lg_entry_eq]
  generalize (lg_sl ([.ref t_b]) ++ List.replicate (1 - (lg_sl ([.ref t_b])).length) Slot.unset).toArray = ls at hl ⊢
  have hl : lv_has ls 1 [(0, .ref t_b)] := hl
  unfold pX0_lineRule at hw
  refine lv_aload_n hx hb dX0_lineRule_0 rfl (lv_at hl 0 rfl) ?_
  refine va_get (D := D) (ci := 0) (v := .int u.1) (C := RX0) (T := TX0) (N := 4) hx hb hts (fun _ h => List.mem_cons_of_mem _ (List.mem_append_right _ h)) hown hK hP 0 rfl rfl 0 (by decide) (hts (.fieldLink RX0 9 "HazelGift$Board" "rule" "I") (List.mem_of_getElem? (i := 1) rfl)) (fun _ h9 => h9) rfl dX0_lineRule_1 ?_
  exact W.iret (v := u.1) hx hb hr (fun t ht hW => ⟨_, rfl, hw, ht⟩) (fun _ h => by cases h) dX0_lineRule_4
set_option maxHeartbeats 4000000 in
set_option maxRecDepth 100000 in
theorem kX0_count (l : Launch) (D : va_G) (kI kC kG kJ : ClassId) (t_b t_pr : Nat) (u : SB) (Z : Int32 → Prop) (hw : pX0_count u Z) : Met l yX0_count wsX0_count ({ frames := 1, cells := 0, slots := 0, locals := 20 } : Room) (gPr D (gT kI kC kG kJ) [.ref t_b] (wB kI t_b t_pr u)) (vp_Si Z) 0 0 (fun _ => False) := by
  refine Met.ofW (cc := cX0_count) (maxL := 1) (ret := (some .int)) (by decide) rfl ?_
  intro p e s m args below meth c s₁ B hml hv
  obtain ⟨rfl, hP, hK, hE⟩ := hv
  have hx := B.exec
  have hb := B.bytes
  have hr := B.returns
  have hts := atoms_spec (ws := wsX0_count) B.pre
  have hown : s.vm.findClass RX0 = some m.cls := findClass_of_methodNamed B.named
  have hlocks := B.notSynchronized
  have hS : va_S (fun _ => False) s.heap s.heap [] := va_S.rf
  have hl := lv_entry ([.ref t_b]) (n := 1) (Nat.le_of_ble_eq_true rfl)
  rw [lg_entry_eq]
  generalize (lg_sl ([.ref t_b]) ++ List.replicate (1 - (lg_sl ([.ref t_b])).length) Slot.unset).toArray = ls at hl ⊢
  have hl : lv_has ls 1 [(0, .ref t_b)] := hl
  unfold pX0_count at hw
  refine lv_aload_n hx hb dX0_count_0 rfl (lv_at hl 0 rfl) ?_
  refine va_get (D := D) (ci := 0) (v := .int u.2.1) (C := RX0) (T := TX0) (N := 4) hx hb hts (fun _ h => List.mem_cons_of_mem _ (List.mem_append_right _ h)) hown hK hP 0 rfl rfl 1 (by decide) (hts (.fieldLink RX0 15 "HazelGift$Board" "filled" "I") (List.mem_of_getElem? (i := 1) rfl)) (fun _ h9 => h9) rfl dX0_count_1 ?_
  refine gSi (As := [.int u.2.1]) (rest := []) (cs' := ([] : va_W)) ⟨hx, hb, hml, hown, hts⟩ (kJ6_bitCount_0f7a4 l D kI kC kG kJ u.2.1 _ hw) (va_cwS 1 hts gX0_count_J6_bitCount_0f7a4 rfl rfl rfl hdJ6_bitCount_0f7a4 ⟨Nat.le_of_ble_eq_true rfl, Nat.le_of_ble_eq_true rfl⟩) hK hP hE hS [] rfl rfl hl.1 rfl (Nat.le_of_ble_eq_true rfl) dX0_count_4 ⟨Nat.le_of_ble_eq_true rfl, Nat.le_of_ble_eq_true rfl⟩ (fun r1 hw => ?_)
  exact W.iret (v := r1) hx hb hr (fun t ht hW => ⟨_, rfl, hw, ht⟩) (fun _ h => by cases h) dX0_count_7
set_option maxHeartbeats 4000000 in
set_option maxRecDepth 100000 in
theorem kX0_emptyCount (l : Launch) (D : va_G) (kI kC kG kJ : ClassId) (t_b t_pr : Nat) (u : SB) (Z : Int32 → Prop) (hw : pX0_emptyCount u Z) : Met l yX0_emptyCount wsX0_emptyCount ({ frames := 2, cells := 0, slots := 0, locals := 40 } : Room) (gPr D (gT kI kC kG kJ) [.ref t_b] (wB kI t_b t_pr u)) (vp_Si Z) 0 0 (fun _ => False) := by
  refine Met.ofW (cc := cX0_emptyCount) (maxL := 1) (ret := (some .int)) (by decide) rfl ?_
  intro p e s m args below meth c s₁ B hml hv
  obtain ⟨rfl, hP, hK, hE⟩ := hv
  have hx := B.exec
  have hb := B.bytes
  have hr := B.returns
  have hts := atoms_spec (ws := wsX0_emptyCount) B.pre
  have hown : s.vm.findClass RX0 = some m.cls := findClass_of_methodNamed B.named
  have hlocks := B.notSynchronized
  have hS : va_S (fun _ => False) s.heap s.heap [] := va_S.rf
  have hl := lv_entry ([.ref t_b]) (n := 1) (Nat.le_of_ble_eq_true rfl)
  rw [lg_entry_eq]
  generalize (lg_sl ([.ref t_b]) ++ List.replicate (1 - (lg_sl ([.ref t_b])).length) Slot.unset).toArray = ls at hl ⊢
  have hl : lv_has ls 1 [(0, .ref t_b)] := hl
  unfold pX0_emptyCount at hw
  refine lv_bipush (v := 16) hx hb dX0_emptyCount_0 (by decide) ?_
  refine lv_aload_n hx hb dX0_emptyCount_2 rfl (lv_at hl 0 rfl) ?_
  refine gVi (As := []) (rest := [.int 16]) (cs' := wB kI t_b t_pr u) ⟨hx, hb, hml, hown, hts⟩ (kX0_count l D kI kC kG kJ t_b t_pr u _ hw) (cwV 0 hts gX0_emptyCount_X0_count rfl rfl rfl hdX0_count ⟨Nat.le_of_ble_eq_true rfl, Nat.le_of_ble_eq_true rfl⟩) hK hP hE hS [0, 1] rfl (ci := 0) (q0 := 0) rfl rfl rfl rfl hl.1 rfl (Nat.le_of_ble_eq_true rfl) dX0_emptyCount_3 ⟨Nat.le_of_ble_eq_true rfl, Nat.le_of_ble_eq_true rfl⟩ (fun r1 hw => ?_)
  refine lv_isub hx hb dX0_emptyCount_6 ?_
  exact W.iret (v := (16 - r1)) hx hb hr (fun t ht hW => ⟨_, rfl, hw, ht⟩) (fun _ h => by cases h) dX0_emptyCount_7
set_option maxHeartbeats 4000000 in
set_option maxRecDepth 100000 in
theorem kX0_holds (l : Launch) (D : va_G) (kI kC kG kJ : ClassId) (t_b t_pr : Nat) (u : SB) (p0 : Int32) (Z : Int32 → Prop) (hw : pX0_holds p0 u Z) : Met l yX0_holds wsX0_holds ({ frames := 0, cells := 0, slots := 0, locals := 0 } : Room) (gPr D (gT kI kC kG kJ) [.ref t_b, .int p0] (wB kI t_b t_pr u)) (vp_Si Z) 0 0 (fun _ => False) := by
  refine Met.ofW (cc := cX0_holds) (maxL := 2) (ret := (some .boolean)) (by decide) rfl ?_
  intro p e s m args below meth c s₁ B hml hv
  obtain ⟨rfl, hP, hK, hE⟩ := hv
  have hx := B.exec
  have hb := B.bytes
  have hr := B.returns
  have hts := atoms_spec (ws := wsX0_holds) B.pre
  have hown : s.vm.findClass RX0 = some m.cls := findClass_of_methodNamed B.named
  have hlocks := B.notSynchronized
  have hS : va_S (fun _ => False) s.heap s.heap [] := va_S.rf
  have hl := lv_entry ([.ref t_b, .int p0]) (n := 2) (Nat.le_of_ble_eq_true rfl)
  rw [lg_entry_eq]
  generalize (lg_sl ([.ref t_b, .int p0]) ++ List.replicate (2 - (lg_sl ([.ref t_b, .int p0])).length) Slot.unset).toArray = ls at hl ⊢
  have hl : lv_has ls 2 [(0, .ref t_b), (1, .int p0)] := hl
  unfold pX0_holds at hw
  refine lv_aload_n hx hb dX0_holds_0 rfl (lv_at hl 0 rfl) ?_
  refine va_get (D := D) (ci := 0) (v := .int u.2.2.1) (C := RX0) (T := TX0) (N := 4) hx hb hts (fun _ h => List.mem_cons_of_mem _ (List.mem_append_right _ h)) hown hK hP 0 rfl rfl 2 (by decide) (hts (.fieldLink RX0 18 "HazelGift$Board" "pieces" "I") (List.mem_of_getElem? (i := 1) rfl)) (fun _ h9 => h9) rfl dX0_holds_1 ?_
  refine lv_iconst (v := 1) hx hb dX0_holds_4 (by decide) ?_
  refine lv_iload_n hx hb dX0_holds_5 rfl (lv_at hl 1 rfl) ?_
  refine lv_ishl hx hb dX0_holds_6 ?_
  refine lv_iand hx hb dX0_holds_7 ?_
  refine lv_if_eq (tgt := 15) hx hb dX0_holds_8 (by decide) (fun c1 => ?_) (fun c1 => ?_)
  · replace hw := Eq.mp (if_pos c1) hw
    refine lv_iconst (v := 0) hx hb dX0_holds_15 (by decide) ?_
    exact W.zret (v := 0) hx hb hr rfl (fun t ht hW => ⟨_, rfl, hw, ht⟩) (fun _ h => by cases h) dX0_holds_16
  · replace hw := Eq.mp (if_neg c1) hw
    refine lv_iconst (v := 1) hx hb dX0_holds_11 (by decide) ?_
    refine lv_goto (tgt := 16) hx hb dX0_holds_12 (by decide) ?_
    exact W.zret (v := 1) hx hb hr rfl (fun t ht hW => ⟨_, rfl, hw, ht⟩) (fun _ h => by cases h) dX0_holds_16
set_option maxHeartbeats 4000000 in
set_option maxRecDepth 100000 in
theorem kX0_isEmpty (l : Launch) (D : va_G) (kI kC kG kJ : ClassId) (t_b t_pr : Nat) (u : SB) (p0 : Int32) (Z : Int32 → Prop) (hw : pX0_isEmpty p0 u Z) : Met l yX0_isEmpty wsX0_isEmpty ({ frames := 0, cells := 0, slots := 0, locals := 0 } : Room) (gPr D (gT kI kC kG kJ) [.ref t_b, .int p0] (wB kI t_b t_pr u)) (vp_Si Z) 0 0 (fun _ => False) := by
  refine Met.ofW (cc := cX0_isEmpty) (maxL := 2) (ret := (some .boolean)) (by decide) rfl ?_
  intro p e s m args below meth c s₁ B hml hv
  obtain ⟨rfl, hP, hK, hE⟩ := hv
  have hx := B.exec
  have hb := B.bytes
  have hr := B.returns
  have hts := atoms_spec (ws := wsX0_isEmpty) B.pre
  have hown : s.vm.findClass RX0 = some m.cls := findClass_of_methodNamed B.named
  have hlocks := B.notSynchronized
  have hS : va_S (fun _ => False) s.heap s.heap [] := va_S.rf
  have hl := lv_entry ([.ref t_b, .int p0]) (n := 2) (Nat.le_of_ble_eq_true rfl)
  rw [lg_entry_eq]
  generalize (lg_sl ([.ref t_b, .int p0]) ++ List.replicate (2 - (lg_sl ([.ref t_b, .int p0])).length) Slot.unset).toArray = ls at hl ⊢
  have hl : lv_has ls 2 [(0, .ref t_b), (1, .int p0)] := hl
  unfold pX0_isEmpty at hw
  refine lv_aload_n hx hb dX0_isEmpty_0 rfl (lv_at hl 0 rfl) ?_
  refine va_get (D := D) (ci := 0) (v := .int u.2.1) (C := RX0) (T := TX0) (N := 4) hx hb hts (fun _ h => List.mem_cons_of_mem _ (List.mem_append_right _ h)) hown hK hP 0 rfl rfl 1 (by decide) (hts (.fieldLink RX0 15 "HazelGift$Board" "filled" "I") (List.mem_of_getElem? (i := 1) rfl)) (fun _ h9 => h9) rfl dX0_isEmpty_1 ?_
  refine lv_iconst (v := 1) hx hb dX0_isEmpty_4 (by decide) ?_
  refine lv_iload_n hx hb dX0_isEmpty_5 rfl (lv_at hl 1 rfl) ?_
  refine lv_ishl hx hb dX0_isEmpty_6 ?_
  refine lv_iand hx hb dX0_isEmpty_7 ?_
  refine lv_if_ne (tgt := 15) hx hb dX0_isEmpty_8 (by decide) (fun c1 => ?_) (fun c1 => ?_)
  · replace hw := Eq.mp (if_neg c1) hw
    refine lv_iconst (v := 0) hx hb dX0_isEmpty_15 (by decide) ?_
    exact W.zret (v := 0) hx hb hr rfl (fun t ht hW => ⟨_, rfl, hw, ht⟩) (fun _ h => by cases h) dX0_isEmpty_16
  · replace hw := Eq.mp (if_pos c1) hw
    refine lv_iconst (v := 1) hx hb dX0_isEmpty_11 (by decide) ?_
    refine lv_goto (tgt := 16) hx hb dX0_isEmpty_12 (by decide) ?_
    exact W.zret (v := 1) hx hb hr rfl (fun t ht hW => ⟨_, rfl, hw, ht⟩) (fun _ h => by cases h) dX0_isEmpty_16
set_option maxHeartbeats 4000000 in
set_option maxRecDepth 100000 in
theorem kX0_pieceAt (l : Launch) (D : va_G) (kI kC kG kJ : ClassId) (t_b t_pr : Nat) (u : SB) (p0 : Int32) (Z : Int32 → Prop) (hw : pX0_pieceAt p0 u Z) : Met l yX0_pieceAt wsX0_pieceAt ({ frames := 1, cells := 0, slots := 0, locals := 21 } : Room) (gPr D (gT kI kC kG kJ) [.ref t_b, .int p0] (wB kI t_b t_pr u)) (vp_Si Z) 0 0 (fun _ => False) := by
  refine Met.ofW (cc := cX0_pieceAt) (maxL := 4) (ret := (some .int)) (by decide) rfl ?_
  intro p e s m args below meth c s₁ B hml hv
  obtain ⟨rfl, hP, hK, hE⟩ := hv
  have hx := B.exec
  have hb := B.bytes
  have hr := B.returns
  have hts := atoms_spec (ws := wsX0_pieceAt) B.pre
  have hown : s.vm.findClass RX0 = some m.cls := findClass_of_methodNamed B.named
  have hlocks := B.notSynchronized
  have hS : va_S (fun _ => False) s.heap s.heap [] := va_S.rf
  have hl := lv_entry ([.ref t_b, .int p0]) (n := 4) (Nat.le_of_ble_eq_true rfl)
  rw [lg_entry_eq]
  generalize (lg_sl ([.ref t_b, .int p0]) ++ List.replicate (4 - (lg_sl ([.ref t_b, .int p0])).length) Slot.unset).toArray = ls at hl ⊢
  have hl : lv_has ls 4 [(0, .ref t_b), (1, .int p0)] := hl
  have L14 : ∀ (v1 : Int32), ∀ (n : Nat), ∀ (v2 : Int32) (v3 : Int32) (ls : Array Slot), lv_has ls 4 [(0, .ref t_b), (1, .int v1), (2, .int v2), (3, .int v3)] → pX0_pieceAt_14 Z v1 u n v2 v3 → W p l e (headSpec wsX0_pieceAt ({ frames := 1, cells := 0, slots := 0, locals := 21 } : Room)).room s m ([.ref t_b, .int p0] : List Value).toArray below meth c s.heap [] 0 0 (MQ below (vp_Si Z) ([.ref t_b, .int p0] : List Value).toArray s 0 0 (fun _ => False)) (F0 m 14 ls []) := by
    intro v1 n
    induction n with
    | zero => intro v2 v3 ls hl hw; exact hw.elim
    | succ n ih =>
    intro v2 v3 ls hl hw
    rw [pX0_pieceAt_14] at hw
    refine lv_iload_n hx hb dX0_pieceAt_14 rfl (lv_at hl 3 rfl) ?_
    refine lv_aload_n hx hb dX0_pieceAt_15 rfl (lv_at hl 0 rfl) ?_
    refine va_get (D := D) (ci := 0) (v := .ref t_pr) (C := RX0) (T := TX0) (N := 4) hx hb hts (fun _ h => List.mem_cons_of_mem _ (List.mem_append_right _ h)) hown hK hP 0 rfl rfl 3 (by decide) (hts (.fieldLink RX0 21 "HazelGift$Board" "present" "[I") (List.mem_of_getElem? (i := 1) rfl)) (fun _ h9 => h9) rfl dX0_pieceAt_16 ?_
    refine va_alen (v := 4) hx hb hK hP 1 0 rfl rfl rfl dX0_pieceAt_19 ?_
    refine lv_icmp_ge (tgt := 44) hx hb dX0_pieceAt_20 (by decide) (fun c3 => ?_) (fun c3 => ?_)
    · replace hw := Eq.mp (if_pos c3) hw
      refine lv_iload_n hx hb dX0_pieceAt_44 rfl (lv_at hl 2 rfl) ?_
      exact W.iret (v := v2) hx hb hr (fun t ht hW => ⟨_, rfl, hw, ht⟩) (fun _ h => by cases h) dX0_pieceAt_45
    · replace hw := Eq.mp (if_neg c3) hw
      refine lv_iload_n hx hb dX0_pieceAt_23 rfl (lv_at hl 2 rfl) ?_
      refine lv_aload_n hx hb dX0_pieceAt_24 rfl (lv_at hl 0 rfl) ?_
      refine va_get (D := D) (ci := 0) (v := .ref t_pr) (C := RX0) (T := TX0) (N := 4) hx hb hts (fun _ h => List.mem_cons_of_mem _ (List.mem_append_right _ h)) hown hK hP 0 rfl rfl 3 (by decide) (hts (.fieldLink RX0 21 "HazelGift$Board" "present" "[I") (List.mem_of_getElem? (i := 1) rfl)) (fun _ h9 => h9) rfl dX0_pieceAt_25 ?_
      refine lv_iload_n hx hb dX0_pieceAt_28 rfl (lv_at hl 3 rfl) ?_
      obtain ⟨hi4, hw⟩ := hw
      refine gIald (k := (v3).toNatClampNeg) hx hb hK hP 1 0 rfl rfl hi4 rfl dX0_pieceAt_29 ?_
      refine lv_iload_n hx hb dX0_pieceAt_30 rfl (lv_at hl 1 rfl) ?_
      refine lv_ishr hx hb dX0_pieceAt_31 ?_
      refine lv_iconst (v := 1) hx hb dX0_pieceAt_32 (by decide) ?_
      refine lv_iand hx hb dX0_pieceAt_33 ?_
      refine lv_iload_n hx hb dX0_pieceAt_34 rfl (lv_at hl 3 rfl) ?_
      refine lv_ishl hx hb dX0_pieceAt_35 ?_
      refine lv_ior hx hb dX0_pieceAt_36 ?_
      refine lv_topi (fun x5 ex5 => ?_)
      replace hw := hw x5 ex5
      refine lv_istore_n (lv' := [(2, .int x5), (0, .ref t_b), (1, .int v1), (3, .int v3)]) hx hb dX0_pieceAt_37 rfl hl (by decide) rfl (fun ls hl => ?_)
      obtain ⟨x6, ex6⟩ : ∃ y : Int32, y = (v3 + 1) := ⟨_, rfl⟩
      replace hw := hw x6 ex6
      refine lv_iinc (v := x6) (lv' := [(3, .int x6), (2, .int x5), (0, .ref t_b), (1, .int v1)]) hx hb dX0_pieceAt_38 hl (k := 3) rfl (by rw [ex6]; rfl) (by decide) rfl (fun ls hl => ?_)
      refine lv_goto (tgt := 14) hx hb dX0_pieceAt_41 (by decide) ?_
      exact ih x5 x6 ls (lv_sub hl [2, 3, 1, 0] rfl) hw
  unfold pX0_pieceAt at hw
  refine lv_aload_n hx hb dX0_pieceAt_0 rfl (lv_at hl 0 rfl) ?_
  refine lv_iload_n hx hb dX0_pieceAt_1 rfl (lv_at hl 1 rfl) ?_
  refine gVi (As := [.int p0]) (rest := []) (cs' := wB kI t_b t_pr u) ⟨hx, hb, hml, hown, hts⟩ (kX0_isEmpty l D kI kC kG kJ t_b t_pr u p0 _ hw) (cwV 1 hts gX0_pieceAt_X0_isEmpty rfl rfl rfl hdX0_isEmpty ⟨Nat.le_of_ble_eq_true rfl, Nat.le_of_ble_eq_true rfl⟩) hK hP hE hS [0, 1] rfl (ci := 0) (q0 := 0) rfl rfl rfl rfl hl.1 rfl (Nat.le_of_ble_eq_true rfl) dX0_pieceAt_2 ⟨Nat.le_of_ble_eq_true rfl, Nat.le_of_ble_eq_true rfl⟩ (fun r1 hw => ?_)
  refine lv_if_eq (tgt := 10) hx hb dX0_pieceAt_5 (by decide) (fun c2 => ?_) (fun c2 => ?_)
  · replace hw := Eq.mp (if_pos c2) hw
    refine lv_iconst (v := 0) hx hb dX0_pieceAt_10 (by decide) ?_
    refine lv_istore_n (lv' := [(2, .int 0), (0, .ref t_b), (1, .int p0)]) hx hb dX0_pieceAt_11 rfl hl (by decide) rfl (fun ls hl => ?_)
    refine lv_iconst (v := 0) hx hb dX0_pieceAt_12 (by decide) ?_
    refine lv_istore_n (lv' := [(3, .int 0), (2, .int 0), (0, .ref t_b), (1, .int p0)]) hx hb dX0_pieceAt_13 rfl hl (by decide) rfl (fun ls hl => ?_)
    obtain ⟨n9, hw⟩ := hw
    exact L14 p0 n9 0 0 ls (lv_sub hl [2, 3, 1, 0] rfl) hw
  · replace hw := Eq.mp (if_neg c2) hw
    refine lv_iconst (v := (-1)) hx hb dX0_pieceAt_8 (by decide) ?_
    exact W.iret (v := (-1)) hx hb hr (fun t ht hW => ⟨_, rfl, hw, ht⟩) (fun _ h => by cases h) dX0_pieceAt_9
set_option maxHeartbeats 4000000 in
set_option maxRecDepth 100000 in
theorem kX0_cellWith (l : Launch) (D : va_G) (kI kC kG kJ : ClassId) (t_b t_pr : Nat) (u : SB) (p0 : Int32) (Z : Int32 → Prop) (hw : pX0_cellWith p0 u Z) : Met l yX0_cellWith wsX0_cellWith ({ frames := 2, cells := 0, slots := 0, locals := 44 } : Room) (gPr D (gT kI kC kG kJ) [.ref t_b, .int p0] (wB kI t_b t_pr u)) (vp_Si Z) 0 0 (fun _ => False) := by
  refine Met.ofW (cc := cX0_cellWith) (maxL := 3) (ret := (some .int)) (by decide) rfl ?_
  intro p e s m args below meth c s₁ B hml hv
  obtain ⟨rfl, hP, hK, hE⟩ := hv
  have hx := B.exec
  have hb := B.bytes
  have hr := B.returns
  have hts := atoms_spec (ws := wsX0_cellWith) B.pre
  have hown : s.vm.findClass RX0 = some m.cls := findClass_of_methodNamed B.named
  have hlocks := B.notSynchronized
  have hS : va_S (fun _ => False) s.heap s.heap [] := va_S.rf
  have hl := lv_entry ([.ref t_b, .int p0]) (n := 3) (Nat.le_of_ble_eq_true rfl)
  rw [lg_entry_eq]
  generalize (lg_sl ([.ref t_b, .int p0]) ++ List.replicate (3 - (lg_sl ([.ref t_b, .int p0])).length) Slot.unset).toArray = ls at hl ⊢
  have hl : lv_has ls 3 [(0, .ref t_b), (1, .int p0)] := hl
  have L2 : ∀ (v1 : Int32), ∀ (n : Nat), ∀ (v2 : Int32) (ls : Array Slot), lv_has ls 3 [(0, .ref t_b), (1, .int v1), (2, .int v2)] → pX0_cellWith_2 Z v1 u n v2 → W p l e (headSpec wsX0_cellWith ({ frames := 2, cells := 0, slots := 0, locals := 44 } : Room)).room s m ([.ref t_b, .int p0] : List Value).toArray below meth c s.heap [] 0 0 (MQ below (vp_Si Z) ([.ref t_b, .int p0] : List Value).toArray s 0 0 (fun _ => False)) (F0 m 2 ls []) := by
    intro v1 n
    induction n with
    | zero => intro v2 ls hl hw; exact hw.elim
    | succ n ih =>
    intro v2 ls hl hw
    rw [pX0_cellWith_2] at hw
    refine lv_iload_n hx hb dX0_cellWith_2 rfl (lv_at hl 2 rfl) ?_
    refine lv_bipush (v := 16) hx hb dX0_cellWith_3 (by decide) ?_
    refine lv_icmp_ge (tgt := 25) hx hb dX0_cellWith_5 (by decide) (fun c1 => ?_) (fun c1 => ?_)
    · replace hw := Eq.mp (if_pos c1) hw
      refine lv_iconst (v := (-1)) hx hb dX0_cellWith_25 (by decide) ?_
      exact W.iret (v := (-1)) hx hb hr (fun t ht hW => ⟨_, rfl, hw, ht⟩) (fun _ h => by cases h) dX0_cellWith_26
    · replace hw := Eq.mp (if_neg c1) hw
      refine lv_aload_n hx hb dX0_cellWith_8 rfl (lv_at hl 0 rfl) ?_
      refine lv_iload_n hx hb dX0_cellWith_9 rfl (lv_at hl 2 rfl) ?_
      refine gVi (As := [.int v2]) (rest := []) (cs' := wB kI t_b t_pr u) ⟨hx, hb, hml, hown, hts⟩ (kX0_pieceAt l D kI kC kG kJ t_b t_pr u v2 _ hw) (cwV 1 hts gX0_cellWith_X0_pieceAt rfl rfl rfl hdX0_pieceAt ⟨Nat.le_of_ble_eq_true rfl, Nat.le_of_ble_eq_true rfl⟩) hK hP hE hS [0, 1] rfl (ci := 0) (q0 := 0) rfl rfl rfl rfl hl.1 rfl (Nat.le_of_ble_eq_true rfl) dX0_cellWith_10 ⟨Nat.le_of_ble_eq_true rfl, Nat.le_of_ble_eq_true rfl⟩ (fun r2 hw => ?_)
      refine lv_iload_n hx hb dX0_cellWith_13 rfl (lv_at hl 1 rfl) ?_
      refine lv_icmp_ne (tgt := 19) hx hb dX0_cellWith_14 (by decide) (fun c3 => ?_) (fun c3 => ?_)
      · replace hw := Eq.mp (if_neg c3) hw
        obtain ⟨x4, ex4⟩ : ∃ y : Int32, y = (v2 + 1) := ⟨_, rfl⟩
        replace hw := hw x4 ex4
        refine lv_iinc (v := x4) (lv' := [(2, .int x4), (0, .ref t_b), (1, .int v1)]) hx hb dX0_cellWith_19 hl (k := 2) rfl (by rw [ex4]; rfl) (by decide) rfl (fun ls hl => ?_)
        refine lv_goto (tgt := 2) hx hb dX0_cellWith_22 (by decide) ?_
        exact ih x4 ls (lv_sub hl [1, 2, 0] rfl) hw
      · replace hw := Eq.mp (if_pos c3) hw
        refine lv_iload_n hx hb dX0_cellWith_17 rfl (lv_at hl 2 rfl) ?_
        exact W.iret (v := v2) hx hb hr (fun t ht hW => ⟨_, rfl, hw, ht⟩) (fun _ h => by cases h) dX0_cellWith_18
  unfold pX0_cellWith at hw
  refine lv_iconst (v := 0) hx hb dX0_cellWith_0 (by decide) ?_
  refine lv_istore_n (lv' := [(2, .int 0), (0, .ref t_b), (1, .int p0)]) hx hb dX0_cellWith_1 rfl hl (by decide) rfl (fun ls hl => ?_)
  obtain ⟨n9, hw⟩ := hw
  exact L2 p0 n9 0 ls (lv_sub hl [1, 2, 0] rfl) hw
set_option maxHeartbeats 4000000 in
set_option maxRecDepth 100000 in
theorem kX0_put (l : Launch) (D : va_G) (kI kC kG kJ : ClassId) (t_b t_pr : Nat) (sz : Nat) (u : SB) (p0 : Int32) (p1 : Int32) (Z : SB → Prop) (hw : pX0_put p0 p1 u Z) : Met l yX0_put wsX0_put ({ frames := 0, cells := 0, slots := 0, locals := 0 } : Room) (gPw D (gT kI kC kG kJ) [.ref t_b, .int p0, .int p1] (wB kI t_b t_pr u) sz) (va_Qv Z (gB D (gT kI kC kG kJ) (fun (zz : SB) => wB kI t_b t_pr zz) (va_A (wB kI t_b t_pr u) sz)) (va_A (wB kI t_b t_pr u) sz)) 0 0 (va_A (wB kI t_b t_pr u) sz) := by
  refine Met.ofW (cc := cX0_put) (maxL := 4) (ret := none) (by decide) rfl ?_
  intro p e s m args below meth c s₁ B hml hv
  obtain ⟨rfl, hsz, hP, hK, hD0, hE⟩ := hv
  have hx := B.exec
  have hb := B.bytes
  have hr := B.returns
  have hts := atoms_spec (ws := wsX0_put) B.pre
  have hown : s.vm.findClass RX0 = some m.cls := findClass_of_methodNamed B.named
  have hlocks := B.notSynchronized
  subst hsz
  have hD := hD0.self (sz := s.heap.size)
  generalize hAe : va_A (wB kI t_b t_pr u) s.heap.size = A at hD hE ⊢
  have hA : ∀ q : Nat, s.heap.size ≤ q → A q := fun q h => by rw [← hAe]; exact Or.inr h
  have hS : va_S A s.heap s.heap [] := va_S.rf
  clear hAe hD0
  have hl := lv_entry ([.ref t_b, .int p0, .int p1]) (n := 4) (Nat.le_of_ble_eq_true rfl)
  rw [lg_entry_eq]
  generalize (lg_sl ([.ref t_b, .int p0, .int p1]) ++ List.replicate (4 - (lg_sl ([.ref t_b, .int p0, .int p1])).length) Slot.unset).toArray = ls at hl ⊢
  have hl : lv_has ls 4 [(0, .ref t_b), (1, .int p0), (2, .int p1)] := hl
  have hP : va_P D vwCl (wB kI t_b t_pr u) s.heap := hP
  have L26 : ∀ (v1 : Int32) (v2 : Int32), ∀ (n : Nat), ∀ (v3 : Int32) (u : SB) (H : Heap) (locs : List Loc) (ls : Array Slot), va_P D vwCl (wB kI t_b t_pr u) H → va_D A (wB kI t_b t_pr u) → va_S A s.heap H locs → lv_has ls 4 [(0, .ref t_b), (1, .int v1), (2, .int v2), (3, .int v3)] → pX0_put_26 Z v1 v2 n v3 u → W p l e (headSpec wsX0_put ({ frames := 0, cells := 0, slots := 0, locals := 0 } : Room)).room s m ([.ref t_b, .int p0, .int p1] : List Value).toArray below meth c H locs 0 0 (MQ below (va_Qv Z (gB D (gT kI kC kG kJ) (fun (zz : SB) => wB kI t_b t_pr zz) A) A) ([.ref t_b, .int p0, .int p1] : List Value).toArray s 0 0 A) (F0 m 26 ls []) := by
    intro v1 v2 n
    induction n with
    | zero => intro v3 u H locs ls hP hD hS hl hw; exact hw.elim
    | succ n ih =>
    intro v3 u H locs ls hP hD hS hl hw
    rw [pX0_put_26] at hw
    refine lv_iload_n hx hb dX0_put_26 rfl (lv_at hl 3 rfl) ?_
    refine lv_aload_n hx hb dX0_put_27 rfl (lv_at hl 0 rfl) ?_
    refine va_get (D := D) (ci := 0) (v := .ref t_pr) (C := RX0) (T := TX0) (N := 4) hx hb hts (fun _ h => List.mem_cons_of_mem _ (List.mem_append_right _ h)) hown hK hP 0 rfl rfl 3 (by decide) (hts (.fieldLink RX0 21 "HazelGift$Board" "present" "[I") (List.mem_of_getElem? (i := 3) rfl)) (fun _ h9 => h9) rfl dX0_put_28 ?_
    refine va_alen (v := 4) hx hb hK hP 1 0 rfl rfl rfl dX0_put_31 ?_
    refine lv_icmp_ge (tgt := 57) hx hb dX0_put_32 (by decide) (fun c3 => ?_) (fun c3 => ?_)
    · replace hw := Eq.mp (if_pos c3) hw
      exact W.vret hx hb hr (fun t ht hW => ⟨⟨u, rfl, hw, by rw [ht]; exact hP, va_K.moved hW.alike hK, hD⟩, hS.F ht⟩) hS.2.2 dX0_put_57
    · replace hw := Eq.mp (if_neg c3) hw
      refine lv_aload_n hx hb dX0_put_35 rfl (lv_at hl 0 rfl) ?_
      refine va_get (D := D) (ci := 0) (v := .ref t_pr) (C := RX0) (T := TX0) (N := 4) hx hb hts (fun _ h => List.mem_cons_of_mem _ (List.mem_append_right _ h)) hown hK hP 0 rfl rfl 3 (by decide) (hts (.fieldLink RX0 21 "HazelGift$Board" "present" "[I") (List.mem_of_getElem? (i := 3) rfl)) (fun _ h9 => h9) rfl dX0_put_36 ?_
      refine lv_iload_n hx hb dX0_put_39 rfl (lv_at hl 3 rfl) ?_
      refine lv_dup2_11 hx hb dX0_put_40 rfl rfl ?_
      obtain ⟨hi4, hw⟩ := hw
      refine gIald (k := (v3).toNatClampNeg) hx hb hK hP 1 0 rfl rfl hi4 rfl dX0_put_41 ?_
      refine lv_iload_n hx hb dX0_put_42 rfl (lv_at hl 1 rfl) ?_
      refine lv_iload_n hx hb dX0_put_43 rfl (lv_at hl 3 rfl) ?_
      refine lv_ishr hx hb dX0_put_44 ?_
      refine lv_iconst (v := 1) hx hb dX0_put_45 (by decide) ?_
      refine lv_iand hx hb dX0_put_46 ?_
      refine lv_iload_n hx hb dX0_put_47 rfl (lv_at hl 2 rfl) ?_
      refine lv_ishl hx hb dX0_put_48 ?_
      refine lv_ior hx hb dX0_put_49 ?_
      refine lv_topi (fun x5 ex5 => ?_)
      replace hw := hw x5 ex5
      obtain ⟨hi6, hw⟩ := hw
      refine gIast (k := (v3).toNatClampNeg) hx hb hK hP hD hS 1 0 rfl rfl hi6 rfl dX0_put_50 (fun H locs hP hD hS => ?_)
      have hP : va_P D vwCl (wB kI t_b t_pr (u.1, u.2.1, u.2.2.1, (upd u.2.2.2 (v3).toNatClampNeg x5))) H := hP
      have hD : va_D A (wB kI t_b t_pr (u.1, u.2.1, u.2.2.1, (upd u.2.2.2 (v3).toNatClampNeg x5))) := hD
      obtain ⟨x7, ex7⟩ : ∃ y : Int32, y = (v3 + 1) := ⟨_, rfl⟩
      replace hw := hw x7 ex7
      refine lv_iinc (v := x7) (lv' := [(3, .int x7), (0, .ref t_b), (1, .int v1), (2, .int v2)]) hx hb dX0_put_51 hl (k := 3) rfl (by rw [ex7]; rfl) (by decide) rfl (fun ls hl => ?_)
      refine lv_goto (tgt := 26) hx hb dX0_put_54 (by decide) ?_
      exact ih x7 (u.1, u.2.1, u.2.2.1, (upd u.2.2.2 (v3).toNatClampNeg x5)) H locs ls hP hD hS (lv_sub hl [1, 2, 3, 0] rfl) hw
  unfold pX0_put at hw
  refine lv_aload_n hx hb dX0_put_0 rfl (lv_at hl 0 rfl) ?_
  refine lv_dup hx hb dX0_put_1 rfl ?_
  refine va_get (D := D) (ci := 0) (v := .int u.2.1) (C := RX0) (T := TX0) (N := 4) hx hb hts (fun _ h => List.mem_cons_of_mem _ (List.mem_append_right _ h)) hown hK hP 0 rfl rfl 1 (by decide) (hts (.fieldLink RX0 15 "HazelGift$Board" "filled" "I") (List.mem_of_getElem? (i := 1) rfl)) (fun _ h9 => h9) rfl dX0_put_2 ?_
  refine lv_iconst (v := 1) hx hb dX0_put_5 (by decide) ?_
  refine lv_iload_n hx hb dX0_put_6 rfl (lv_at hl 2 rfl) ?_
  refine lv_ishl hx hb dX0_put_7 ?_
  refine lv_ior hx hb dX0_put_8 ?_
  refine lv_topi (fun x1 ex1 => ?_)
  replace hw := hw x1 ex1
  refine va_put (D := D) (ci := 0) (v := .int x1) (ty := tyX0 1) (C := RX0) (T := TX0) (N := 4) hx hb hts (fun _ h => List.mem_cons_of_mem _ (List.mem_append_right _ h)) tyX0 tyX0_ok nmX0 hown hK hP hD hS 0 rfl rfl 1 (by decide) (hts (.fieldLink RX0 15 "HazelGift$Board" "filled" "I") (List.mem_of_getElem? (i := 1) rfl)) (fun _ h9 => h9) rfl (tyX0_ok 1 (by decide)) rfl rfl (Nat.le_of_ble_eq_true rfl) dX0_put_9 (fun H locs hP hD hS => ?_)
  have hP : va_P D vwCl (wB kI t_b t_pr (u.1, x1, u.2.2.1, u.2.2.2)) H := hP
  have hD : va_D A (wB kI t_b t_pr (u.1, x1, u.2.2.1, u.2.2.2)) := hD
  refine lv_aload_n hx hb dX0_put_12 rfl (lv_at hl 0 rfl) ?_
  refine lv_dup hx hb dX0_put_13 rfl ?_
  refine va_get (D := D) (ci := 0) (v := .int u.2.2.1) (C := RX0) (T := TX0) (N := 4) hx hb hts (fun _ h => List.mem_cons_of_mem _ (List.mem_append_right _ h)) hown hK hP 0 rfl rfl 2 (by decide) (hts (.fieldLink RX0 18 "HazelGift$Board" "pieces" "I") (List.mem_of_getElem? (i := 2) rfl)) (fun _ h9 => h9) rfl dX0_put_14 ?_
  refine lv_iconst (v := 1) hx hb dX0_put_17 (by decide) ?_
  refine lv_iload_n hx hb dX0_put_18 rfl (lv_at hl 1 rfl) ?_
  refine lv_ishl hx hb dX0_put_19 ?_
  refine lv_ior hx hb dX0_put_20 ?_
  refine lv_topi (fun x2 ex2 => ?_)
  replace hw := hw x2 ex2
  refine va_put (D := D) (ci := 0) (v := .int x2) (ty := tyX0 2) (C := RX0) (T := TX0) (N := 4) hx hb hts (fun _ h => List.mem_cons_of_mem _ (List.mem_append_right _ h)) tyX0 tyX0_ok nmX0 hown hK hP hD hS 0 rfl rfl 2 (by decide) (hts (.fieldLink RX0 18 "HazelGift$Board" "pieces" "I") (List.mem_of_getElem? (i := 2) rfl)) (fun _ h9 => h9) rfl (tyX0_ok 2 (by decide)) rfl rfl (Nat.le_of_ble_eq_true rfl) dX0_put_21 (fun H locs hP hD hS => ?_)
  have hP : va_P D vwCl (wB kI t_b t_pr (u.1, x1, x2, u.2.2.2)) H := hP
  have hD : va_D A (wB kI t_b t_pr (u.1, x1, x2, u.2.2.2)) := hD
  refine lv_iconst (v := 0) hx hb dX0_put_24 (by decide) ?_
  refine lv_istore_n (lv' := [(3, .int 0), (0, .ref t_b), (1, .int p0), (2, .int p1)]) hx hb dX0_put_25 rfl hl (by decide) rfl (fun ls hl => ?_)
  obtain ⟨n9, hw⟩ := hw
  exact L26 p0 p1 n9 0 (u.1, x1, x2, u.2.2.2) H locs ls hP hD hS (lv_sub hl [1, 2, 3, 0] rfl) hw
set_option maxHeartbeats 4000000 in
set_option maxRecDepth 100000 in
theorem kX0_lift (l : Launch) (D : va_G) (kI kC kG kJ : ClassId) (t_b t_pr : Nat) (sz : Nat) (u : SB) (p0 : Int32) (p1 : Int32) (Z : SB → Prop) (hw : pX0_lift p0 p1 u Z) : Met l yX0_lift wsX0_lift ({ frames := 0, cells := 0, slots := 0, locals := 0 } : Room) (gPw D (gT kI kC kG kJ) [.ref t_b, .int p0, .int p1] (wB kI t_b t_pr u) sz) (va_Qv Z (gB D (gT kI kC kG kJ) (fun (zz : SB) => wB kI t_b t_pr zz) (va_A (wB kI t_b t_pr u) sz)) (va_A (wB kI t_b t_pr u) sz)) 0 0 (va_A (wB kI t_b t_pr u) sz) := by
  refine Met.ofW (cc := cX0_lift) (maxL := 4) (ret := none) (by decide) rfl ?_
  intro p e s m args below meth c s₁ B hml hv
  obtain ⟨rfl, hsz, hP, hK, hD0, hE⟩ := hv
  have hx := B.exec
  have hb := B.bytes
  have hr := B.returns
  have hts := atoms_spec (ws := wsX0_lift) B.pre
  have hown : s.vm.findClass RX0 = some m.cls := findClass_of_methodNamed B.named
  have hlocks := B.notSynchronized
  subst hsz
  have hD := hD0.self (sz := s.heap.size)
  generalize hAe : va_A (wB kI t_b t_pr u) s.heap.size = A at hD hE ⊢
  have hA : ∀ q : Nat, s.heap.size ≤ q → A q := fun q h => by rw [← hAe]; exact Or.inr h
  have hS : va_S A s.heap s.heap [] := va_S.rf
  clear hAe hD0
  have hl := lv_entry ([.ref t_b, .int p0, .int p1]) (n := 4) (Nat.le_of_ble_eq_true rfl)
  rw [lg_entry_eq]
  generalize (lg_sl ([.ref t_b, .int p0, .int p1]) ++ List.replicate (4 - (lg_sl ([.ref t_b, .int p0, .int p1])).length) Slot.unset).toArray = ls at hl ⊢
  have hl : lv_has ls 4 [(0, .ref t_b), (1, .int p0), (2, .int p1)] := hl
  have hP : va_P D vwCl (wB kI t_b t_pr u) s.heap := hP
  have L30 : ∀ (v2 : Int32), ∀ (n : Nat), ∀ (v3 : Int32) (u : SB) (H : Heap) (locs : List Loc) (ls : Array Slot), va_P D vwCl (wB kI t_b t_pr u) H → va_D A (wB kI t_b t_pr u) → va_S A s.heap H locs → lv_has ls 4 [(0, .ref t_b), (2, .int v2), (3, .int v3)] → pX0_lift_30 Z v2 n v3 u → W p l e (headSpec wsX0_lift ({ frames := 0, cells := 0, slots := 0, locals := 0 } : Room)).room s m ([.ref t_b, .int p0, .int p1] : List Value).toArray below meth c H locs 0 0 (MQ below (va_Qv Z (gB D (gT kI kC kG kJ) (fun (zz : SB) => wB kI t_b t_pr zz) A) A) ([.ref t_b, .int p0, .int p1] : List Value).toArray s 0 0 A) (F0 m 30 ls []) := by
    intro v2 n
    induction n with
    | zero => intro v3 u H locs ls hP hD hS hl hw; exact hw.elim
    | succ n ih =>
    intro v3 u H locs ls hP hD hS hl hw
    rw [pX0_lift_30] at hw
    refine lv_iload_n hx hb dX0_lift_30 rfl (lv_at hl 2 rfl) ?_
    refine lv_aload_n hx hb dX0_lift_31 rfl (lv_at hl 0 rfl) ?_
    refine va_get (D := D) (ci := 0) (v := .ref t_pr) (C := RX0) (T := TX0) (N := 4) hx hb hts (fun _ h => List.mem_cons_of_mem _ (List.mem_append_right _ h)) hown hK hP 0 rfl rfl 3 (by decide) (hts (.fieldLink RX0 21 "HazelGift$Board" "present" "[I") (List.mem_of_getElem? (i := 3) rfl)) (fun _ h9 => h9) rfl dX0_lift_32 ?_
    refine va_alen (v := 4) hx hb hK hP 1 0 rfl rfl rfl dX0_lift_35 ?_
    refine lv_icmp_ge (tgt := 59) hx hb dX0_lift_36 (by decide) (fun c3 => ?_) (fun c3 => ?_)
    · replace hw := Eq.mp (if_pos c3) hw
      exact W.vret hx hb hr (fun t ht hW => ⟨⟨u, rfl, hw, by rw [ht]; exact hP, va_K.moved hW.alike hK, hD⟩, hS.F ht⟩) hS.2.2 dX0_lift_59
    · replace hw := Eq.mp (if_neg c3) hw
      refine lv_aload_n hx hb dX0_lift_39 rfl (lv_at hl 0 rfl) ?_
      refine va_get (D := D) (ci := 0) (v := .ref t_pr) (C := RX0) (T := TX0) (N := 4) hx hb hts (fun _ h => List.mem_cons_of_mem _ (List.mem_append_right _ h)) hown hK hP 0 rfl rfl 3 (by decide) (hts (.fieldLink RX0 21 "HazelGift$Board" "present" "[I") (List.mem_of_getElem? (i := 3) rfl)) (fun _ h9 => h9) rfl dX0_lift_40 ?_
      refine lv_iload_n hx hb dX0_lift_43 rfl (lv_at hl 2 rfl) ?_
      refine lv_dup2_11 hx hb dX0_lift_44 rfl rfl ?_
      obtain ⟨hi4, hw⟩ := hw
      refine gIald (k := (v3).toNatClampNeg) hx hb hK hP 1 0 rfl rfl hi4 rfl dX0_lift_45 ?_
      refine lv_iconst (v := 1) hx hb dX0_lift_46 (by decide) ?_
      refine lv_iload_n hx hb dX0_lift_47 rfl (lv_at hl 1 rfl) ?_
      refine lv_ishl hx hb dX0_lift_48 ?_
      refine lv_iconst (v := (-1)) hx hb dX0_lift_49 (by decide) ?_
      refine lv_ixor hx hb dX0_lift_50 ?_
      refine lv_iand hx hb dX0_lift_51 ?_
      refine lv_topi (fun x5 ex5 => ?_)
      replace hw := hw x5 ex5
      obtain ⟨hi6, hw⟩ := hw
      refine gIast (k := (v3).toNatClampNeg) hx hb hK hP hD hS 1 0 rfl rfl hi6 rfl dX0_lift_52 (fun H locs hP hD hS => ?_)
      have hP : va_P D vwCl (wB kI t_b t_pr (u.1, u.2.1, u.2.2.1, (upd u.2.2.2 (v3).toNatClampNeg x5))) H := hP
      have hD : va_D A (wB kI t_b t_pr (u.1, u.2.1, u.2.2.1, (upd u.2.2.2 (v3).toNatClampNeg x5))) := hD
      obtain ⟨x7, ex7⟩ : ∃ y : Int32, y = (v3 + 1) := ⟨_, rfl⟩
      replace hw := hw x7 ex7
      refine lv_iinc (v := x7) (lv' := [(3, .int x7), (0, .ref t_b), (2, .int v2)]) hx hb dX0_lift_53 hl (k := 2) rfl (by rw [ex7]; rfl) (by decide) rfl (fun ls hl => ?_)
      refine lv_goto (tgt := 30) hx hb dX0_lift_56 (by decide) ?_
      exact ih x7 (u.1, u.2.1, u.2.2.1, (upd u.2.2.2 (v3).toNatClampNeg x5)) H locs ls hP hD hS (lv_sub hl [1, 2, 0] rfl) hw
  unfold pX0_lift at hw
  refine lv_aload_n hx hb dX0_lift_0 rfl (lv_at hl 0 rfl) ?_
  refine lv_dup hx hb dX0_lift_1 rfl ?_
  refine va_get (D := D) (ci := 0) (v := .int u.2.1) (C := RX0) (T := TX0) (N := 4) hx hb hts (fun _ h => List.mem_cons_of_mem _ (List.mem_append_right _ h)) hown hK hP 0 rfl rfl 1 (by decide) (hts (.fieldLink RX0 15 "HazelGift$Board" "filled" "I") (List.mem_of_getElem? (i := 1) rfl)) (fun _ h9 => h9) rfl dX0_lift_2 ?_
  refine lv_iconst (v := 1) hx hb dX0_lift_5 (by decide) ?_
  refine lv_iload_n hx hb dX0_lift_6 rfl (lv_at hl 2 rfl) ?_
  refine lv_ishl hx hb dX0_lift_7 ?_
  refine lv_iconst (v := (-1)) hx hb dX0_lift_8 (by decide) ?_
  refine lv_ixor hx hb dX0_lift_9 ?_
  refine lv_iand hx hb dX0_lift_10 ?_
  refine lv_topi (fun x1 ex1 => ?_)
  replace hw := hw x1 ex1
  refine va_put (D := D) (ci := 0) (v := .int x1) (ty := tyX0 1) (C := RX0) (T := TX0) (N := 4) hx hb hts (fun _ h => List.mem_cons_of_mem _ (List.mem_append_right _ h)) tyX0 tyX0_ok nmX0 hown hK hP hD hS 0 rfl rfl 1 (by decide) (hts (.fieldLink RX0 15 "HazelGift$Board" "filled" "I") (List.mem_of_getElem? (i := 1) rfl)) (fun _ h9 => h9) rfl (tyX0_ok 1 (by decide)) rfl rfl (Nat.le_of_ble_eq_true rfl) dX0_lift_11 (fun H locs hP hD hS => ?_)
  have hP : va_P D vwCl (wB kI t_b t_pr (u.1, x1, u.2.2.1, u.2.2.2)) H := hP
  have hD : va_D A (wB kI t_b t_pr (u.1, x1, u.2.2.1, u.2.2.2)) := hD
  refine lv_aload_n hx hb dX0_lift_14 rfl (lv_at hl 0 rfl) ?_
  refine lv_dup hx hb dX0_lift_15 rfl ?_
  refine va_get (D := D) (ci := 0) (v := .int u.2.2.1) (C := RX0) (T := TX0) (N := 4) hx hb hts (fun _ h => List.mem_cons_of_mem _ (List.mem_append_right _ h)) hown hK hP 0 rfl rfl 2 (by decide) (hts (.fieldLink RX0 18 "HazelGift$Board" "pieces" "I") (List.mem_of_getElem? (i := 2) rfl)) (fun _ h9 => h9) rfl dX0_lift_16 ?_
  refine lv_iconst (v := 1) hx hb dX0_lift_19 (by decide) ?_
  refine lv_iload_n hx hb dX0_lift_20 rfl (lv_at hl 1 rfl) ?_
  refine lv_ishl hx hb dX0_lift_21 ?_
  refine lv_iconst (v := (-1)) hx hb dX0_lift_22 (by decide) ?_
  refine lv_ixor hx hb dX0_lift_23 ?_
  refine lv_iand hx hb dX0_lift_24 ?_
  refine lv_topi (fun x2 ex2 => ?_)
  replace hw := hw x2 ex2
  refine va_put (D := D) (ci := 0) (v := .int x2) (ty := tyX0 2) (C := RX0) (T := TX0) (N := 4) hx hb hts (fun _ h => List.mem_cons_of_mem _ (List.mem_append_right _ h)) tyX0 tyX0_ok nmX0 hown hK hP hD hS 0 rfl rfl 2 (by decide) (hts (.fieldLink RX0 18 "HazelGift$Board" "pieces" "I") (List.mem_of_getElem? (i := 2) rfl)) (fun _ h9 => h9) rfl (tyX0_ok 2 (by decide)) rfl rfl (Nat.le_of_ble_eq_true rfl) dX0_lift_25 (fun H locs hP hD hS => ?_)
  have hP : va_P D vwCl (wB kI t_b t_pr (u.1, x1, x2, u.2.2.2)) H := hP
  have hD : va_D A (wB kI t_b t_pr (u.1, x1, x2, u.2.2.2)) := hD
  refine lv_iconst (v := 0) hx hb dX0_lift_28 (by decide) ?_
  refine lv_istore_n (lv' := [(3, .int 0), (0, .ref t_b), (1, .int p0), (2, .int p1)]) hx hb dX0_lift_29 rfl hl (by decide) rfl (fun ls hl => ?_)
  obtain ⟨n9, hw⟩ := hw
  exact L30 p1 n9 0 (u.1, x1, x2, u.2.2.2) H locs ls hP hD hS (lv_sub hl [1, 3, 0] rfl) hw
set_option maxHeartbeats 4000000 in
set_option maxRecDepth 100000 in
theorem kX0_lineCount (l : Launch) (D : va_G) (kI kC kG kJ : ClassId) (t_b t_pr : Nat) (u : SB) (Z : Int32 → Prop) (hw : pX0_lineCount u Z) : Met l yX0_lineCount wsX0_lineCount ({ frames := 0, cells := 0, slots := 0, locals := 0 } : Room) (gPr D (gT kI kC kG kJ) [.ref t_b] (wB kI t_b t_pr u)) (vp_Si Z) 0 0 (fun _ => False) := by
  refine Met.ofW (cc := cX0_lineCount) (maxL := 1) (ret := (some .int)) (by decide) rfl ?_
  intro p e s m args below meth c s₁ B hml hv
  obtain ⟨rfl, hP, hK, hE⟩ := hv
  have hx := B.exec
  have hb := B.bytes
  have hr := B.returns
  have hts := atoms_spec (ws := wsX0_lineCount) B.pre
  have hown : s.vm.findClass RX0 = some m.cls := findClass_of_methodNamed B.named
  have hlocks := B.notSynchronized
  have hS : va_S (fun _ => False) s.heap s.heap [] := va_S.rf
  have hl := lv_entry ([.ref t_b]) (n := 1) (Nat.le_of_ble_eq_true rfl)
  rw [lg_entry_eq]
  generalize (lg_sl ([.ref t_b]) ++ List.replicate (1 - (lg_sl ([.ref t_b])).length) Slot.unset).toArray = ls at hl ⊢
  have hl : lv_has ls 1 [(0, .ref t_b)] := hl
  unfold pX0_lineCount at hw
  refine lv_aload_n hx hb dX0_lineCount_0 rfl (lv_at hl 0 rfl) ?_
  refine va_get (D := D) (ci := 0) (v := .int u.1) (C := RX0) (T := TX0) (N := 4) hx hb hts (fun _ h => List.mem_cons_of_mem _ (List.mem_append_right _ h)) hown hK hP 0 rfl rfl 0 (by decide) (hts (.fieldLink RX0 9 "HazelGift$Board" "rule" "I") (List.mem_of_getElem? (i := 1) rfl)) (fun _ h9 => h9) rfl dX0_lineCount_1 ?_
  refine lv_iconst (v := 1) hx hb dX0_lineCount_4 (by decide) ?_
  refine lv_icmp_ne (tgt := 13) hx hb dX0_lineCount_5 (by decide) (fun c1 => ?_) (fun c1 => ?_)
  · replace hw := Eq.mp (if_neg c1) hw
    refine lv_bipush (v := 10) hx hb dX0_lineCount_13 (by decide) ?_
    exact W.iret (v := 10) hx hb hr (fun t ht hW => ⟨_, rfl, hw, ht⟩) (fun _ h => by cases h) dX0_lineCount_15
  · replace hw := Eq.mp (if_pos c1) hw
    refine lv_bipush (v := 19) hx hb dX0_lineCount_8 (by decide) ?_
    refine lv_goto (tgt := 15) hx hb dX0_lineCount_10 (by decide) ?_
    exact W.iret (v := 19) hx hb hr (fun t ht hW => ⟨_, rfl, hw, ht⟩) (fun _ h => by cases h) dX0_lineCount_15
set_option maxHeartbeats 4000000 in
set_option maxRecDepth 100000 in
theorem kX0_cellsOn (l : Launch) (D : va_G) (kI kC kG kJ : ClassId) (p0 : Int32) (Z : Int32 → Prop) (hw : pX0_cellsOn p0 Z) : Met l yX0_cellsOn wsX0_cellsOn ({ frames := 0, cells := 0, slots := 0, locals := 0 } : Room) (gPr D (gT kI kC kG kJ) [.int p0] (([] : va_W))) (vp_Si Z) 0 0 (fun _ => False) := by
  refine Met.ofW (cc := cX0_cellsOn) (maxL := 1) (ret := (some .int)) (by decide) rfl ?_
  intro p e s m args below meth c s₁ B hml hv
  obtain ⟨rfl, hP, hK, hE⟩ := hv
  have hx := B.exec
  have hb := B.bytes
  have hr := B.returns
  have hts := atoms_spec (ws := wsX0_cellsOn) B.pre
  have hown : s.vm.findClass RX0 = some m.cls := findClass_of_methodNamed B.named
  have hlocks := B.notSynchronized
  have hS : va_S (fun _ => False) s.heap s.heap [] := va_S.rf
  obtain ⟨tL, hZ, hT9⟩ := hE.1
  have hl := lv_entry ([.int p0]) (n := 1) (Nat.le_of_ble_eq_true rfl)
  rw [lg_entry_eq]
  generalize (lg_sl ([.int p0]) ++ List.replicate (1 - (lg_sl ([.int p0])).length) Slot.unset).toArray = ls at hl ⊢
  have hl : lv_has ls 1 [(0, .int p0)] := hl
  unfold pX0_cellsOn at hw
  refine lv_iload_n hx hb dX0_cellsOn_0 rfl (lv_at hl 0 rfl) ?_
  refine lv_if_lt (tgt := 20) hx hb dX0_cellsOn_1 (by decide) (fun c1 => ?_) (fun c1 => ?_)
  · replace hw := Eq.mp (if_pos c1) hw
    refine lv_iconst (v := 0) hx hb dX0_cellsOn_20 (by decide) ?_
    exact W.iret (v := 0) hx hb hr (fun t ht hW => ⟨_, rfl, hw, ht⟩) (fun _ h => by cases h) dX0_cellsOn_21
  · replace hw := Eq.mp (if_neg c1) hw
    refine lv_iload_n hx hb dX0_cellsOn_4 rfl (lv_at hl 0 rfl) ?_
    refine va_gets (v := .ref tL) hx hb hZ hS hown (hts (.fieldLink RX0 42 "HazelGift$Board" "LINE_CELLS" "[I") (List.mem_of_getElem? (i := 1) rfl)) (fun _ h9 => h9) dX0_cellsOn_5 ?_
    refine va_tlen (v := 19) hx hb hT9 hS (by decide) dX0_cellsOn_8 ?_
    refine lv_icmp_ge (tgt := 20) hx hb dX0_cellsOn_9 (by decide) (fun c2 => ?_) (fun c2 => ?_)
    · replace hw := Eq.mp (if_pos c2) hw
      refine lv_iconst (v := 0) hx hb dX0_cellsOn_20 (by decide) ?_
      exact W.iret (v := 0) hx hb hr (fun t ht hW => ⟨_, rfl, hw, ht⟩) (fun _ h => by cases h) dX0_cellsOn_21
    · replace hw := Eq.mp (if_neg c2) hw
      refine va_gets (v := .ref tL) hx hb hZ hS hown (hts (.fieldLink RX0 42 "HazelGift$Board" "LINE_CELLS" "[I") (List.mem_of_getElem? (i := 1) rfl)) (fun _ h9 => h9) dX0_cellsOn_12 ?_
      refine lv_iload_n hx hb dX0_cellsOn_15 rfl (lv_at hl 0 rfl) ?_
      obtain ⟨hi3, hw⟩ := hw
      refine va_ti (v := .int (gLC (p0).toNatClampNeg)) hx hb hT9 hS hi3 rfl dX0_cellsOn_16 ?_
      refine lv_goto (tgt := 21) hx hb dX0_cellsOn_17 (by decide) ?_
      exact W.iret (v := (gLC (p0).toNatClampNeg)) hx hb hr (fun t ht hW => ⟨_, rfl, hw, ht⟩) (fun _ h => by cases h) dX0_cellsOn_21
set_option maxHeartbeats 4000000 in
set_option maxRecDepth 100000 in
theorem kX0_countOn (l : Launch) (D : va_G) (kI kC kG kJ : ClassId) (t_b t_pr : Nat) (u : SB) (p0 : Int32) (Z : Int32 → Prop) (hw : pX0_countOn p0 u Z) : Met l yX0_countOn wsX0_countOn ({ frames := 1, cells := 0, slots := 0, locals := 20 } : Room) (gPr D (gT kI kC kG kJ) [.ref t_b, .int p0] (wB kI t_b t_pr u)) (vp_Si Z) 0 0 (fun _ => False) := by
  refine Met.ofW (cc := cX0_countOn) (maxL := 2) (ret := (some .int)) (by decide) rfl ?_
  intro p e s m args below meth c s₁ B hml hv
  obtain ⟨rfl, hP, hK, hE⟩ := hv
  have hx := B.exec
  have hb := B.bytes
  have hr := B.returns
  have hts := atoms_spec (ws := wsX0_countOn) B.pre
  have hown : s.vm.findClass RX0 = some m.cls := findClass_of_methodNamed B.named
  have hlocks := B.notSynchronized
  have hS : va_S (fun _ => False) s.heap s.heap [] := va_S.rf
  have hl := lv_entry ([.ref t_b, .int p0]) (n := 2) (Nat.le_of_ble_eq_true rfl)
  rw [lg_entry_eq]
  generalize (lg_sl ([.ref t_b, .int p0]) ++ List.replicate (2 - (lg_sl ([.ref t_b, .int p0])).length) Slot.unset).toArray = ls at hl ⊢
  have hl : lv_has ls 2 [(0, .ref t_b), (1, .int p0)] := hl
  unfold pX0_countOn at hw
  refine lv_aload_n hx hb dX0_countOn_0 rfl (lv_at hl 0 rfl) ?_
  refine va_get (D := D) (ci := 0) (v := .int u.2.1) (C := RX0) (T := TX0) (N := 4) hx hb hts (fun _ h => List.mem_cons_of_mem _ (List.mem_append_right _ h)) hown hK hP 0 rfl rfl 1 (by decide) (hts (.fieldLink RX0 15 "HazelGift$Board" "filled" "I") (List.mem_of_getElem? (i := 1) rfl)) (fun _ h9 => h9) rfl dX0_countOn_1 ?_
  refine lv_iload_n hx hb dX0_countOn_4 rfl (lv_at hl 1 rfl) ?_
  refine gSi (As := [.int p0]) (rest := [.int u.2.1]) (cs' := ([] : va_W)) ⟨hx, hb, hml, hown, hts⟩ (kX0_cellsOn l D kI kC kG kJ p0 _ hw) (va_cwS 1 hts gX0_countOn_X0_cellsOn rfl rfl rfl hdX0_cellsOn ⟨Nat.le_of_ble_eq_true rfl, Nat.le_of_ble_eq_true rfl⟩) hK hP hE hS [] rfl rfl hl.1 rfl (Nat.le_of_ble_eq_true rfl) dX0_countOn_5 ⟨Nat.le_of_ble_eq_true rfl, Nat.le_of_ble_eq_true rfl⟩ (fun r1 hw => ?_)
  refine lv_iand hx hb dX0_countOn_8 ?_
  refine gSi (As := [.int (u.2.1 &&& r1)]) (rest := []) (cs' := ([] : va_W)) ⟨hx, hb, hml, hown, hts⟩ (kJ6_bitCount_0f7a4 l D kI kC kG kJ (u.2.1 &&& r1) _ hw) (va_cwS 1 hts gX0_countOn_J6_bitCount_0f7a4 rfl rfl rfl hdJ6_bitCount_0f7a4 ⟨Nat.le_of_ble_eq_true rfl, Nat.le_of_ble_eq_true rfl⟩) hK hP hE hS [] rfl rfl hl.1 rfl (Nat.le_of_ble_eq_true rfl) dX0_countOn_9 ⟨Nat.le_of_ble_eq_true rfl, Nat.le_of_ble_eq_true rfl⟩ (fun r2 hw => ?_)
  exact W.iret (v := r2) hx hb hr (fun t ht hW => ⟨_, rfl, hw, ht⟩) (fun _ h => by cases h) dX0_countOn_12
set_option maxHeartbeats 4000000 in
set_option maxRecDepth 100000 in
theorem kX0_sharedTraits (l : Launch) (D : va_G) (kI kC kG kJ : ClassId) (t_b t_pr : Nat) (u : SB) (p0 : Int32) (Z : Int32 → Prop) (hw : pX0_sharedTraits p0 u Z) : Met l yX0_sharedTraits wsX0_sharedTraits ({ frames := 1, cells := 0, slots := 0, locals := 20 } : Room) (gPr D (gT kI kC kG kJ) [.ref t_b, .int p0] (wB kI t_b t_pr u)) (vp_Si Z) 0 0 (fun _ => False) := by
  refine Met.ofW (cc := cX0_sharedTraits) (maxL := 6) (ret := (some .int)) (by decide) rfl ?_
  intro p e s m args below meth c s₁ B hml hv
  obtain ⟨rfl, hP, hK, hE⟩ := hv
  have hx := B.exec
  have hb := B.bytes
  have hr := B.returns
  have hts := atoms_spec (ws := wsX0_sharedTraits) B.pre
  have hown : s.vm.findClass RX0 = some m.cls := findClass_of_methodNamed B.named
  have hlocks := B.notSynchronized
  have hS : va_S (fun _ => False) s.heap s.heap [] := va_S.rf
  have hl := lv_entry ([.ref t_b, .int p0]) (n := 6) (Nat.le_of_ble_eq_true rfl)
  rw [lg_entry_eq]
  generalize (lg_sl ([.ref t_b, .int p0]) ++ List.replicate (6 - (lg_sl ([.ref t_b, .int p0])).length) Slot.unset).toArray = ls at hl ⊢
  have hl : lv_has ls 6 [(0, .ref t_b), (1, .int p0)] := hl
  have L15 : ∀ (v2 : Int32), ∀ (n : Nat), ∀ (v3 : Int32) (v4 : Int32) (ls : Array Slot), lv_has ls 6 [(0, .ref t_b), (2, .int v2), (3, .int v3), (4, .int v4)] → pX0_sharedTraits_15 Z v2 u n v3 v4 → W p l e (headSpec wsX0_sharedTraits ({ frames := 1, cells := 0, slots := 0, locals := 20 } : Room)).room s m ([.ref t_b, .int p0] : List Value).toArray below meth c s.heap [] 0 0 (MQ below (vp_Si Z) ([.ref t_b, .int p0] : List Value).toArray s 0 0 (fun _ => False)) (F0 m 15 ls []) := by
    intro v2 n
    induction n with
    | zero => intro v3 v4 ls hl hw; exact hw.elim
    | succ n ih =>
    intro v3 v4 ls hl hw
    rw [pX0_sharedTraits_15] at hw
    refine lv_iload hx hb dX0_sharedTraits_15 (lv_at hl 3 rfl) ?_
    refine lv_aload_n hx hb dX0_sharedTraits_17 rfl (lv_at hl 0 rfl) ?_
    refine va_get (D := D) (ci := 0) (v := .ref t_pr) (C := RX0) (T := TX0) (N := 4) hx hb hts (fun _ h => List.mem_cons_of_mem _ (List.mem_append_right _ h)) hown hK hP 0 rfl rfl 3 (by decide) (hts (.fieldLink RX0 21 "HazelGift$Board" "present" "[I") (List.mem_of_getElem? (i := 2) rfl)) (fun _ h9 => h9) rfl dX0_sharedTraits_18 ?_
    refine va_alen (v := 4) hx hb hK hP 1 0 rfl rfl rfl dX0_sharedTraits_21 ?_
    refine lv_icmp_ge (tgt := 69) hx hb dX0_sharedTraits_22 (by decide) (fun c3 => ?_) (fun c3 => ?_)
    · replace hw := Eq.mp (if_pos c3) hw
      refine lv_iload_n hx hb dX0_sharedTraits_69 rfl (lv_at hl 2 rfl) ?_
      exact W.iret (v := v3) hx hb hr (fun t ht hW => ⟨_, rfl, hw, ht⟩) (fun _ h => by cases h) dX0_sharedTraits_70
    · replace hw := Eq.mp (if_neg c3) hw
      refine lv_aload_n hx hb dX0_sharedTraits_25 rfl (lv_at hl 0 rfl) ?_
      refine va_get (D := D) (ci := 0) (v := .ref t_pr) (C := RX0) (T := TX0) (N := 4) hx hb hts (fun _ h => List.mem_cons_of_mem _ (List.mem_append_right _ h)) hown hK hP 0 rfl rfl 3 (by decide) (hts (.fieldLink RX0 21 "HazelGift$Board" "present" "[I") (List.mem_of_getElem? (i := 2) rfl)) (fun _ h9 => h9) rfl dX0_sharedTraits_26 ?_
      refine lv_iload hx hb dX0_sharedTraits_29 (lv_at hl 3 rfl) ?_
      obtain ⟨hi4, hw⟩ := hw
      refine gIald (k := (v4).toNatClampNeg) hx hb hK hP 1 0 rfl rfl hi4 rfl dX0_sharedTraits_31 ?_
      refine lv_iload_n hx hb dX0_sharedTraits_32 rfl (lv_at hl 1 rfl) ?_
      refine lv_iand hx hb dX0_sharedTraits_33 ?_
      refine lv_topi (fun x5 ex5 => ?_)
      replace hw := hw x5 ex5
      refine lv_istore (lv' := [(5, .int x5), (0, .ref t_b), (2, .int v2), (3, .int v3), (4, .int v4)]) hx hb dX0_sharedTraits_34 hl (by decide) rfl (fun ls hl => ?_)
      refine lv_iload hx hb dX0_sharedTraits_36 (lv_at hl 0 rfl) ?_
      refine lv_iload_n hx hb dX0_sharedTraits_38 rfl (lv_at hl 2 rfl) ?_
      refine lv_icmp_ne (tgt := 49) hx hb dX0_sharedTraits_39 (by decide) (fun c6 => ?_) (fun c6 => ?_)
      · replace hw := Eq.mp (if_neg c6) hw
        refine lv_iload hx hb dX0_sharedTraits_49 (lv_at hl 0 rfl) ?_
        refine lv_if_ne (tgt := 63) hx hb dX0_sharedTraits_51 (by decide) (fun c7 => ?_) (fun c7 => ?_)
        · replace hw := Eq.mp (if_neg c7) hw
          obtain ⟨x8, ex8⟩ : ∃ y : Int32, y = (v4 + 1) := ⟨_, rfl⟩
          replace hw := hw x8 ex8
          refine lv_iinc (v := x8) (lv' := [(4, .int x8), (5, .int x5), (0, .ref t_b), (2, .int v2), (3, .int v3)]) hx hb dX0_sharedTraits_63 hl (k := 4) rfl (by rw [ex8]; rfl) (by decide) rfl (fun ls hl => ?_)
          refine lv_goto (tgt := 15) hx hb dX0_sharedTraits_66 (by decide) ?_
          exact ih v3 x8 ls (lv_sub hl [2, 3, 4, 0] rfl) hw
        · replace hw := Eq.mp (if_pos c7) hw
          refine lv_iload_n hx hb dX0_sharedTraits_54 rfl (lv_at hl 3 rfl) ?_
          refine lv_iconst (v := 1) hx hb dX0_sharedTraits_55 (by decide) ?_
          refine lv_iconst (v := 4) hx hb dX0_sharedTraits_56 (by decide) ?_
          refine lv_iload hx hb dX0_sharedTraits_57 (lv_at hl 4 rfl) ?_
          refine lv_iadd hx hb dX0_sharedTraits_59 ?_
          refine lv_ishl hx hb dX0_sharedTraits_60 ?_
          refine lv_ior hx hb dX0_sharedTraits_61 ?_
          refine lv_topi (fun x9 ex9 => ?_)
          replace hw := hw x9 ex9
          refine lv_istore_n (lv' := [(3, .int x9), (5, .int x5), (0, .ref t_b), (2, .int v2), (4, .int v4)]) hx hb dX0_sharedTraits_62 rfl hl (by decide) rfl (fun ls hl => ?_)
          obtain ⟨x10, ex10⟩ : ∃ y : Int32, y = (v4 + 1) := ⟨_, rfl⟩
          replace hw := hw x10 ex10
          refine lv_iinc (v := x10) (lv' := [(4, .int x10), (3, .int x9), (5, .int x5), (0, .ref t_b), (2, .int v2)]) hx hb dX0_sharedTraits_63 hl (k := 4) rfl (by rw [ex10]; rfl) (by decide) rfl (fun ls hl => ?_)
          refine lv_goto (tgt := 15) hx hb dX0_sharedTraits_66 (by decide) ?_
          exact ih x9 x10 ls (lv_sub hl [3, 4, 1, 0] rfl) hw
      · replace hw := Eq.mp (if_pos c6) hw
        refine lv_iload_n hx hb dX0_sharedTraits_42 rfl (lv_at hl 3 rfl) ?_
        refine lv_iconst (v := 1) hx hb dX0_sharedTraits_43 (by decide) ?_
        refine lv_iload hx hb dX0_sharedTraits_44 (lv_at hl 4 rfl) ?_
        refine lv_ishl hx hb dX0_sharedTraits_46 ?_
        refine lv_ior hx hb dX0_sharedTraits_47 ?_
        refine lv_topi (fun x11 ex11 => ?_)
        replace hw := hw x11 ex11
        refine lv_istore_n (lv' := [(3, .int x11), (5, .int x5), (0, .ref t_b), (2, .int v2), (4, .int v4)]) hx hb dX0_sharedTraits_48 rfl hl (by decide) rfl (fun ls hl => ?_)
        refine lv_iload hx hb dX0_sharedTraits_49 (lv_at hl 1 rfl) ?_
        refine lv_if_ne (tgt := 63) hx hb dX0_sharedTraits_51 (by decide) (fun c12 => ?_) (fun c12 => ?_)
        · replace hw := Eq.mp (if_neg c12) hw
          obtain ⟨x13, ex13⟩ : ∃ y : Int32, y = (v4 + 1) := ⟨_, rfl⟩
          replace hw := hw x13 ex13
          refine lv_iinc (v := x13) (lv' := [(4, .int x13), (3, .int x11), (5, .int x5), (0, .ref t_b), (2, .int v2)]) hx hb dX0_sharedTraits_63 hl (k := 4) rfl (by rw [ex13]; rfl) (by decide) rfl (fun ls hl => ?_)
          refine lv_goto (tgt := 15) hx hb dX0_sharedTraits_66 (by decide) ?_
          exact ih x11 x13 ls (lv_sub hl [3, 4, 1, 0] rfl) hw
        · replace hw := Eq.mp (if_pos c12) hw
          refine lv_iload_n hx hb dX0_sharedTraits_54 rfl (lv_at hl 0 rfl) ?_
          refine lv_iconst (v := 1) hx hb dX0_sharedTraits_55 (by decide) ?_
          refine lv_iconst (v := 4) hx hb dX0_sharedTraits_56 (by decide) ?_
          refine lv_iload hx hb dX0_sharedTraits_57 (lv_at hl 4 rfl) ?_
          refine lv_iadd hx hb dX0_sharedTraits_59 ?_
          refine lv_ishl hx hb dX0_sharedTraits_60 ?_
          refine lv_ior hx hb dX0_sharedTraits_61 ?_
          refine lv_topi (fun x14 ex14 => ?_)
          replace hw := hw x14 ex14
          refine lv_istore_n (lv' := [(3, .int x14), (5, .int x5), (0, .ref t_b), (2, .int v2), (4, .int v4)]) hx hb dX0_sharedTraits_62 rfl hl (by decide) rfl (fun ls hl => ?_)
          obtain ⟨x15, ex15⟩ : ∃ y : Int32, y = (v4 + 1) := ⟨_, rfl⟩
          replace hw := hw x15 ex15
          refine lv_iinc (v := x15) (lv' := [(4, .int x15), (3, .int x14), (5, .int x5), (0, .ref t_b), (2, .int v2)]) hx hb dX0_sharedTraits_63 hl (k := 4) rfl (by rw [ex15]; rfl) (by decide) rfl (fun ls hl => ?_)
          refine lv_goto (tgt := 15) hx hb dX0_sharedTraits_66 (by decide) ?_
          exact ih x14 x15 ls (lv_sub hl [3, 4, 1, 0] rfl) hw
  unfold pX0_sharedTraits at hw
  refine lv_aload_n hx hb dX0_sharedTraits_0 rfl (lv_at hl 0 rfl) ?_
  refine va_get (D := D) (ci := 0) (v := .int u.2.1) (C := RX0) (T := TX0) (N := 4) hx hb hts (fun _ h => List.mem_cons_of_mem _ (List.mem_append_right _ h)) hown hK hP 0 rfl rfl 1 (by decide) (hts (.fieldLink RX0 15 "HazelGift$Board" "filled" "I") (List.mem_of_getElem? (i := 1) rfl)) (fun _ h9 => h9) rfl dX0_sharedTraits_1 ?_
  refine lv_iload_n hx hb dX0_sharedTraits_4 rfl (lv_at hl 1 rfl) ?_
  refine gSi (As := [.int p0]) (rest := [.int u.2.1]) (cs' := ([] : va_W)) ⟨hx, hb, hml, hown, hts⟩ (kX0_cellsOn l D kI kC kG kJ p0 _ hw) (va_cwS 1 hts gX0_sharedTraits_X0_cellsOn rfl rfl rfl hdX0_cellsOn ⟨Nat.le_of_ble_eq_true rfl, Nat.le_of_ble_eq_true rfl⟩) hK hP hE hS [] rfl rfl hl.1 rfl (Nat.le_of_ble_eq_true rfl) dX0_sharedTraits_5 ⟨Nat.le_of_ble_eq_true rfl, Nat.le_of_ble_eq_true rfl⟩ (fun r1 hw => ?_)
  refine lv_iand hx hb dX0_sharedTraits_8 ?_
  refine lv_topi (fun x2 ex2 => ?_)
  replace hw := hw x2 ex2
  refine lv_istore_n (lv' := [(2, .int x2), (0, .ref t_b), (1, .int p0)]) hx hb dX0_sharedTraits_9 rfl hl (by decide) rfl (fun ls hl => ?_)
  refine lv_iconst (v := 0) hx hb dX0_sharedTraits_10 (by decide) ?_
  refine lv_istore_n (lv' := [(3, .int 0), (2, .int x2), (0, .ref t_b), (1, .int p0)]) hx hb dX0_sharedTraits_11 rfl hl (by decide) rfl (fun ls hl => ?_)
  refine lv_iconst (v := 0) hx hb dX0_sharedTraits_12 (by decide) ?_
  refine lv_istore (lv' := [(4, .int 0), (3, .int 0), (2, .int x2), (0, .ref t_b), (1, .int p0)]) hx hb dX0_sharedTraits_13 hl (by decide) rfl (fun ls hl => ?_)
  obtain ⟨n9, hw⟩ := hw
  exact L15 x2 n9 0 0 ls (lv_sub hl [3, 2, 1, 0] rfl) hw
set_option maxHeartbeats 4000000 in
set_option maxRecDepth 100000 in
theorem kX0_isWon (l : Launch) (D : va_G) (kI kC kG kJ : ClassId) (t_b t_pr : Nat) (u : SB) (p0 : Int32) (Z : Int32 → Prop) (hw : pX0_isWon p0 u Z) : Met l yX0_isWon wsX0_isWon ({ frames := 0, cells := 0, slots := 0, locals := 0 } : Room) (gPr D (gT kI kC kG kJ) [.ref t_b, .int p0] (wB kI t_b t_pr u)) (vp_Si Z) 0 0 (fun _ => False) := by
  refine Met.ofW (cc := cX0_isWon) (maxL := 5) (ret := (some .boolean)) (by decide) rfl ?_
  intro p e s m args below meth c s₁ B hml hv
  obtain ⟨rfl, hP, hK, hE⟩ := hv
  have hx := B.exec
  have hb := B.bytes
  have hr := B.returns
  have hts := atoms_spec (ws := wsX0_isWon) B.pre
  have hown : s.vm.findClass RX0 = some m.cls := findClass_of_methodNamed B.named
  have hlocks := B.notSynchronized
  have hS : va_S (fun _ => False) s.heap s.heap [] := va_S.rf
  obtain ⟨tL, hZ, hT9⟩ := hE.1
  have hl := lv_entry ([.ref t_b, .int p0]) (n := 5) (Nat.le_of_ble_eq_true rfl)
  rw [lg_entry_eq]
  generalize (lg_sl ([.ref t_b, .int p0]) ++ List.replicate (5 - (lg_sl ([.ref t_b, .int p0])).length) Slot.unset).toArray = ls at hl ⊢
  have hl : lv_has ls 5 [(0, .ref t_b), (1, .int p0)] := hl
  have L34 : ∀ (v2 : Int32), ∀ (n : Nat), ∀ (v3 : Int32) (ls : Array Slot), lv_has ls 5 [(0, .ref t_b), (2, .int v2), (3, .int v3)] → pX0_isWon_34 Z v2 u n v3 → W p l e (headSpec wsX0_isWon ({ frames := 0, cells := 0, slots := 0, locals := 0 } : Room)).room s m ([.ref t_b, .int p0] : List Value).toArray below meth c s.heap [] 0 0 (MQ below (vp_Si Z) ([.ref t_b, .int p0] : List Value).toArray s 0 0 (fun _ => False)) (F0 m 34 ls []) := by
    intro v2 n
    induction n with
    | zero => intro v3 ls hl hw; exact hw.elim
    | succ n ih =>
    intro v3 ls hl hw
    rw [pX0_isWon_34] at hw
    refine lv_iload_n hx hb dX0_isWon_34 rfl (lv_at hl 2 rfl) ?_
    refine lv_aload_n hx hb dX0_isWon_35 rfl (lv_at hl 0 rfl) ?_
    refine va_get (D := D) (ci := 0) (v := .ref t_pr) (C := RX0) (T := TX0) (N := 4) hx hb hts (fun _ h => List.mem_cons_of_mem _ (List.mem_append_right _ h)) hown hK hP 0 rfl rfl 3 (by decide) (hts (.fieldLink RX0 21 "HazelGift$Board" "present" "[I") (List.mem_of_getElem? (i := 3) rfl)) (fun _ h9 => h9) rfl dX0_isWon_36 ?_
    refine va_alen (v := 4) hx hb hK hP 1 0 rfl rfl rfl dX0_isWon_39 ?_
    refine lv_icmp_ge (tgt := 72) hx hb dX0_isWon_40 (by decide) (fun c6 => ?_) (fun c6 => ?_)
    · replace hw := Eq.mp (if_pos c6) hw
      refine lv_iconst (v := 0) hx hb dX0_isWon_72 (by decide) ?_
      exact W.zret (v := 0) hx hb hr rfl (fun t ht hW => ⟨_, rfl, hw, ht⟩) (fun _ h => by cases h) dX0_isWon_73
    · replace hw := Eq.mp (if_neg c6) hw
      refine lv_aload_n hx hb dX0_isWon_43 rfl (lv_at hl 0 rfl) ?_
      refine va_get (D := D) (ci := 0) (v := .ref t_pr) (C := RX0) (T := TX0) (N := 4) hx hb hts (fun _ h => List.mem_cons_of_mem _ (List.mem_append_right _ h)) hown hK hP 0 rfl rfl 3 (by decide) (hts (.fieldLink RX0 21 "HazelGift$Board" "present" "[I") (List.mem_of_getElem? (i := 3) rfl)) (fun _ h9 => h9) rfl dX0_isWon_44 ?_
      refine lv_iload_n hx hb dX0_isWon_47 rfl (lv_at hl 2 rfl) ?_
      obtain ⟨hi7, hw⟩ := hw
      refine gIald (k := (v3).toNatClampNeg) hx hb hK hP 1 0 rfl rfl hi7 rfl dX0_isWon_48 ?_
      refine lv_iload_n hx hb dX0_isWon_49 rfl (lv_at hl 1 rfl) ?_
      refine lv_iand hx hb dX0_isWon_50 ?_
      refine lv_topi (fun x8 ex8 => ?_)
      replace hw := hw x8 ex8
      refine lv_istore (lv' := [(4, .int x8), (0, .ref t_b), (2, .int v2), (3, .int v3)]) hx hb dX0_isWon_51 hl (by decide) rfl (fun ls hl => ?_)
      refine lv_iload hx hb dX0_isWon_53 (lv_at hl 0 rfl) ?_
      refine lv_iload_n hx hb dX0_isWon_55 rfl (lv_at hl 2 rfl) ?_
      refine lv_icmp_eq (tgt := 64) hx hb dX0_isWon_56 (by decide) (fun c9 => ?_) (fun c9 => ?_)
      · replace hw := Eq.mp (if_pos c9) hw
        refine lv_iconst (v := 1) hx hb dX0_isWon_64 (by decide) ?_
        exact W.zret (v := 1) hx hb hr rfl (fun t ht hW => ⟨_, rfl, hw, ht⟩) (fun _ h => by cases h) dX0_isWon_65
      · replace hw := Eq.mp (if_neg c9) hw
        refine lv_iload hx hb dX0_isWon_59 (lv_at hl 0 rfl) ?_
        refine lv_if_ne (tgt := 66) hx hb dX0_isWon_61 (by decide) (fun c10 => ?_) (fun c10 => ?_)
        · replace hw := Eq.mp (if_neg c10) hw
          obtain ⟨x11, ex11⟩ : ∃ y : Int32, y = (v3 + 1) := ⟨_, rfl⟩
          replace hw := hw x11 ex11
          refine lv_iinc (v := x11) (lv' := [(3, .int x11), (4, .int x8), (0, .ref t_b), (2, .int v2)]) hx hb dX0_isWon_66 hl (k := 3) rfl (by rw [ex11]; rfl) (by decide) rfl (fun ls hl => ?_)
          refine lv_goto (tgt := 34) hx hb dX0_isWon_69 (by decide) ?_
          exact ih x11 ls (lv_sub hl [2, 3, 0] rfl) hw
        · replace hw := Eq.mp (if_pos c10) hw
          refine lv_iconst (v := 1) hx hb dX0_isWon_64 (by decide) ?_
          exact W.zret (v := 1) hx hb hr rfl (fun t ht hW => ⟨_, rfl, hw, ht⟩) (fun _ h => by cases h) dX0_isWon_65
  unfold pX0_isWon at hw
  refine lv_iload_n hx hb dX0_isWon_0 rfl (lv_at hl 1 rfl) ?_
  refine lv_if_lt (tgt := 12) hx hb dX0_isWon_1 (by decide) (fun c1 => ?_) (fun c1 => ?_)
  · replace hw := Eq.mp (if_pos c1) hw
    refine lv_iconst (v := 0) hx hb dX0_isWon_12 (by decide) ?_
    exact W.zret (v := 0) hx hb hr rfl (fun t ht hW => ⟨_, rfl, hw, ht⟩) (fun _ h => by cases h) dX0_isWon_13
  · replace hw := Eq.mp (if_neg c1) hw
    refine lv_iload_n hx hb dX0_isWon_4 rfl (lv_at hl 1 rfl) ?_
    refine va_gets (v := .ref tL) hx hb hZ hS hown (hts (.fieldLink RX0 42 "HazelGift$Board" "LINE_CELLS" "[I") (List.mem_of_getElem? (i := 1) rfl)) (fun _ h9 => h9) dX0_isWon_5 ?_
    refine va_tlen (v := 19) hx hb hT9 hS (by decide) dX0_isWon_8 ?_
    refine lv_icmp_lt (tgt := 14) hx hb dX0_isWon_9 (by decide) (fun c2 => ?_) (fun c2 => ?_)
    · replace hw := Eq.mp (if_pos c2) hw
      refine va_gets (v := .ref tL) hx hb hZ hS hown (hts (.fieldLink RX0 42 "HazelGift$Board" "LINE_CELLS" "[I") (List.mem_of_getElem? (i := 1) rfl)) (fun _ h9 => h9) dX0_isWon_14 ?_
      refine lv_iload_n hx hb dX0_isWon_17 rfl (lv_at hl 1 rfl) ?_
      obtain ⟨hi3, hw⟩ := hw
      refine va_ti (v := .int (gLC (p0).toNatClampNeg)) hx hb hT9 hS hi3 rfl dX0_isWon_18 ?_
      refine lv_topi (fun x4 ex4 => ?_)
      replace hw := hw x4 ex4
      refine lv_istore_n (lv' := [(2, .int x4), (0, .ref t_b), (1, .int p0)]) hx hb dX0_isWon_19 rfl hl (by decide) rfl (fun ls hl => ?_)
      refine lv_aload_n hx hb dX0_isWon_20 rfl (lv_at hl 1 rfl) ?_
      refine va_get (D := D) (ci := 0) (v := .int u.2.1) (C := RX0) (T := TX0) (N := 4) hx hb hts (fun _ h => List.mem_cons_of_mem _ (List.mem_append_right _ h)) hown hK hP 0 rfl rfl 1 (by decide) (hts (.fieldLink RX0 15 "HazelGift$Board" "filled" "I") (List.mem_of_getElem? (i := 2) rfl)) (fun _ h9 => h9) rfl dX0_isWon_21 ?_
      refine lv_iload_n hx hb dX0_isWon_24 rfl (lv_at hl 0 rfl) ?_
      refine lv_iand hx hb dX0_isWon_25 ?_
      refine lv_iload_n hx hb dX0_isWon_26 rfl (lv_at hl 0 rfl) ?_
      refine lv_icmp_eq (tgt := 32) hx hb dX0_isWon_27 (by decide) (fun c5 => ?_) (fun c5 => ?_)
      · replace hw := Eq.mp (if_pos c5) hw
        refine lv_iconst (v := 0) hx hb dX0_isWon_32 (by decide) ?_
        refine lv_istore_n (lv' := [(3, .int 0), (2, .int x4), (0, .ref t_b), (1, .int p0)]) hx hb dX0_isWon_33 rfl hl (by decide) rfl (fun ls hl => ?_)
        obtain ⟨n9, hw⟩ := hw
        exact L34 x4 n9 0 ls (lv_sub hl [2, 1, 0] rfl) hw
      · replace hw := Eq.mp (if_neg c5) hw
        refine lv_iconst (v := 0) hx hb dX0_isWon_30 (by decide) ?_
        exact W.zret (v := 0) hx hb hr rfl (fun t ht hW => ⟨_, rfl, hw, ht⟩) (fun _ h => by cases h) dX0_isWon_31
    · replace hw := Eq.mp (if_neg c2) hw
      refine lv_iconst (v := 0) hx hb dX0_isWon_12 (by decide) ?_
      exact W.zret (v := 0) hx hb hr rfl (fun t ht hW => ⟨_, rfl, hw, ht⟩) (fun _ h => by cases h) dX0_isWon_13
set_option maxHeartbeats 4000000 in
set_option maxRecDepth 100000 in
theorem kX0_wonCount (l : Launch) (D : va_G) (kI kC kG kJ : ClassId) (t_b t_pr : Nat) (u : SB) (Z : Int32 → Prop) (hw : pX0_wonCount u Z) : Met l yX0_wonCount wsX0_wonCount ({ frames := 1, cells := 0, slots := 0, locals := 24 } : Room) (gPr D (gT kI kC kG kJ) [.ref t_b] (wB kI t_b t_pr u)) (vp_Si Z) 0 0 (fun _ => False) := by
  refine Met.ofW (cc := cX0_wonCount) (maxL := 3) (ret := (some .int)) (by decide) rfl ?_
  intro p e s m args below meth c s₁ B hml hv
  obtain ⟨rfl, hP, hK, hE⟩ := hv
  have hx := B.exec
  have hb := B.bytes
  have hr := B.returns
  have hts := atoms_spec (ws := wsX0_wonCount) B.pre
  have hown : s.vm.findClass RX0 = some m.cls := findClass_of_methodNamed B.named
  have hlocks := B.notSynchronized
  have hS : va_S (fun _ => False) s.heap s.heap [] := va_S.rf
  have hl := lv_entry ([.ref t_b]) (n := 3) (Nat.le_of_ble_eq_true rfl)
  rw [lg_entry_eq]
  generalize (lg_sl ([.ref t_b]) ++ List.replicate (3 - (lg_sl ([.ref t_b])).length) Slot.unset).toArray = ls at hl ⊢
  have hl : lv_has ls 3 [(0, .ref t_b)] := hl
  have L4 : ∀ (_ : Unit), ∀ (n : Nat), ∀ (v1 : Int32) (v2 : Int32) (ls : Array Slot), lv_has ls 3 [(0, .ref t_b), (1, .int v1), (2, .int v2)] → pX0_wonCount_4 Z u n v1 v2 → W p l e (headSpec wsX0_wonCount ({ frames := 1, cells := 0, slots := 0, locals := 24 } : Room)).room s m ([.ref t_b] : List Value).toArray below meth c s.heap [] 0 0 (MQ below (vp_Si Z) ([.ref t_b] : List Value).toArray s 0 0 (fun _ => False)) (F0 m 4 ls []) := by
    intro _ n
    induction n with
    | zero => intro v1 v2 ls hl hw; exact hw.elim
    | succ n ih =>
    intro v1 v2 ls hl hw
    rw [pX0_wonCount_4] at hw
    refine lv_iload_n hx hb dX0_wonCount_4 rfl (lv_at hl 2 rfl) ?_
    refine lv_aload_n hx hb dX0_wonCount_5 rfl (lv_at hl 0 rfl) ?_
    refine gVi (As := []) (rest := [.int v2]) (cs' := wB kI t_b t_pr u) ⟨hx, hb, hml, hown, hts⟩ (kX0_lineCount l D kI kC kG kJ t_b t_pr u _ hw) (cwV 0 hts gX0_wonCount_X0_lineCount rfl rfl rfl hdX0_lineCount ⟨Nat.le_of_ble_eq_true rfl, Nat.le_of_ble_eq_true rfl⟩) hK hP hE hS [0, 1] rfl (ci := 0) (q0 := 0) rfl rfl rfl rfl hl.1 rfl (Nat.le_of_ble_eq_true rfl) dX0_wonCount_6 ⟨Nat.le_of_ble_eq_true rfl, Nat.le_of_ble_eq_true rfl⟩ (fun r1 hw => ?_)
    refine lv_icmp_ge (tgt := 29) hx hb dX0_wonCount_9 (by decide) (fun c2 => ?_) (fun c2 => ?_)
    · replace hw := Eq.mp (if_pos c2) hw
      refine lv_iload_n hx hb dX0_wonCount_29 rfl (lv_at hl 1 rfl) ?_
      exact W.iret (v := v1) hx hb hr (fun t ht hW => ⟨_, rfl, hw, ht⟩) (fun _ h => by cases h) dX0_wonCount_30
    · replace hw := Eq.mp (if_neg c2) hw
      refine lv_aload_n hx hb dX0_wonCount_12 rfl (lv_at hl 0 rfl) ?_
      refine lv_iload_n hx hb dX0_wonCount_13 rfl (lv_at hl 2 rfl) ?_
      refine gVi (As := [.int v2]) (rest := []) (cs' := wB kI t_b t_pr u) ⟨hx, hb, hml, hown, hts⟩ (kX0_isWon l D kI kC kG kJ t_b t_pr u v2 _ hw) (cwV 1 hts gX0_wonCount_X0_isWon rfl rfl rfl hdX0_isWon ⟨Nat.le_of_ble_eq_true rfl, Nat.le_of_ble_eq_true rfl⟩) hK hP hE hS [0, 1] rfl (ci := 0) (q0 := 0) rfl rfl rfl rfl hl.1 rfl (Nat.le_of_ble_eq_true rfl) dX0_wonCount_14 ⟨Nat.le_of_ble_eq_true rfl, Nat.le_of_ble_eq_true rfl⟩ (fun r3 hw => ?_)
      refine lv_if_eq (tgt := 23) hx hb dX0_wonCount_17 (by decide) (fun c4 => ?_) (fun c4 => ?_)
      · replace hw := Eq.mp (if_pos c4) hw
        obtain ⟨x5, ex5⟩ : ∃ y : Int32, y = (v2 + 1) := ⟨_, rfl⟩
        replace hw := hw x5 ex5
        refine lv_iinc (v := x5) (lv' := [(2, .int x5), (0, .ref t_b), (1, .int v1)]) hx hb dX0_wonCount_23 hl (k := 2) rfl (by rw [ex5]; rfl) (by decide) rfl (fun ls hl => ?_)
        refine lv_goto (tgt := 4) hx hb dX0_wonCount_26 (by decide) ?_
        exact ih v1 x5 ls (lv_sub hl [1, 2, 0] rfl) hw
      · replace hw := Eq.mp (if_neg c4) hw
        obtain ⟨x6, ex6⟩ : ∃ y : Int32, y = (v1 + 1) := ⟨_, rfl⟩
        replace hw := hw x6 ex6
        refine lv_iinc (v := x6) (lv' := [(1, .int x6), (0, .ref t_b), (2, .int v2)]) hx hb dX0_wonCount_20 hl (k := 1) rfl (by rw [ex6]; rfl) (by decide) rfl (fun ls hl => ?_)
        obtain ⟨x7, ex7⟩ : ∃ y : Int32, y = (v2 + 1) := ⟨_, rfl⟩
        replace hw := hw x7 ex7
        refine lv_iinc (v := x7) (lv' := [(2, .int x7), (1, .int x6), (0, .ref t_b)]) hx hb dX0_wonCount_23 hl (k := 2) rfl (by rw [ex7]; rfl) (by decide) rfl (fun ls hl => ?_)
        refine lv_goto (tgt := 4) hx hb dX0_wonCount_26 (by decide) ?_
        exact ih x6 x7 ls (lv_sub hl [2, 1, 0] rfl) hw
  unfold pX0_wonCount at hw
  refine lv_iconst (v := 0) hx hb dX0_wonCount_0 (by decide) ?_
  refine lv_istore_n (lv' := [(1, .int 0), (0, .ref t_b)]) hx hb dX0_wonCount_1 rfl hl (by decide) rfl (fun ls hl => ?_)
  refine lv_iconst (v := 0) hx hb dX0_wonCount_2 (by decide) ?_
  refine lv_istore_n (lv' := [(2, .int 0), (1, .int 0), (0, .ref t_b)]) hx hb dX0_wonCount_3 rfl hl (by decide) rfl (fun ls hl => ?_)
  obtain ⟨n9, hw⟩ := hw
  exact L4 () n9 0 0 ls (lv_sub hl [2, 1, 0] rfl) hw
set_option maxHeartbeats 4000000 in
set_option maxRecDepth 100000 in
theorem kX0_hasWonLine (l : Launch) (D : va_G) (kI kC kG kJ : ClassId) (t_b t_pr : Nat) (u : SB) (Z : Int32 → Prop) (hw : pX0_hasWonLine u Z) : Met l yX0_hasWonLine wsX0_hasWonLine ({ frames := 1, cells := 0, slots := 0, locals := 24 } : Room) (gPr D (gT kI kC kG kJ) [.ref t_b] (wB kI t_b t_pr u)) (vp_Si Z) 0 0 (fun _ => False) := by
  refine Met.ofW (cc := cX0_hasWonLine) (maxL := 2) (ret := (some .boolean)) (by decide) rfl ?_
  intro p e s m args below meth c s₁ B hml hv
  obtain ⟨rfl, hP, hK, hE⟩ := hv
  have hx := B.exec
  have hb := B.bytes
  have hr := B.returns
  have hts := atoms_spec (ws := wsX0_hasWonLine) B.pre
  have hown : s.vm.findClass RX0 = some m.cls := findClass_of_methodNamed B.named
  have hlocks := B.notSynchronized
  have hS : va_S (fun _ => False) s.heap s.heap [] := va_S.rf
  have hl := lv_entry ([.ref t_b]) (n := 2) (Nat.le_of_ble_eq_true rfl)
  rw [lg_entry_eq]
  generalize (lg_sl ([.ref t_b]) ++ List.replicate (2 - (lg_sl ([.ref t_b])).length) Slot.unset).toArray = ls at hl ⊢
  have hl : lv_has ls 2 [(0, .ref t_b)] := hl
  have L2 : ∀ (_ : Unit), ∀ (n : Nat), ∀ (v1 : Int32) (ls : Array Slot), lv_has ls 2 [(0, .ref t_b), (1, .int v1)] → pX0_hasWonLine_2 Z u n v1 → W p l e (headSpec wsX0_hasWonLine ({ frames := 1, cells := 0, slots := 0, locals := 24 } : Room)).room s m ([.ref t_b] : List Value).toArray below meth c s.heap [] 0 0 (MQ below (vp_Si Z) ([.ref t_b] : List Value).toArray s 0 0 (fun _ => False)) (F0 m 2 ls []) := by
    intro _ n
    induction n with
    | zero => intro v1 ls hl hw; exact hw.elim
    | succ n ih =>
    intro v1 ls hl hw
    rw [pX0_hasWonLine_2] at hw
    refine lv_iload_n hx hb dX0_hasWonLine_2 rfl (lv_at hl 1 rfl) ?_
    refine lv_aload_n hx hb dX0_hasWonLine_3 rfl (lv_at hl 0 rfl) ?_
    refine gVi (As := []) (rest := [.int v1]) (cs' := wB kI t_b t_pr u) ⟨hx, hb, hml, hown, hts⟩ (kX0_lineCount l D kI kC kG kJ t_b t_pr u _ hw) (cwV 0 hts gX0_hasWonLine_X0_lineCount rfl rfl rfl hdX0_lineCount ⟨Nat.le_of_ble_eq_true rfl, Nat.le_of_ble_eq_true rfl⟩) hK hP hE hS [0, 1] rfl (ci := 0) (q0 := 0) rfl rfl rfl rfl hl.1 rfl (Nat.le_of_ble_eq_true rfl) dX0_hasWonLine_4 ⟨Nat.le_of_ble_eq_true rfl, Nat.le_of_ble_eq_true rfl⟩ (fun r1 hw => ?_)
    refine lv_icmp_ge (tgt := 26) hx hb dX0_hasWonLine_7 (by decide) (fun c2 => ?_) (fun c2 => ?_)
    · replace hw := Eq.mp (if_pos c2) hw
      refine lv_iconst (v := 0) hx hb dX0_hasWonLine_26 (by decide) ?_
      exact W.zret (v := 0) hx hb hr rfl (fun t ht hW => ⟨_, rfl, hw, ht⟩) (fun _ h => by cases h) dX0_hasWonLine_27
    · replace hw := Eq.mp (if_neg c2) hw
      refine lv_aload_n hx hb dX0_hasWonLine_10 rfl (lv_at hl 0 rfl) ?_
      refine lv_iload_n hx hb dX0_hasWonLine_11 rfl (lv_at hl 1 rfl) ?_
      refine gVi (As := [.int v1]) (rest := []) (cs' := wB kI t_b t_pr u) ⟨hx, hb, hml, hown, hts⟩ (kX0_isWon l D kI kC kG kJ t_b t_pr u v1 _ hw) (cwV 1 hts gX0_hasWonLine_X0_isWon rfl rfl rfl hdX0_isWon ⟨Nat.le_of_ble_eq_true rfl, Nat.le_of_ble_eq_true rfl⟩) hK hP hE hS [0, 1] rfl (ci := 0) (q0 := 0) rfl rfl rfl rfl hl.1 rfl (Nat.le_of_ble_eq_true rfl) dX0_hasWonLine_12 ⟨Nat.le_of_ble_eq_true rfl, Nat.le_of_ble_eq_true rfl⟩ (fun r3 hw => ?_)
      refine lv_if_eq (tgt := 20) hx hb dX0_hasWonLine_15 (by decide) (fun c4 => ?_) (fun c4 => ?_)
      · replace hw := Eq.mp (if_pos c4) hw
        obtain ⟨x5, ex5⟩ : ∃ y : Int32, y = (v1 + 1) := ⟨_, rfl⟩
        replace hw := hw x5 ex5
        refine lv_iinc (v := x5) (lv' := [(1, .int x5), (0, .ref t_b)]) hx hb dX0_hasWonLine_20 hl (k := 1) rfl (by rw [ex5]; rfl) (by decide) rfl (fun ls hl => ?_)
        refine lv_goto (tgt := 2) hx hb dX0_hasWonLine_23 (by decide) ?_
        exact ih x5 ls (lv_sub hl [1, 0] rfl) hw
      · replace hw := Eq.mp (if_neg c4) hw
        refine lv_iconst (v := 1) hx hb dX0_hasWonLine_18 (by decide) ?_
        exact W.zret (v := 1) hx hb hr rfl (fun t ht hW => ⟨_, rfl, hw, ht⟩) (fun _ h => by cases h) dX0_hasWonLine_19
  unfold pX0_hasWonLine at hw
  refine lv_iconst (v := 0) hx hb dX0_hasWonLine_0 (by decide) ?_
  refine lv_istore_n (lv' := [(1, .int 0), (0, .ref t_b)]) hx hb dX0_hasWonLine_1 rfl hl (by decide) rfl (fun ls hl => ?_)
  obtain ⟨n9, hw⟩ := hw
  exact L2 () n9 0 ls (lv_sub hl [1, 0] rfl) hw
set_option maxHeartbeats 4000000 in
set_option maxRecDepth 100000 in
theorem kX0_winsOn (l : Launch) (D : va_G) (kI kC kG kJ : ClassId) (t_b t_pr : Nat) (sz : Nat) (u : SB) (p0 : Int32) (p1 : Int32) (Z : Int32 → SB → Prop) (hw : pX0_winsOn p0 p1 u Z) : Met l yX0_winsOn wsX0_winsOn ({ frames := 2, cells := 0, slots := 0, locals := 45 } : Room) (gPw D (gT kI kC kG kJ) [.ref t_b, .int p0, .int p1] (wB kI t_b t_pr u) sz) (va_Qi Z (gB D (gT kI kC kG kJ) (fun (zz : SB) => wB kI t_b t_pr zz) (va_A (wB kI t_b t_pr u) sz)) (va_A (wB kI t_b t_pr u) sz)) 0 0 (va_A (wB kI t_b t_pr u) sz) := by
  refine Met.ofW (cc := cX0_winsOn) (maxL := 4) (ret := (some .boolean)) (by decide) rfl ?_
  intro p e s m args below meth c s₁ B hml hv
  obtain ⟨rfl, hsz, hP, hK, hD0, hE⟩ := hv
  have hx := B.exec
  have hb := B.bytes
  have hr := B.returns
  have hts := atoms_spec (ws := wsX0_winsOn) B.pre
  have hown : s.vm.findClass RX0 = some m.cls := findClass_of_methodNamed B.named
  have hlocks := B.notSynchronized
  subst hsz
  have hD := hD0.self (sz := s.heap.size)
  generalize hAe : va_A (wB kI t_b t_pr u) s.heap.size = A at hD hE ⊢
  have hA : ∀ q : Nat, s.heap.size ≤ q → A q := fun q h => by rw [← hAe]; exact Or.inr h
  have hS : va_S A s.heap s.heap [] := va_S.rf
  clear hAe hD0
  have hl := lv_entry ([.ref t_b, .int p0, .int p1]) (n := 4) (Nat.le_of_ble_eq_true rfl)
  rw [lg_entry_eq]
  generalize (lg_sl ([.ref t_b, .int p0, .int p1]) ++ List.replicate (4 - (lg_sl ([.ref t_b, .int p0, .int p1])).length) Slot.unset).toArray = ls at hl ⊢
  have hl : lv_has ls 4 [(0, .ref t_b), (1, .int p0), (2, .int p1)] := hl
  have hP : va_P D vwCl (wB kI t_b t_pr u) s.heap := hP
  unfold pX0_winsOn at hw
  refine lv_aload_n hx hb dX0_winsOn_0 rfl (lv_at hl 0 rfl) ?_
  refine lv_iload_n hx hb dX0_winsOn_1 rfl (lv_at hl 1 rfl) ?_
  refine lv_iload_n hx hb dX0_winsOn_2 rfl (lv_at hl 2 rfl) ?_
  refine gWVv (S := SB) (As := [.int p0, .int p1]) (rest := []) (wc := wB kI t_b t_pr u) (wr := []) (cs1 := (fun zz : SB => wB kI t_b t_pr zz)) (ws2 := (fun zz : SB => wB kI t_b t_pr zz)) ⟨hx, hb, hml, hown, hts⟩ (fun sz => kX0_put l D kI kC kG kJ t_b t_pr sz u p0 p1 _ hw) (cwV 2 hts gX0_winsOn_X0_put rfl rfl rfl hdX0_put ⟨Nat.le_of_ble_eq_true rfl, Nat.le_of_ble_eq_true rfl⟩) hK hP hD hE hS hA [0, 1] [] rfl rfl rfl rfl (by decide) [0, 1] rfl (fun _ => rfl) (ci := 0) (q0 := 0) rfl rfl rfl rfl hl.1 rfl (Nat.le_of_ble_eq_true rfl) dX0_winsOn_3 ⟨Nat.le_of_ble_eq_true rfl, Nat.le_of_ble_eq_true rfl⟩ (fun w1 H locs hw hP hD hS => ?_)
  have hP : va_P D vwCl (wB kI t_b t_pr w1) H := hP
  have hD : va_D A (wB kI t_b t_pr w1) := hD
  refine lv_aload_n hx hb dX0_winsOn_6 rfl (lv_at hl 0 rfl) ?_
  refine gVi (As := []) (rest := []) (cs' := wB kI t_b t_pr w1) ⟨hx, hb, hml, hown, hts⟩ (kX0_hasWonLine l D kI kC kG kJ t_b t_pr w1 _ hw) (cwV 0 hts gX0_winsOn_X0_hasWonLine rfl rfl rfl hdX0_hasWonLine ⟨Nat.le_of_ble_eq_true rfl, Nat.le_of_ble_eq_true rfl⟩) hK hP hE hS [0, 1] rfl (ci := 0) (q0 := 0) rfl rfl rfl rfl hl.1 rfl (Nat.le_of_ble_eq_true rfl) dX0_winsOn_7 ⟨Nat.le_of_ble_eq_true rfl, Nat.le_of_ble_eq_true rfl⟩ (fun r2 hw => ?_)
  refine lv_istore_n (lv' := [(3, .int r2), (0, .ref t_b), (1, .int p0), (2, .int p1)]) hx hb dX0_winsOn_10 rfl hl (by decide) rfl (fun ls hl => ?_)
  refine lv_aload_n hx hb dX0_winsOn_11 rfl (lv_at hl 1 rfl) ?_
  refine lv_iload_n hx hb dX0_winsOn_12 rfl (lv_at hl 2 rfl) ?_
  refine lv_iload_n hx hb dX0_winsOn_13 rfl (lv_at hl 3 rfl) ?_
  refine gWVv (S := SB) (As := [.int p0, .int p1]) (rest := []) (wc := wB kI t_b t_pr w1) (wr := []) (cs1 := (fun zz : SB => wB kI t_b t_pr zz)) (ws2 := (fun zz : SB => wB kI t_b t_pr zz)) ⟨hx, hb, hml, hown, hts⟩ (fun sz => kX0_lift l D kI kC kG kJ t_b t_pr sz w1 p0 p1 _ hw) (cwV 2 hts gX0_winsOn_X0_lift rfl rfl rfl hdX0_lift ⟨Nat.le_of_ble_eq_true rfl, Nat.le_of_ble_eq_true rfl⟩) hK hP hD hE hS hA [0, 1] [] rfl rfl rfl rfl (by decide) [0, 1] rfl (fun _ => rfl) (ci := 0) (q0 := 0) rfl rfl rfl rfl hl.1 rfl (Nat.le_of_ble_eq_true rfl) dX0_winsOn_14 ⟨Nat.le_of_ble_eq_true rfl, Nat.le_of_ble_eq_true rfl⟩ (fun w3 H locs hw hP hD hS => ?_)
  have hP : va_P D vwCl (wB kI t_b t_pr w3) H := hP
  have hD : va_D A (wB kI t_b t_pr w3) := hD
  refine lv_iload_n hx hb dX0_winsOn_17 rfl (lv_at hl 0 rfl) ?_
  obtain ⟨hn, hw⟩ := hw
  exact W.zret (v := r2) hx hb hr hn (fun t ht hW => ⟨⟨r2, w3, rfl, hw, by rw [ht]; exact hP, va_K.moved hW.alike hK, hD⟩, hS.F ht⟩) hS.2.2 dX0_winsOn_18
set_option maxHeartbeats 4000000 in
set_option maxRecDepth 100000 in
theorem kX0_firstWinningCell (l : Launch) (D : va_G) (kI kC kG kJ : ClassId) (t_b t_pr : Nat) (sz : Nat) (u : SB) (p0 : Int32) (Z : Int32 → SB → Prop) (hw : pX0_firstWinningCell p0 u Z) : Met l yX0_firstWinningCell wsX0_firstWinningCell ({ frames := 3, cells := 0, slots := 0, locals := 68 } : Room) (gPw D (gT kI kC kG kJ) [.ref t_b, .int p0] (wB kI t_b t_pr u) sz) (va_Qi Z (gB D (gT kI kC kG kJ) (fun (zz : SB) => wB kI t_b t_pr zz) (va_A (wB kI t_b t_pr u) sz)) (va_A (wB kI t_b t_pr u) sz)) 0 0 (va_A (wB kI t_b t_pr u) sz) := by
  refine Met.ofW (cc := cX0_firstWinningCell) (maxL := 3) (ret := (some .int)) (by decide) rfl ?_
  intro p e s m args below meth c s₁ B hml hv
  obtain ⟨rfl, hsz, hP, hK, hD0, hE⟩ := hv
  have hx := B.exec
  have hb := B.bytes
  have hr := B.returns
  have hts := atoms_spec (ws := wsX0_firstWinningCell) B.pre
  have hown : s.vm.findClass RX0 = some m.cls := findClass_of_methodNamed B.named
  have hlocks := B.notSynchronized
  subst hsz
  have hD := hD0.self (sz := s.heap.size)
  generalize hAe : va_A (wB kI t_b t_pr u) s.heap.size = A at hD hE ⊢
  have hA : ∀ q : Nat, s.heap.size ≤ q → A q := fun q h => by rw [← hAe]; exact Or.inr h
  have hS : va_S A s.heap s.heap [] := va_S.rf
  clear hAe hD0
  have hl := lv_entry ([.ref t_b, .int p0]) (n := 3) (Nat.le_of_ble_eq_true rfl)
  rw [lg_entry_eq]
  generalize (lg_sl ([.ref t_b, .int p0]) ++ List.replicate (3 - (lg_sl ([.ref t_b, .int p0])).length) Slot.unset).toArray = ls at hl ⊢
  have hl : lv_has ls 3 [(0, .ref t_b), (1, .int p0)] := hl
  have hP : va_P D vwCl (wB kI t_b t_pr u) s.heap := hP
  have L2 : ∀ (v1 : Int32), ∀ (n : Nat), ∀ (v2 : Int32) (u : SB) (H : Heap) (locs : List Loc) (ls : Array Slot), va_P D vwCl (wB kI t_b t_pr u) H → va_D A (wB kI t_b t_pr u) → va_S A s.heap H locs → lv_has ls 3 [(0, .ref t_b), (1, .int v1), (2, .int v2)] → pX0_firstWinningCell_2 Z v1 n v2 u → W p l e (headSpec wsX0_firstWinningCell ({ frames := 3, cells := 0, slots := 0, locals := 68 } : Room)).room s m ([.ref t_b, .int p0] : List Value).toArray below meth c H locs 0 0 (MQ below (va_Qi Z (gB D (gT kI kC kG kJ) (fun (zz : SB) => wB kI t_b t_pr zz) A) A) ([.ref t_b, .int p0] : List Value).toArray s 0 0 A) (F0 m 2 ls []) := by
    intro v1 n
    induction n with
    | zero => intro v2 u H locs ls hP hD hS hl hw; exact hw.elim
    | succ n ih =>
    intro v2 u H locs ls hP hD hS hl hw
    rw [pX0_firstWinningCell_2] at hw
    refine lv_iload_n hx hb dX0_firstWinningCell_2 rfl (lv_at hl 2 rfl) ?_
    refine lv_bipush (v := 16) hx hb dX0_firstWinningCell_3 (by decide) ?_
    refine lv_icmp_ge (tgt := 33) hx hb dX0_firstWinningCell_5 (by decide) (fun c1 => ?_) (fun c1 => ?_)
    · replace hw := Eq.mp (if_pos c1) hw
      refine lv_iconst (v := (-1)) hx hb dX0_firstWinningCell_33 (by decide) ?_
      exact W.iret (v := (-1)) hx hb hr (fun t ht hW => ⟨⟨(-1), u, rfl, hw, by rw [ht]; exact hP, va_K.moved hW.alike hK, hD⟩, hS.F ht⟩) hS.2.2 dX0_firstWinningCell_34
    · replace hw := Eq.mp (if_neg c1) hw
      refine lv_aload_n hx hb dX0_firstWinningCell_8 rfl (lv_at hl 0 rfl) ?_
      refine lv_iload_n hx hb dX0_firstWinningCell_9 rfl (lv_at hl 2 rfl) ?_
      refine gVi (As := [.int v2]) (rest := []) (cs' := wB kI t_b t_pr u) ⟨hx, hb, hml, hown, hts⟩ (kX0_isEmpty l D kI kC kG kJ t_b t_pr u v2 _ hw) (cwV 1 hts gX0_firstWinningCell_X0_isEmpty rfl rfl rfl hdX0_isEmpty ⟨Nat.le_of_ble_eq_true rfl, Nat.le_of_ble_eq_true rfl⟩) hK hP hE hS [0, 1] rfl (ci := 0) (q0 := 0) rfl rfl rfl rfl hl.1 rfl (Nat.le_of_ble_eq_true rfl) dX0_firstWinningCell_10 ⟨Nat.le_of_ble_eq_true rfl, Nat.le_of_ble_eq_true rfl⟩ (fun r2 hw => ?_)
      refine lv_if_eq (tgt := 27) hx hb dX0_firstWinningCell_13 (by decide) (fun c3 => ?_) (fun c3 => ?_)
      · replace hw := Eq.mp (if_pos c3) hw
        obtain ⟨x4, ex4⟩ : ∃ y : Int32, y = (v2 + 1) := ⟨_, rfl⟩
        replace hw := hw x4 ex4
        refine lv_iinc (v := x4) (lv' := [(2, .int x4), (0, .ref t_b), (1, .int v1)]) hx hb dX0_firstWinningCell_27 hl (k := 2) rfl (by rw [ex4]; rfl) (by decide) rfl (fun ls hl => ?_)
        refine lv_goto (tgt := 2) hx hb dX0_firstWinningCell_30 (by decide) ?_
        exact ih x4 u H locs ls hP hD hS (lv_sub hl [1, 2, 0] rfl) hw
      · replace hw := Eq.mp (if_neg c3) hw
        refine lv_aload_n hx hb dX0_firstWinningCell_16 rfl (lv_at hl 0 rfl) ?_
        refine lv_iload_n hx hb dX0_firstWinningCell_17 rfl (lv_at hl 1 rfl) ?_
        refine lv_iload_n hx hb dX0_firstWinningCell_18 rfl (lv_at hl 2 rfl) ?_
        refine gWVi (S := SB) (As := [.int v1, .int v2]) (rest := []) (wc := wB kI t_b t_pr u) (wr := []) (cs1 := (fun zz : SB => wB kI t_b t_pr zz)) (ws2 := (fun zz : SB => wB kI t_b t_pr zz)) ⟨hx, hb, hml, hown, hts⟩ (fun sz => kX0_winsOn l D kI kC kG kJ t_b t_pr sz u v1 v2 _ hw) (cwV 2 hts gX0_firstWinningCell_X0_winsOn rfl rfl rfl hdX0_winsOn ⟨Nat.le_of_ble_eq_true rfl, Nat.le_of_ble_eq_true rfl⟩) hK hP hD hE hS hA [0, 1] [] rfl rfl rfl rfl (by decide) [0, 1] rfl (fun _ => rfl) (ci := 0) (q0 := 0) rfl rfl rfl rfl hl.1 rfl (Nat.le_of_ble_eq_true rfl) dX0_firstWinningCell_19 ⟨Nat.le_of_ble_eq_true rfl, Nat.le_of_ble_eq_true rfl⟩ (fun r5 w5 H locs hw hP hD hS => ?_)
        have hP : va_P D vwCl (wB kI t_b t_pr w5) H := hP
        have hD : va_D A (wB kI t_b t_pr w5) := hD
        refine lv_if_eq (tgt := 27) hx hb dX0_firstWinningCell_22 (by decide) (fun c6 => ?_) (fun c6 => ?_)
        · replace hw := Eq.mp (if_pos c6) hw
          obtain ⟨x7, ex7⟩ : ∃ y : Int32, y = (v2 + 1) := ⟨_, rfl⟩
          replace hw := hw x7 ex7
          refine lv_iinc (v := x7) (lv' := [(2, .int x7), (0, .ref t_b), (1, .int v1)]) hx hb dX0_firstWinningCell_27 hl (k := 2) rfl (by rw [ex7]; rfl) (by decide) rfl (fun ls hl => ?_)
          refine lv_goto (tgt := 2) hx hb dX0_firstWinningCell_30 (by decide) ?_
          exact ih x7 w5 H locs ls hP hD hS (lv_sub hl [1, 2, 0] rfl) hw
        · replace hw := Eq.mp (if_neg c6) hw
          refine lv_iload_n hx hb dX0_firstWinningCell_25 rfl (lv_at hl 2 rfl) ?_
          exact W.iret (v := v2) hx hb hr (fun t ht hW => ⟨⟨v2, w5, rfl, hw, by rw [ht]; exact hP, va_K.moved hW.alike hK, hD⟩, hS.F ht⟩) hS.2.2 dX0_firstWinningCell_26
  unfold pX0_firstWinningCell at hw
  refine lv_iconst (v := 0) hx hb dX0_firstWinningCell_0 (by decide) ?_
  refine lv_istore_n (lv' := [(2, .int 0), (0, .ref t_b), (1, .int p0)]) hx hb dX0_firstWinningCell_1 rfl hl (by decide) rfl (fun ls hl => ?_)
  obtain ⟨n9, hw⟩ := hw
  exact L2 p0 n9 0 u s.heap [] ls hP hD hS (lv_sub hl [1, 2, 0] rfl) hw
set_option maxHeartbeats 4000000 in
set_option maxRecDepth 100000 in
theorem kX0_dangerousTraits (l : Launch) (D : va_G) (kI kC kG kJ : ClassId) (t_b t_pr : Nat) (u : SB) (Z : Int32 → Prop) (hw : pX0_dangerousTraits u Z) : Met l yX0_dangerousTraits wsX0_dangerousTraits ({ frames := 2, cells := 0, slots := 0, locals := 45 } : Room) (gPr D (gT kI kC kG kJ) [.ref t_b] (wB kI t_b t_pr u)) (vp_Si Z) 0 0 (fun _ => False) := by
  refine Met.ofW (cc := cX0_dangerousTraits) (maxL := 3) (ret := (some .int)) (by decide) rfl ?_
  intro p e s m args below meth c s₁ B hml hv
  obtain ⟨rfl, hP, hK, hE⟩ := hv
  have hx := B.exec
  have hb := B.bytes
  have hr := B.returns
  have hts := atoms_spec (ws := wsX0_dangerousTraits) B.pre
  have hown : s.vm.findClass RX0 = some m.cls := findClass_of_methodNamed B.named
  have hlocks := B.notSynchronized
  have hS : va_S (fun _ => False) s.heap s.heap [] := va_S.rf
  have hl := lv_entry ([.ref t_b]) (n := 3) (Nat.le_of_ble_eq_true rfl)
  rw [lg_entry_eq]
  generalize (lg_sl ([.ref t_b]) ++ List.replicate (3 - (lg_sl ([.ref t_b])).length) Slot.unset).toArray = ls at hl ⊢
  have hl : lv_has ls 3 [(0, .ref t_b)] := hl
  have L4 : ∀ (_ : Unit), ∀ (n : Nat), ∀ (v1 : Int32) (v2 : Int32) (ls : Array Slot), lv_has ls 3 [(0, .ref t_b), (1, .int v1), (2, .int v2)] → pX0_dangerousTraits_4 Z u n v1 v2 → W p l e (headSpec wsX0_dangerousTraits ({ frames := 2, cells := 0, slots := 0, locals := 45 } : Room)).room s m ([.ref t_b] : List Value).toArray below meth c s.heap [] 0 0 (MQ below (vp_Si Z) ([.ref t_b] : List Value).toArray s 0 0 (fun _ => False)) (F0 m 4 ls []) := by
    intro _ n
    induction n with
    | zero => intro v1 v2 ls hl hw; exact hw.elim
    | succ n ih =>
    intro v1 v2 ls hl hw
    rw [pX0_dangerousTraits_4] at hw
    refine lv_iload_n hx hb dX0_dangerousTraits_4 rfl (lv_at hl 2 rfl) ?_
    refine lv_aload_n hx hb dX0_dangerousTraits_5 rfl (lv_at hl 0 rfl) ?_
    refine gVi (As := []) (rest := [.int v2]) (cs' := wB kI t_b t_pr u) ⟨hx, hb, hml, hown, hts⟩ (kX0_lineCount l D kI kC kG kJ t_b t_pr u _ hw) (cwV 0 hts gX0_dangerousTraits_X0_lineCount rfl rfl rfl hdX0_lineCount ⟨Nat.le_of_ble_eq_true rfl, Nat.le_of_ble_eq_true rfl⟩) hK hP hE hS [0, 1] rfl (ci := 0) (q0 := 0) rfl rfl rfl rfl hl.1 rfl (Nat.le_of_ble_eq_true rfl) dX0_dangerousTraits_6 ⟨Nat.le_of_ble_eq_true rfl, Nat.le_of_ble_eq_true rfl⟩ (fun r1 hw => ?_)
    refine lv_icmp_ge (tgt := 35) hx hb dX0_dangerousTraits_9 (by decide) (fun c2 => ?_) (fun c2 => ?_)
    · replace hw := Eq.mp (if_pos c2) hw
      refine lv_iload_n hx hb dX0_dangerousTraits_35 rfl (lv_at hl 1 rfl) ?_
      exact W.iret (v := v1) hx hb hr (fun t ht hW => ⟨_, rfl, hw, ht⟩) (fun _ h => by cases h) dX0_dangerousTraits_36
    · replace hw := Eq.mp (if_neg c2) hw
      refine lv_aload_n hx hb dX0_dangerousTraits_12 rfl (lv_at hl 0 rfl) ?_
      refine lv_iload_n hx hb dX0_dangerousTraits_13 rfl (lv_at hl 2 rfl) ?_
      refine gVi (As := [.int v2]) (rest := []) (cs' := wB kI t_b t_pr u) ⟨hx, hb, hml, hown, hts⟩ (kX0_countOn l D kI kC kG kJ t_b t_pr u v2 _ hw) (cwV 1 hts gX0_dangerousTraits_X0_countOn rfl rfl rfl hdX0_countOn ⟨Nat.le_of_ble_eq_true rfl, Nat.le_of_ble_eq_true rfl⟩) hK hP hE hS [0, 1] rfl (ci := 0) (q0 := 0) rfl rfl rfl rfl hl.1 rfl (Nat.le_of_ble_eq_true rfl) dX0_dangerousTraits_14 ⟨Nat.le_of_ble_eq_true rfl, Nat.le_of_ble_eq_true rfl⟩ (fun r3 hw => ?_)
      refine lv_iconst (v := 3) hx hb dX0_dangerousTraits_17 (by decide) ?_
      refine lv_icmp_ne (tgt := 29) hx hb dX0_dangerousTraits_18 (by decide) (fun c4 => ?_) (fun c4 => ?_)
      · replace hw := Eq.mp (if_neg c4) hw
        obtain ⟨x5, ex5⟩ : ∃ y : Int32, y = (v2 + 1) := ⟨_, rfl⟩
        replace hw := hw x5 ex5
        refine lv_iinc (v := x5) (lv' := [(2, .int x5), (0, .ref t_b), (1, .int v1)]) hx hb dX0_dangerousTraits_29 hl (k := 2) rfl (by rw [ex5]; rfl) (by decide) rfl (fun ls hl => ?_)
        refine lv_goto (tgt := 4) hx hb dX0_dangerousTraits_32 (by decide) ?_
        exact ih v1 x5 ls (lv_sub hl [1, 2, 0] rfl) hw
      · replace hw := Eq.mp (if_pos c4) hw
        refine lv_iload_n hx hb dX0_dangerousTraits_21 rfl (lv_at hl 1 rfl) ?_
        refine lv_aload_n hx hb dX0_dangerousTraits_22 rfl (lv_at hl 0 rfl) ?_
        refine lv_iload_n hx hb dX0_dangerousTraits_23 rfl (lv_at hl 2 rfl) ?_
        refine gVi (As := [.int v2]) (rest := [.int v1]) (cs' := wB kI t_b t_pr u) ⟨hx, hb, hml, hown, hts⟩ (kX0_sharedTraits l D kI kC kG kJ t_b t_pr u v2 _ hw) (cwV 1 hts gX0_dangerousTraits_X0_sharedTraits rfl rfl rfl hdX0_sharedTraits ⟨Nat.le_of_ble_eq_true rfl, Nat.le_of_ble_eq_true rfl⟩) hK hP hE hS [0, 1] rfl (ci := 0) (q0 := 0) rfl rfl rfl rfl hl.1 rfl (Nat.le_of_ble_eq_true rfl) dX0_dangerousTraits_24 ⟨Nat.le_of_ble_eq_true rfl, Nat.le_of_ble_eq_true rfl⟩ (fun r6 hw => ?_)
        refine lv_ior hx hb dX0_dangerousTraits_27 ?_
        refine lv_topi (fun x7 ex7 => ?_)
        replace hw := hw x7 ex7
        refine lv_istore_n (lv' := [(1, .int x7), (0, .ref t_b), (2, .int v2)]) hx hb dX0_dangerousTraits_28 rfl hl (by decide) rfl (fun ls hl => ?_)
        obtain ⟨x8, ex8⟩ : ∃ y : Int32, y = (v2 + 1) := ⟨_, rfl⟩
        replace hw := hw x8 ex8
        refine lv_iinc (v := x8) (lv' := [(2, .int x8), (1, .int x7), (0, .ref t_b)]) hx hb dX0_dangerousTraits_29 hl (k := 2) rfl (by rw [ex8]; rfl) (by decide) rfl (fun ls hl => ?_)
        refine lv_goto (tgt := 4) hx hb dX0_dangerousTraits_32 (by decide) ?_
        exact ih x7 x8 ls (lv_sub hl [2, 1, 0] rfl) hw
  unfold pX0_dangerousTraits at hw
  refine lv_iconst (v := 0) hx hb dX0_dangerousTraits_0 (by decide) ?_
  refine lv_istore_n (lv' := [(1, .int 0), (0, .ref t_b)]) hx hb dX0_dangerousTraits_1 rfl hl (by decide) rfl (fun ls hl => ?_)
  refine lv_iconst (v := 0) hx hb dX0_dangerousTraits_2 (by decide) ?_
  refine lv_istore_n (lv' := [(2, .int 0), (1, .int 0), (0, .ref t_b)]) hx hb dX0_dangerousTraits_3 rfl hl (by decide) rfl (fun ls hl => ?_)
  obtain ⟨n9, hw⟩ := hw
  exact L4 () n9 0 0 ls (lv_sub hl [2, 1, 0] rfl) hw
set_option maxHeartbeats 4000000 in
set_option maxRecDepth 100000 in
theorem kX0_empty (l : Launch) (D : va_G) (kI kC kG kJ : ClassId) (t_b t_pr : Nat) (sz : Nat) (u : SB) (p0 : Int32) (Z : SB → Prop) (hw : pX0_empty p0 u Z) : Met l yX0_empty wsX0_empty ({ frames := 0, cells := 0, slots := 0, locals := 0 } : Room) (gPw D (gT kI kC kG kJ) [.ref t_b, .int p0] (wB kI t_b t_pr u) sz) (va_Qv Z (gB D (gT kI kC kG kJ) (fun (zz : SB) => wB kI t_b t_pr zz) (va_A (wB kI t_b t_pr u) sz)) (va_A (wB kI t_b t_pr u) sz)) 0 0 (va_A (wB kI t_b t_pr u) sz) := by
  refine Met.ofW (cc := cX0_empty) (maxL := 3) (ret := none) (by decide) rfl ?_
  intro p e s m args below meth c s₁ B hml hv
  obtain ⟨rfl, hsz, hP, hK, hD0, hE⟩ := hv
  have hx := B.exec
  have hb := B.bytes
  have hr := B.returns
  have hts := atoms_spec (ws := wsX0_empty) B.pre
  have hown : s.vm.findClass RX0 = some m.cls := findClass_of_methodNamed B.named
  have hlocks := B.notSynchronized
  subst hsz
  have hD := hD0.self (sz := s.heap.size)
  generalize hAe : va_A (wB kI t_b t_pr u) s.heap.size = A at hD hE ⊢
  have hA : ∀ q : Nat, s.heap.size ≤ q → A q := fun q h => by rw [← hAe]; exact Or.inr h
  have hS : va_S A s.heap s.heap [] := va_S.rf
  clear hAe hD0
  have hl := lv_entry ([.ref t_b, .int p0]) (n := 3) (Nat.le_of_ble_eq_true rfl)
  rw [lg_entry_eq]
  generalize (lg_sl ([.ref t_b, .int p0]) ++ List.replicate (3 - (lg_sl ([.ref t_b, .int p0])).length) Slot.unset).toArray = ls at hl ⊢
  have hl : lv_has ls 3 [(0, .ref t_b), (1, .int p0)] := hl
  have hP : va_P D vwCl (wB kI t_b t_pr u) s.heap := hP
  have L17 : ∀ (_ : Unit), ∀ (n : Nat), ∀ (v2 : Int32) (u : SB) (H : Heap) (locs : List Loc) (ls : Array Slot), va_P D vwCl (wB kI t_b t_pr u) H → va_D A (wB kI t_b t_pr u) → va_S A s.heap H locs → lv_has ls 3 [(0, .ref t_b), (2, .int v2)] → pX0_empty_17 Z n v2 u → W p l e (headSpec wsX0_empty ({ frames := 0, cells := 0, slots := 0, locals := 0 } : Room)).room s m ([.ref t_b, .int p0] : List Value).toArray below meth c H locs 0 0 (MQ below (va_Qv Z (gB D (gT kI kC kG kJ) (fun (zz : SB) => wB kI t_b t_pr zz) A) A) ([.ref t_b, .int p0] : List Value).toArray s 0 0 A) (F0 m 17 ls []) := by
    intro _ n
    induction n with
    | zero => intro v2 u H locs ls hP hD hS hl hw; exact hw.elim
    | succ n ih =>
    intro v2 u H locs ls hP hD hS hl hw
    rw [pX0_empty_17] at hw
    refine lv_iload_n hx hb dX0_empty_17 rfl (lv_at hl 1 rfl) ?_
    refine lv_aload_n hx hb dX0_empty_18 rfl (lv_at hl 0 rfl) ?_
    refine va_get (D := D) (ci := 0) (v := .ref t_pr) (C := RX0) (T := TX0) (N := 4) hx hb hts (fun _ h => List.mem_cons_of_mem _ (List.mem_append_right _ h)) hown hK hP 0 rfl rfl 3 (by decide) (hts (.fieldLink RX0 21 "HazelGift$Board" "present" "[I") (List.mem_of_getElem? (i := 4) rfl)) (fun _ h9 => h9) rfl dX0_empty_19 ?_
    refine va_alen (v := 4) hx hb hK hP 1 0 rfl rfl rfl dX0_empty_22 ?_
    refine lv_icmp_ge (tgt := 39) hx hb dX0_empty_23 (by decide) (fun c1 => ?_) (fun c1 => ?_)
    · replace hw := Eq.mp (if_pos c1) hw
      exact W.vret hx hb hr (fun t ht hW => ⟨⟨u, rfl, hw, by rw [ht]; exact hP, va_K.moved hW.alike hK, hD⟩, hS.F ht⟩) hS.2.2 dX0_empty_39
    · replace hw := Eq.mp (if_neg c1) hw
      refine lv_aload_n hx hb dX0_empty_26 rfl (lv_at hl 0 rfl) ?_
      refine va_get (D := D) (ci := 0) (v := .ref t_pr) (C := RX0) (T := TX0) (N := 4) hx hb hts (fun _ h => List.mem_cons_of_mem _ (List.mem_append_right _ h)) hown hK hP 0 rfl rfl 3 (by decide) (hts (.fieldLink RX0 21 "HazelGift$Board" "present" "[I") (List.mem_of_getElem? (i := 4) rfl)) (fun _ h9 => h9) rfl dX0_empty_27 ?_
      refine lv_iload_n hx hb dX0_empty_30 rfl (lv_at hl 1 rfl) ?_
      refine lv_iconst (v := 0) hx hb dX0_empty_31 (by decide) ?_
      obtain ⟨hi2, hw⟩ := hw
      refine gIast (k := (v2).toNatClampNeg) hx hb hK hP hD hS 1 0 rfl rfl hi2 rfl dX0_empty_32 (fun H locs hP hD hS => ?_)
      have hP : va_P D vwCl (wB kI t_b t_pr (u.1, u.2.1, u.2.2.1, (upd u.2.2.2 (v2).toNatClampNeg 0))) H := hP
      have hD : va_D A (wB kI t_b t_pr (u.1, u.2.1, u.2.2.1, (upd u.2.2.2 (v2).toNatClampNeg 0))) := hD
      obtain ⟨x3, ex3⟩ : ∃ y : Int32, y = (v2 + 1) := ⟨_, rfl⟩
      replace hw := hw x3 ex3
      refine lv_iinc (v := x3) (lv' := [(2, .int x3), (0, .ref t_b)]) hx hb dX0_empty_33 hl (k := 1) rfl (by rw [ex3]; rfl) (by decide) rfl (fun ls hl => ?_)
      refine lv_goto (tgt := 17) hx hb dX0_empty_36 (by decide) ?_
      exact ih x3 (u.1, u.2.1, u.2.2.1, (upd u.2.2.2 (v2).toNatClampNeg 0)) H locs ls hP hD hS (lv_sub hl [1, 0] rfl) hw
  unfold pX0_empty at hw
  refine lv_aload_n hx hb dX0_empty_0 rfl (lv_at hl 0 rfl) ?_
  refine lv_iload_n hx hb dX0_empty_1 rfl (lv_at hl 1 rfl) ?_
  refine va_put (D := D) (ci := 0) (v := .int p0) (ty := tyX0 0) (C := RX0) (T := TX0) (N := 4) hx hb hts (fun _ h => List.mem_cons_of_mem _ (List.mem_append_right _ h)) tyX0 tyX0_ok nmX0 hown hK hP hD hS 0 rfl rfl 0 (by decide) (hts (.fieldLink RX0 9 "HazelGift$Board" "rule" "I") (List.mem_of_getElem? (i := 1) rfl)) (fun _ h9 => h9) rfl (tyX0_ok 0 (by decide)) rfl rfl (Nat.le_of_ble_eq_true rfl) dX0_empty_2 (fun H locs hP hD hS => ?_)
  have hP : va_P D vwCl (wB kI t_b t_pr (p0, u.2.1, u.2.2.1, u.2.2.2)) H := hP
  have hD : va_D A (wB kI t_b t_pr (p0, u.2.1, u.2.2.1, u.2.2.2)) := hD
  refine lv_aload_n hx hb dX0_empty_5 rfl (lv_at hl 0 rfl) ?_
  refine lv_iconst (v := 0) hx hb dX0_empty_6 (by decide) ?_
  refine va_put (D := D) (ci := 0) (v := .int 0) (ty := tyX0 1) (C := RX0) (T := TX0) (N := 4) hx hb hts (fun _ h => List.mem_cons_of_mem _ (List.mem_append_right _ h)) tyX0 tyX0_ok nmX0 hown hK hP hD hS 0 rfl rfl 1 (by decide) (hts (.fieldLink RX0 15 "HazelGift$Board" "filled" "I") (List.mem_of_getElem? (i := 2) rfl)) (fun _ h9 => h9) rfl (tyX0_ok 1 (by decide)) rfl rfl (Nat.le_of_ble_eq_true rfl) dX0_empty_7 (fun H locs hP hD hS => ?_)
  have hP : va_P D vwCl (wB kI t_b t_pr (p0, 0, u.2.2.1, u.2.2.2)) H := hP
  have hD : va_D A (wB kI t_b t_pr (p0, 0, u.2.2.1, u.2.2.2)) := hD
  refine lv_aload_n hx hb dX0_empty_10 rfl (lv_at hl 0 rfl) ?_
  refine lv_iconst (v := 0) hx hb dX0_empty_11 (by decide) ?_
  refine va_put (D := D) (ci := 0) (v := .int 0) (ty := tyX0 2) (C := RX0) (T := TX0) (N := 4) hx hb hts (fun _ h => List.mem_cons_of_mem _ (List.mem_append_right _ h)) tyX0 tyX0_ok nmX0 hown hK hP hD hS 0 rfl rfl 2 (by decide) (hts (.fieldLink RX0 18 "HazelGift$Board" "pieces" "I") (List.mem_of_getElem? (i := 3) rfl)) (fun _ h9 => h9) rfl (tyX0_ok 2 (by decide)) rfl rfl (Nat.le_of_ble_eq_true rfl) dX0_empty_12 (fun H locs hP hD hS => ?_)
  have hP : va_P D vwCl (wB kI t_b t_pr (p0, 0, 0, u.2.2.2)) H := hP
  have hD : va_D A (wB kI t_b t_pr (p0, 0, 0, u.2.2.2)) := hD
  refine lv_iconst (v := 0) hx hb dX0_empty_15 (by decide) ?_
  refine lv_istore_n (lv' := [(2, .int 0), (0, .ref t_b), (1, .int p0)]) hx hb dX0_empty_16 rfl hl (by decide) rfl (fun ls hl => ?_)
  obtain ⟨n9, hw⟩ := hw
  exact L17 () n9 0 (p0, 0, 0, u.2.2.2) H locs ls hP hD hS (lv_sub hl [1, 0] rfl) hw
