set_option maxHeartbeats 4000000 in
set_option maxRecDepth 100000 in
theorem kJ6_bitCount_0f7a4 (l : Launch) (D : va_G) (kI kC kG kJ : ClassId) (p0 : Int32) (Z : Int32 → Prop) (hw : pJ6_bitCount_0f7a4 p0 Z) : Met l yJ6_bitCount_0f7a4 wsJ6_bitCount_0f7a4 ({ frames := 0, cells := 0, slots := 0, locals := 0 } : Room) (gPr D (gT kI kC kG kJ) [.int p0] (([] : va_W))) (vp_Si Z) 0 0 (fun _ => False) := by
  refine Met.ofW (cc := cJ6_bitCount_0f7a4) (maxL := 1) (ret := (some .int)) (by decide) rfl ?_
  intro p e s m args below meth c s₁ B hml hv
  obtain ⟨rfl, hP, hK, hE⟩ := hv
  have hx := B.exec
  have hb := B.bytes
  have hr := B.returns
  have hts := atoms_spec (ws := wsJ6_bitCount_0f7a4) B.pre
  have hown : s.vm.findClass RJ6 = some m.cls := findClass_of_methodNamed B.named
  have hlocks := B.notSynchronized
  have hS : va_S (fun _ => False) s.heap s.heap [] := va_S.rf
  have hl := lv_entry ([.int p0]) (n := 1) (Nat.le_of_ble_eq_true rfl)
  rw [lg_entry_eq]
  generalize (lg_sl ([.int p0]) ++ List.replicate (1 - (lg_sl ([.int p0])).length) Slot.unset).toArray = ls at hl ⊢
  have hl : lv_has ls 1 [(0, .int p0)] := hl
  unfold pJ6_bitCount_0f7a4 at hw
  refine lv_iload_n hx hb dJ6_bitCount_0f7a4_0 rfl (lv_at hl 0 rfl) ?_
  refine lv_iload_n hx hb dJ6_bitCount_0f7a4_1 rfl (lv_at hl 0 rfl) ?_
  refine lv_iconst (v := 1) hx hb dJ6_bitCount_0f7a4_2 (by decide) ?_
  refine lv_iushr (v := (((p0).toUInt32 >>> ((1 : Int32).toUInt32 &&& Int32.toUInt32 31)).toInt32)) hx hb dJ6_bitCount_0f7a4_3 rfl ?_
  refine lv_ldcw (v := 1431655765) hx hb hown (hts (.constant RJ6 265 (1431655765)) (List.mem_of_getElem? (i := 1) rfl)) dJ6_bitCount_0f7a4_4 ?_
  refine lv_iand hx hb dJ6_bitCount_0f7a4_7 ?_
  refine lv_isub hx hb dJ6_bitCount_0f7a4_8 ?_
  refine lv_topi (fun x1 ex1 => ?_)
  replace hw := hw x1 ex1
  refine lv_istore_n (lv' := [(0, .int x1)]) hx hb dJ6_bitCount_0f7a4_9 rfl hl (by decide) rfl (fun ls hl => ?_)
  refine lv_iload_n hx hb dJ6_bitCount_0f7a4_10 rfl (lv_at hl 0 rfl) ?_
  refine lv_ldcw (v := 858993459) hx hb hown (hts (.constant RJ6 266 (858993459)) (List.mem_of_getElem? (i := 2) rfl)) dJ6_bitCount_0f7a4_11 ?_
  refine lv_iand hx hb dJ6_bitCount_0f7a4_14 ?_
  refine lv_iload_n hx hb dJ6_bitCount_0f7a4_15 rfl (lv_at hl 0 rfl) ?_
  refine lv_iconst (v := 2) hx hb dJ6_bitCount_0f7a4_16 (by decide) ?_
  refine lv_iushr (v := (((x1).toUInt32 >>> ((2 : Int32).toUInt32 &&& Int32.toUInt32 31)).toInt32)) hx hb dJ6_bitCount_0f7a4_17 rfl ?_
  refine lv_ldcw (v := 858993459) hx hb hown (hts (.constant RJ6 266 (858993459)) (List.mem_of_getElem? (i := 2) rfl)) dJ6_bitCount_0f7a4_18 ?_
  refine lv_iand hx hb dJ6_bitCount_0f7a4_21 ?_
  refine lv_iadd hx hb dJ6_bitCount_0f7a4_22 ?_
  refine lv_topi (fun x2 ex2 => ?_)
  replace hw := hw x2 ex2
  refine lv_istore_n (lv' := [(0, .int x2)]) hx hb dJ6_bitCount_0f7a4_23 rfl hl (by decide) rfl (fun ls hl => ?_)
  refine lv_iload_n hx hb dJ6_bitCount_0f7a4_24 rfl (lv_at hl 0 rfl) ?_
  refine lv_iload_n hx hb dJ6_bitCount_0f7a4_25 rfl (lv_at hl 0 rfl) ?_
  refine lv_iconst (v := 4) hx hb dJ6_bitCount_0f7a4_26 (by decide) ?_
  refine lv_iushr (v := (((x2).toUInt32 >>> ((4 : Int32).toUInt32 &&& Int32.toUInt32 31)).toInt32)) hx hb dJ6_bitCount_0f7a4_27 rfl ?_
  refine lv_iadd hx hb dJ6_bitCount_0f7a4_28 ?_
  refine lv_ldcw (v := 252645135) hx hb hown (hts (.constant RJ6 267 (252645135)) (List.mem_of_getElem? (i := 3) rfl)) dJ6_bitCount_0f7a4_29 ?_
  refine lv_iand hx hb dJ6_bitCount_0f7a4_32 ?_
  refine lv_topi (fun x3 ex3 => ?_)
  replace hw := hw x3 ex3
  refine lv_istore_n (lv' := [(0, .int x3)]) hx hb dJ6_bitCount_0f7a4_33 rfl hl (by decide) rfl (fun ls hl => ?_)
  refine lv_iload_n hx hb dJ6_bitCount_0f7a4_34 rfl (lv_at hl 0 rfl) ?_
  refine lv_iload_n hx hb dJ6_bitCount_0f7a4_35 rfl (lv_at hl 0 rfl) ?_
  refine lv_bipush (v := 8) hx hb dJ6_bitCount_0f7a4_36 (by decide) ?_
  refine lv_iushr (v := (((x3).toUInt32 >>> ((8 : Int32).toUInt32 &&& Int32.toUInt32 31)).toInt32)) hx hb dJ6_bitCount_0f7a4_38 rfl ?_
  refine lv_iadd hx hb dJ6_bitCount_0f7a4_39 ?_
  refine lv_topi (fun x4 ex4 => ?_)
  replace hw := hw x4 ex4
  refine lv_istore_n (lv' := [(0, .int x4)]) hx hb dJ6_bitCount_0f7a4_40 rfl hl (by decide) rfl (fun ls hl => ?_)
  refine lv_iload_n hx hb dJ6_bitCount_0f7a4_41 rfl (lv_at hl 0 rfl) ?_
  refine lv_iload_n hx hb dJ6_bitCount_0f7a4_42 rfl (lv_at hl 0 rfl) ?_
  refine lv_bipush (v := 16) hx hb dJ6_bitCount_0f7a4_43 (by decide) ?_
  refine lv_iushr (v := (((x4).toUInt32 >>> ((16 : Int32).toUInt32 &&& Int32.toUInt32 31)).toInt32)) hx hb dJ6_bitCount_0f7a4_45 rfl ?_
  refine lv_iadd hx hb dJ6_bitCount_0f7a4_46 ?_
  refine lv_topi (fun x5 ex5 => ?_)
  replace hw := hw x5 ex5
  refine lv_istore_n (lv' := [(0, .int x5)]) hx hb dJ6_bitCount_0f7a4_47 rfl hl (by decide) rfl (fun ls hl => ?_)
  refine lv_iload_n hx hb dJ6_bitCount_0f7a4_48 rfl (lv_at hl 0 rfl) ?_
  refine lv_bipush (v := 63) hx hb dJ6_bitCount_0f7a4_49 (by decide) ?_
  refine lv_iand hx hb dJ6_bitCount_0f7a4_51 ?_
  exact W.iret (v := (x5 &&& 63)) hx hb hr (fun t ht hW => ⟨_, rfl, hw, ht⟩) (fun _ h => by cases h) dJ6_bitCount_0f7a4_52
set_option maxHeartbeats 4000000 in
set_option maxRecDepth 100000 in
theorem kX0_lineRule (l : Launch) (D : va_G) (kI kC kG kJ : ClassId) (t_b t_pr : Nat) (u : SB) (Z : Int32 → Prop) (hw : pX0_lineRule u Z) : Met l yX0_lineRule wsX0_lineRule ({ frames := 0, cells := 0, slots := 0, locals := 0 } : Room) (gPr D (gT kI kC kG kJ) [.ref t_b] (wB kI t_b t_pr u)) (vp_Si Z) 0 0 (fun _ => False) := by
  refine Met.ofW (cc := cX0_lineRule) (maxL := 1) (ret := (some .int)) (by decide) rfl ?_
  intro p e s m args below meth c s₁ B hml hv
  obtain ⟨rfl, hP, hK, hE⟩ := hv
  have hx := B.exec
  have hb := B.bytes
  have hr := B.returns
  have hts := atoms_spec (ws := wsX0_lineRule) B.pre
  have hown : s.vm.findClass RX0 = some m.cls := findClass_of_methodNamed B.named
  have hlocks := B.notSynchronized
  have hS : va_S (fun _ => False) s.heap s.heap [] := va_S.rf
  have hl := lv_entry ([.ref t_b]) (n := 1) (Nat.le_of_ble_eq_true rfl)
  rw [lg_entry_eq]
  generalize (lg_sl ([.ref t_b]) ++ List.replicate (1 - (lg_sl ([.ref t_b])).length) Slot.unset).toArray = ls at hl ⊢
  have hl : lv_has ls 1 [(0, .ref t_b)] := hl
  unfold pX0_lineRule at hw
  refine lv_aload_n hx hb dX0_lineRule_0 rfl (lv_at hl 0 rfl) ?_
  refine va_get (D := D) (ci := 0) (v := .int u.1) (C := RX0) (T := TX0) (N := 4) hx hb hts (fun _ h => List.mem_cons_of_mem _ (List.mem_append_right _ h)) hown hK hP 0 rfl rfl 0 (by decide) (hts (.fieldLink RX0 9 "HazelGift$Board" "rule" "I") (List.mem_of_getElem? (i := 1) rfl)) (fun _ h9 => h9) rfl dX0_lineRule_1 ?_
  exact W.iret (v := u.1) hx hb hr (fun t ht hW => ⟨_, rfl, hw, ht⟩) (fun _ h => by cases h) dX0_lineRule_4
set_option maxHeartbeats 4000000 in
set_option maxRecDepth 100000 in
theorem kX0_count (l : Launch) (D : va_G) (kI kC kG kJ : ClassId) (t_b t_pr : Nat) (u : SB) (Z : Int32 → Prop) (hw : pX0_count u Z) : Met l yX0_count wsX0_count ({ frames := 1, cells := 0, slots := 0, locals := 20 } : Room) (gPr D (gT kI kC kG kJ) [.ref t_b] (wB kI t_b t_pr u)) (vp_Si Z) 0 0 (fun _ => False) := by
  refine Met.ofW (cc := cX0_count) (maxL := 1) (ret := (some .int)) (by decide) rfl ?_
  intro p e s m args below meth c s₁ B hml hv
  obtain ⟨rfl, hP, hK, hE⟩ := hv
  have hx := B.exec
  have hb := B.bytes
  have hr := B.returns
  have hts := atoms_spec (ws := wsX0_count) B.pre
  have hown : s.vm.findClass RX0 = some m.cls := findClass_of_methodNamed B.named
  have hlocks := B.notSynchronized
  have hS : va_S (fun _ => False) s.heap s.heap [] := va_S.rf
  have hl := lv_entry ([.ref t_b]) (n := 1) (Nat.le_of_ble_eq_true rfl)
  rw [lg_entry_eq]
  generalize (lg_sl ([.ref t_b]) ++ List.replicate (1 - (lg_sl ([.ref t_b])).length) Slot.unset).toArray = ls at hl ⊢
  have hl : lv_has ls 1 [(0, .ref t_b)] := hl
  unfold pX0_count at hw
  refine lv_aload_n hx hb dX0_count_0 rfl (lv_at hl 0 rfl) ?_
  refine va_get (D := D) (ci := 0) (v := .int u.2.1) (C := RX0) (T := TX0) (N := 4) hx hb hts (fun _ h => List.mem_cons_of_mem _ (List.mem_append_right _ h)) hown hK hP 0 rfl rfl 1 (by decide) (hts (.fieldLink RX0 15 "HazelGift$Board" "filled" "I") (List.mem_of_getElem? (i := 1) rfl)) (fun _ h9 => h9) rfl dX0_count_1 ?_
  refine gSi (As := [.int u.2.1]) (rest := []) (cs' := ([] : va_W)) ⟨hx, hb, hml, hown, hts⟩ (kJ6_bitCount_0f7a4 l D kI kC kG kJ u.2.1 _ hw) (va_cwS 1 hts gX0_count_J6_bitCount_0f7a4 rfl rfl rfl hdJ6_bitCount_0f7a4 ⟨Nat.le_of_ble_eq_true rfl, Nat.le_of_ble_eq_true rfl⟩) hK hP hE hS [] rfl rfl hl.1 rfl (Nat.le_of_ble_eq_true rfl) dX0_count_4 ⟨Nat.le_of_ble_eq_true rfl, Nat.le_of_ble_eq_true rfl⟩ (fun r1 hw => ?_)
  exact W.iret (v := r1) hx hb hr (fun t ht hW => ⟨_, rfl, hw, ht⟩) (fun _ h => by cases h) dX0_count_7
set_option maxHeartbeats 4000000 in
set_option maxRecDepth 100000 in
theorem kX0_isEmpty (l : Launch) (D : va_G) (kI kC kG kJ : ClassId) (t_b t_pr : Nat) (u : SB) (p0 : Int32) (Z : Int32 → Prop) (hw : pX0_isEmpty p0 u Z) : Met l yX0_isEmpty wsX0_isEmpty ({ frames := 0, cells := 0, slots := 0, locals := 0 } : Room) (gPr D (gT kI kC kG kJ) [.ref t_b, .int p0] (wB kI t_b t_pr u)) (vp_Si Z) 0 0 (fun _ => False) := by
  refine Met.ofW (cc := cX0_isEmpty) (maxL := 2) (ret := (some .boolean)) (by decide) rfl ?_
  intro p e s m args below meth c s₁ B hml hv
  obtain ⟨rfl, hP, hK, hE⟩ := hv
  have hx := B.exec
  have hb := B.bytes
  have hr := B.returns
  have hts := atoms_spec (ws := wsX0_isEmpty) B.pre
  have hown : s.vm.findClass RX0 = some m.cls := findClass_of_methodNamed B.named
  have hlocks := B.notSynchronized
  have hS : va_S (fun _ => False) s.heap s.heap [] := va_S.rf
  have hl := lv_entry ([.ref t_b, .int p0]) (n := 2) (Nat.le_of_ble_eq_true rfl)
  rw [lg_entry_eq]
  generalize (lg_sl ([.ref t_b, .int p0]) ++ List.replicate (2 - (lg_sl ([.ref t_b, .int p0])).length) Slot.unset).toArray = ls at hl ⊢
  have hl : lv_has ls 2 [(0, .ref t_b), (1, .int p0)] := hl
  unfold pX0_isEmpty at hw
  refine lv_aload_n hx hb dX0_isEmpty_0 rfl (lv_at hl 0 rfl) ?_
  refine va_get (D := D) (ci := 0) (v := .int u.2.1) (C := RX0) (T := TX0) (N := 4) hx hb hts (fun _ h => List.mem_cons_of_mem _ (List.mem_append_right _ h)) hown hK hP 0 rfl rfl 1 (by decide) (hts (.fieldLink RX0 15 "HazelGift$Board" "filled" "I") (List.mem_of_getElem? (i := 1) rfl)) (fun _ h9 => h9) rfl dX0_isEmpty_1 ?_
  refine lv_iconst (v := 1) hx hb dX0_isEmpty_4 (by decide) ?_
  refine lv_iload_n hx hb dX0_isEmpty_5 rfl (lv_at hl 1 rfl) ?_
  refine lv_ishl hx hb dX0_isEmpty_6 ?_
  refine lv_iand hx hb dX0_isEmpty_7 ?_
  refine lv_if_ne (tgt := 15) hx hb dX0_isEmpty_8 (by decide) (fun c1 => ?_) (fun c1 => ?_)
  · replace hw := Eq.mp (if_neg c1) hw
    refine lv_iconst (v := 0) hx hb dX0_isEmpty_15 (by decide) ?_
    exact W.zret (v := 0) hx hb hr rfl (fun t ht hW => ⟨_, rfl, hw, ht⟩) (fun _ h => by cases h) dX0_isEmpty_16
  · replace hw := Eq.mp (if_pos (Decidable.not_not.mp c1)) hw
    refine lv_iconst (v := 1) hx hb dX0_isEmpty_11 (by decide) ?_
    refine lv_goto (tgt := 16) hx hb dX0_isEmpty_12 (by decide) ?_
    exact W.zret (v := 1) hx hb hr rfl (fun t ht hW => ⟨_, rfl, hw, ht⟩) (fun _ h => by cases h) dX0_isEmpty_16
set_option maxHeartbeats 4000000 in
set_option maxRecDepth 100000 in
theorem kX0_pieceAt (l : Launch) (D : va_G) (kI kC kG kJ : ClassId) (t_b t_pr : Nat) (u : SB) (p0 : Int32) (Z : Int32 → Prop) (hw : pX0_pieceAt p0 u Z) : Met l yX0_pieceAt wsX0_pieceAt ({ frames := 1, cells := 0, slots := 0, locals := 21 } : Room) (gPr D (gT kI kC kG kJ) [.ref t_b, .int p0] (wB kI t_b t_pr u)) (vp_Si Z) 0 0 (fun _ => False) := by
  refine Met.ofW (cc := cX0_pieceAt) (maxL := 4) (ret := (some .int)) (by decide) rfl ?_
  intro p e s m args below meth c s₁ B hml hv
  obtain ⟨rfl, hP, hK, hE⟩ := hv
  have hx := B.exec
  have hb := B.bytes
  have hr := B.returns
  have hts := atoms_spec (ws := wsX0_pieceAt) B.pre
  have hown : s.vm.findClass RX0 = some m.cls := findClass_of_methodNamed B.named
  have hlocks := B.notSynchronized
  have hS : va_S (fun _ => False) s.heap s.heap [] := va_S.rf
  have hl := lv_entry ([.ref t_b, .int p0]) (n := 4) (Nat.le_of_ble_eq_true rfl)
  rw [lg_entry_eq]
  generalize (lg_sl ([.ref t_b, .int p0]) ++ List.replicate (4 - (lg_sl ([.ref t_b, .int p0])).length) Slot.unset).toArray = ls at hl ⊢
  have hl : lv_has ls 4 [(0, .ref t_b), (1, .int p0)] := hl
  have L14 : ∀ (v1 : Int32) (u : SB), ∀ (n : Nat), ∀ (v2 : Int32) (v3 : Int32) (ls : Array Slot), lv_has ls 4 [(0, .ref t_b), (1, .int v1), (2, .int v2), (3, .int v3)] → pX0_pieceAt_14 Z v1 u n v2 v3 → W p l e (headSpec wsX0_pieceAt ({ frames := 1, cells := 0, slots := 0, locals := 21 } : Room)).room s m ([.ref t_b, .int p0] : List Value).toArray below meth c s.heap [] 0 0 (MQ below (vp_Si Z) ([.ref t_b, .int p0] : List Value).toArray s 0 0 (fun _ => False)) (F0 m 14 ls []) := by
    intro v1 u n
    induction n with
    | zero => intro v2 v3 ls hl hw; exact hw.elim
    | succ n ih =>
    intro v2 v3 ls hl hw
    rw [pX0_pieceAt_14] at hw
    refine lv_iload_n hx hb dX0_pieceAt_14 rfl (lv_at hl 3 rfl) ?_
    refine lv_aload_n hx hb dX0_pieceAt_15 rfl (lv_at hl 0 rfl) ?_
    refine va_get (D := D) (ci := 0) (v := .ref t_pr) (C := RX0) (T := TX0) (N := 4) hx hb hts (fun _ h => List.mem_cons_of_mem _ (List.mem_append_right _ h)) hown hK hP 0 rfl rfl 3 (by decide) (hts (.fieldLink RX0 21 "HazelGift$Board" "present" "[I") (List.mem_of_getElem? (i := 1) rfl)) (fun _ h9 => h9) rfl dX0_pieceAt_16 ?_
    refine va_alen (v := 4) hx hb hK hP 1 0 rfl rfl (by decide) dX0_pieceAt_19 ?_
    refine lv_icmp_ge (tgt := 44) hx hb dX0_pieceAt_20 (by decide) (fun c3 => ?_) (fun c3 => ?_)
    · replace hw := Eq.mp (if_pos c3) hw
      refine lv_iload_n hx hb dX0_pieceAt_44 rfl (lv_at hl 2 rfl) ?_
      exact W.iret (v := v2) hx hb hr (fun t ht hW => ⟨_, rfl, hw, ht⟩) (fun _ h => by cases h) dX0_pieceAt_45
    · replace hw := Eq.mp (if_neg c3) hw
      refine lv_iload_n hx hb dX0_pieceAt_23 rfl (lv_at hl 2 rfl) ?_
      refine lv_aload_n hx hb dX0_pieceAt_24 rfl (lv_at hl 0 rfl) ?_
      refine va_get (D := D) (ci := 0) (v := .ref t_pr) (C := RX0) (T := TX0) (N := 4) hx hb hts (fun _ h => List.mem_cons_of_mem _ (List.mem_append_right _ h)) hown hK hP 0 rfl rfl 3 (by decide) (hts (.fieldLink RX0 21 "HazelGift$Board" "present" "[I") (List.mem_of_getElem? (i := 1) rfl)) (fun _ h9 => h9) rfl dX0_pieceAt_25 ?_
      refine lv_iload_n hx hb dX0_pieceAt_28 rfl (lv_at hl 3 rfl) ?_
      obtain ⟨hi4, hw⟩ := hw
      refine gIald (k := (v3).toNatClampNeg) hx hb hK hP 1 0 rfl rfl hi4 rfl dX0_pieceAt_29 ?_
      refine lv_iload_n hx hb dX0_pieceAt_30 rfl (lv_at hl 1 rfl) ?_
      refine lv_ishr hx hb dX0_pieceAt_31 ?_
      refine lv_iconst (v := 1) hx hb dX0_pieceAt_32 (by decide) ?_
      refine lv_iand hx hb dX0_pieceAt_33 ?_
      refine lv_iload_n hx hb dX0_pieceAt_34 rfl (lv_at hl 3 rfl) ?_
      refine lv_ishl hx hb dX0_pieceAt_35 ?_
      refine lv_ior hx hb dX0_pieceAt_36 ?_
      refine lv_topi (fun x5 ex5 => ?_)
      replace hw := hw x5 ex5
      refine lv_istore_n (lv' := [(2, .int x5), (0, .ref t_b), (1, .int v1), (3, .int v3)]) hx hb dX0_pieceAt_37 rfl hl (by decide) rfl (fun ls hl => ?_)
      obtain ⟨x6, ex6⟩ : ∃ y : Int32, y = (v3 + 1) := ⟨_, rfl⟩
      replace hw := hw x6 ex6
      refine lv_iinc (v := x6) (lv' := [(3, .int x6), (2, .int x5), (0, .ref t_b), (1, .int v1)]) hx hb dX0_pieceAt_38 hl (k := 3) rfl (by rw [ex6]; rfl) (by decide) rfl (fun ls hl => ?_)
      refine lv_goto (tgt := 14) hx hb dX0_pieceAt_41 (by decide) ?_
      exact ih x5 x6 ls (lv_sub hl [2, 3, 1, 0] rfl) hw
  unfold pX0_pieceAt at hw
  refine lv_aload_n hx hb dX0_pieceAt_0 rfl (lv_at hl 0 rfl) ?_
  refine lv_iload_n hx hb dX0_pieceAt_1 rfl (lv_at hl 1 rfl) ?_
  refine gVi (As := [.int p0]) (rest := []) (cs' := wB kI t_b t_pr u) ⟨hx, hb, hml, hown, hts⟩ (kX0_isEmpty l D kI kC kG kJ t_b t_pr u p0 _ hw) (cwV 1 hts gX0_pieceAt_X0_isEmpty rfl rfl rfl hdX0_isEmpty ⟨Nat.le_of_ble_eq_true rfl, Nat.le_of_ble_eq_true rfl⟩) hK hP hE hS [0, 1] rfl (ci := 0) (q0 := 0) rfl rfl rfl rfl hl.1 rfl (Nat.le_of_ble_eq_true rfl) dX0_pieceAt_2 ⟨Nat.le_of_ble_eq_true rfl, Nat.le_of_ble_eq_true rfl⟩ (fun r1 hw => ?_)
  refine lv_if_eq (tgt := 10) hx hb dX0_pieceAt_5 (by decide) (fun c2 => ?_) (fun c2 => ?_)
  · replace hw := Eq.mp (if_pos c2) hw
    refine lv_iconst (v := 0) hx hb dX0_pieceAt_10 (by decide) ?_
    refine lv_istore_n (lv' := [(2, .int 0), (0, .ref t_b), (1, .int p0)]) hx hb dX0_pieceAt_11 rfl hl (by decide) rfl (fun ls hl => ?_)
    refine lv_iconst (v := 0) hx hb dX0_pieceAt_12 (by decide) ?_
    refine lv_istore_n (lv' := [(3, .int 0), (2, .int 0), (0, .ref t_b), (1, .int p0)]) hx hb dX0_pieceAt_13 rfl hl (by decide) rfl (fun ls hl => ?_)
    obtain ⟨n9, hw⟩ := hw
    exact L14 p0 u n9 0 0 ls (lv_sub hl [2, 3, 1, 0] rfl) hw
  · replace hw := Eq.mp (if_neg c2) hw
    refine lv_iconst (v := (-1)) hx hb dX0_pieceAt_8 (by decide) ?_
    exact W.iret (v := (-1)) hx hb hr (fun t ht hW => ⟨_, rfl, hw, ht⟩) (fun _ h => by cases h) dX0_pieceAt_9
set_option maxHeartbeats 4000000 in
set_option maxRecDepth 100000 in
theorem kX0_put (l : Launch) (D : va_G) (kI kC kG kJ : ClassId) (t_b t_pr : Nat) (sz : Nat) (u : SB) (p0 : Int32) (p1 : Int32) (Z : SB → Prop) (hw : pX0_put p0 p1 u Z) : Met l yX0_put wsX0_put ({ frames := 0, cells := 0, slots := 0, locals := 0 } : Room) (gPw D (gT kI kC kG kJ) [.ref t_b, .int p0, .int p1] (wB kI t_b t_pr u) sz) (va_Qv Z (gB D (gT kI kC kG kJ) (fun (zz : SB) => wB kI t_b t_pr zz) (va_A (wB kI t_b t_pr u) sz)) (va_A (wB kI t_b t_pr u) sz)) 0 0 (va_A (wB kI t_b t_pr u) sz) := by
  refine Met.ofW (cc := cX0_put) (maxL := 4) (ret := none) (by decide) rfl ?_
  intro p e s m args below meth c s₁ B hml hv
  obtain ⟨rfl, hsz, hP, hK, hD0, hE⟩ := hv
  have hx := B.exec
  have hb := B.bytes
  have hr := B.returns
  have hts := atoms_spec (ws := wsX0_put) B.pre
  have hown : s.vm.findClass RX0 = some m.cls := findClass_of_methodNamed B.named
  have hlocks := B.notSynchronized
  subst hsz
  have hD := hD0.self (sz := s.heap.size)
  generalize hAe : va_A (wB kI t_b t_pr u) s.heap.size = A at hD hE ⊢
  have hA : ∀ q : Nat, s.heap.size ≤ q → A q := fun q h => by rw [← hAe]; exact Or.inr h
  have hS : va_S A s.heap s.heap [] := va_S.rf
  clear hAe hD0
  have hl := lv_entry ([.ref t_b, .int p0, .int p1]) (n := 4) (Nat.le_of_ble_eq_true rfl)
  rw [lg_entry_eq]
  generalize (lg_sl ([.ref t_b, .int p0, .int p1]) ++ List.replicate (4 - (lg_sl ([.ref t_b, .int p0, .int p1])).length) Slot.unset).toArray = ls at hl ⊢
  have hl : lv_has ls 4 [(0, .ref t_b), (1, .int p0), (2, .int p1)] := hl
  have hP : va_P D vwCl (wB kI t_b t_pr u) s.heap := hP
  have L26 : ∀ (v1 : Int32) (v2 : Int32), ∀ (n : Nat), ∀ (v3 : Int32) (u : SB) (H : Heap) (locs : List Loc) (ls : Array Slot), va_P D vwCl (wB kI t_b t_pr u) H → va_D A (wB kI t_b t_pr u) → va_S A s.heap H locs → lv_has ls 4 [(0, .ref t_b), (1, .int v1), (2, .int v2), (3, .int v3)] → pX0_put_26 Z v1 v2 n v3 u → W p l e (headSpec wsX0_put ({ frames := 0, cells := 0, slots := 0, locals := 0 } : Room)).room s m ([.ref t_b, .int p0, .int p1] : List Value).toArray below meth c H locs 0 0 (MQ below (va_Qv Z (gB D (gT kI kC kG kJ) (fun (zz : SB) => wB kI t_b t_pr zz) A) A) ([.ref t_b, .int p0, .int p1] : List Value).toArray s 0 0 A) (F0 m 26 ls []) := by
    intro v1 v2 n
    induction n with
    | zero => intro v3 u H locs ls hP hD hS hl hw; exact hw.elim
    | succ n ih =>
    intro v3 u H locs ls hP hD hS hl hw
    rw [pX0_put_26] at hw
    refine lv_iload_n hx hb dX0_put_26 rfl (lv_at hl 3 rfl) ?_
    refine lv_aload_n hx hb dX0_put_27 rfl (lv_at hl 0 rfl) ?_
    refine va_get (D := D) (ci := 0) (v := .ref t_pr) (C := RX0) (T := TX0) (N := 4) hx hb hts (fun _ h => List.mem_cons_of_mem _ (List.mem_append_right _ h)) hown hK hP 0 rfl rfl 3 (by decide) (hts (.fieldLink RX0 21 "HazelGift$Board" "present" "[I") (List.mem_of_getElem? (i := 3) rfl)) (fun _ h9 => h9) rfl dX0_put_28 ?_
    refine va_alen (v := 4) hx hb hK hP 1 0 rfl rfl (by decide) dX0_put_31 ?_
    refine lv_icmp_ge (tgt := 57) hx hb dX0_put_32 (by decide) (fun c3 => ?_) (fun c3 => ?_)
    · replace hw := Eq.mp (if_pos c3) hw
      exact W.vret hx hb hr (fun t ht hW => ⟨⟨u, rfl, hw, by rw [ht]; exact hP, va_K.moved hW.alike hK, hD⟩, hS.F ht⟩) hS.2.2 dX0_put_57
    · replace hw := Eq.mp (if_neg c3) hw
      refine lv_aload_n hx hb dX0_put_35 rfl (lv_at hl 0 rfl) ?_
      refine va_get (D := D) (ci := 0) (v := .ref t_pr) (C := RX0) (T := TX0) (N := 4) hx hb hts (fun _ h => List.mem_cons_of_mem _ (List.mem_append_right _ h)) hown hK hP 0 rfl rfl 3 (by decide) (hts (.fieldLink RX0 21 "HazelGift$Board" "present" "[I") (List.mem_of_getElem? (i := 3) rfl)) (fun _ h9 => h9) rfl dX0_put_36 ?_
      refine lv_iload_n hx hb dX0_put_39 rfl (lv_at hl 3 rfl) ?_
      refine lv_dup2_11 hx hb dX0_put_40 rfl rfl ?_
      obtain ⟨hi4, hw⟩ := hw
      refine gIald (k := (v3).toNatClampNeg) hx hb hK hP 1 0 rfl rfl hi4 rfl dX0_put_41 ?_
      refine lv_iload_n hx hb dX0_put_42 rfl (lv_at hl 1 rfl) ?_
      refine lv_iload_n hx hb dX0_put_43 rfl (lv_at hl 3 rfl) ?_
      refine lv_ishr hx hb dX0_put_44 ?_
      refine lv_iconst (v := 1) hx hb dX0_put_45 (by decide) ?_
      refine lv_iand hx hb dX0_put_46 ?_
      refine lv_iload_n hx hb dX0_put_47 rfl (lv_at hl 2 rfl) ?_
      refine lv_ishl hx hb dX0_put_48 ?_
      refine lv_ior hx hb dX0_put_49 ?_
      refine lv_topi (fun x5 ex5 => ?_)
      replace hw := hw x5 ex5
      obtain ⟨hi6, hw⟩ := hw
      refine gIast (k := (v3).toNatClampNeg) hx hb hK hP hD hS 1 0 rfl rfl hi6 rfl dX0_put_50 (fun H locs hP hD hS => ?_)
      have hP : va_P D vwCl (wB kI t_b t_pr (u.1, u.2.1, u.2.2.1, (upd u.2.2.2 (v3).toNatClampNeg x5))) H := hP
      have hD : va_D A (wB kI t_b t_pr (u.1, u.2.1, u.2.2.1, (upd u.2.2.2 (v3).toNatClampNeg x5))) := hD
      obtain ⟨x7, ex7⟩ : ∃ y : Int32, y = (v3 + 1) := ⟨_, rfl⟩
      replace hw := hw x7 ex7
      refine lv_iinc (v := x7) (lv' := [(3, .int x7), (0, .ref t_b), (1, .int v1), (2, .int v2)]) hx hb dX0_put_51 hl (k := 3) rfl (by rw [ex7]; rfl) (by decide) rfl (fun ls hl => ?_)
      refine lv_goto (tgt := 26) hx hb dX0_put_54 (by decide) ?_
      exact ih x7 (u.1, u.2.1, u.2.2.1, (upd u.2.2.2 (v3).toNatClampNeg x5)) H locs ls hP hD hS (lv_sub hl [1, 2, 3, 0] rfl) hw
  unfold pX0_put at hw
  refine lv_aload_n hx hb dX0_put_0 rfl (lv_at hl 0 rfl) ?_
  refine lv_dup hx hb dX0_put_1 rfl ?_
  refine va_get (D := D) (ci := 0) (v := .int u.2.1) (C := RX0) (T := TX0) (N := 4) hx hb hts (fun _ h => List.mem_cons_of_mem _ (List.mem_append_right _ h)) hown hK hP 0 rfl rfl 1 (by decide) (hts (.fieldLink RX0 15 "HazelGift$Board" "filled" "I") (List.mem_of_getElem? (i := 1) rfl)) (fun _ h9 => h9) rfl dX0_put_2 ?_
  refine lv_iconst (v := 1) hx hb dX0_put_5 (by decide) ?_
  refine lv_iload_n hx hb dX0_put_6 rfl (lv_at hl 2 rfl) ?_
  refine lv_ishl hx hb dX0_put_7 ?_
  refine lv_ior hx hb dX0_put_8 ?_
  refine lv_topi (fun x1 ex1 => ?_)
  replace hw := hw x1 ex1
  refine va_put (D := D) (ci := 0) (v := .int x1) (ty := tyX0 1) (C := RX0) (T := TX0) (N := 4) hx hb hts (fun _ h => List.mem_cons_of_mem _ (List.mem_append_right _ h)) tyX0 tyX0_ok nmX0 hown hK hP hD hS 0 rfl rfl 1 (by decide) (hts (.fieldLink RX0 15 "HazelGift$Board" "filled" "I") (List.mem_of_getElem? (i := 1) rfl)) (fun _ h9 => h9) rfl (tyX0_ok 1 (by decide)) rfl rfl (Nat.le_of_ble_eq_true rfl) dX0_put_9 (fun H locs hP hD hS => ?_)
  have hP : va_P D vwCl (wB kI t_b t_pr (u.1, x1, u.2.2.1, u.2.2.2)) H := hP
  have hD : va_D A (wB kI t_b t_pr (u.1, x1, u.2.2.1, u.2.2.2)) := hD
  refine lv_aload_n hx hb dX0_put_12 rfl (lv_at hl 0 rfl) ?_
  refine lv_dup hx hb dX0_put_13 rfl ?_
  refine va_get (D := D) (ci := 0) (v := .int u.2.2.1) (C := RX0) (T := TX0) (N := 4) hx hb hts (fun _ h => List.mem_cons_of_mem _ (List.mem_append_right _ h)) hown hK hP 0 rfl rfl 2 (by decide) (hts (.fieldLink RX0 18 "HazelGift$Board" "pieces" "I") (List.mem_of_getElem? (i := 2) rfl)) (fun _ h9 => h9) rfl dX0_put_14 ?_
  refine lv_iconst (v := 1) hx hb dX0_put_17 (by decide) ?_
  refine lv_iload_n hx hb dX0_put_18 rfl (lv_at hl 1 rfl) ?_
  refine lv_ishl hx hb dX0_put_19 ?_
  refine lv_ior hx hb dX0_put_20 ?_
  refine lv_topi (fun x2 ex2 => ?_)
  replace hw := hw x2 ex2
  refine va_put (D := D) (ci := 0) (v := .int x2) (ty := tyX0 2) (C := RX0) (T := TX0) (N := 4) hx hb hts (fun _ h => List.mem_cons_of_mem _ (List.mem_append_right _ h)) tyX0 tyX0_ok nmX0 hown hK hP hD hS 0 rfl rfl 2 (by decide) (hts (.fieldLink RX0 18 "HazelGift$Board" "pieces" "I") (List.mem_of_getElem? (i := 2) rfl)) (fun _ h9 => h9) rfl (tyX0_ok 2 (by decide)) rfl rfl (Nat.le_of_ble_eq_true rfl) dX0_put_21 (fun H locs hP hD hS => ?_)
  have hP : va_P D vwCl (wB kI t_b t_pr (u.1, x1, x2, u.2.2.2)) H := hP
  have hD : va_D A (wB kI t_b t_pr (u.1, x1, x2, u.2.2.2)) := hD
  refine lv_iconst (v := 0) hx hb dX0_put_24 (by decide) ?_
  refine lv_istore_n (lv' := [(3, .int 0), (0, .ref t_b), (1, .int p0), (2, .int p1)]) hx hb dX0_put_25 rfl hl (by decide) rfl (fun ls hl => ?_)
  obtain ⟨n9, hw⟩ := hw
  exact L26 p0 p1 n9 0 (u.1, x1, x2, u.2.2.2) H locs ls hP hD hS (lv_sub hl [1, 2, 3, 0] rfl) hw
