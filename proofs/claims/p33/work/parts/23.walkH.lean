set_option maxHeartbeats 4000000 in
set_option maxRecDepth 100000 in
theorem kX3_stateAt_0 (l : Launch) (D : va_G) (kI kC kG kJ : ClassId) (t_h t_st : Nat) (t_a0 t_a1 t_a2 t_a3 : AG) (u : SH) : Met l yX3_stateAt wsX3_stateAt ({ frames := 0, cells := 0, slots := 0, locals := 0 } : Room) (gPr D (gT kI kC kG kJ) [.ref t_h, .int 0] (wH kI kG t_h t_st t_a0 t_a1 t_a2 t_a3 u)) (k2_QcV (.ref t_a0.1)) 0 0 (fun _ => False) := by
  refine Met.ofW (cc := cX3_stateAt) (maxL := 2) (ret := (some (.object "HazelGift$Game"))) (by decide) rfl ?_
  intro p e s m args below meth c s₁ B hml hv
  obtain ⟨rfl, hP, hK, hE⟩ := hv
  have hx := B.exec
  have hb := B.bytes
  have hr := B.returns
  have hts := atoms_spec (ws := wsX3_stateAt) B.pre
  have hown : s.vm.findClass RX3 = some m.cls := findClass_of_methodNamed B.named
  have hlocks := B.notSynchronized
  have hS : va_S (fun _ => False) s.heap s.heap [] := va_S.rf
  have hl := lv_entry ([.ref t_h, .int 0]) (n := 2) (Nat.le_of_ble_eq_true rfl)
  rw [lg_entry_eq]
  generalize (lg_sl ([.ref t_h, .int 0]) ++ List.replicate (2 - (lg_sl ([.ref t_h, .int 0])).length) Slot.unset).toArray = ls at hl ⊢
  have hl : lv_has ls 2 [(0, .ref t_h), (1, .int 0)] := hl
  refine lv_iload_n hx hb dX3_stateAt_0 rfl (lv_at hl 1 rfl) ?_
  refine lv_if_lt (tgt := 22) hx hb dX3_stateAt_1 (by decide) (fun c1 => ?_) (fun c1 => ?_)
  · exact absurd c1 (by decide)
  refine lv_iload_n hx hb dX3_stateAt_4 rfl (lv_at hl 1 rfl) ?_
  refine lv_aload_n hx hb dX3_stateAt_5 rfl (lv_at hl 0 rfl) ?_
  refine va_get (D := D) (ci := 2) (v := .ref t_st) (C := RX3) (T := TX3) (N := 3) hx hb hts (fun _ h => List.mem_cons_of_mem _ (List.mem_append_right _ h)) hown hK hP 0 rfl rfl 0 (by decide) (hts (.fieldLink RX3 11 "HazelGift$History" "states" "[LHazelGift$Game;") (List.mem_of_getElem? (i := 1) rfl)) (fun _ h9 => h9) rfl dX3_stateAt_6 ?_
  refine va_alen (v := 4) hx hb hK hP 1 2 rfl rfl rfl dX3_stateAt_9 ?_
  refine lv_icmp_ge (tgt := 22) hx hb dX3_stateAt_10 (by decide) (fun c2 => ?_) (fun c2 => ?_)
  · exact absurd c2 (by decide)
  refine lv_aload_n hx hb dX3_stateAt_13 rfl (lv_at hl 0 rfl) ?_
  refine va_get (D := D) (ci := 2) (v := .ref t_st) (C := RX3) (T := TX3) (N := 3) hx hb hts (fun _ h => List.mem_cons_of_mem _ (List.mem_append_right _ h)) hown hK hP 0 rfl rfl 0 (by decide) (hts (.fieldLink RX3 11 "HazelGift$History" "states" "[LHazelGift$Game;") (List.mem_of_getElem? (i := 1) rfl)) (fun _ h9 => h9) rfl dX3_stateAt_14 ?_
  refine lv_iload_n hx hb dX3_stateAt_17 rfl (lv_at hl 1 rfl) ?_
  refine gAldq (v := t_a0.1) hx hb hK hP 1 2 rfl rfl (gin (by decide)) rfl dX3_stateAt_18 ?_
  refine lv_goto (tgt := 23) hx hb dX3_stateAt_19 (by decide) ?_
  exact W.aret (v := .ref t_a0.1) hx hb hr (Or.inl ⟨_, rfl⟩) (Or.inr ⟨_, rfl⟩) (fun t ht hW => ⟨rfl, ht⟩) (fun _ h => by cases h) dX3_stateAt_23
set_option maxHeartbeats 4000000 in
set_option maxRecDepth 100000 in
theorem kX3_stateAt_1 (l : Launch) (D : va_G) (kI kC kG kJ : ClassId) (t_h t_st : Nat) (t_a0 t_a1 t_a2 t_a3 : AG) (u : SH) : Met l yX3_stateAt wsX3_stateAt ({ frames := 0, cells := 0, slots := 0, locals := 0 } : Room) (gPr D (gT kI kC kG kJ) [.ref t_h, .int 1] (wH kI kG t_h t_st t_a0 t_a1 t_a2 t_a3 u)) (k2_QcV (.ref t_a1.1)) 0 0 (fun _ => False) := by
  refine Met.ofW (cc := cX3_stateAt) (maxL := 2) (ret := (some (.object "HazelGift$Game"))) (by decide) rfl ?_
  intro p e s m args below meth c s₁ B hml hv
  obtain ⟨rfl, hP, hK, hE⟩ := hv
  have hx := B.exec
  have hb := B.bytes
  have hr := B.returns
  have hts := atoms_spec (ws := wsX3_stateAt) B.pre
  have hown : s.vm.findClass RX3 = some m.cls := findClass_of_methodNamed B.named
  have hlocks := B.notSynchronized
  have hS : va_S (fun _ => False) s.heap s.heap [] := va_S.rf
  have hl := lv_entry ([.ref t_h, .int 1]) (n := 2) (Nat.le_of_ble_eq_true rfl)
  rw [lg_entry_eq]
  generalize (lg_sl ([.ref t_h, .int 1]) ++ List.replicate (2 - (lg_sl ([.ref t_h, .int 1])).length) Slot.unset).toArray = ls at hl ⊢
  have hl : lv_has ls 2 [(0, .ref t_h), (1, .int 1)] := hl
  refine lv_iload_n hx hb dX3_stateAt_0 rfl (lv_at hl 1 rfl) ?_
  refine lv_if_lt (tgt := 22) hx hb dX3_stateAt_1 (by decide) (fun c1 => ?_) (fun c1 => ?_)
  · exact absurd c1 (by decide)
  refine lv_iload_n hx hb dX3_stateAt_4 rfl (lv_at hl 1 rfl) ?_
  refine lv_aload_n hx hb dX3_stateAt_5 rfl (lv_at hl 0 rfl) ?_
  refine va_get (D := D) (ci := 2) (v := .ref t_st) (C := RX3) (T := TX3) (N := 3) hx hb hts (fun _ h => List.mem_cons_of_mem _ (List.mem_append_right _ h)) hown hK hP 0 rfl rfl 0 (by decide) (hts (.fieldLink RX3 11 "HazelGift$History" "states" "[LHazelGift$Game;") (List.mem_of_getElem? (i := 1) rfl)) (fun _ h9 => h9) rfl dX3_stateAt_6 ?_
  refine va_alen (v := 4) hx hb hK hP 1 2 rfl rfl rfl dX3_stateAt_9 ?_
  refine lv_icmp_ge (tgt := 22) hx hb dX3_stateAt_10 (by decide) (fun c2 => ?_) (fun c2 => ?_)
  · exact absurd c2 (by decide)
  refine lv_aload_n hx hb dX3_stateAt_13 rfl (lv_at hl 0 rfl) ?_
  refine va_get (D := D) (ci := 2) (v := .ref t_st) (C := RX3) (T := TX3) (N := 3) hx hb hts (fun _ h => List.mem_cons_of_mem _ (List.mem_append_right _ h)) hown hK hP 0 rfl rfl 0 (by decide) (hts (.fieldLink RX3 11 "HazelGift$History" "states" "[LHazelGift$Game;") (List.mem_of_getElem? (i := 1) rfl)) (fun _ h9 => h9) rfl dX3_stateAt_14 ?_
  refine lv_iload_n hx hb dX3_stateAt_17 rfl (lv_at hl 1 rfl) ?_
  refine gAldq (v := t_a1.1) hx hb hK hP 1 2 rfl rfl (gin (by decide)) rfl dX3_stateAt_18 ?_
  refine lv_goto (tgt := 23) hx hb dX3_stateAt_19 (by decide) ?_
  exact W.aret (v := .ref t_a1.1) hx hb hr (Or.inl ⟨_, rfl⟩) (Or.inr ⟨_, rfl⟩) (fun t ht hW => ⟨rfl, ht⟩) (fun _ h => by cases h) dX3_stateAt_23
set_option maxHeartbeats 4000000 in
set_option maxRecDepth 100000 in
theorem kX3_stateAt_2 (l : Launch) (D : va_G) (kI kC kG kJ : ClassId) (t_h t_st : Nat) (t_a0 t_a1 t_a2 t_a3 : AG) (u : SH) : Met l yX3_stateAt wsX3_stateAt ({ frames := 0, cells := 0, slots := 0, locals := 0 } : Room) (gPr D (gT kI kC kG kJ) [.ref t_h, .int 2] (wH kI kG t_h t_st t_a0 t_a1 t_a2 t_a3 u)) (k2_QcV (.ref t_a2.1)) 0 0 (fun _ => False) := by
  refine Met.ofW (cc := cX3_stateAt) (maxL := 2) (ret := (some (.object "HazelGift$Game"))) (by decide) rfl ?_
  intro p e s m args below meth c s₁ B hml hv
  obtain ⟨rfl, hP, hK, hE⟩ := hv
  have hx := B.exec
  have hb := B.bytes
  have hr := B.returns
  have hts := atoms_spec (ws := wsX3_stateAt) B.pre
  have hown : s.vm.findClass RX3 = some m.cls := findClass_of_methodNamed B.named
  have hlocks := B.notSynchronized
  have hS : va_S (fun _ => False) s.heap s.heap [] := va_S.rf
  have hl := lv_entry ([.ref t_h, .int 2]) (n := 2) (Nat.le_of_ble_eq_true rfl)
  rw [lg_entry_eq]
  generalize (lg_sl ([.ref t_h, .int 2]) ++ List.replicate (2 - (lg_sl ([.ref t_h, .int 2])).length) Slot.unset).toArray = ls at hl ⊢
  have hl : lv_has ls 2 [(0, .ref t_h), (1, .int 2)] := hl
  refine lv_iload_n hx hb dX3_stateAt_0 rfl (lv_at hl 1 rfl) ?_
  refine lv_if_lt (tgt := 22) hx hb dX3_stateAt_1 (by decide) (fun c1 => ?_) (fun c1 => ?_)
  · exact absurd c1 (by decide)
  refine lv_iload_n hx hb dX3_stateAt_4 rfl (lv_at hl 1 rfl) ?_
  refine lv_aload_n hx hb dX3_stateAt_5 rfl (lv_at hl 0 rfl) ?_
  refine va_get (D := D) (ci := 2) (v := .ref t_st) (C := RX3) (T := TX3) (N := 3) hx hb hts (fun _ h => List.mem_cons_of_mem _ (List.mem_append_right _ h)) hown hK hP 0 rfl rfl 0 (by decide) (hts (.fieldLink RX3 11 "HazelGift$History" "states" "[LHazelGift$Game;") (List.mem_of_getElem? (i := 1) rfl)) (fun _ h9 => h9) rfl dX3_stateAt_6 ?_
  refine va_alen (v := 4) hx hb hK hP 1 2 rfl rfl rfl dX3_stateAt_9 ?_
  refine lv_icmp_ge (tgt := 22) hx hb dX3_stateAt_10 (by decide) (fun c2 => ?_) (fun c2 => ?_)
  · exact absurd c2 (by decide)
  refine lv_aload_n hx hb dX3_stateAt_13 rfl (lv_at hl 0 rfl) ?_
  refine va_get (D := D) (ci := 2) (v := .ref t_st) (C := RX3) (T := TX3) (N := 3) hx hb hts (fun _ h => List.mem_cons_of_mem _ (List.mem_append_right _ h)) hown hK hP 0 rfl rfl 0 (by decide) (hts (.fieldLink RX3 11 "HazelGift$History" "states" "[LHazelGift$Game;") (List.mem_of_getElem? (i := 1) rfl)) (fun _ h9 => h9) rfl dX3_stateAt_14 ?_
  refine lv_iload_n hx hb dX3_stateAt_17 rfl (lv_at hl 1 rfl) ?_
  refine gAldq (v := t_a2.1) hx hb hK hP 1 2 rfl rfl (gin (by decide)) rfl dX3_stateAt_18 ?_
  refine lv_goto (tgt := 23) hx hb dX3_stateAt_19 (by decide) ?_
  exact W.aret (v := .ref t_a2.1) hx hb hr (Or.inl ⟨_, rfl⟩) (Or.inr ⟨_, rfl⟩) (fun t ht hW => ⟨rfl, ht⟩) (fun _ h => by cases h) dX3_stateAt_23
set_option maxHeartbeats 4000000 in
set_option maxRecDepth 100000 in
theorem kX3_stateAt_3 (l : Launch) (D : va_G) (kI kC kG kJ : ClassId) (t_h t_st : Nat) (t_a0 t_a1 t_a2 t_a3 : AG) (u : SH) : Met l yX3_stateAt wsX3_stateAt ({ frames := 0, cells := 0, slots := 0, locals := 0 } : Room) (gPr D (gT kI kC kG kJ) [.ref t_h, .int 3] (wH kI kG t_h t_st t_a0 t_a1 t_a2 t_a3 u)) (k2_QcV (.ref t_a3.1)) 0 0 (fun _ => False) := by
  refine Met.ofW (cc := cX3_stateAt) (maxL := 2) (ret := (some (.object "HazelGift$Game"))) (by decide) rfl ?_
  intro p e s m args below meth c s₁ B hml hv
  obtain ⟨rfl, hP, hK, hE⟩ := hv
  have hx := B.exec
  have hb := B.bytes
  have hr := B.returns
  have hts := atoms_spec (ws := wsX3_stateAt) B.pre
  have hown : s.vm.findClass RX3 = some m.cls := findClass_of_methodNamed B.named
  have hlocks := B.notSynchronized
  have hS : va_S (fun _ => False) s.heap s.heap [] := va_S.rf
  have hl := lv_entry ([.ref t_h, .int 3]) (n := 2) (Nat.le_of_ble_eq_true rfl)
  rw [lg_entry_eq]
  generalize (lg_sl ([.ref t_h, .int 3]) ++ List.replicate (2 - (lg_sl ([.ref t_h, .int 3])).length) Slot.unset).toArray = ls at hl ⊢
  have hl : lv_has ls 2 [(0, .ref t_h), (1, .int 3)] := hl
  refine lv_iload_n hx hb dX3_stateAt_0 rfl (lv_at hl 1 rfl) ?_
  refine lv_if_lt (tgt := 22) hx hb dX3_stateAt_1 (by decide) (fun c1 => ?_) (fun c1 => ?_)
  · exact absurd c1 (by decide)
  refine lv_iload_n hx hb dX3_stateAt_4 rfl (lv_at hl 1 rfl) ?_
  refine lv_aload_n hx hb dX3_stateAt_5 rfl (lv_at hl 0 rfl) ?_
  refine va_get (D := D) (ci := 2) (v := .ref t_st) (C := RX3) (T := TX3) (N := 3) hx hb hts (fun _ h => List.mem_cons_of_mem _ (List.mem_append_right _ h)) hown hK hP 0 rfl rfl 0 (by decide) (hts (.fieldLink RX3 11 "HazelGift$History" "states" "[LHazelGift$Game;") (List.mem_of_getElem? (i := 1) rfl)) (fun _ h9 => h9) rfl dX3_stateAt_6 ?_
  refine va_alen (v := 4) hx hb hK hP 1 2 rfl rfl rfl dX3_stateAt_9 ?_
  refine lv_icmp_ge (tgt := 22) hx hb dX3_stateAt_10 (by decide) (fun c2 => ?_) (fun c2 => ?_)
  · exact absurd c2 (by decide)
  refine lv_aload_n hx hb dX3_stateAt_13 rfl (lv_at hl 0 rfl) ?_
  refine va_get (D := D) (ci := 2) (v := .ref t_st) (C := RX3) (T := TX3) (N := 3) hx hb hts (fun _ h => List.mem_cons_of_mem _ (List.mem_append_right _ h)) hown hK hP 0 rfl rfl 0 (by decide) (hts (.fieldLink RX3 11 "HazelGift$History" "states" "[LHazelGift$Game;") (List.mem_of_getElem? (i := 1) rfl)) (fun _ h9 => h9) rfl dX3_stateAt_14 ?_
  refine lv_iload_n hx hb dX3_stateAt_17 rfl (lv_at hl 1 rfl) ?_
  refine gAldq (v := t_a3.1) hx hb hK hP 1 2 rfl rfl (gin (by decide)) rfl dX3_stateAt_18 ?_
  refine lv_goto (tgt := 23) hx hb dX3_stateAt_19 (by decide) ?_
  exact W.aret (v := .ref t_a3.1) hx hb hr (Or.inl ⟨_, rfl⟩) (Or.inr ⟨_, rfl⟩) (fun t ht hW => ⟨rfl, ht⟩) (fun _ h => by cases h) dX3_stateAt_23
set_option maxHeartbeats 4000000 in
set_option maxRecDepth 100000 in
theorem kX3_size (l : Launch) (D : va_G) (kI kC kG kJ : ClassId) (t_h t_st : Nat) (t_a0 t_a1 t_a2 t_a3 : AG) (u : SH) (Z : Int32 → Prop) (hw : pX3_size u Z) : Met l yX3_size wsX3_size ({ frames := 0, cells := 0, slots := 0, locals := 0 } : Room) (gPr D (gT kI kC kG kJ) [.ref t_h] (wH kI kG t_h t_st t_a0 t_a1 t_a2 t_a3 u)) (vp_Si Z) 0 0 (fun _ => False) := by
  refine Met.ofW (cc := cX3_size) (maxL := 1) (ret := (some .int)) (by decide) rfl ?_
  intro p e s m args below meth c s₁ B hml hv
  obtain ⟨rfl, hP, hK, hE⟩ := hv
  have hx := B.exec
  have hb := B.bytes
  have hr := B.returns
  have hts := atoms_spec (ws := wsX3_size) B.pre
  have hown : s.vm.findClass RX3 = some m.cls := findClass_of_methodNamed B.named
  have hlocks := B.notSynchronized
  have hS : va_S (fun _ => False) s.heap s.heap [] := va_S.rf
  have hl := lv_entry ([.ref t_h]) (n := 1) (Nat.le_of_ble_eq_true rfl)
  rw [lg_entry_eq]
  generalize (lg_sl ([.ref t_h]) ++ List.replicate (1 - (lg_sl ([.ref t_h])).length) Slot.unset).toArray = ls at hl ⊢
  have hl : lv_has ls 1 [(0, .ref t_h)] := hl
  unfold pX3_size at hw
  refine lv_aload_n hx hb dX3_size_0 rfl (lv_at hl 0 rfl) ?_
  refine va_get (D := D) (ci := 2) (v := .int u.2.1) (C := RX3) (T := TX3) (N := 3) hx hb hts (fun _ h => List.mem_cons_of_mem _ (List.mem_append_right _ h)) hown hK hP 0 rfl rfl 2 (by decide) (hts (.fieldLink RX3 20 "HazelGift$History" "size" "I") (List.mem_of_getElem? (i := 1) rfl)) (fun _ h9 => h9) rfl dX3_size_1 ?_
  exact W.iret (v := u.2.1) hx hb hr (fun t ht hW => ⟨_, rfl, hw, ht⟩) (fun _ h => by cases h) dX3_size_4
set_option maxHeartbeats 4000000 in
set_option maxRecDepth 100000 in
theorem kX3_record (l : Launch) (D : va_G) (kI kC kG kJ : ClassId) (t_h t_st : Nat) (t_a0 t_a1 t_a2 t_a3 : AG) (o0_a : AG) (sz : Nat) (u : SH) (w0 : SG) (Z : SH × SG → Prop) (hw : pX3_record u w0 Z) : Met l yX3_record wsX3_record ({ frames := 2, cells := 0, slots := 0, locals := 44 } : Room) (gPw D (gT kI kC kG kJ) [.ref t_h, .ref o0_a.1] (wH kI kG t_h t_st t_a0 t_a1 t_a2 t_a3 u ++ wG kI o0_a w0) sz) (va_Qv Z (gB D (gT kI kC kG kJ) (fun (zz : SH × SG) => wH kI kG t_h t_st t_a0 t_a1 t_a2 t_a3 zz.1 ++ wG kI o0_a zz.2) (va_A (wH kI kG t_h t_st t_a0 t_a1 t_a2 t_a3 u ++ wG kI o0_a w0) sz)) (va_A (wH kI kG t_h t_st t_a0 t_a1 t_a2 t_a3 u ++ wG kI o0_a w0) sz)) 0 0 (va_A (wH kI kG t_h t_st t_a0 t_a1 t_a2 t_a3 u ++ wG kI o0_a w0) sz) := by
  refine Met.ofW (cc := cX3_record) (maxL := 3) (ret := none) (by decide) rfl ?_
  intro p e s m args below meth c s₁ B hml hv
  obtain ⟨rfl, hsz, hP, hK, hD0, hE⟩ := hv
  have hx := B.exec
  have hb := B.bytes
  have hr := B.returns
  have hts := atoms_spec (ws := wsX3_record) B.pre
  have hown : s.vm.findClass RX3 = some m.cls := findClass_of_methodNamed B.named
  have hlocks := B.notSynchronized
  subst hsz
  have hD := hD0.self (sz := s.heap.size)
  generalize hAe : va_A (wH kI kG t_h t_st t_a0 t_a1 t_a2 t_a3 u ++ wG kI o0_a w0) s.heap.size = A at hD hE ⊢
  have hA : ∀ q : Nat, s.heap.size ≤ q → A q := fun q h => by rw [← hAe]; exact Or.inr h
  have hS : va_S A s.heap s.heap [] := va_S.rf
  clear hAe hD0
  have hl := lv_entry ([.ref t_h, .ref o0_a.1]) (n := 3) (Nat.le_of_ble_eq_true rfl)
  rw [lg_entry_eq]
  generalize (lg_sl ([.ref t_h, .ref o0_a.1]) ++ List.replicate (3 - (lg_sl ([.ref t_h, .ref o0_a.1])).length) Slot.unset).toArray = ls at hl ⊢
  have hl : lv_has ls 3 [(0, .ref t_h), (1, .ref o0_a.1)] := hl
  have hP : va_P D vwCl (wH kI kG t_h t_st t_a0 t_a1 t_a2 t_a3 u ++ wG kI o0_a w0) s.heap := hP
  unfold pX3_record at hw
  by_cases c1 : u.1 = 0
  · replace hw := Eq.mp (if_pos c1) hw
    refine lv_aload_n hx hb dX3_record_0 rfl (lv_at hl 0 rfl) ?_
    refine lv_aload_n hx hb dX3_record_1 rfl (lv_at hl 0 rfl) ?_
    refine va_get (D := D) (ci := 2) (v := .int u.1) (C := RX3) (T := TX3) (N := 3) hx hb hts (fun _ h => List.mem_cons_of_mem _ (List.mem_append_left _ (List.mem_append_left _ (List.mem_append_right _ h)))) hown hK hP 0 rfl rfl 1 (by decide) (hts (.fieldLink RX3 16 "HazelGift$History" "next" "I") (List.mem_of_getElem? (i := 1) rfl)) (fun _ h9 => h9) rfl dX3_record_2 ?_
    refine lv_lit (v := 0) c1 ?_
    refine gVa (r := .ref t_a0.1) (As := [.int 0]) (rest := []) (cs' := wH kI kG t_h t_st t_a0 t_a1 t_a2 t_a3 u) ⟨hx, hb, hml, hown, hts⟩ (kX3_stateAt_0 l D kI kC kG kJ t_h t_st t_a0 t_a1 t_a2 t_a3 u) (cwV 1 hts gX3_record_X3_stateAt rfl rfl rfl hdX3_stateAt ⟨Nat.le_of_ble_eq_true rfl, Nat.le_of_ble_eq_true rfl⟩) hK hP hE hS [0, 1, 2, 3, 4, 5, 6, 7, 8, 9, 10, 11, 12, 13, 14, 15, 16, 17] rfl (ci := 2) (q0 := 0) rfl rfl rfl rfl hl.1 rfl (Nat.le_of_ble_eq_true rfl) dX3_record_5 ⟨Nat.le_of_ble_eq_true rfl, Nat.le_of_ble_eq_true rfl⟩ ?_
    refine lv_astore_n (lv' := [(2, .ref t_a0.1), (0, .ref t_h), (1, .ref o0_a.1)]) hx hb dX3_record_8 rfl hl (by decide) rfl (fun ls hl => ?_)
    refine lv_aload_n hx hb dX3_record_9 rfl (lv_at hl 0 rfl) ?_
    refine lv_ifnull hx hb dX3_record_10 ?_
    refine lv_aload_n hx hb dX3_record_13 rfl (lv_at hl 0 rfl) ?_
    refine lv_aload_n hx hb dX3_record_14 rfl (lv_at hl 2 rfl) ?_
    refine gWVv (S := SG × SG) (As := [.ref o0_a.1]) (rest := []) (wc := wG kI t_a0 u.2.2.1 ++ wG kI o0_a w0) (wr := [(t_h, .inr (2, [.ref t_st, .int u.1, .int u.2.1])), (t_st, .inl (kG, 4, .inr (.inr (.inr (.inr (fH t_a0 t_a1 t_a2 t_a3))))))] ++ wG kI t_a1 u.2.2.2.1 ++ wG kI t_a2 u.2.2.2.2.1 ++ wG kI t_a3 u.2.2.2.2.2) (cs1 := (fun zz : SG × SG => wG kI t_a0 zz.1 ++ wG kI o0_a zz.2)) (ws2 := (fun zz : SG × SG => wH kI kG t_h t_st t_a0 t_a1 t_a2 t_a3 (u.1, u.2.1, zz.1, u.2.2.2.1, u.2.2.2.2.1, u.2.2.2.2.2) ++ wG kI o0_a zz.2)) ⟨hx, hb, hml, hown, hts⟩ (fun sz => kX2_copyFrom l D kI kC kG kJ t_a0 o0_a sz u.2.2.1 w0 _ hw) (cwV 1 hts gX3_record_X2_copyFrom rfl rfl rfl hdX2_copyFrom ⟨Nat.le_of_ble_eq_true rfl, Nat.le_of_ble_eq_true rfl⟩) hK hP hD hE hS hA [2, 3, 4, 5, 18, 19, 20, 21] [0, 1, 6, 7, 8, 9, 10, 11, 12, 13, 14, 15, 16, 17] rfl rfl rfl rfl (by decide) [0, 1, 14, 15, 16, 17, 2, 3, 4, 5, 6, 7, 8, 9, 10, 11, 12, 13, 18, 19, 20, 21] rfl (fun _ => rfl) (ci := 1) (q0 := 0) rfl rfl rfl rfl hl.1 rfl (Nat.le_of_ble_eq_true rfl) dX3_record_15 ⟨Nat.le_of_ble_eq_true rfl, Nat.le_of_ble_eq_true rfl⟩ (fun w3 H locs hw hP hD hS => ?_)
    have hP : va_P D vwCl (wH kI kG t_h t_st t_a0 t_a1 t_a2 t_a3 (u.1, u.2.1, w3.1, u.2.2.2.1, u.2.2.2.2.1, u.2.2.2.2.2) ++ wG kI o0_a w3.2) H := hP
    have hD : va_D A (wH kI kG t_h t_st t_a0 t_a1 t_a2 t_a3 (u.1, u.2.1, w3.1, u.2.2.2.1, u.2.2.2.2.1, u.2.2.2.2.2) ++ wG kI o0_a w3.2) := hD
    refine lv_aload_n hx hb dX3_record_18 rfl (lv_at hl 1 rfl) ?_
    refine lv_aload_n hx hb dX3_record_19 rfl (lv_at hl 1 rfl) ?_
    refine va_get (D := D) (ci := 2) (v := .int u.1) (C := RX3) (T := TX3) (N := 3) hx hb hts (fun _ h => List.mem_cons_of_mem _ (List.mem_append_left _ (List.mem_append_left _ (List.mem_append_right _ h)))) hown hK hP 0 rfl rfl 1 (by decide) (hts (.fieldLink RX3 16 "HazelGift$History" "next" "I") (List.mem_of_getElem? (i := 1) rfl)) (fun _ h9 => h9) rfl dX3_record_20 ?_
    refine lv_lit (v := 0) c1 ?_
    refine lv_iconst (v := 1) hx hb dX3_record_23 (by decide) ?_
    refine lv_iadd hx hb dX3_record_24 ?_
    refine lv_lit (v := 1) (by decide) ?_
    refine lv_iconst (v := 4) hx hb dX3_record_25 (by decide) ?_
    refine lv_irem hx hb dX3_record_26 (by decide) ?_
    refine lv_lit (v := 1) (by decide) ?_
    refine va_put (D := D) (ci := 2) (v := .int 1) (ty := tyX3 1) (C := RX3) (T := TX3) (N := 3) hx hb hts (fun _ h => List.mem_cons_of_mem _ (List.mem_append_left _ (List.mem_append_left _ (List.mem_append_right _ h)))) tyX3 tyX3_ok nmX3 hown hK hP hD hS 0 rfl rfl 1 (by decide) (hts (.fieldLink RX3 16 "HazelGift$History" "next" "I") (List.mem_of_getElem? (i := 1) rfl)) (fun _ h9 => h9) rfl (tyX3_ok 1 (by decide)) rfl rfl (Nat.le_of_ble_eq_true rfl) dX3_record_27 (fun H locs hP hD hS => ?_)
    have hP : va_P D vwCl (wH kI kG t_h t_st t_a0 t_a1 t_a2 t_a3 (1, u.2.1, w3.1, u.2.2.2.1, u.2.2.2.2.1, u.2.2.2.2.2) ++ wG kI o0_a w3.2) H := hP
    have hD : va_D A (wH kI kG t_h t_st t_a0 t_a1 t_a2 t_a3 (1, u.2.1, w3.1, u.2.2.2.1, u.2.2.2.2.1, u.2.2.2.2.2) ++ wG kI o0_a w3.2) := hD
    refine lv_aload_n hx hb dX3_record_30 rfl (lv_at hl 1 rfl) ?_
    refine lv_aload_n hx hb dX3_record_31 rfl (lv_at hl 1 rfl) ?_
    refine va_get (D := D) (ci := 2) (v := .int u.2.1) (C := RX3) (T := TX3) (N := 3) hx hb hts (fun _ h => List.mem_cons_of_mem _ (List.mem_append_left _ (List.mem_append_left _ (List.mem_append_right _ h)))) hown hK hP 0 rfl rfl 2 (by decide) (hts (.fieldLink RX3 20 "HazelGift$History" "size" "I") (List.mem_of_getElem? (i := 2) rfl)) (fun _ h9 => h9) rfl dX3_record_32 ?_
    refine lv_iconst (v := 1) hx hb dX3_record_35 (by decide) ?_
    refine lv_iadd hx hb dX3_record_36 ?_
    refine lv_iconst (v := 4) hx hb dX3_record_37 (by decide) ?_
    refine va_mmin hx hb (hml.trans hl.1.symm) hown (hts (.methodLink RX3 31 Lib.Math.min.name) (List.mem_of_getElem? (i := 3) rfl)) (hts (.static Lib.Math.min.name) (List.mem_of_getElem? (i := 4) rfl)) (hts (.initialized "java/lang/Math") (List.mem_of_getElem? (i := 5) rfl)) (hts (.code Lib.Math.min.name Lib.Math.min.code 2 (some .int)) (List.mem_of_getElem? (i := 6) rfl)) (Nat.le_of_ble_eq_true rfl) (Nat.le_of_ble_eq_true rfl) (Nat.le_of_ble_eq_true rfl) (Nat.le_of_ble_eq_true rfl) dX3_record_38 ?_
    refine lv_topi (fun x4 ex4 => ?_)
    replace hw := hw x4 ex4
    refine va_put (D := D) (ci := 2) (v := .int x4) (ty := tyX3 2) (C := RX3) (T := TX3) (N := 3) hx hb hts (fun _ h => List.mem_cons_of_mem _ (List.mem_append_left _ (List.mem_append_left _ (List.mem_append_right _ h)))) tyX3 tyX3_ok nmX3 hown hK hP hD hS 0 rfl rfl 2 (by decide) (hts (.fieldLink RX3 20 "HazelGift$History" "size" "I") (List.mem_of_getElem? (i := 2) rfl)) (fun _ h9 => h9) rfl (tyX3_ok 2 (by decide)) rfl rfl (Nat.le_of_ble_eq_true rfl) dX3_record_41 (fun H locs hP hD hS => ?_)
    have hP : va_P D vwCl (wH kI kG t_h t_st t_a0 t_a1 t_a2 t_a3 (1, x4, w3.1, u.2.2.2.1, u.2.2.2.2.1, u.2.2.2.2.2) ++ wG kI o0_a w3.2) H := hP
    have hD : va_D A (wH kI kG t_h t_st t_a0 t_a1 t_a2 t_a3 (1, x4, w3.1, u.2.2.2.1, u.2.2.2.2.1, u.2.2.2.2.2) ++ wG kI o0_a w3.2) := hD
    exact W.vret hx hb hr (fun t ht hW => ⟨⟨((1, x4, w3.1, u.2.2.2.1, u.2.2.2.2.1, u.2.2.2.2.2), w3.2), rfl, hw, by rw [ht]; exact hP, va_K.moved hW.alike hK, hD⟩, hS.F ht⟩) hS.2.2 dX3_record_44
  replace hw := Eq.mp (if_neg c1) hw
  by_cases c5 : u.1 = 1
  · replace hw := Eq.mp (if_pos c5) hw
    refine lv_aload_n hx hb dX3_record_0 rfl (lv_at hl 0 rfl) ?_
    refine lv_aload_n hx hb dX3_record_1 rfl (lv_at hl 0 rfl) ?_
    refine va_get (D := D) (ci := 2) (v := .int u.1) (C := RX3) (T := TX3) (N := 3) hx hb hts (fun _ h => List.mem_cons_of_mem _ (List.mem_append_left _ (List.mem_append_left _ (List.mem_append_right _ h)))) hown hK hP 0 rfl rfl 1 (by decide) (hts (.fieldLink RX3 16 "HazelGift$History" "next" "I") (List.mem_of_getElem? (i := 1) rfl)) (fun _ h9 => h9) rfl dX3_record_2 ?_
    refine lv_lit (v := 1) c5 ?_
    refine gVa (r := .ref t_a1.1) (As := [.int 1]) (rest := []) (cs' := wH kI kG t_h t_st t_a0 t_a1 t_a2 t_a3 u) ⟨hx, hb, hml, hown, hts⟩ (kX3_stateAt_1 l D kI kC kG kJ t_h t_st t_a0 t_a1 t_a2 t_a3 u) (cwV 1 hts gX3_record_X3_stateAt rfl rfl rfl hdX3_stateAt ⟨Nat.le_of_ble_eq_true rfl, Nat.le_of_ble_eq_true rfl⟩) hK hP hE hS [0, 1, 2, 3, 4, 5, 6, 7, 8, 9, 10, 11, 12, 13, 14, 15, 16, 17] rfl (ci := 2) (q0 := 0) rfl rfl rfl rfl hl.1 rfl (Nat.le_of_ble_eq_true rfl) dX3_record_5 ⟨Nat.le_of_ble_eq_true rfl, Nat.le_of_ble_eq_true rfl⟩ ?_
    refine lv_astore_n (lv' := [(2, .ref t_a1.1), (0, .ref t_h), (1, .ref o0_a.1)]) hx hb dX3_record_8 rfl hl (by decide) rfl (fun ls hl => ?_)
    refine lv_aload_n hx hb dX3_record_9 rfl (lv_at hl 0 rfl) ?_
    refine lv_ifnull hx hb dX3_record_10 ?_
    refine lv_aload_n hx hb dX3_record_13 rfl (lv_at hl 0 rfl) ?_
    refine lv_aload_n hx hb dX3_record_14 rfl (lv_at hl 2 rfl) ?_
    refine gWVv (S := SG × SG) (As := [.ref o0_a.1]) (rest := []) (wc := wG kI t_a1 u.2.2.2.1 ++ wG kI o0_a w0) (wr := [(t_h, .inr (2, [.ref t_st, .int u.1, .int u.2.1])), (t_st, .inl (kG, 4, .inr (.inr (.inr (.inr (fH t_a0 t_a1 t_a2 t_a3))))))] ++ wG kI t_a0 u.2.2.1 ++ wG kI t_a2 u.2.2.2.2.1 ++ wG kI t_a3 u.2.2.2.2.2) (cs1 := (fun zz : SG × SG => wG kI t_a1 zz.1 ++ wG kI o0_a zz.2)) (ws2 := (fun zz : SG × SG => wH kI kG t_h t_st t_a0 t_a1 t_a2 t_a3 (u.1, u.2.1, u.2.2.1, zz.1, u.2.2.2.2.1, u.2.2.2.2.2) ++ wG kI o0_a zz.2)) ⟨hx, hb, hml, hown, hts⟩ (fun sz => kX2_copyFrom l D kI kC kG kJ t_a1 o0_a sz u.2.2.2.1 w0 _ hw) (cwV 1 hts gX3_record_X2_copyFrom rfl rfl rfl hdX2_copyFrom ⟨Nat.le_of_ble_eq_true rfl, Nat.le_of_ble_eq_true rfl⟩) hK hP hD hE hS hA [6, 7, 8, 9, 18, 19, 20, 21] [0, 1, 2, 3, 4, 5, 10, 11, 12, 13, 14, 15, 16, 17] rfl rfl rfl rfl (by decide) [0, 1, 2, 3, 4, 5, 14, 15, 16, 17, 6, 7, 8, 9, 10, 11, 12, 13, 18, 19, 20, 21] rfl (fun _ => rfl) (ci := 1) (q0 := 0) rfl rfl rfl rfl hl.1 rfl (Nat.le_of_ble_eq_true rfl) dX3_record_15 ⟨Nat.le_of_ble_eq_true rfl, Nat.le_of_ble_eq_true rfl⟩ (fun w7 H locs hw hP hD hS => ?_)
    have hP : va_P D vwCl (wH kI kG t_h t_st t_a0 t_a1 t_a2 t_a3 (u.1, u.2.1, u.2.2.1, w7.1, u.2.2.2.2.1, u.2.2.2.2.2) ++ wG kI o0_a w7.2) H := hP
    have hD : va_D A (wH kI kG t_h t_st t_a0 t_a1 t_a2 t_a3 (u.1, u.2.1, u.2.2.1, w7.1, u.2.2.2.2.1, u.2.2.2.2.2) ++ wG kI o0_a w7.2) := hD
    refine lv_aload_n hx hb dX3_record_18 rfl (lv_at hl 1 rfl) ?_
    refine lv_aload_n hx hb dX3_record_19 rfl (lv_at hl 1 rfl) ?_
    refine va_get (D := D) (ci := 2) (v := .int u.1) (C := RX3) (T := TX3) (N := 3) hx hb hts (fun _ h => List.mem_cons_of_mem _ (List.mem_append_left _ (List.mem_append_left _ (List.mem_append_right _ h)))) hown hK hP 0 rfl rfl 1 (by decide) (hts (.fieldLink RX3 16 "HazelGift$History" "next" "I") (List.mem_of_getElem? (i := 1) rfl)) (fun _ h9 => h9) rfl dX3_record_20 ?_
    refine lv_lit (v := 1) c5 ?_
    refine lv_iconst (v := 1) hx hb dX3_record_23 (by decide) ?_
    refine lv_iadd hx hb dX3_record_24 ?_
    refine lv_lit (v := 2) (by decide) ?_
    refine lv_iconst (v := 4) hx hb dX3_record_25 (by decide) ?_
    refine lv_irem hx hb dX3_record_26 (by decide) ?_
    refine lv_lit (v := 2) (by decide) ?_
    refine va_put (D := D) (ci := 2) (v := .int 2) (ty := tyX3 1) (C := RX3) (T := TX3) (N := 3) hx hb hts (fun _ h => List.mem_cons_of_mem _ (List.mem_append_left _ (List.mem_append_left _ (List.mem_append_right _ h)))) tyX3 tyX3_ok nmX3 hown hK hP hD hS 0 rfl rfl 1 (by decide) (hts (.fieldLink RX3 16 "HazelGift$History" "next" "I") (List.mem_of_getElem? (i := 1) rfl)) (fun _ h9 => h9) rfl (tyX3_ok 1 (by decide)) rfl rfl (Nat.le_of_ble_eq_true rfl) dX3_record_27 (fun H locs hP hD hS => ?_)
    have hP : va_P D vwCl (wH kI kG t_h t_st t_a0 t_a1 t_a2 t_a3 (2, u.2.1, u.2.2.1, w7.1, u.2.2.2.2.1, u.2.2.2.2.2) ++ wG kI o0_a w7.2) H := hP
    have hD : va_D A (wH kI kG t_h t_st t_a0 t_a1 t_a2 t_a3 (2, u.2.1, u.2.2.1, w7.1, u.2.2.2.2.1, u.2.2.2.2.2) ++ wG kI o0_a w7.2) := hD
    refine lv_aload_n hx hb dX3_record_30 rfl (lv_at hl 1 rfl) ?_
    refine lv_aload_n hx hb dX3_record_31 rfl (lv_at hl 1 rfl) ?_
    refine va_get (D := D) (ci := 2) (v := .int u.2.1) (C := RX3) (T := TX3) (N := 3) hx hb hts (fun _ h => List.mem_cons_of_mem _ (List.mem_append_left _ (List.mem_append_left _ (List.mem_append_right _ h)))) hown hK hP 0 rfl rfl 2 (by decide) (hts (.fieldLink RX3 20 "HazelGift$History" "size" "I") (List.mem_of_getElem? (i := 2) rfl)) (fun _ h9 => h9) rfl dX3_record_32 ?_
    refine lv_iconst (v := 1) hx hb dX3_record_35 (by decide) ?_
    refine lv_iadd hx hb dX3_record_36 ?_
    refine lv_iconst (v := 4) hx hb dX3_record_37 (by decide) ?_
    refine va_mmin hx hb (hml.trans hl.1.symm) hown (hts (.methodLink RX3 31 Lib.Math.min.name) (List.mem_of_getElem? (i := 3) rfl)) (hts (.static Lib.Math.min.name) (List.mem_of_getElem? (i := 4) rfl)) (hts (.initialized "java/lang/Math") (List.mem_of_getElem? (i := 5) rfl)) (hts (.code Lib.Math.min.name Lib.Math.min.code 2 (some .int)) (List.mem_of_getElem? (i := 6) rfl)) (Nat.le_of_ble_eq_true rfl) (Nat.le_of_ble_eq_true rfl) (Nat.le_of_ble_eq_true rfl) (Nat.le_of_ble_eq_true rfl) dX3_record_38 ?_
    refine lv_topi (fun x8 ex8 => ?_)
    replace hw := hw x8 ex8
    refine va_put (D := D) (ci := 2) (v := .int x8) (ty := tyX3 2) (C := RX3) (T := TX3) (N := 3) hx hb hts (fun _ h => List.mem_cons_of_mem _ (List.mem_append_left _ (List.mem_append_left _ (List.mem_append_right _ h)))) tyX3 tyX3_ok nmX3 hown hK hP hD hS 0 rfl rfl 2 (by decide) (hts (.fieldLink RX3 20 "HazelGift$History" "size" "I") (List.mem_of_getElem? (i := 2) rfl)) (fun _ h9 => h9) rfl (tyX3_ok 2 (by decide)) rfl rfl (Nat.le_of_ble_eq_true rfl) dX3_record_41 (fun H locs hP hD hS => ?_)
    have hP : va_P D vwCl (wH kI kG t_h t_st t_a0 t_a1 t_a2 t_a3 (2, x8, u.2.2.1, w7.1, u.2.2.2.2.1, u.2.2.2.2.2) ++ wG kI o0_a w7.2) H := hP
    have hD : va_D A (wH kI kG t_h t_st t_a0 t_a1 t_a2 t_a3 (2, x8, u.2.2.1, w7.1, u.2.2.2.2.1, u.2.2.2.2.2) ++ wG kI o0_a w7.2) := hD
    exact W.vret hx hb hr (fun t ht hW => ⟨⟨((2, x8, u.2.2.1, w7.1, u.2.2.2.2.1, u.2.2.2.2.2), w7.2), rfl, hw, by rw [ht]; exact hP, va_K.moved hW.alike hK, hD⟩, hS.F ht⟩) hS.2.2 dX3_record_44
  replace hw := Eq.mp (if_neg c5) hw
  by_cases c9 : u.1 = 2
  · replace hw := Eq.mp (if_pos c9) hw
    refine lv_aload_n hx hb dX3_record_0 rfl (lv_at hl 0 rfl) ?_
    refine lv_aload_n hx hb dX3_record_1 rfl (lv_at hl 0 rfl) ?_
    refine va_get (D := D) (ci := 2) (v := .int u.1) (C := RX3) (T := TX3) (N := 3) hx hb hts (fun _ h => List.mem_cons_of_mem _ (List.mem_append_left _ (List.mem_append_left _ (List.mem_append_right _ h)))) hown hK hP 0 rfl rfl 1 (by decide) (hts (.fieldLink RX3 16 "HazelGift$History" "next" "I") (List.mem_of_getElem? (i := 1) rfl)) (fun _ h9 => h9) rfl dX3_record_2 ?_
    refine lv_lit (v := 2) c9 ?_
    refine gVa (r := .ref t_a2.1) (As := [.int 2]) (rest := []) (cs' := wH kI kG t_h t_st t_a0 t_a1 t_a2 t_a3 u) ⟨hx, hb, hml, hown, hts⟩ (kX3_stateAt_2 l D kI kC kG kJ t_h t_st t_a0 t_a1 t_a2 t_a3 u) (cwV 1 hts gX3_record_X3_stateAt rfl rfl rfl hdX3_stateAt ⟨Nat.le_of_ble_eq_true rfl, Nat.le_of_ble_eq_true rfl⟩) hK hP hE hS [0, 1, 2, 3, 4, 5, 6, 7, 8, 9, 10, 11, 12, 13, 14, 15, 16, 17] rfl (ci := 2) (q0 := 0) rfl rfl rfl rfl hl.1 rfl (Nat.le_of_ble_eq_true rfl) dX3_record_5 ⟨Nat.le_of_ble_eq_true rfl, Nat.le_of_ble_eq_true rfl⟩ ?_
    refine lv_astore_n (lv' := [(2, .ref t_a2.1), (0, .ref t_h), (1, .ref o0_a.1)]) hx hb dX3_record_8 rfl hl (by decide) rfl (fun ls hl => ?_)
    refine lv_aload_n hx hb dX3_record_9 rfl (lv_at hl 0 rfl) ?_
    refine lv_ifnull hx hb dX3_record_10 ?_
    refine lv_aload_n hx hb dX3_record_13 rfl (lv_at hl 0 rfl) ?_
    refine lv_aload_n hx hb dX3_record_14 rfl (lv_at hl 2 rfl) ?_
    refine gWVv (S := SG × SG) (As := [.ref o0_a.1]) (rest := []) (wc := wG kI t_a2 u.2.2.2.2.1 ++ wG kI o0_a w0) (wr := [(t_h, .inr (2, [.ref t_st, .int u.1, .int u.2.1])), (t_st, .inl (kG, 4, .inr (.inr (.inr (.inr (fH t_a0 t_a1 t_a2 t_a3))))))] ++ wG kI t_a0 u.2.2.1 ++ wG kI t_a1 u.2.2.2.1 ++ wG kI t_a3 u.2.2.2.2.2) (cs1 := (fun zz : SG × SG => wG kI t_a2 zz.1 ++ wG kI o0_a zz.2)) (ws2 := (fun zz : SG × SG => wH kI kG t_h t_st t_a0 t_a1 t_a2 t_a3 (u.1, u.2.1, u.2.2.1, u.2.2.2.1, zz.1, u.2.2.2.2.2) ++ wG kI o0_a zz.2)) ⟨hx, hb, hml, hown, hts⟩ (fun sz => kX2_copyFrom l D kI kC kG kJ t_a2 o0_a sz u.2.2.2.2.1 w0 _ hw) (cwV 1 hts gX3_record_X2_copyFrom rfl rfl rfl hdX2_copyFrom ⟨Nat.le_of_ble_eq_true rfl, Nat.le_of_ble_eq_true rfl⟩) hK hP hD hE hS hA [10, 11, 12, 13, 18, 19, 20, 21] [0, 1, 2, 3, 4, 5, 6, 7, 8, 9, 14, 15, 16, 17] rfl rfl rfl rfl (by decide) [0, 1, 2, 3, 4, 5, 6, 7, 8, 9, 14, 15, 16, 17, 10, 11, 12, 13, 18, 19, 20, 21] rfl (fun _ => rfl) (ci := 1) (q0 := 0) rfl rfl rfl rfl hl.1 rfl (Nat.le_of_ble_eq_true rfl) dX3_record_15 ⟨Nat.le_of_ble_eq_true rfl, Nat.le_of_ble_eq_true rfl⟩ (fun w11 H locs hw hP hD hS => ?_)
    have hP : va_P D vwCl (wH kI kG t_h t_st t_a0 t_a1 t_a2 t_a3 (u.1, u.2.1, u.2.2.1, u.2.2.2.1, w11.1, u.2.2.2.2.2) ++ wG kI o0_a w11.2) H := hP
    have hD : va_D A (wH kI kG t_h t_st t_a0 t_a1 t_a2 t_a3 (u.1, u.2.1, u.2.2.1, u.2.2.2.1, w11.1, u.2.2.2.2.2) ++ wG kI o0_a w11.2) := hD
    refine lv_aload_n hx hb dX3_record_18 rfl (lv_at hl 1 rfl) ?_
    refine lv_aload_n hx hb dX3_record_19 rfl (lv_at hl 1 rfl) ?_
    refine va_get (D := D) (ci := 2) (v := .int u.1) (C := RX3) (T := TX3) (N := 3) hx hb hts (fun _ h => List.mem_cons_of_mem _ (List.mem_append_left _ (List.mem_append_left _ (List.mem_append_right _ h)))) hown hK hP 0 rfl rfl 1 (by decide) (hts (.fieldLink RX3 16 "HazelGift$History" "next" "I") (List.mem_of_getElem? (i := 1) rfl)) (fun _ h9 => h9) rfl dX3_record_20 ?_
    refine lv_lit (v := 2) c9 ?_
    refine lv_iconst (v := 1) hx hb dX3_record_23 (by decide) ?_
    refine lv_iadd hx hb dX3_record_24 ?_
    refine lv_lit (v := 3) (by decide) ?_
    refine lv_iconst (v := 4) hx hb dX3_record_25 (by decide) ?_
    refine lv_irem hx hb dX3_record_26 (by decide) ?_
    refine lv_lit (v := 3) (by decide) ?_
    refine va_put (D := D) (ci := 2) (v := .int 3) (ty := tyX3 1) (C := RX3) (T := TX3) (N := 3) hx hb hts (fun _ h => List.mem_cons_of_mem _ (List.mem_append_left _ (List.mem_append_left _ (List.mem_append_right _ h)))) tyX3 tyX3_ok nmX3 hown hK hP hD hS 0 rfl rfl 1 (by decide) (hts (.fieldLink RX3 16 "HazelGift$History" "next" "I") (List.mem_of_getElem? (i := 1) rfl)) (fun _ h9 => h9) rfl (tyX3_ok 1 (by decide)) rfl rfl (Nat.le_of_ble_eq_true rfl) dX3_record_27 (fun H locs hP hD hS => ?_)
    have hP : va_P D vwCl (wH kI kG t_h t_st t_a0 t_a1 t_a2 t_a3 (3, u.2.1, u.2.2.1, u.2.2.2.1, w11.1, u.2.2.2.2.2) ++ wG kI o0_a w11.2) H := hP
    have hD : va_D A (wH kI kG t_h t_st t_a0 t_a1 t_a2 t_a3 (3, u.2.1, u.2.2.1, u.2.2.2.1, w11.1, u.2.2.2.2.2) ++ wG kI o0_a w11.2) := hD
    refine lv_aload_n hx hb dX3_record_30 rfl (lv_at hl 1 rfl) ?_
    refine lv_aload_n hx hb dX3_record_31 rfl (lv_at hl 1 rfl) ?_
    refine va_get (D := D) (ci := 2) (v := .int u.2.1) (C := RX3) (T := TX3) (N := 3) hx hb hts (fun _ h => List.mem_cons_of_mem _ (List.mem_append_left _ (List.mem_append_left _ (List.mem_append_right _ h)))) hown hK hP 0 rfl rfl 2 (by decide) (hts (.fieldLink RX3 20 "HazelGift$History" "size" "I") (List.mem_of_getElem? (i := 2) rfl)) (fun _ h9 => h9) rfl dX3_record_32 ?_
    refine lv_iconst (v := 1) hx hb dX3_record_35 (by decide) ?_
    refine lv_iadd hx hb dX3_record_36 ?_
    refine lv_iconst (v := 4) hx hb dX3_record_37 (by decide) ?_
    refine va_mmin hx hb (hml.trans hl.1.symm) hown (hts (.methodLink RX3 31 Lib.Math.min.name) (List.mem_of_getElem? (i := 3) rfl)) (hts (.static Lib.Math.min.name) (List.mem_of_getElem? (i := 4) rfl)) (hts (.initialized "java/lang/Math") (List.mem_of_getElem? (i := 5) rfl)) (hts (.code Lib.Math.min.name Lib.Math.min.code 2 (some .int)) (List.mem_of_getElem? (i := 6) rfl)) (Nat.le_of_ble_eq_true rfl) (Nat.le_of_ble_eq_true rfl) (Nat.le_of_ble_eq_true rfl) (Nat.le_of_ble_eq_true rfl) dX3_record_38 ?_
    refine lv_topi (fun x12 ex12 => ?_)
    replace hw := hw x12 ex12
    refine va_put (D := D) (ci := 2) (v := .int x12) (ty := tyX3 2) (C := RX3) (T := TX3) (N := 3) hx hb hts (fun _ h => List.mem_cons_of_mem _ (List.mem_append_left _ (List.mem_append_left _ (List.mem_append_right _ h)))) tyX3 tyX3_ok nmX3 hown hK hP hD hS 0 rfl rfl 2 (by decide) (hts (.fieldLink RX3 20 "HazelGift$History" "size" "I") (List.mem_of_getElem? (i := 2) rfl)) (fun _ h9 => h9) rfl (tyX3_ok 2 (by decide)) rfl rfl (Nat.le_of_ble_eq_true rfl) dX3_record_41 (fun H locs hP hD hS => ?_)
    have hP : va_P D vwCl (wH kI kG t_h t_st t_a0 t_a1 t_a2 t_a3 (3, x12, u.2.2.1, u.2.2.2.1, w11.1, u.2.2.2.2.2) ++ wG kI o0_a w11.2) H := hP
    have hD : va_D A (wH kI kG t_h t_st t_a0 t_a1 t_a2 t_a3 (3, x12, u.2.2.1, u.2.2.2.1, w11.1, u.2.2.2.2.2) ++ wG kI o0_a w11.2) := hD
    exact W.vret hx hb hr (fun t ht hW => ⟨⟨((3, x12, u.2.2.1, u.2.2.2.1, w11.1, u.2.2.2.2.2), w11.2), rfl, hw, by rw [ht]; exact hP, va_K.moved hW.alike hK, hD⟩, hS.F ht⟩) hS.2.2 dX3_record_44
  replace hw := Eq.mp (if_neg c9) hw
  by_cases c13 : u.1 = 3
  · replace hw := Eq.mp (if_pos c13) hw
    refine lv_aload_n hx hb dX3_record_0 rfl (lv_at hl 0 rfl) ?_
    refine lv_aload_n hx hb dX3_record_1 rfl (lv_at hl 0 rfl) ?_
    refine va_get (D := D) (ci := 2) (v := .int u.1) (C := RX3) (T := TX3) (N := 3) hx hb hts (fun _ h => List.mem_cons_of_mem _ (List.mem_append_left _ (List.mem_append_left _ (List.mem_append_right _ h)))) hown hK hP 0 rfl rfl 1 (by decide) (hts (.fieldLink RX3 16 "HazelGift$History" "next" "I") (List.mem_of_getElem? (i := 1) rfl)) (fun _ h9 => h9) rfl dX3_record_2 ?_
    refine lv_lit (v := 3) c13 ?_
    refine gVa (r := .ref t_a3.1) (As := [.int 3]) (rest := []) (cs' := wH kI kG t_h t_st t_a0 t_a1 t_a2 t_a3 u) ⟨hx, hb, hml, hown, hts⟩ (kX3_stateAt_3 l D kI kC kG kJ t_h t_st t_a0 t_a1 t_a2 t_a3 u) (cwV 1 hts gX3_record_X3_stateAt rfl rfl rfl hdX3_stateAt ⟨Nat.le_of_ble_eq_true rfl, Nat.le_of_ble_eq_true rfl⟩) hK hP hE hS [0, 1, 2, 3, 4, 5, 6, 7, 8, 9, 10, 11, 12, 13, 14, 15, 16, 17] rfl (ci := 2) (q0 := 0) rfl rfl rfl rfl hl.1 rfl (Nat.le_of_ble_eq_true rfl) dX3_record_5 ⟨Nat.le_of_ble_eq_true rfl, Nat.le_of_ble_eq_true rfl⟩ ?_
    refine lv_astore_n (lv' := [(2, .ref t_a3.1), (0, .ref t_h), (1, .ref o0_a.1)]) hx hb dX3_record_8 rfl hl (by decide) rfl (fun ls hl => ?_)
    refine lv_aload_n hx hb dX3_record_9 rfl (lv_at hl 0 rfl) ?_
    refine lv_ifnull hx hb dX3_record_10 ?_
    refine lv_aload_n hx hb dX3_record_13 rfl (lv_at hl 0 rfl) ?_
    refine lv_aload_n hx hb dX3_record_14 rfl (lv_at hl 2 rfl) ?_
    refine gWVv (S := SG × SG) (As := [.ref o0_a.1]) (rest := []) (wc := wG kI t_a3 u.2.2.2.2.2 ++ wG kI o0_a w0) (wr := [(t_h, .inr (2, [.ref t_st, .int u.1, .int u.2.1])), (t_st, .inl (kG, 4, .inr (.inr (.inr (.inr (fH t_a0 t_a1 t_a2 t_a3))))))] ++ wG kI t_a0 u.2.2.1 ++ wG kI t_a1 u.2.2.2.1 ++ wG kI t_a2 u.2.2.2.2.1) (cs1 := (fun zz : SG × SG => wG kI t_a3 zz.1 ++ wG kI o0_a zz.2)) (ws2 := (fun zz : SG × SG => wH kI kG t_h t_st t_a0 t_a1 t_a2 t_a3 (u.1, u.2.1, u.2.2.1, u.2.2.2.1, u.2.2.2.2.1, zz.1) ++ wG kI o0_a zz.2)) ⟨hx, hb, hml, hown, hts⟩ (fun sz => kX2_copyFrom l D kI kC kG kJ t_a3 o0_a sz u.2.2.2.2.2 w0 _ hw) (cwV 1 hts gX3_record_X2_copyFrom rfl rfl rfl hdX2_copyFrom ⟨Nat.le_of_ble_eq_true rfl, Nat.le_of_ble_eq_true rfl⟩) hK hP hD hE hS hA [14, 15, 16, 17, 18, 19, 20, 21] [0, 1, 2, 3, 4, 5, 6, 7, 8, 9, 10, 11, 12, 13] rfl rfl rfl rfl (by decide) [0, 1, 2, 3, 4, 5, 6, 7, 8, 9, 10, 11, 12, 13, 14, 15, 16, 17, 18, 19, 20, 21] rfl (fun _ => rfl) (ci := 1) (q0 := 0) rfl rfl rfl rfl hl.1 rfl (Nat.le_of_ble_eq_true rfl) dX3_record_15 ⟨Nat.le_of_ble_eq_true rfl, Nat.le_of_ble_eq_true rfl⟩ (fun w15 H locs hw hP hD hS => ?_)
    have hP : va_P D vwCl (wH kI kG t_h t_st t_a0 t_a1 t_a2 t_a3 (u.1, u.2.1, u.2.2.1, u.2.2.2.1, u.2.2.2.2.1, w15.1) ++ wG kI o0_a w15.2) H := hP
    have hD : va_D A (wH kI kG t_h t_st t_a0 t_a1 t_a2 t_a3 (u.1, u.2.1, u.2.2.1, u.2.2.2.1, u.2.2.2.2.1, w15.1) ++ wG kI o0_a w15.2) := hD
    refine lv_aload_n hx hb dX3_record_18 rfl (lv_at hl 1 rfl) ?_
    refine lv_aload_n hx hb dX3_record_19 rfl (lv_at hl 1 rfl) ?_
    refine va_get (D := D) (ci := 2) (v := .int u.1) (C := RX3) (T := TX3) (N := 3) hx hb hts (fun _ h => List.mem_cons_of_mem _ (List.mem_append_left _ (List.mem_append_left _ (List.mem_append_right _ h)))) hown hK hP 0 rfl rfl 1 (by decide) (hts (.fieldLink RX3 16 "HazelGift$History" "next" "I") (List.mem_of_getElem? (i := 1) rfl)) (fun _ h9 => h9) rfl dX3_record_20 ?_
    refine lv_lit (v := 3) c13 ?_
    refine lv_iconst (v := 1) hx hb dX3_record_23 (by decide) ?_
    refine lv_iadd hx hb dX3_record_24 ?_
    refine lv_lit (v := 4) (by decide) ?_
    refine lv_iconst (v := 4) hx hb dX3_record_25 (by decide) ?_
    refine lv_irem hx hb dX3_record_26 (by decide) ?_
    refine lv_lit (v := 0) (by decide) ?_
    refine va_put (D := D) (ci := 2) (v := .int 0) (ty := tyX3 1) (C := RX3) (T := TX3) (N := 3) hx hb hts (fun _ h => List.mem_cons_of_mem _ (List.mem_append_left _ (List.mem_append_left _ (List.mem_append_right _ h)))) tyX3 tyX3_ok nmX3 hown hK hP hD hS 0 rfl rfl 1 (by decide) (hts (.fieldLink RX3 16 "HazelGift$History" "next" "I") (List.mem_of_getElem? (i := 1) rfl)) (fun _ h9 => h9) rfl (tyX3_ok 1 (by decide)) rfl rfl (Nat.le_of_ble_eq_true rfl) dX3_record_27 (fun H locs hP hD hS => ?_)
    have hP : va_P D vwCl (wH kI kG t_h t_st t_a0 t_a1 t_a2 t_a3 (0, u.2.1, u.2.2.1, u.2.2.2.1, u.2.2.2.2.1, w15.1) ++ wG kI o0_a w15.2) H := hP
    have hD : va_D A (wH kI kG t_h t_st t_a0 t_a1 t_a2 t_a3 (0, u.2.1, u.2.2.1, u.2.2.2.1, u.2.2.2.2.1, w15.1) ++ wG kI o0_a w15.2) := hD
    refine lv_aload_n hx hb dX3_record_30 rfl (lv_at hl 1 rfl) ?_
    refine lv_aload_n hx hb dX3_record_31 rfl (lv_at hl 1 rfl) ?_
    refine va_get (D := D) (ci := 2) (v := .int u.2.1) (C := RX3) (T := TX3) (N := 3) hx hb hts (fun _ h => List.mem_cons_of_mem _ (List.mem_append_left _ (List.mem_append_left _ (List.mem_append_right _ h)))) hown hK hP 0 rfl rfl 2 (by decide) (hts (.fieldLink RX3 20 "HazelGift$History" "size" "I") (List.mem_of_getElem? (i := 2) rfl)) (fun _ h9 => h9) rfl dX3_record_32 ?_
    refine lv_iconst (v := 1) hx hb dX3_record_35 (by decide) ?_
    refine lv_iadd hx hb dX3_record_36 ?_
    refine lv_iconst (v := 4) hx hb dX3_record_37 (by decide) ?_
    refine va_mmin hx hb (hml.trans hl.1.symm) hown (hts (.methodLink RX3 31 Lib.Math.min.name) (List.mem_of_getElem? (i := 3) rfl)) (hts (.static Lib.Math.min.name) (List.mem_of_getElem? (i := 4) rfl)) (hts (.initialized "java/lang/Math") (List.mem_of_getElem? (i := 5) rfl)) (hts (.code Lib.Math.min.name Lib.Math.min.code 2 (some .int)) (List.mem_of_getElem? (i := 6) rfl)) (Nat.le_of_ble_eq_true rfl) (Nat.le_of_ble_eq_true rfl) (Nat.le_of_ble_eq_true rfl) (Nat.le_of_ble_eq_true rfl) dX3_record_38 ?_
    refine lv_topi (fun x16 ex16 => ?_)
    replace hw := hw x16 ex16
    refine va_put (D := D) (ci := 2) (v := .int x16) (ty := tyX3 2) (C := RX3) (T := TX3) (N := 3) hx hb hts (fun _ h => List.mem_cons_of_mem _ (List.mem_append_left _ (List.mem_append_left _ (List.mem_append_right _ h)))) tyX3 tyX3_ok nmX3 hown hK hP hD hS 0 rfl rfl 2 (by decide) (hts (.fieldLink RX3 20 "HazelGift$History" "size" "I") (List.mem_of_getElem? (i := 2) rfl)) (fun _ h9 => h9) rfl (tyX3_ok 2 (by decide)) rfl rfl (Nat.le_of_ble_eq_true rfl) dX3_record_41 (fun H locs hP hD hS => ?_)
    have hP : va_P D vwCl (wH kI kG t_h t_st t_a0 t_a1 t_a2 t_a3 (0, x16, u.2.2.1, u.2.2.2.1, u.2.2.2.2.1, w15.1) ++ wG kI o0_a w15.2) H := hP
    have hD : va_D A (wH kI kG t_h t_st t_a0 t_a1 t_a2 t_a3 (0, x16, u.2.2.1, u.2.2.2.1, u.2.2.2.2.1, w15.1) ++ wG kI o0_a w15.2) := hD
    exact W.vret hx hb hr (fun t ht hW => ⟨⟨((0, x16, u.2.2.1, u.2.2.2.1, u.2.2.2.2.1, w15.1), w15.2), rfl, hw, by rw [ht]; exact hP, va_K.moved hW.alike hK, hD⟩, hS.F ht⟩) hS.2.2 dX3_record_44
  replace hw := Eq.mp (if_neg c13) hw
  exact hw.elim
set_option maxHeartbeats 4000000 in
set_option maxRecDepth 100000 in
theorem kX3_takeBack (l : Launch) (D : va_G) (kI kC kG kJ : ClassId) (t_h t_st : Nat) (t_a0 t_a1 t_a2 t_a3 : AG) (o0_a : AG) (sz : Nat) (u : SH) (w0 : SG) (Z : SH × SG → Prop) (hw : pX3_takeBack u w0 Z) : Met l yX3_takeBack wsX3_takeBack ({ frames := 2, cells := 0, slots := 0, locals := 44 } : Room) (gPw D (gT kI kC kG kJ) [.ref t_h, .ref o0_a.1] (wH kI kG t_h t_st t_a0 t_a1 t_a2 t_a3 u ++ wG kI o0_a w0) sz) (va_Qv Z (gB D (gT kI kC kG kJ) (fun (zz : SH × SG) => wH kI kG t_h t_st t_a0 t_a1 t_a2 t_a3 zz.1 ++ wG kI o0_a zz.2) (va_A (wH kI kG t_h t_st t_a0 t_a1 t_a2 t_a3 u ++ wG kI o0_a w0) sz)) (va_A (wH kI kG t_h t_st t_a0 t_a1 t_a2 t_a3 u ++ wG kI o0_a w0) sz)) 0 0 (va_A (wH kI kG t_h t_st t_a0 t_a1 t_a2 t_a3 u ++ wG kI o0_a w0) sz) := by
  refine Met.ofW (cc := cX3_takeBack) (maxL := 4) (ret := none) (by decide) rfl ?_
  intro p e s m args below meth c s₁ B hml hv
  obtain ⟨rfl, hsz, hP, hK, hD0, hE⟩ := hv
  have hx := B.exec
  have hb := B.bytes
  have hr := B.returns
  have hts := atoms_spec (ws := wsX3_takeBack) B.pre
  have hown : s.vm.findClass RX3 = some m.cls := findClass_of_methodNamed B.named
  have hlocks := B.notSynchronized
  subst hsz
  have hD := hD0.self (sz := s.heap.size)
  generalize hAe : va_A (wH kI kG t_h t_st t_a0 t_a1 t_a2 t_a3 u ++ wG kI o0_a w0) s.heap.size = A at hD hE ⊢
  have hA : ∀ q : Nat, s.heap.size ≤ q → A q := fun q h => by rw [← hAe]; exact Or.inr h
  have hS : va_S A s.heap s.heap [] := va_S.rf
  clear hAe hD0
  have hl := lv_entry ([.ref t_h, .ref o0_a.1]) (n := 4) (Nat.le_of_ble_eq_true rfl)
  rw [lg_entry_eq]
  generalize (lg_sl ([.ref t_h, .ref o0_a.1]) ++ List.replicate (4 - (lg_sl ([.ref t_h, .ref o0_a.1])).length) Slot.unset).toArray = ls at hl ⊢
  have hl : lv_has ls 4 [(0, .ref t_h), (1, .ref o0_a.1)] := hl
  have hP : va_P D vwCl (wH kI kG t_h t_st t_a0 t_a1 t_a2 t_a3 u ++ wG kI o0_a w0) s.heap := hP
  unfold pX3_takeBack at hw
  by_cases c1 : u.1 = 0
  · replace hw := Eq.mp (if_pos c1) hw
    refine lv_aload_n hx hb dX3_takeBack_0 rfl (lv_at hl 0 rfl) ?_
    refine va_get (D := D) (ci := 2) (v := .int u.1) (C := RX3) (T := TX3) (N := 3) hx hb hts (fun _ h => List.mem_cons_of_mem _ (List.mem_append_left _ (List.mem_append_left _ (List.mem_append_right _ h)))) hown hK hP 0 rfl rfl 1 (by decide) (hts (.fieldLink RX3 16 "HazelGift$History" "next" "I") (List.mem_of_getElem? (i := 1) rfl)) (fun _ h9 => h9) rfl dX3_takeBack_1 ?_
    refine lv_lit (v := 0) c1 ?_
    refine lv_iconst (v := 4) hx hb dX3_takeBack_4 (by decide) ?_
    refine lv_iadd hx hb dX3_takeBack_5 ?_
    refine lv_lit (v := 4) (by decide) ?_
    refine lv_iconst (v := 1) hx hb dX3_takeBack_6 (by decide) ?_
    refine lv_isub hx hb dX3_takeBack_7 ?_
    refine lv_lit (v := 3) (by decide) ?_
    refine lv_iconst (v := 4) hx hb dX3_takeBack_8 (by decide) ?_
    refine lv_irem hx hb dX3_takeBack_9 (by decide) ?_
    refine lv_lit (v := 3) (by decide) ?_
    refine lv_istore_n (lv' := [(2, .int 3), (0, .ref t_h), (1, .ref o0_a.1)]) hx hb dX3_takeBack_10 rfl hl (by decide) rfl (fun ls hl => ?_)
    refine lv_aload_n hx hb dX3_takeBack_11 rfl (lv_at hl 1 rfl) ?_
    refine lv_iload_n hx hb dX3_takeBack_12 rfl (lv_at hl 0 rfl) ?_
    refine gVa (r := .ref t_a3.1) (As := [.int 3]) (rest := []) (cs' := wH kI kG t_h t_st t_a0 t_a1 t_a2 t_a3 u) ⟨hx, hb, hml, hown, hts⟩ (kX3_stateAt_3 l D kI kC kG kJ t_h t_st t_a0 t_a1 t_a2 t_a3 u) (cwV 1 hts gX3_takeBack_X3_stateAt rfl rfl rfl hdX3_stateAt ⟨Nat.le_of_ble_eq_true rfl, Nat.le_of_ble_eq_true rfl⟩) hK hP hE hS [0, 1, 2, 3, 4, 5, 6, 7, 8, 9, 10, 11, 12, 13, 14, 15, 16, 17] rfl (ci := 2) (q0 := 0) rfl rfl rfl rfl hl.1 rfl (Nat.le_of_ble_eq_true rfl) dX3_takeBack_13 ⟨Nat.le_of_ble_eq_true rfl, Nat.le_of_ble_eq_true rfl⟩ ?_
    refine lv_astore_n (lv' := [(3, .ref t_a3.1), (2, .int 3), (0, .ref t_h), (1, .ref o0_a.1)]) hx hb dX3_takeBack_16 rfl hl (by decide) rfl (fun ls hl => ?_)
    refine lv_aload_n hx hb dX3_takeBack_17 rfl (lv_at hl 2 rfl) ?_
    refine va_get (D := D) (ci := 2) (v := .int u.2.1) (C := RX3) (T := TX3) (N := 3) hx hb hts (fun _ h => List.mem_cons_of_mem _ (List.mem_append_left _ (List.mem_append_left _ (List.mem_append_right _ h)))) hown hK hP 0 rfl rfl 2 (by decide) (hts (.fieldLink RX3 20 "HazelGift$History" "size" "I") (List.mem_of_getElem? (i := 2) rfl)) (fun _ h9 => h9) rfl dX3_takeBack_18 ?_
    refine lv_if_le (tgt := 48) hx hb dX3_takeBack_21 (by decide) (fun c3 => ?_) (fun c3 => ?_)
    · replace hw := Eq.mp (if_pos c3) hw
      exact W.vret hx hb hr (fun t ht hW => ⟨⟨(u, w0), rfl, hw, by rw [ht]; exact hP, va_K.moved hW.alike hK, hD⟩, hS.F ht⟩) hS.2.2 dX3_takeBack_48
    · replace hw := Eq.mp (if_neg c3) hw
      refine lv_aload_n hx hb dX3_takeBack_24 rfl (lv_at hl 0 rfl) ?_
      refine lv_ifnull hx hb dX3_takeBack_25 ?_
      refine lv_aload_n hx hb dX3_takeBack_28 rfl (lv_at hl 3 rfl) ?_
      refine lv_aload_n hx hb dX3_takeBack_29 rfl (lv_at hl 0 rfl) ?_
      refine gWVv (S := SG × SG) (As := [.ref t_a3.1]) (rest := []) (wc := wG kI o0_a w0 ++ wG kI t_a3 u.2.2.2.2.2) (wr := [(t_h, .inr (2, [.ref t_st, .int u.1, .int u.2.1])), (t_st, .inl (kG, 4, .inr (.inr (.inr (.inr (fH t_a0 t_a1 t_a2 t_a3))))))] ++ wG kI t_a0 u.2.2.1 ++ wG kI t_a1 u.2.2.2.1 ++ wG kI t_a2 u.2.2.2.2.1) (cs1 := (fun zz : SG × SG => wG kI o0_a zz.1 ++ wG kI t_a3 zz.2)) (ws2 := (fun zz : SG × SG => wH kI kG t_h t_st t_a0 t_a1 t_a2 t_a3 (u.1, u.2.1, u.2.2.1, u.2.2.2.1, u.2.2.2.2.1, zz.2) ++ wG kI o0_a zz.1)) ⟨hx, hb, hml, hown, hts⟩ (fun sz => kX2_copyFrom l D kI kC kG kJ o0_a t_a3 sz w0 u.2.2.2.2.2 _ hw) (cwV 1 hts gX3_takeBack_X2_copyFrom rfl rfl rfl hdX2_copyFrom ⟨Nat.le_of_ble_eq_true rfl, Nat.le_of_ble_eq_true rfl⟩) hK hP hD hE hS hA [18, 19, 20, 21, 14, 15, 16, 17] [0, 1, 2, 3, 4, 5, 6, 7, 8, 9, 10, 11, 12, 13] rfl rfl rfl rfl (by decide) [0, 1, 2, 3, 4, 5, 6, 7, 8, 9, 10, 11, 12, 13, 18, 19, 20, 21, 14, 15, 16, 17] rfl (fun _ => rfl) (ci := 1) (q0 := 0) rfl rfl rfl rfl hl.1 rfl (Nat.le_of_ble_eq_true rfl) dX3_takeBack_30 ⟨Nat.le_of_ble_eq_true rfl, Nat.le_of_ble_eq_true rfl⟩ (fun w4 H locs hw hP hD hS => ?_)
      have hP : va_P D vwCl (wH kI kG t_h t_st t_a0 t_a1 t_a2 t_a3 (u.1, u.2.1, u.2.2.1, u.2.2.2.1, u.2.2.2.2.1, w4.2) ++ wG kI o0_a w4.1) H := hP
      have hD : va_D A (wH kI kG t_h t_st t_a0 t_a1 t_a2 t_a3 (u.1, u.2.1, u.2.2.1, u.2.2.2.1, u.2.2.2.2.1, w4.2) ++ wG kI o0_a w4.1) := hD
      refine lv_aload_n hx hb dX3_takeBack_33 rfl (lv_at hl 2 rfl) ?_
      refine lv_iload_n hx hb dX3_takeBack_34 rfl (lv_at hl 1 rfl) ?_
      refine va_put (D := D) (ci := 2) (v := .int 3) (ty := tyX3 1) (C := RX3) (T := TX3) (N := 3) hx hb hts (fun _ h => List.mem_cons_of_mem _ (List.mem_append_left _ (List.mem_append_left _ (List.mem_append_right _ h)))) tyX3 tyX3_ok nmX3 hown hK hP hD hS 0 rfl rfl 1 (by decide) (hts (.fieldLink RX3 16 "HazelGift$History" "next" "I") (List.mem_of_getElem? (i := 1) rfl)) (fun _ h9 => h9) rfl (tyX3_ok 1 (by decide)) rfl rfl (Nat.le_of_ble_eq_true rfl) dX3_takeBack_35 (fun H locs hP hD hS => ?_)
      have hP : va_P D vwCl (wH kI kG t_h t_st t_a0 t_a1 t_a2 t_a3 (3, u.2.1, u.2.2.1, u.2.2.2.1, u.2.2.2.2.1, w4.2) ++ wG kI o0_a w4.1) H := hP
      have hD : va_D A (wH kI kG t_h t_st t_a0 t_a1 t_a2 t_a3 (3, u.2.1, u.2.2.1, u.2.2.2.1, u.2.2.2.2.1, w4.2) ++ wG kI o0_a w4.1) := hD
      refine lv_aload_n hx hb dX3_takeBack_38 rfl (lv_at hl 2 rfl) ?_
      refine lv_dup hx hb dX3_takeBack_39 rfl ?_
      refine va_get (D := D) (ci := 2) (v := .int u.2.1) (C := RX3) (T := TX3) (N := 3) hx hb hts (fun _ h => List.mem_cons_of_mem _ (List.mem_append_left _ (List.mem_append_left _ (List.mem_append_right _ h)))) hown hK hP 0 rfl rfl 2 (by decide) (hts (.fieldLink RX3 20 "HazelGift$History" "size" "I") (List.mem_of_getElem? (i := 2) rfl)) (fun _ h9 => h9) rfl dX3_takeBack_40 ?_
      refine lv_iconst (v := 1) hx hb dX3_takeBack_43 (by decide) ?_
      refine lv_isub hx hb dX3_takeBack_44 ?_
      refine lv_topi (fun x5 ex5 => ?_)
      replace hw := hw x5 ex5
      refine va_put (D := D) (ci := 2) (v := .int x5) (ty := tyX3 2) (C := RX3) (T := TX3) (N := 3) hx hb hts (fun _ h => List.mem_cons_of_mem _ (List.mem_append_left _ (List.mem_append_left _ (List.mem_append_right _ h)))) tyX3 tyX3_ok nmX3 hown hK hP hD hS 0 rfl rfl 2 (by decide) (hts (.fieldLink RX3 20 "HazelGift$History" "size" "I") (List.mem_of_getElem? (i := 2) rfl)) (fun _ h9 => h9) rfl (tyX3_ok 2 (by decide)) rfl rfl (Nat.le_of_ble_eq_true rfl) dX3_takeBack_45 (fun H locs hP hD hS => ?_)
      have hP : va_P D vwCl (wH kI kG t_h t_st t_a0 t_a1 t_a2 t_a3 (3, x5, u.2.2.1, u.2.2.2.1, u.2.2.2.2.1, w4.2) ++ wG kI o0_a w4.1) H := hP
      have hD : va_D A (wH kI kG t_h t_st t_a0 t_a1 t_a2 t_a3 (3, x5, u.2.2.1, u.2.2.2.1, u.2.2.2.2.1, w4.2) ++ wG kI o0_a w4.1) := hD
      exact W.vret hx hb hr (fun t ht hW => ⟨⟨((3, x5, u.2.2.1, u.2.2.2.1, u.2.2.2.2.1, w4.2), w4.1), rfl, hw, by rw [ht]; exact hP, va_K.moved hW.alike hK, hD⟩, hS.F ht⟩) hS.2.2 dX3_takeBack_48
  replace hw := Eq.mp (if_neg c1) hw
  by_cases c6 : u.1 = 1
  · replace hw := Eq.mp (if_pos c6) hw
    refine lv_aload_n hx hb dX3_takeBack_0 rfl (lv_at hl 0 rfl) ?_
    refine va_get (D := D) (ci := 2) (v := .int u.1) (C := RX3) (T := TX3) (N := 3) hx hb hts (fun _ h => List.mem_cons_of_mem _ (List.mem_append_left _ (List.mem_append_left _ (List.mem_append_right _ h)))) hown hK hP 0 rfl rfl 1 (by decide) (hts (.fieldLink RX3 16 "HazelGift$History" "next" "I") (List.mem_of_getElem? (i := 1) rfl)) (fun _ h9 => h9) rfl dX3_takeBack_1 ?_
    refine lv_lit (v := 1) c6 ?_
    refine lv_iconst (v := 4) hx hb dX3_takeBack_4 (by decide) ?_
    refine lv_iadd hx hb dX3_takeBack_5 ?_
    refine lv_lit (v := 5) (by decide) ?_
    refine lv_iconst (v := 1) hx hb dX3_takeBack_6 (by decide) ?_
    refine lv_isub hx hb dX3_takeBack_7 ?_
    refine lv_lit (v := 4) (by decide) ?_
    refine lv_iconst (v := 4) hx hb dX3_takeBack_8 (by decide) ?_
    refine lv_irem hx hb dX3_takeBack_9 (by decide) ?_
    refine lv_lit (v := 0) (by decide) ?_
    refine lv_istore_n (lv' := [(2, .int 0), (0, .ref t_h), (1, .ref o0_a.1)]) hx hb dX3_takeBack_10 rfl hl (by decide) rfl (fun ls hl => ?_)
    refine lv_aload_n hx hb dX3_takeBack_11 rfl (lv_at hl 1 rfl) ?_
    refine lv_iload_n hx hb dX3_takeBack_12 rfl (lv_at hl 0 rfl) ?_
    refine gVa (r := .ref t_a0.1) (As := [.int 0]) (rest := []) (cs' := wH kI kG t_h t_st t_a0 t_a1 t_a2 t_a3 u) ⟨hx, hb, hml, hown, hts⟩ (kX3_stateAt_0 l D kI kC kG kJ t_h t_st t_a0 t_a1 t_a2 t_a3 u) (cwV 1 hts gX3_takeBack_X3_stateAt rfl rfl rfl hdX3_stateAt ⟨Nat.le_of_ble_eq_true rfl, Nat.le_of_ble_eq_true rfl⟩) hK hP hE hS [0, 1, 2, 3, 4, 5, 6, 7, 8, 9, 10, 11, 12, 13, 14, 15, 16, 17] rfl (ci := 2) (q0 := 0) rfl rfl rfl rfl hl.1 rfl (Nat.le_of_ble_eq_true rfl) dX3_takeBack_13 ⟨Nat.le_of_ble_eq_true rfl, Nat.le_of_ble_eq_true rfl⟩ ?_
    refine lv_astore_n (lv' := [(3, .ref t_a0.1), (2, .int 0), (0, .ref t_h), (1, .ref o0_a.1)]) hx hb dX3_takeBack_16 rfl hl (by decide) rfl (fun ls hl => ?_)
    refine lv_aload_n hx hb dX3_takeBack_17 rfl (lv_at hl 2 rfl) ?_
    refine va_get (D := D) (ci := 2) (v := .int u.2.1) (C := RX3) (T := TX3) (N := 3) hx hb hts (fun _ h => List.mem_cons_of_mem _ (List.mem_append_left _ (List.mem_append_left _ (List.mem_append_right _ h)))) hown hK hP 0 rfl rfl 2 (by decide) (hts (.fieldLink RX3 20 "HazelGift$History" "size" "I") (List.mem_of_getElem? (i := 2) rfl)) (fun _ h9 => h9) rfl dX3_takeBack_18 ?_
    refine lv_if_le (tgt := 48) hx hb dX3_takeBack_21 (by decide) (fun c8 => ?_) (fun c8 => ?_)
    · replace hw := Eq.mp (if_pos c8) hw
      exact W.vret hx hb hr (fun t ht hW => ⟨⟨(u, w0), rfl, hw, by rw [ht]; exact hP, va_K.moved hW.alike hK, hD⟩, hS.F ht⟩) hS.2.2 dX3_takeBack_48
    · replace hw := Eq.mp (if_neg c8) hw
      refine lv_aload_n hx hb dX3_takeBack_24 rfl (lv_at hl 0 rfl) ?_
      refine lv_ifnull hx hb dX3_takeBack_25 ?_
      refine lv_aload_n hx hb dX3_takeBack_28 rfl (lv_at hl 3 rfl) ?_
      refine lv_aload_n hx hb dX3_takeBack_29 rfl (lv_at hl 0 rfl) ?_
      refine gWVv (S := SG × SG) (As := [.ref t_a0.1]) (rest := []) (wc := wG kI o0_a w0 ++ wG kI t_a0 u.2.2.1) (wr := [(t_h, .inr (2, [.ref t_st, .int u.1, .int u.2.1])), (t_st, .inl (kG, 4, .inr (.inr (.inr (.inr (fH t_a0 t_a1 t_a2 t_a3))))))] ++ wG kI t_a1 u.2.2.2.1 ++ wG kI t_a2 u.2.2.2.2.1 ++ wG kI t_a3 u.2.2.2.2.2) (cs1 := (fun zz : SG × SG => wG kI o0_a zz.1 ++ wG kI t_a0 zz.2)) (ws2 := (fun zz : SG × SG => wH kI kG t_h t_st t_a0 t_a1 t_a2 t_a3 (u.1, u.2.1, zz.2, u.2.2.2.1, u.2.2.2.2.1, u.2.2.2.2.2) ++ wG kI o0_a zz.1)) ⟨hx, hb, hml, hown, hts⟩ (fun sz => kX2_copyFrom l D kI kC kG kJ o0_a t_a0 sz w0 u.2.2.1 _ hw) (cwV 1 hts gX3_takeBack_X2_copyFrom rfl rfl rfl hdX2_copyFrom ⟨Nat.le_of_ble_eq_true rfl, Nat.le_of_ble_eq_true rfl⟩) hK hP hD hE hS hA [18, 19, 20, 21, 2, 3, 4, 5] [0, 1, 6, 7, 8, 9, 10, 11, 12, 13, 14, 15, 16, 17] rfl rfl rfl rfl (by decide) [0, 1, 18, 19, 20, 21, 2, 3, 4, 5, 6, 7, 8, 9, 10, 11, 12, 13, 14, 15, 16, 17] rfl (fun _ => rfl) (ci := 1) (q0 := 0) rfl rfl rfl rfl hl.1 rfl (Nat.le_of_ble_eq_true rfl) dX3_takeBack_30 ⟨Nat.le_of_ble_eq_true rfl, Nat.le_of_ble_eq_true rfl⟩ (fun w9 H locs hw hP hD hS => ?_)
      have hP : va_P D vwCl (wH kI kG t_h t_st t_a0 t_a1 t_a2 t_a3 (u.1, u.2.1, w9.2, u.2.2.2.1, u.2.2.2.2.1, u.2.2.2.2.2) ++ wG kI o0_a w9.1) H := hP
      have hD : va_D A (wH kI kG t_h t_st t_a0 t_a1 t_a2 t_a3 (u.1, u.2.1, w9.2, u.2.2.2.1, u.2.2.2.2.1, u.2.2.2.2.2) ++ wG kI o0_a w9.1) := hD
      refine lv_aload_n hx hb dX3_takeBack_33 rfl (lv_at hl 2 rfl) ?_
      refine lv_iload_n hx hb dX3_takeBack_34 rfl (lv_at hl 1 rfl) ?_
      refine va_put (D := D) (ci := 2) (v := .int 0) (ty := tyX3 1) (C := RX3) (T := TX3) (N := 3) hx hb hts (fun _ h => List.mem_cons_of_mem _ (List.mem_append_left _ (List.mem_append_left _ (List.mem_append_right _ h)))) tyX3 tyX3_ok nmX3 hown hK hP hD hS 0 rfl rfl 1 (by decide) (hts (.fieldLink RX3 16 "HazelGift$History" "next" "I") (List.mem_of_getElem? (i := 1) rfl)) (fun _ h9 => h9) rfl (tyX3_ok 1 (by decide)) rfl rfl (Nat.le_of_ble_eq_true rfl) dX3_takeBack_35 (fun H locs hP hD hS => ?_)
      have hP : va_P D vwCl (wH kI kG t_h t_st t_a0 t_a1 t_a2 t_a3 (0, u.2.1, w9.2, u.2.2.2.1, u.2.2.2.2.1, u.2.2.2.2.2) ++ wG kI o0_a w9.1) H := hP
      have hD : va_D A (wH kI kG t_h t_st t_a0 t_a1 t_a2 t_a3 (0, u.2.1, w9.2, u.2.2.2.1, u.2.2.2.2.1, u.2.2.2.2.2) ++ wG kI o0_a w9.1) := hD
      refine lv_aload_n hx hb dX3_takeBack_38 rfl (lv_at hl 2 rfl) ?_
      refine lv_dup hx hb dX3_takeBack_39 rfl ?_
      refine va_get (D := D) (ci := 2) (v := .int u.2.1) (C := RX3) (T := TX3) (N := 3) hx hb hts (fun _ h => List.mem_cons_of_mem _ (List.mem_append_left _ (List.mem_append_left _ (List.mem_append_right _ h)))) hown hK hP 0 rfl rfl 2 (by decide) (hts (.fieldLink RX3 20 "HazelGift$History" "size" "I") (List.mem_of_getElem? (i := 2) rfl)) (fun _ h9 => h9) rfl dX3_takeBack_40 ?_
      refine lv_iconst (v := 1) hx hb dX3_takeBack_43 (by decide) ?_
      refine lv_isub hx hb dX3_takeBack_44 ?_
      refine lv_topi (fun x10 ex10 => ?_)
      replace hw := hw x10 ex10
      refine va_put (D := D) (ci := 2) (v := .int x10) (ty := tyX3 2) (C := RX3) (T := TX3) (N := 3) hx hb hts (fun _ h => List.mem_cons_of_mem _ (List.mem_append_left _ (List.mem_append_left _ (List.mem_append_right _ h)))) tyX3 tyX3_ok nmX3 hown hK hP hD hS 0 rfl rfl 2 (by decide) (hts (.fieldLink RX3 20 "HazelGift$History" "size" "I") (List.mem_of_getElem? (i := 2) rfl)) (fun _ h9 => h9) rfl (tyX3_ok 2 (by decide)) rfl rfl (Nat.le_of_ble_eq_true rfl) dX3_takeBack_45 (fun H locs hP hD hS => ?_)
      have hP : va_P D vwCl (wH kI kG t_h t_st t_a0 t_a1 t_a2 t_a3 (0, x10, w9.2, u.2.2.2.1, u.2.2.2.2.1, u.2.2.2.2.2) ++ wG kI o0_a w9.1) H := hP
      have hD : va_D A (wH kI kG t_h t_st t_a0 t_a1 t_a2 t_a3 (0, x10, w9.2, u.2.2.2.1, u.2.2.2.2.1, u.2.2.2.2.2) ++ wG kI o0_a w9.1) := hD
      exact W.vret hx hb hr (fun t ht hW => ⟨⟨((0, x10, w9.2, u.2.2.2.1, u.2.2.2.2.1, u.2.2.2.2.2), w9.1), rfl, hw, by rw [ht]; exact hP, va_K.moved hW.alike hK, hD⟩, hS.F ht⟩) hS.2.2 dX3_takeBack_48
  replace hw := Eq.mp (if_neg c6) hw
  by_cases c11 : u.1 = 2
  · replace hw := Eq.mp (if_pos c11) hw
    refine lv_aload_n hx hb dX3_takeBack_0 rfl (lv_at hl 0 rfl) ?_
    refine va_get (D := D) (ci := 2) (v := .int u.1) (C := RX3) (T := TX3) (N := 3) hx hb hts (fun _ h => List.mem_cons_of_mem _ (List.mem_append_left _ (List.mem_append_left _ (List.mem_append_right _ h)))) hown hK hP 0 rfl rfl 1 (by decide) (hts (.fieldLink RX3 16 "HazelGift$History" "next" "I") (List.mem_of_getElem? (i := 1) rfl)) (fun _ h9 => h9) rfl dX3_takeBack_1 ?_
    refine lv_lit (v := 2) c11 ?_
    refine lv_iconst (v := 4) hx hb dX3_takeBack_4 (by decide) ?_
    refine lv_iadd hx hb dX3_takeBack_5 ?_
    refine lv_lit (v := 6) (by decide) ?_
    refine lv_iconst (v := 1) hx hb dX3_takeBack_6 (by decide) ?_
    refine lv_isub hx hb dX3_takeBack_7 ?_
    refine lv_lit (v := 5) (by decide) ?_
    refine lv_iconst (v := 4) hx hb dX3_takeBack_8 (by decide) ?_
    refine lv_irem hx hb dX3_takeBack_9 (by decide) ?_
    refine lv_lit (v := 1) (by decide) ?_
    refine lv_istore_n (lv' := [(2, .int 1), (0, .ref t_h), (1, .ref o0_a.1)]) hx hb dX3_takeBack_10 rfl hl (by decide) rfl (fun ls hl => ?_)
    refine lv_aload_n hx hb dX3_takeBack_11 rfl (lv_at hl 1 rfl) ?_
    refine lv_iload_n hx hb dX3_takeBack_12 rfl (lv_at hl 0 rfl) ?_
    refine gVa (r := .ref t_a1.1) (As := [.int 1]) (rest := []) (cs' := wH kI kG t_h t_st t_a0 t_a1 t_a2 t_a3 u) ⟨hx, hb, hml, hown, hts⟩ (kX3_stateAt_1 l D kI kC kG kJ t_h t_st t_a0 t_a1 t_a2 t_a3 u) (cwV 1 hts gX3_takeBack_X3_stateAt rfl rfl rfl hdX3_stateAt ⟨Nat.le_of_ble_eq_true rfl, Nat.le_of_ble_eq_true rfl⟩) hK hP hE hS [0, 1, 2, 3, 4, 5, 6, 7, 8, 9, 10, 11, 12, 13, 14, 15, 16, 17] rfl (ci := 2) (q0 := 0) rfl rfl rfl rfl hl.1 rfl (Nat.le_of_ble_eq_true rfl) dX3_takeBack_13 ⟨Nat.le_of_ble_eq_true rfl, Nat.le_of_ble_eq_true rfl⟩ ?_
    refine lv_astore_n (lv' := [(3, .ref t_a1.1), (2, .int 1), (0, .ref t_h), (1, .ref o0_a.1)]) hx hb dX3_takeBack_16 rfl hl (by decide) rfl (fun ls hl => ?_)
    refine lv_aload_n hx hb dX3_takeBack_17 rfl (lv_at hl 2 rfl) ?_
    refine va_get (D := D) (ci := 2) (v := .int u.2.1) (C := RX3) (T := TX3) (N := 3) hx hb hts (fun _ h => List.mem_cons_of_mem _ (List.mem_append_left _ (List.mem_append_left _ (List.mem_append_right _ h)))) hown hK hP 0 rfl rfl 2 (by decide) (hts (.fieldLink RX3 20 "HazelGift$History" "size" "I") (List.mem_of_getElem? (i := 2) rfl)) (fun _ h9 => h9) rfl dX3_takeBack_18 ?_
    refine lv_if_le (tgt := 48) hx hb dX3_takeBack_21 (by decide) (fun c13 => ?_) (fun c13 => ?_)
    · replace hw := Eq.mp (if_pos c13) hw
      exact W.vret hx hb hr (fun t ht hW => ⟨⟨(u, w0), rfl, hw, by rw [ht]; exact hP, va_K.moved hW.alike hK, hD⟩, hS.F ht⟩) hS.2.2 dX3_takeBack_48
    · replace hw := Eq.mp (if_neg c13) hw
      refine lv_aload_n hx hb dX3_takeBack_24 rfl (lv_at hl 0 rfl) ?_
      refine lv_ifnull hx hb dX3_takeBack_25 ?_
      refine lv_aload_n hx hb dX3_takeBack_28 rfl (lv_at hl 3 rfl) ?_
      refine lv_aload_n hx hb dX3_takeBack_29 rfl (lv_at hl 0 rfl) ?_
      refine gWVv (S := SG × SG) (As := [.ref t_a1.1]) (rest := []) (wc := wG kI o0_a w0 ++ wG kI t_a1 u.2.2.2.1) (wr := [(t_h, .inr (2, [.ref t_st, .int u.1, .int u.2.1])), (t_st, .inl (kG, 4, .inr (.inr (.inr (.inr (fH t_a0 t_a1 t_a2 t_a3))))))] ++ wG kI t_a0 u.2.2.1 ++ wG kI t_a2 u.2.2.2.2.1 ++ wG kI t_a3 u.2.2.2.2.2) (cs1 := (fun zz : SG × SG => wG kI o0_a zz.1 ++ wG kI t_a1 zz.2)) (ws2 := (fun zz : SG × SG => wH kI kG t_h t_st t_a0 t_a1 t_a2 t_a3 (u.1, u.2.1, u.2.2.1, zz.2, u.2.2.2.2.1, u.2.2.2.2.2) ++ wG kI o0_a zz.1)) ⟨hx, hb, hml, hown, hts⟩ (fun sz => kX2_copyFrom l D kI kC kG kJ o0_a t_a1 sz w0 u.2.2.2.1 _ hw) (cwV 1 hts gX3_takeBack_X2_copyFrom rfl rfl rfl hdX2_copyFrom ⟨Nat.le_of_ble_eq_true rfl, Nat.le_of_ble_eq_true rfl⟩) hK hP hD hE hS hA [18, 19, 20, 21, 6, 7, 8, 9] [0, 1, 2, 3, 4, 5, 10, 11, 12, 13, 14, 15, 16, 17] rfl rfl rfl rfl (by decide) [0, 1, 2, 3, 4, 5, 18, 19, 20, 21, 6, 7, 8, 9, 10, 11, 12, 13, 14, 15, 16, 17] rfl (fun _ => rfl) (ci := 1) (q0 := 0) rfl rfl rfl rfl hl.1 rfl (Nat.le_of_ble_eq_true rfl) dX3_takeBack_30 ⟨Nat.le_of_ble_eq_true rfl, Nat.le_of_ble_eq_true rfl⟩ (fun w14 H locs hw hP hD hS => ?_)
      have hP : va_P D vwCl (wH kI kG t_h t_st t_a0 t_a1 t_a2 t_a3 (u.1, u.2.1, u.2.2.1, w14.2, u.2.2.2.2.1, u.2.2.2.2.2) ++ wG kI o0_a w14.1) H := hP
      have hD : va_D A (wH kI kG t_h t_st t_a0 t_a1 t_a2 t_a3 (u.1, u.2.1, u.2.2.1, w14.2, u.2.2.2.2.1, u.2.2.2.2.2) ++ wG kI o0_a w14.1) := hD
      refine lv_aload_n hx hb dX3_takeBack_33 rfl (lv_at hl 2 rfl) ?_
      refine lv_iload_n hx hb dX3_takeBack_34 rfl (lv_at hl 1 rfl) ?_
      refine va_put (D := D) (ci := 2) (v := .int 1) (ty := tyX3 1) (C := RX3) (T := TX3) (N := 3) hx hb hts (fun _ h => List.mem_cons_of_mem _ (List.mem_append_left _ (List.mem_append_left _ (List.mem_append_right _ h)))) tyX3 tyX3_ok nmX3 hown hK hP hD hS 0 rfl rfl 1 (by decide) (hts (.fieldLink RX3 16 "HazelGift$History" "next" "I") (List.mem_of_getElem? (i := 1) rfl)) (fun _ h9 => h9) rfl (tyX3_ok 1 (by decide)) rfl rfl (Nat.le_of_ble_eq_true rfl) dX3_takeBack_35 (fun H locs hP hD hS => ?_)
      have hP : va_P D vwCl (wH kI kG t_h t_st t_a0 t_a1 t_a2 t_a3 (1, u.2.1, u.2.2.1, w14.2, u.2.2.2.2.1, u.2.2.2.2.2) ++ wG kI o0_a w14.1) H := hP
      have hD : va_D A (wH kI kG t_h t_st t_a0 t_a1 t_a2 t_a3 (1, u.2.1, u.2.2.1, w14.2, u.2.2.2.2.1, u.2.2.2.2.2) ++ wG kI o0_a w14.1) := hD
      refine lv_aload_n hx hb dX3_takeBack_38 rfl (lv_at hl 2 rfl) ?_
      refine lv_dup hx hb dX3_takeBack_39 rfl ?_
      refine va_get (D := D) (ci := 2) (v := .int u.2.1) (C := RX3) (T := TX3) (N := 3) hx hb hts (fun _ h => List.mem_cons_of_mem _ (List.mem_append_left _ (List.mem_append_left _ (List.mem_append_right _ h)))) hown hK hP 0 rfl rfl 2 (by decide) (hts (.fieldLink RX3 20 "HazelGift$History" "size" "I") (List.mem_of_getElem? (i := 2) rfl)) (fun _ h9 => h9) rfl dX3_takeBack_40 ?_
      refine lv_iconst (v := 1) hx hb dX3_takeBack_43 (by decide) ?_
      refine lv_isub hx hb dX3_takeBack_44 ?_
      refine lv_topi (fun x15 ex15 => ?_)
      replace hw := hw x15 ex15
      refine va_put (D := D) (ci := 2) (v := .int x15) (ty := tyX3 2) (C := RX3) (T := TX3) (N := 3) hx hb hts (fun _ h => List.mem_cons_of_mem _ (List.mem_append_left _ (List.mem_append_left _ (List.mem_append_right _ h)))) tyX3 tyX3_ok nmX3 hown hK hP hD hS 0 rfl rfl 2 (by decide) (hts (.fieldLink RX3 20 "HazelGift$History" "size" "I") (List.mem_of_getElem? (i := 2) rfl)) (fun _ h9 => h9) rfl (tyX3_ok 2 (by decide)) rfl rfl (Nat.le_of_ble_eq_true rfl) dX3_takeBack_45 (fun H locs hP hD hS => ?_)
      have hP : va_P D vwCl (wH kI kG t_h t_st t_a0 t_a1 t_a2 t_a3 (1, x15, u.2.2.1, w14.2, u.2.2.2.2.1, u.2.2.2.2.2) ++ wG kI o0_a w14.1) H := hP
      have hD : va_D A (wH kI kG t_h t_st t_a0 t_a1 t_a2 t_a3 (1, x15, u.2.2.1, w14.2, u.2.2.2.2.1, u.2.2.2.2.2) ++ wG kI o0_a w14.1) := hD
      exact W.vret hx hb hr (fun t ht hW => ⟨⟨((1, x15, u.2.2.1, w14.2, u.2.2.2.2.1, u.2.2.2.2.2), w14.1), rfl, hw, by rw [ht]; exact hP, va_K.moved hW.alike hK, hD⟩, hS.F ht⟩) hS.2.2 dX3_takeBack_48
  replace hw := Eq.mp (if_neg c11) hw
  by_cases c16 : u.1 = 3
  · replace hw := Eq.mp (if_pos c16) hw
    refine lv_aload_n hx hb dX3_takeBack_0 rfl (lv_at hl 0 rfl) ?_
    refine va_get (D := D) (ci := 2) (v := .int u.1) (C := RX3) (T := TX3) (N := 3) hx hb hts (fun _ h => List.mem_cons_of_mem _ (List.mem_append_left _ (List.mem_append_left _ (List.mem_append_right _ h)))) hown hK hP 0 rfl rfl 1 (by decide) (hts (.fieldLink RX3 16 "HazelGift$History" "next" "I") (List.mem_of_getElem? (i := 1) rfl)) (fun _ h9 => h9) rfl dX3_takeBack_1 ?_
    refine lv_lit (v := 3) c16 ?_
    refine lv_iconst (v := 4) hx hb dX3_takeBack_4 (by decide) ?_
    refine lv_iadd hx hb dX3_takeBack_5 ?_
    refine lv_lit (v := 7) (by decide) ?_
    refine lv_iconst (v := 1) hx hb dX3_takeBack_6 (by decide) ?_
    refine lv_isub hx hb dX3_takeBack_7 ?_
    refine lv_lit (v := 6) (by decide) ?_
    refine lv_iconst (v := 4) hx hb dX3_takeBack_8 (by decide) ?_
    refine lv_irem hx hb dX3_takeBack_9 (by decide) ?_
    refine lv_lit (v := 2) (by decide) ?_
    refine lv_istore_n (lv' := [(2, .int 2), (0, .ref t_h), (1, .ref o0_a.1)]) hx hb dX3_takeBack_10 rfl hl (by decide) rfl (fun ls hl => ?_)
    refine lv_aload_n hx hb dX3_takeBack_11 rfl (lv_at hl 1 rfl) ?_
    refine lv_iload_n hx hb dX3_takeBack_12 rfl (lv_at hl 0 rfl) ?_
    refine gVa (r := .ref t_a2.1) (As := [.int 2]) (rest := []) (cs' := wH kI kG t_h t_st t_a0 t_a1 t_a2 t_a3 u) ⟨hx, hb, hml, hown, hts⟩ (kX3_stateAt_2 l D kI kC kG kJ t_h t_st t_a0 t_a1 t_a2 t_a3 u) (cwV 1 hts gX3_takeBack_X3_stateAt rfl rfl rfl hdX3_stateAt ⟨Nat.le_of_ble_eq_true rfl, Nat.le_of_ble_eq_true rfl⟩) hK hP hE hS [0, 1, 2, 3, 4, 5, 6, 7, 8, 9, 10, 11, 12, 13, 14, 15, 16, 17] rfl (ci := 2) (q0 := 0) rfl rfl rfl rfl hl.1 rfl (Nat.le_of_ble_eq_true rfl) dX3_takeBack_13 ⟨Nat.le_of_ble_eq_true rfl, Nat.le_of_ble_eq_true rfl⟩ ?_
    refine lv_astore_n (lv' := [(3, .ref t_a2.1), (2, .int 2), (0, .ref t_h), (1, .ref o0_a.1)]) hx hb dX3_takeBack_16 rfl hl (by decide) rfl (fun ls hl => ?_)
    refine lv_aload_n hx hb dX3_takeBack_17 rfl (lv_at hl 2 rfl) ?_
    refine va_get (D := D) (ci := 2) (v := .int u.2.1) (C := RX3) (T := TX3) (N := 3) hx hb hts (fun _ h => List.mem_cons_of_mem _ (List.mem_append_left _ (List.mem_append_left _ (List.mem_append_right _ h)))) hown hK hP 0 rfl rfl 2 (by decide) (hts (.fieldLink RX3 20 "HazelGift$History" "size" "I") (List.mem_of_getElem? (i := 2) rfl)) (fun _ h9 => h9) rfl dX3_takeBack_18 ?_
    refine lv_if_le (tgt := 48) hx hb dX3_takeBack_21 (by decide) (fun c18 => ?_) (fun c18 => ?_)
    · replace hw := Eq.mp (if_pos c18) hw
      exact W.vret hx hb hr (fun t ht hW => ⟨⟨(u, w0), rfl, hw, by rw [ht]; exact hP, va_K.moved hW.alike hK, hD⟩, hS.F ht⟩) hS.2.2 dX3_takeBack_48
    · replace hw := Eq.mp (if_neg c18) hw
      refine lv_aload_n hx hb dX3_takeBack_24 rfl (lv_at hl 0 rfl) ?_
      refine lv_ifnull hx hb dX3_takeBack_25 ?_
      refine lv_aload_n hx hb dX3_takeBack_28 rfl (lv_at hl 3 rfl) ?_
      refine lv_aload_n hx hb dX3_takeBack_29 rfl (lv_at hl 0 rfl) ?_
      refine gWVv (S := SG × SG) (As := [.ref t_a2.1]) (rest := []) (wc := wG kI o0_a w0 ++ wG kI t_a2 u.2.2.2.2.1) (wr := [(t_h, .inr (2, [.ref t_st, .int u.1, .int u.2.1])), (t_st, .inl (kG, 4, .inr (.inr (.inr (.inr (fH t_a0 t_a1 t_a2 t_a3))))))] ++ wG kI t_a0 u.2.2.1 ++ wG kI t_a1 u.2.2.2.1 ++ wG kI t_a3 u.2.2.2.2.2) (cs1 := (fun zz : SG × SG => wG kI o0_a zz.1 ++ wG kI t_a2 zz.2)) (ws2 := (fun zz : SG × SG => wH kI kG t_h t_st t_a0 t_a1 t_a2 t_a3 (u.1, u.2.1, u.2.2.1, u.2.2.2.1, zz.2, u.2.2.2.2.2) ++ wG kI o0_a zz.1)) ⟨hx, hb, hml, hown, hts⟩ (fun sz => kX2_copyFrom l D kI kC kG kJ o0_a t_a2 sz w0 u.2.2.2.2.1 _ hw) (cwV 1 hts gX3_takeBack_X2_copyFrom rfl rfl rfl hdX2_copyFrom ⟨Nat.le_of_ble_eq_true rfl, Nat.le_of_ble_eq_true rfl⟩) hK hP hD hE hS hA [18, 19, 20, 21, 10, 11, 12, 13] [0, 1, 2, 3, 4, 5, 6, 7, 8, 9, 14, 15, 16, 17] rfl rfl rfl rfl (by decide) [0, 1, 2, 3, 4, 5, 6, 7, 8, 9, 18, 19, 20, 21, 10, 11, 12, 13, 14, 15, 16, 17] rfl (fun _ => rfl) (ci := 1) (q0 := 0) rfl rfl rfl rfl hl.1 rfl (Nat.le_of_ble_eq_true rfl) dX3_takeBack_30 ⟨Nat.le_of_ble_eq_true rfl, Nat.le_of_ble_eq_true rfl⟩ (fun w19 H locs hw hP hD hS => ?_)
      have hP : va_P D vwCl (wH kI kG t_h t_st t_a0 t_a1 t_a2 t_a3 (u.1, u.2.1, u.2.2.1, u.2.2.2.1, w19.2, u.2.2.2.2.2) ++ wG kI o0_a w19.1) H := hP
      have hD : va_D A (wH kI kG t_h t_st t_a0 t_a1 t_a2 t_a3 (u.1, u.2.1, u.2.2.1, u.2.2.2.1, w19.2, u.2.2.2.2.2) ++ wG kI o0_a w19.1) := hD
      refine lv_aload_n hx hb dX3_takeBack_33 rfl (lv_at hl 2 rfl) ?_
      refine lv_iload_n hx hb dX3_takeBack_34 rfl (lv_at hl 1 rfl) ?_
      refine va_put (D := D) (ci := 2) (v := .int 2) (ty := tyX3 1) (C := RX3) (T := TX3) (N := 3) hx hb hts (fun _ h => List.mem_cons_of_mem _ (List.mem_append_left _ (List.mem_append_left _ (List.mem_append_right _ h)))) tyX3 tyX3_ok nmX3 hown hK hP hD hS 0 rfl rfl 1 (by decide) (hts (.fieldLink RX3 16 "HazelGift$History" "next" "I") (List.mem_of_getElem? (i := 1) rfl)) (fun _ h9 => h9) rfl (tyX3_ok 1 (by decide)) rfl rfl (Nat.le_of_ble_eq_true rfl) dX3_takeBack_35 (fun H locs hP hD hS => ?_)
      have hP : va_P D vwCl (wH kI kG t_h t_st t_a0 t_a1 t_a2 t_a3 (2, u.2.1, u.2.2.1, u.2.2.2.1, w19.2, u.2.2.2.2.2) ++ wG kI o0_a w19.1) H := hP
      have hD : va_D A (wH kI kG t_h t_st t_a0 t_a1 t_a2 t_a3 (2, u.2.1, u.2.2.1, u.2.2.2.1, w19.2, u.2.2.2.2.2) ++ wG kI o0_a w19.1) := hD
      refine lv_aload_n hx hb dX3_takeBack_38 rfl (lv_at hl 2 rfl) ?_
      refine lv_dup hx hb dX3_takeBack_39 rfl ?_
      refine va_get (D := D) (ci := 2) (v := .int u.2.1) (C := RX3) (T := TX3) (N := 3) hx hb hts (fun _ h => List.mem_cons_of_mem _ (List.mem_append_left _ (List.mem_append_left _ (List.mem_append_right _ h)))) hown hK hP 0 rfl rfl 2 (by decide) (hts (.fieldLink RX3 20 "HazelGift$History" "size" "I") (List.mem_of_getElem? (i := 2) rfl)) (fun _ h9 => h9) rfl dX3_takeBack_40 ?_
      refine lv_iconst (v := 1) hx hb dX3_takeBack_43 (by decide) ?_
      refine lv_isub hx hb dX3_takeBack_44 ?_
      refine lv_topi (fun x20 ex20 => ?_)
      replace hw := hw x20 ex20
      refine va_put (D := D) (ci := 2) (v := .int x20) (ty := tyX3 2) (C := RX3) (T := TX3) (N := 3) hx hb hts (fun _ h => List.mem_cons_of_mem _ (List.mem_append_left _ (List.mem_append_left _ (List.mem_append_right _ h)))) tyX3 tyX3_ok nmX3 hown hK hP hD hS 0 rfl rfl 2 (by decide) (hts (.fieldLink RX3 20 "HazelGift$History" "size" "I") (List.mem_of_getElem? (i := 2) rfl)) (fun _ h9 => h9) rfl (tyX3_ok 2 (by decide)) rfl rfl (Nat.le_of_ble_eq_true rfl) dX3_takeBack_45 (fun H locs hP hD hS => ?_)
      have hP : va_P D vwCl (wH kI kG t_h t_st t_a0 t_a1 t_a2 t_a3 (2, x20, u.2.2.1, u.2.2.2.1, w19.2, u.2.2.2.2.2) ++ wG kI o0_a w19.1) H := hP
      have hD : va_D A (wH kI kG t_h t_st t_a0 t_a1 t_a2 t_a3 (2, x20, u.2.2.1, u.2.2.2.1, w19.2, u.2.2.2.2.2) ++ wG kI o0_a w19.1) := hD
      exact W.vret hx hb hr (fun t ht hW => ⟨⟨((2, x20, u.2.2.1, u.2.2.2.1, w19.2, u.2.2.2.2.2), w19.1), rfl, hw, by rw [ht]; exact hP, va_K.moved hW.alike hK, hD⟩, hS.F ht⟩) hS.2.2 dX3_takeBack_48
  replace hw := Eq.mp (if_neg c16) hw
  exact hw.elim
