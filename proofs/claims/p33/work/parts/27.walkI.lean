set_option maxHeartbeats 4000000 in
set_option maxRecDepth 100000 in
theorem kX0_init (l : Launch) (D : va_G) (kI kC kG kJ : ClassId) (h0 : Nat) (sz : Nat) : Met l yX0_init wsX0_init ({ frames := 1, cells := 1, slots := 4, locals := 20 } : Room) (gPw D (gT kI kC kG kJ) [.ref h0] ([(h0, .inr (0, [.int 0, .int 0, .int 0, .null]))]) sz) (va_Qv (fun _ : Nat => True) (gB D (gT kI kC kG kJ) (fun zz : Nat => wB kI h0 zz iB) (va_A ([(h0, .inr (0, [.int 0, .int 0, .int 0, .null]))]) sz)) (va_A ([(h0, .inr (0, [.int 0, .int 0, .int 0, .null]))]) sz)) 1 4 (va_A ([(h0, .inr (0, [.int 0, .int 0, .int 0, .null]))]) sz) := by
  refine Met.ofW (cc := cX0_init) (maxL := 1) (ret := none) (by decide) rfl ?_
  intro p e s m args below meth c s₁ B hml hv
  obtain ⟨rfl, hsz, hP, hK, hD0, hE⟩ := hv
  have hx := B.exec
  have hb := B.bytes
  have hr := B.returns
  have hts := atoms_spec (ws := wsX0_init) B.pre
  have hown : s.vm.findClass RX0 = some m.cls := findClass_of_methodNamed B.named
  have hlocks := B.notSynchronized
  have hin : meth.name = "<init>" := (name_of_methodNamed B.named B.method).1
  subst hsz
  have hD := hD0.self (sz := s.heap.size)
  generalize hAe : va_A ([(h0, .inr (0, [.int 0, .int 0, .int 0, .null]))]) s.heap.size = A at hD hE ⊢
  have hA : ∀ q : Nat, s.heap.size ≤ q → A q := fun q h => by rw [← hAe]; exact Or.inr h
  have hS : va_S A s.heap s.heap [] := va_S.rf
  clear hAe hD0
  have hl := lv_entry ([.ref h0]) (n := 1) (Nat.le_of_ble_eq_true rfl)
  rw [lg_entry_eq]
  generalize (lg_sl ([.ref h0]) ++ List.replicate (1 - (lg_sl ([.ref h0])).length) Slot.unset).toArray = ls at hl ⊢
  have hl : lv_has ls 1 [(0, .ref h0)] := hl
  refine lv_aload_n hx hb dX0_init_0 rfl (lv_at hl 0 rfl) ?_
  refine W.objInit hx hb hown (hts (.methodLink RX0 3 objectInit) (List.mem_of_getElem? (i := 1) rfl)) (hts (.instanceMethod objectInit) (List.mem_of_getElem? (i := 2) rfl)) (hts (.code objectInit ⟨#[0xb1]⟩ 1 none) (List.mem_of_getElem? (i := 3) rfl)) rfl (by rw [hml]; exact hl.1) rfl dX0_init_1 (Nat.le_of_ble_eq_true rfl) (Nat.le_of_ble_eq_true rfl) ?_
  refine W.eq (g2 := F0 m 4 ls []) rfl ?_
  refine lv_aload_n hx hb dX0_init_4 rfl (lv_at hl 0 rfl) ?_
  refine lv_iconst (v := 0) hx hb dX0_init_5 (by decide) ?_
  refine va_put (D := D) (ci := 0) (v := .int 0) (ty := tyX0 0) (C := RX0) (T := TX0) (N := 4) hx hb hts (fun _ h => List.mem_cons_of_mem _ (List.mem_append_right _ h)) tyX0 tyX0_ok nmX0 hown hK hP hD hS 0 rfl rfl 0 (by decide) (hts (.fieldLink RX0 9 "HazelGift$Board" "rule" "I") (List.mem_of_getElem? (i := 4) rfl)) (fun _ h9 => h9) rfl (tyX0_ok 0 (by decide)) rfl rfl (Nat.le_of_ble_eq_true rfl) dX0_init_6 (fun H locs hP hD hS => ?_)
  have hP : va_P D vwCl ([(h0, .inr (0, [.int 0, .int 0, .int 0, .null]))]) H := hP
  have hD : va_D A ([(h0, .inr (0, [.int 0, .int 0, .int 0, .null]))]) := hD
  refine lv_aload_n hx hb dX0_init_9 rfl (lv_at hl 0 rfl) ?_
  refine lv_iconst (v := 0) hx hb dX0_init_10 (by decide) ?_
  refine va_put (D := D) (ci := 0) (v := .int 0) (ty := tyX0 1) (C := RX0) (T := TX0) (N := 4) hx hb hts (fun _ h => List.mem_cons_of_mem _ (List.mem_append_right _ h)) tyX0 tyX0_ok nmX0 hown hK hP hD hS 0 rfl rfl 1 (by decide) (hts (.fieldLink RX0 15 "HazelGift$Board" "filled" "I") (List.mem_of_getElem? (i := 5) rfl)) (fun _ h9 => h9) rfl (tyX0_ok 1 (by decide)) rfl rfl (Nat.le_of_ble_eq_true rfl) dX0_init_11 (fun H locs hP hD hS => ?_)
  have hP : va_P D vwCl ([(h0, .inr (0, [.int 0, .int 0, .int 0, .null]))]) H := hP
  have hD : va_D A ([(h0, .inr (0, [.int 0, .int 0, .int 0, .null]))]) := hD
  refine lv_aload_n hx hb dX0_init_14 rfl (lv_at hl 0 rfl) ?_
  refine lv_iconst (v := 0) hx hb dX0_init_15 (by decide) ?_
  refine va_put (D := D) (ci := 0) (v := .int 0) (ty := tyX0 2) (C := RX0) (T := TX0) (N := 4) hx hb hts (fun _ h => List.mem_cons_of_mem _ (List.mem_append_right _ h)) tyX0 tyX0_ok nmX0 hown hK hP hD hS 0 rfl rfl 2 (by decide) (hts (.fieldLink RX0 18 "HazelGift$Board" "pieces" "I") (List.mem_of_getElem? (i := 6) rfl)) (fun _ h9 => h9) rfl (tyX0_ok 2 (by decide)) rfl rfl (Nat.le_of_ble_eq_true rfl) dX0_init_16 (fun H locs hP hD hS => ?_)
  have hP : va_P D vwCl ([(h0, .inr (0, [.int 0, .int 0, .int 0, .null]))]) H := hP
  have hD : va_D A ([(h0, .inr (0, [.int 0, .int 0, .int 0, .null]))]) := hD
  refine lv_aload_n hx hb dX0_init_19 rfl (lv_at hl 0 rfl) ?_
  refine lv_iconst (v := 4) hx hb dX0_init_20 (by decide) ?_
  refine gNewI hx hb (hts (.arrayClass .int) (List.mem_of_getElem? (i := 7) rfl)) hK hP hD hS hA 4 (by decide) (by decide) (Nat.le_of_ble_eq_true rfl) (Nat.le_of_ble_eq_true rfl) (Nat.le_of_ble_eq_true rfl) dX0_init_21 (fun q1 H hP hD hS => ?_)
  have hP : va_P D vwCl ([(h0, .inr (0, [.int 0, .int 0, .int 0, .null])), (q1, .inl (kI, 4, .inl (fun _ => 0)))]) H := hP
  have hD : va_D A ([(h0, .inr (0, [.int 0, .int 0, .int 0, .null])), (q1, .inl (kI, 4, .inl (fun _ => 0)))]) := hD
  refine va_putF (D := D) (ci := 0) (v := .ref q1) (ty := tyX0 3) (C := RX0) (T := TX0) (N := 4) hx hb hts (fun _ h => List.mem_cons_of_mem _ (List.mem_append_right _ h)) tyX0 tyX0_ok nmX0 hown hK hP hD hS 0 rfl rfl 3 (by decide) (hts (.fieldLink RX0 21 "HazelGift$Board" "present" "[I") (List.mem_of_getElem? (i := 8) rfl)) (fun _ h9 => h9) rfl hin rfl (tyX0_ok 3 (by decide)) rfl rfl (Nat.le_of_ble_eq_true rfl) dX0_init_23 (fun H locs hP hD hS => ?_)
  have hP : va_P D vwCl ([(h0, .inr (0, [.int 0, .int 0, .int 0, .ref q1])), (q1, .inl (kI, 4, .inl (fun _ => 0)))]) H := hP
  have hD : va_D A ([(h0, .inr (0, [.int 0, .int 0, .int 0, .ref q1])), (q1, .inl (kI, 4, .inl (fun _ => 0)))]) := hD
  exact W.vret hx hb hr (fun t ht hW => ⟨⟨q1, rfl, trivial, by rw [ht]; exact hP.sub [0, 1] rfl, va_K.moved hW.alike hK, hD.sub [0, 1] (by decide) rfl⟩, hS.F ht⟩) hS.2.2 dX0_init_26
set_option maxHeartbeats 4000000 in
set_option maxRecDepth 100000 in
theorem kX2_init (l : Launch) (D : va_G) (kI kC kG kJ : ClassId) (h0 : Nat) (sz : Nat) : Met l yX2_init wsX2_init ({ frames := 2, cells := 3, slots := 10, locals := 40 } : Room) (gPw D (gT kI kC kG kJ) [.ref h0] ([(h0, .inr (1, [.null, .int 0, .int 0, .null]))]) sz) (va_Qv (fun _ : (Nat × Nat × Nat) => True) (gB D (gT kI kC kG kJ) (fun zz : (Nat × Nat × Nat) => wG kI (h0, zz.1, zz.2.1, zz.2.2) iG) (va_A ([(h0, .inr (1, [.null, .int 0, .int 0, .null]))]) sz)) (va_A ([(h0, .inr (1, [.null, .int 0, .int 0, .null]))]) sz)) 3 10 (va_A ([(h0, .inr (1, [.null, .int 0, .int 0, .null]))]) sz) := by
  refine Met.ofW (cc := cX2_init) (maxL := 1) (ret := none) (by decide) rfl ?_
  intro p e s m args below meth c s₁ B hml hv
  obtain ⟨rfl, hsz, hP, hK, hD0, hE⟩ := hv
  have hx := B.exec
  have hb := B.bytes
  have hr := B.returns
  have hts := atoms_spec (ws := wsX2_init) B.pre
  have hown : s.vm.findClass RX2 = some m.cls := findClass_of_methodNamed B.named
  have hlocks := B.notSynchronized
  have hin : meth.name = "<init>" := (name_of_methodNamed B.named B.method).1
  subst hsz
  have hD := hD0.self (sz := s.heap.size)
  generalize hAe : va_A ([(h0, .inr (1, [.null, .int 0, .int 0, .null]))]) s.heap.size = A at hD hE ⊢
  have hA : ∀ q : Nat, s.heap.size ≤ q → A q := fun q h => by rw [← hAe]; exact Or.inr h
  have hS : va_S A s.heap s.heap [] := va_S.rf
  clear hAe hD0
  have hl := lv_entry ([.ref h0]) (n := 1) (Nat.le_of_ble_eq_true rfl)
  rw [lg_entry_eq]
  generalize (lg_sl ([.ref h0]) ++ List.replicate (1 - (lg_sl ([.ref h0])).length) Slot.unset).toArray = ls at hl ⊢
  have hl : lv_has ls 1 [(0, .ref h0)] := hl
  refine lv_aload_n hx hb dX2_init_0 rfl (lv_at hl 0 rfl) ?_
  refine W.objInit hx hb hown (hts (.methodLink RX2 3 objectInit) (List.mem_of_getElem? (i := 1) rfl)) (hts (.instanceMethod objectInit) (List.mem_of_getElem? (i := 2) rfl)) (hts (.code objectInit ⟨#[0xb1]⟩ 1 none) (List.mem_of_getElem? (i := 3) rfl)) rfl (by rw [hml]; exact hl.1) rfl dX2_init_1 (Nat.le_of_ble_eq_true rfl) (Nat.le_of_ble_eq_true rfl) ?_
  refine W.eq (g2 := F0 m 4 ls []) rfl ?_
  refine lv_aload_n hx hb dX2_init_4 rfl (lv_at hl 0 rfl) ?_
  refine va_new (ci := 0) (fs := [.int 0, .int 0, .int 0, .null]) (C := RX0) (T := TX0) (N := 4) hx hb hts (fun _ h => List.mem_cons_of_mem _ (List.mem_append_left _ (List.mem_append_right _ h))) tyX0 tyX0_ok hown (hts (.classLink RX2 9 RX0) (List.mem_of_getElem? (i := 4) rfl)) (hts (.instantiable RX0 4) (List.mem_of_getElem? (i := 5) rfl)) (hts (.initialized RX0) (List.mem_of_getElem? (i := 6) rfl)) hK hP hD hS hA rfl (fun j hj => by rcases (show j = 0 ∨ j = 1 ∨ j = 2 ∨ j = 3 by omega) with rfl | rfl | rfl | rfl <;> rfl) (Nat.le_of_ble_eq_true rfl) (Nat.le_of_ble_eq_true rfl) dX2_init_5 (fun q1 H hP hD hS => ?_)
  have hP : va_P D vwCl ([(h0, .inr (1, [.null, .int 0, .int 0, .null])), (q1, .inr (0, [.int 0, .int 0, .int 0, .null]))]) H := hP
  have hD : va_D A ([(h0, .inr (1, [.null, .int 0, .int 0, .null])), (q1, .inr (0, [.int 0, .int 0, .int 0, .null]))]) := hD
  refine lv_dup hx hb dX2_init_8 rfl ?_
  refine gIv (S := Nat) (As := []) (rest := [.ref q1, .ref h0]) (wc := [(q1, .inr (0, [.int 0, .int 0, .int 0, .null]))]) (wr := [(h0, .inr (1, [.null, .int 0, .int 0, .null]))]) (cs1 := (fun zz : Nat => wB kI q1 zz iB)) (ws2 := (fun zz : Nat => [(h0, .inr (1, [.null, .int 0, .int 0, .null]))] ++ wB kI q1 zz iB)) ⟨hx, hb, hml, hown, hts⟩ (fun sz => kX0_init l D kI kC kG kJ q1 sz) (cwI 0 hts gX2_init_X0_init rfl rfl rfl (hts (.initialized RX0) (List.mem_of_getElem? (i := 6) rfl)) (hts (.methodLink RX2 11 yX0_init) (List.mem_of_getElem? (i := 12) rfl)) (hts (.instanceMethod yX0_init) (List.mem_of_getElem? (i := 13) rfl)) rfl hdX0_init ⟨Nat.le_of_ble_eq_true rfl, Nat.le_of_ble_eq_true rfl⟩) hK hP hD hE hS hA [1] [0] rfl rfl rfl rfl (by decide) [0, 1, 2] rfl (fun _ => rfl) rfl hl.1 rfl (Nat.le_of_ble_eq_true rfl) dX2_init_9 ⟨Nat.le_of_ble_eq_true rfl, Nat.le_of_ble_eq_true rfl⟩ (fun z2 H locs hw hP hD hS => ?_)
  have hP : va_P D vwCl ([(h0, .inr (1, [.null, .int 0, .int 0, .null]))] ++ wB kI q1 z2 iB) H := hP
  have hD : va_D A ([(h0, .inr (1, [.null, .int 0, .int 0, .null]))] ++ wB kI q1 z2 iB) := hD
  refine va_putF (D := D) (ci := 1) (v := .ref q1) (ty := tyX2 0) (C := RX2) (T := TX2) (N := 4) hx hb hts (fun _ h => List.mem_cons_of_mem _ (List.mem_append_right _ h)) tyX2 tyX2_ok nmX2 hown hK hP hD hS 0 rfl rfl 0 (by decide) (hts (.fieldLink RX2 12 "HazelGift$Game" "board" "LHazelGift$Board;") (List.mem_of_getElem? (i := 7) rfl)) (fun _ h9 => h9) rfl hin rfl (tyX2_ok 0 (by decide)) rfl rfl (Nat.le_of_ble_eq_true rfl) dX2_init_12 (fun H locs hP hD hS => ?_)
  have hP : va_P D vwCl ([(h0, .inr (1, [.ref q1, .int 0, .int 0, .null]))] ++ wB kI q1 z2 iB) H := hP
  have hD : va_D A ([(h0, .inr (1, [.ref q1, .int 0, .int 0, .null]))] ++ wB kI q1 z2 iB) := hD
  refine lv_aload_n hx hb dX2_init_15 rfl (lv_at hl 0 rfl) ?_
  refine lv_iconst (v := (-1)) hx hb dX2_init_16 (by decide) ?_
  refine va_put (D := D) (ci := 1) (v := .int (-1)) (ty := tyX2 1) (C := RX2) (T := TX2) (N := 4) hx hb hts (fun _ h => List.mem_cons_of_mem _ (List.mem_append_right _ h)) tyX2 tyX2_ok nmX2 hown hK hP hD hS 0 rfl rfl 1 (by decide) (hts (.fieldLink RX2 18 "HazelGift$Game" "gift" "I") (List.mem_of_getElem? (i := 8) rfl)) (fun _ h9 => h9) rfl (tyX2_ok 1 (by decide)) rfl rfl (Nat.le_of_ble_eq_true rfl) dX2_init_17 (fun H locs hP hD hS => ?_)
  have hP : va_P D vwCl ([(h0, .inr (1, [.ref q1, .int (-1), .int 0, .null]))] ++ wB kI q1 z2 iB) H := hP
  have hD : va_D A ([(h0, .inr (1, [.ref q1, .int (-1), .int 0, .null]))] ++ wB kI q1 z2 iB) := hD
  refine lv_aload_n hx hb dX2_init_20 rfl (lv_at hl 0 rfl) ?_
  refine lv_iconst (v := (-1)) hx hb dX2_init_21 (by decide) ?_
  refine va_put (D := D) (ci := 1) (v := .int (-1)) (ty := tyX2 2) (C := RX2) (T := TX2) (N := 4) hx hb hts (fun _ h => List.mem_cons_of_mem _ (List.mem_append_right _ h)) tyX2 tyX2_ok nmX2 hown hK hP hD hS 0 rfl rfl 2 (by decide) (hts (.fieldLink RX2 22 "HazelGift$Game" "winner" "I") (List.mem_of_getElem? (i := 9) rfl)) (fun _ h9 => h9) rfl (tyX2_ok 2 (by decide)) rfl rfl (Nat.le_of_ble_eq_true rfl) dX2_init_22 (fun H locs hP hD hS => ?_)
  have hP : va_P D vwCl ([(h0, .inr (1, [.ref q1, .int (-1), .int (-1), .null]))] ++ wB kI q1 z2 iB) H := hP
  have hD : va_D A ([(h0, .inr (1, [.ref q1, .int (-1), .int (-1), .null]))] ++ wB kI q1 z2 iB) := hD
  refine lv_aload_n hx hb dX2_init_25 rfl (lv_at hl 0 rfl) ?_
  refine lv_iconst (v := 2) hx hb dX2_init_26 (by decide) ?_
  refine gNewI hx hb (hts (.arrayClass .int) (List.mem_of_getElem? (i := 10) rfl)) hK hP hD hS hA 2 (by decide) (by decide) (Nat.le_of_ble_eq_true rfl) (Nat.le_of_ble_eq_true rfl) (Nat.le_of_ble_eq_true rfl) dX2_init_27 (fun q3 H hP hD hS => ?_)
  have hP : va_P D vwCl ([(h0, .inr (1, [.ref q1, .int (-1), .int (-1), .null]))] ++ wB kI q1 z2 iB ++ [(q3, .inl (kI, 2, .inl (fun _ => 0)))]) H := hP
  have hD : va_D A ([(h0, .inr (1, [.ref q1, .int (-1), .int (-1), .null]))] ++ wB kI q1 z2 iB ++ [(q3, .inl (kI, 2, .inl (fun _ => 0)))]) := hD
  refine va_putF (D := D) (ci := 1) (v := .ref q3) (ty := tyX2 3) (C := RX2) (T := TX2) (N := 4) hx hb hts (fun _ h => List.mem_cons_of_mem _ (List.mem_append_right _ h)) tyX2 tyX2_ok nmX2 hown hK hP hD hS 0 rfl rfl 3 (by decide) (hts (.fieldLink RX2 25 "HazelGift$Game" "victories" "[I") (List.mem_of_getElem? (i := 11) rfl)) (fun _ h9 => h9) rfl hin rfl (tyX2_ok 3 (by decide)) rfl rfl (Nat.le_of_ble_eq_true rfl) dX2_init_29 (fun H locs hP hD hS => ?_)
  have hP : va_P D vwCl ([(h0, .inr (1, [.ref q1, .int (-1), .int (-1), .ref q3]))] ++ wB kI q1 z2 iB ++ [(q3, .inl (kI, 2, .inl (fun _ => 0)))]) H := hP
  have hD : va_D A ([(h0, .inr (1, [.ref q1, .int (-1), .int (-1), .ref q3]))] ++ wB kI q1 z2 iB ++ [(q3, .inl (kI, 2, .inl (fun _ => 0)))]) := hD
  exact W.vret hx hb hr (fun t ht hW => ⟨⟨(q1, z2, q3), rfl, trivial, by rw [ht]; exact hP.sub [0, 3, 1, 2] rfl, va_K.moved hW.alike hK, hD.sub [0, 3, 1, 2] (by decide) rfl⟩, hS.F ht⟩) hS.2.2 dX2_init_32
set_option maxHeartbeats 4000000 in
set_option maxRecDepth 100000 in
theorem kX4_init (l : Launch) (D : va_G) (kI kC kG kJ : ClassId) (h0 : Nat) (sz : Nat) : Met l yX4_init wsX4_init ({ frames := 1, cells := 1, slots := 60, locals := 20 } : Room) (gPw D (gT kI kC kG kJ) [.ref h0] ([(h0, .inr (3, [.null, .int 0]))]) sz) (va_Qv (fun _ : Nat => True) (gB D (gT kI kC kG kJ) (fun zz : Nat => wT kC h0 zz iT) (va_A ([(h0, .inr (3, [.null, .int 0]))]) sz)) (va_A ([(h0, .inr (3, [.null, .int 0]))]) sz)) 1 60 (va_A ([(h0, .inr (3, [.null, .int 0]))]) sz) := by
  refine Met.ofW (cc := cX4_init) (maxL := 1) (ret := none) (by decide) rfl ?_
  intro p e s m args below meth c s₁ B hml hv
  obtain ⟨rfl, hsz, hP, hK, hD0, hE⟩ := hv
  have hx := B.exec
  have hb := B.bytes
  have hr := B.returns
  have hts := atoms_spec (ws := wsX4_init) B.pre
  have hown : s.vm.findClass RX4 = some m.cls := findClass_of_methodNamed B.named
  have hlocks := B.notSynchronized
  have hin : meth.name = "<init>" := (name_of_methodNamed B.named B.method).1
  subst hsz
  have hD := hD0.self (sz := s.heap.size)
  generalize hAe : va_A ([(h0, .inr (3, [.null, .int 0]))]) s.heap.size = A at hD hE ⊢
  have hA : ∀ q : Nat, s.heap.size ≤ q → A q := fun q h => by rw [← hAe]; exact Or.inr h
  have hS : va_S A s.heap s.heap [] := va_S.rf
  clear hAe hD0
  have hl := lv_entry ([.ref h0]) (n := 1) (Nat.le_of_ble_eq_true rfl)
  rw [lg_entry_eq]
  generalize (lg_sl ([.ref h0]) ++ List.replicate (1 - (lg_sl ([.ref h0])).length) Slot.unset).toArray = ls at hl ⊢
  have hl : lv_has ls 1 [(0, .ref h0)] := hl
  refine lv_aload_n hx hb dX4_init_0 rfl (lv_at hl 0 rfl) ?_
  refine W.objInit hx hb hown (hts (.methodLink RX4 3 objectInit) (List.mem_of_getElem? (i := 1) rfl)) (hts (.instanceMethod objectInit) (List.mem_of_getElem? (i := 2) rfl)) (hts (.code objectInit ⟨#[0xb1]⟩ 1 none) (List.mem_of_getElem? (i := 3) rfl)) rfl (by rw [hml]; exact hl.1) rfl dX4_init_1 (Nat.le_of_ble_eq_true rfl) (Nat.le_of_ble_eq_true rfl) ?_
  refine W.eq (g2 := F0 m 4 ls []) rfl ?_
  refine lv_aload_n hx hb dX4_init_4 rfl (lv_at hl 0 rfl) ?_
  refine lv_bipush (v := 60) hx hb dX4_init_5 (by decide) ?_
  refine gNewC hx hb (hts (.arrayClass .char) (List.mem_of_getElem? (i := 4) rfl)) hK hP hD hS hA 60 (by decide) (by decide) (Nat.le_of_ble_eq_true rfl) (Nat.le_of_ble_eq_true rfl) (Nat.le_of_ble_eq_true rfl) dX4_init_7 (fun q1 H hP hD hS => ?_)
  have hP : va_P D vwCl ([(h0, .inr (3, [.null, .int 0])), (q1, .inl (kC, 60, .inl (fun _ => 0)))]) H := hP
  have hD : va_D A ([(h0, .inr (3, [.null, .int 0])), (q1, .inl (kC, 60, .inl (fun _ => 0)))]) := hD
  refine va_putF (D := D) (ci := 3) (v := .ref q1) (ty := tyX4 0) (C := RX4) (T := TX4) (N := 2) hx hb hts (fun _ h => List.mem_cons_of_mem _ (List.mem_append_right _ h)) tyX4 tyX4_ok nmX4 hown hK hP hD hS 0 rfl rfl 0 (by decide) (hts (.fieldLink RX4 11 "HazelGift$MoveText" "characters" "[C") (List.mem_of_getElem? (i := 5) rfl)) (fun _ h9 => h9) rfl hin rfl (tyX4_ok 0 (by decide)) rfl rfl (Nat.le_of_ble_eq_true rfl) dX4_init_9 (fun H locs hP hD hS => ?_)
  have hP : va_P D vwCl ([(h0, .inr (3, [.ref q1, .int 0])), (q1, .inl (kC, 60, .inl (fun _ => 0)))]) H := hP
  have hD : va_D A ([(h0, .inr (3, [.ref q1, .int 0])), (q1, .inl (kC, 60, .inl (fun _ => 0)))]) := hD
  refine lv_aload_n hx hb dX4_init_12 rfl (lv_at hl 0 rfl) ?_
  refine lv_iconst (v := 0) hx hb dX4_init_13 (by decide) ?_
  refine va_put (D := D) (ci := 3) (v := .int 0) (ty := tyX4 1) (C := RX4) (T := TX4) (N := 2) hx hb hts (fun _ h => List.mem_cons_of_mem _ (List.mem_append_right _ h)) tyX4 tyX4_ok nmX4 hown hK hP hD hS 0 rfl rfl 1 (by decide) (hts (.fieldLink RX4 15 "HazelGift$MoveText" "length" "I") (List.mem_of_getElem? (i := 6) rfl)) (fun _ h9 => h9) rfl (tyX4_ok 1 (by decide)) rfl rfl (Nat.le_of_ble_eq_true rfl) dX4_init_14 (fun H locs hP hD hS => ?_)
  have hP : va_P D vwCl ([(h0, .inr (3, [.ref q1, .int 0])), (q1, .inl (kC, 60, .inl (fun _ => 0)))]) H := hP
  have hD : va_D A ([(h0, .inr (3, [.ref q1, .int 0])), (q1, .inl (kC, 60, .inl (fun _ => 0)))]) := hD
  exact W.vret hx hb hr (fun t ht hW => ⟨⟨q1, rfl, trivial, by rw [ht]; exact hP.sub [0, 1] rfl, va_K.moved hW.alike hK, hD.sub [0, 1] (by decide) rfl⟩, hS.F ht⟩) hS.2.2 dX4_init_17
set_option maxHeartbeats 4000000 in
set_option maxRecDepth 100000 in
theorem kX3_init (l : Launch) (D : va_G) (kI kC kG kJ : ClassId) (h0 : Nat) (sz : Nat) : Met l yX3_init wsX3_init ({ frames := 3, cells := 17, slots := 60, locals := 60 } : Room) (gPw D (gT kI kC kG kJ) [.ref h0] ([(h0, .inr (2, [.null, .int 0, .int 0]))]) sz) (va_Qv (fun _ : (Nat × AG × AG × AG × AG) => True) (gB D (gT kI kC kG kJ) (fun zz : (Nat × AG × AG × AG × AG) => wH kI kG h0 zz.1 zz.2.1 zz.2.2.1 zz.2.2.2.1 zz.2.2.2.2 iH) (va_A ([(h0, .inr (2, [.null, .int 0, .int 0]))]) sz)) (va_A ([(h0, .inr (2, [.null, .int 0, .int 0]))]) sz)) 17 60 (va_A ([(h0, .inr (2, [.null, .int 0, .int 0]))]) sz) := by
  refine Met.ofW (cc := cX3_init) (maxL := 2) (ret := none) (by decide) rfl ?_
  intro p e s m args below meth c s₁ B hml hv
  obtain ⟨rfl, hsz, hP, hK, hD0, hE⟩ := hv
  have hx := B.exec
  have hb := B.bytes
  have hr := B.returns
  have hts := atoms_spec (ws := wsX3_init) B.pre
  have hown : s.vm.findClass RX3 = some m.cls := findClass_of_methodNamed B.named
  have hlocks := B.notSynchronized
  have hin : meth.name = "<init>" := (name_of_methodNamed B.named B.method).1
  subst hsz
  have hD := hD0.self (sz := s.heap.size)
  generalize hAe : va_A ([(h0, .inr (2, [.null, .int 0, .int 0]))]) s.heap.size = A at hD hE ⊢
  have hA : ∀ q : Nat, s.heap.size ≤ q → A q := fun q h => by rw [← hAe]; exact Or.inr h
  have hS : va_S A s.heap s.heap [] := va_S.rf
  clear hAe hD0
  have hl := lv_entry ([.ref h0]) (n := 2) (Nat.le_of_ble_eq_true rfl)
  rw [lg_entry_eq]
  generalize (lg_sl ([.ref h0]) ++ List.replicate (2 - (lg_sl ([.ref h0])).length) Slot.unset).toArray = ls at hl ⊢
  have hl : lv_has ls 2 [(0, .ref h0)] := hl
  refine lv_aload_n hx hb dX3_init_0 rfl (lv_at hl 0 rfl) ?_
  refine W.objInit hx hb hown (hts (.methodLink RX3 1 objectInit) (List.mem_of_getElem? (i := 1) rfl)) (hts (.instanceMethod objectInit) (List.mem_of_getElem? (i := 2) rfl)) (hts (.code objectInit ⟨#[0xb1]⟩ 1 none) (List.mem_of_getElem? (i := 3) rfl)) rfl (by rw [hml]; exact hl.1) rfl dX3_init_1 (Nat.le_of_ble_eq_true rfl) (Nat.le_of_ble_eq_true rfl) ?_
  refine W.eq (g2 := F0 m 4 ls []) rfl ?_
  refine lv_aload_n hx hb dX3_init_4 rfl (lv_at hl 0 rfl) ?_
  refine lv_iconst (v := 4) hx hb dX3_init_5 (by decide) ?_
  refine gNewG hx hb hown (hts (.classLink RX3 9 "HazelGift$Game") (List.mem_of_getElem? (i := 4) rfl)) hE.2.2.2.2.2.2 hK hP hD hS hA 4 (by decide) (by decide) (Nat.le_of_ble_eq_true rfl) (Nat.le_of_ble_eq_true rfl) (Nat.le_of_ble_eq_true rfl) dX3_init_6 (fun q1 H hP hD hS => ?_)
  have hP : va_P D vwCl ([(h0, .inr (2, [.null, .int 0, .int 0])), (q1, .inl (kG, 4, .inr (.inr (.inr (.inr (fun _ => none))))))]) H := hP
  have hD : va_D A ([(h0, .inr (2, [.null, .int 0, .int 0])), (q1, .inl (kG, 4, .inr (.inr (.inr (.inr (fun _ => none))))))]) := hD
  refine va_putF (D := D) (ci := 2) (v := .ref q1) (ty := tyX3 0) (C := RX3) (T := TX3) (N := 3) hx hb hts (fun _ h => List.mem_cons_of_mem _ (List.mem_append_left _ (List.mem_append_left _ (List.mem_append_right _ h)))) tyX3 tyX3_ok nmX3 hown hK hP hD hS 0 rfl rfl 0 (by decide) (hts (.fieldLink RX3 11 "HazelGift$History" "states" "[LHazelGift$Game;") (List.mem_of_getElem? (i := 5) rfl)) (fun _ h9 => h9) rfl hin rfl (tyX3_ok 0 (by decide)) rfl rfl (Nat.le_of_ble_eq_true rfl) dX3_init_9 (fun H locs hP hD hS => ?_)
  have hP : va_P D vwCl ([(h0, .inr (2, [.ref q1, .int 0, .int 0])), (q1, .inl (kG, 4, .inr (.inr (.inr (.inr (fun _ => none))))))]) H := hP
  have hD : va_D A ([(h0, .inr (2, [.ref q1, .int 0, .int 0])), (q1, .inl (kG, 4, .inr (.inr (.inr (.inr (fun _ => none))))))]) := hD
  refine lv_iconst (v := 0) hx hb dX3_init_12 (by decide) ?_
  refine lv_istore_n (lv' := [(1, .int 0), (0, .ref h0)]) hx hb dX3_init_13 rfl hl (by decide) rfl (fun ls hl => ?_)
  refine lv_iload_n hx hb dX3_init_14 rfl (lv_at hl 0 rfl) ?_
  refine lv_aload_n hx hb dX3_init_15 rfl (lv_at hl 1 rfl) ?_
  refine va_get (D := D) (ci := 2) (v := .ref q1) (C := RX3) (T := TX3) (N := 3) hx hb hts (fun _ h => List.mem_cons_of_mem _ (List.mem_append_left _ (List.mem_append_left _ (List.mem_append_right _ h)))) hown hK hP 0 rfl rfl 0 (by decide) (hts (.fieldLink RX3 11 "HazelGift$History" "states" "[LHazelGift$Game;") (List.mem_of_getElem? (i := 5) rfl)) (fun _ h9 => h9) rfl dX3_init_16 ?_
  refine va_alen (v := 4) hx hb hK hP 1 2 rfl rfl rfl dX3_init_19 ?_
  refine lv_icmp_ge (tgt := 42) hx hb dX3_init_20 (by decide) (fun c2 => ?_) (fun c2 => ?_)
  · exact absurd c2 (by decide)
  refine lv_aload_n hx hb dX3_init_23 rfl (lv_at hl 1 rfl) ?_
  refine va_get (D := D) (ci := 2) (v := .ref q1) (C := RX3) (T := TX3) (N := 3) hx hb hts (fun _ h => List.mem_cons_of_mem _ (List.mem_append_left _ (List.mem_append_left _ (List.mem_append_right _ h)))) hown hK hP 0 rfl rfl 0 (by decide) (hts (.fieldLink RX3 11 "HazelGift$History" "states" "[LHazelGift$Game;") (List.mem_of_getElem? (i := 5) rfl)) (fun _ h9 => h9) rfl dX3_init_24 ?_
  refine lv_iload_n hx hb dX3_init_27 rfl (lv_at hl 0 rfl) ?_
  refine va_new (ci := 1) (fs := [.null, .int 0, .int 0, .null]) (C := RX2) (T := TX2) (N := 4) hx hb hts (fun _ h => List.mem_cons_of_mem _ (List.mem_append_left _ (List.mem_append_right _ h))) tyX2 tyX2_ok hown (hts (.classLink RX3 9 RX2) (List.mem_of_getElem? (i := 4) rfl)) (hts (.instantiable RX2 4) (List.mem_of_getElem? (i := 6) rfl)) (hts (.initialized RX2) (List.mem_of_getElem? (i := 7) rfl)) hK hP hD hS hA rfl (fun j hj => by rcases (show j = 0 ∨ j = 1 ∨ j = 2 ∨ j = 3 by omega) with rfl | rfl | rfl | rfl <;> rfl) (Nat.le_of_ble_eq_true rfl) (Nat.le_of_ble_eq_true rfl) dX3_init_28 (fun q3 H hP hD hS => ?_)
  have hP : va_P D vwCl ([(h0, .inr (2, [.ref q1, .int 0, .int 0])), (q1, .inl (kG, 4, .inr (.inr (.inr (.inr (fun _ => none)))))), (q3, .inr (1, [.null, .int 0, .int 0, .null]))]) H := hP
  have hD : va_D A ([(h0, .inr (2, [.ref q1, .int 0, .int 0])), (q1, .inl (kG, 4, .inr (.inr (.inr (.inr (fun _ => none)))))), (q3, .inr (1, [.null, .int 0, .int 0, .null]))]) := hD
  refine lv_dup hx hb dX3_init_31 rfl ?_
  refine gIv (S := (Nat × Nat × Nat)) (As := []) (rest := [.ref q3, .int 0, .ref q1]) (wc := [(q3, .inr (1, [.null, .int 0, .int 0, .null]))]) (wr := [(h0, .inr (2, [.ref q1, .int 0, .int 0])), (q1, .inl (kG, 4, .inr (.inr (.inr (.inr (fun _ => none))))))]) (cs1 := (fun zz : (Nat × Nat × Nat) => wG kI (q3, zz.1, zz.2.1, zz.2.2) iG)) (ws2 := (fun zz : (Nat × Nat × Nat) => [(h0, .inr (2, [.ref q1, .int 0, .int 0])), (q1, .inl (kG, 4, .inr (.inr (.inr (.inr (fun _ => none))))))] ++ wG kI (q3, zz.1, zz.2.1, zz.2.2) iG)) ⟨hx, hb, hml, hown, hts⟩ (fun sz => kX2_init l D kI kC kG kJ q3 sz) (cwI 0 hts gX3_init_X2_init rfl rfl rfl (hts (.initialized RX2) (List.mem_of_getElem? (i := 7) rfl)) (hts (.methodLink RX3 15 yX2_init) (List.mem_of_getElem? (i := 10) rfl)) (hts (.instanceMethod yX2_init) (List.mem_of_getElem? (i := 11) rfl)) rfl hdX2_init ⟨Nat.le_of_ble_eq_true rfl, Nat.le_of_ble_eq_true rfl⟩) hK hP hD hE hS hA [2] [0, 1] rfl rfl rfl rfl (by decide) [0, 1, 2, 3, 4, 5] rfl (fun _ => rfl) rfl hl.1 rfl (Nat.le_of_ble_eq_true rfl) dX3_init_32 ⟨Nat.le_of_ble_eq_true rfl, Nat.le_of_ble_eq_true rfl⟩ (fun z4 H locs hw hP hD hS => ?_)
  have hP : va_P D vwCl ([(h0, .inr (2, [.ref q1, .int 0, .int 0])), (q1, .inl (kG, 4, .inr (.inr (.inr (.inr (fun _ => none))))))] ++ wG kI (q3, z4.1, z4.2.1, z4.2.2) iG) H := hP
  have hD : va_D A ([(h0, .inr (2, [.ref q1, .int 0, .int 0])), (q1, .inl (kG, 4, .inr (.inr (.inr (.inr (fun _ => none))))))] ++ wG kI (q3, z4.1, z4.2.1, z4.2.2) iG) := hD
  refine va_astq hx hb hK hP hD hS 1 2 2 1 rfl rfl rfl rfl (gin (by decide)) dX3_init_35 (fun H locs hP hD hS => ?_)
  have hP : va_P D vwCl ([(h0, .inr (2, [.ref q1, .int 0, .int 0])), (q1, .inl (kG, 4, .inr (.inr (.inr (.inr (va_up (fun _ => none) 0 (some q3)))))))] ++ wG kI (q3, z4.1, z4.2.1, z4.2.2) iG) H := hP
  have hD : va_D A ([(h0, .inr (2, [.ref q1, .int 0, .int 0])), (q1, .inl (kG, 4, .inr (.inr (.inr (.inr (va_up (fun _ => none) 0 (some q3)))))))] ++ wG kI (q3, z4.1, z4.2.1, z4.2.2) iG) := hD
  refine lv_iinc (v := 1) (lv' := [(1, .int 1), (0, .ref h0)]) hx hb dX3_init_36 hl (k := 0) rfl (by decide) (by decide) rfl (fun ls hl => ?_)
  refine lv_goto (tgt := 14) hx hb dX3_init_39 (by decide) ?_
  refine lv_iload_n hx hb dX3_init_14 rfl (lv_at hl 0 rfl) ?_
  refine lv_aload_n hx hb dX3_init_15 rfl (lv_at hl 1 rfl) ?_
  refine va_get (D := D) (ci := 2) (v := .ref q1) (C := RX3) (T := TX3) (N := 3) hx hb hts (fun _ h => List.mem_cons_of_mem _ (List.mem_append_left _ (List.mem_append_left _ (List.mem_append_right _ h)))) hown hK hP 0 rfl rfl 0 (by decide) (hts (.fieldLink RX3 11 "HazelGift$History" "states" "[LHazelGift$Game;") (List.mem_of_getElem? (i := 5) rfl)) (fun _ h9 => h9) rfl dX3_init_16 ?_
  refine va_alen (v := 4) hx hb hK hP 1 2 rfl rfl rfl dX3_init_19 ?_
  refine lv_icmp_ge (tgt := 42) hx hb dX3_init_20 (by decide) (fun c5 => ?_) (fun c5 => ?_)
  · exact absurd c5 (by decide)
  refine lv_aload_n hx hb dX3_init_23 rfl (lv_at hl 1 rfl) ?_
  refine va_get (D := D) (ci := 2) (v := .ref q1) (C := RX3) (T := TX3) (N := 3) hx hb hts (fun _ h => List.mem_cons_of_mem _ (List.mem_append_left _ (List.mem_append_left _ (List.mem_append_right _ h)))) hown hK hP 0 rfl rfl 0 (by decide) (hts (.fieldLink RX3 11 "HazelGift$History" "states" "[LHazelGift$Game;") (List.mem_of_getElem? (i := 5) rfl)) (fun _ h9 => h9) rfl dX3_init_24 ?_
  refine lv_iload_n hx hb dX3_init_27 rfl (lv_at hl 0 rfl) ?_
  refine va_new (ci := 1) (fs := [.null, .int 0, .int 0, .null]) (C := RX2) (T := TX2) (N := 4) hx hb hts (fun _ h => List.mem_cons_of_mem _ (List.mem_append_left _ (List.mem_append_right _ h))) tyX2 tyX2_ok hown (hts (.classLink RX3 9 RX2) (List.mem_of_getElem? (i := 4) rfl)) (hts (.instantiable RX2 4) (List.mem_of_getElem? (i := 6) rfl)) (hts (.initialized RX2) (List.mem_of_getElem? (i := 7) rfl)) hK hP hD hS hA rfl (fun j hj => by rcases (show j = 0 ∨ j = 1 ∨ j = 2 ∨ j = 3 by omega) with rfl | rfl | rfl | rfl <;> rfl) (Nat.le_of_ble_eq_true rfl) (Nat.le_of_ble_eq_true rfl) dX3_init_28 (fun q6 H hP hD hS => ?_)
  have hP : va_P D vwCl ([(h0, .inr (2, [.ref q1, .int 0, .int 0])), (q1, .inl (kG, 4, .inr (.inr (.inr (.inr (va_up (fun _ => none) 0 (some q3)))))))] ++ wG kI (q3, z4.1, z4.2.1, z4.2.2) iG ++ [(q6, .inr (1, [.null, .int 0, .int 0, .null]))]) H := hP
  have hD : va_D A ([(h0, .inr (2, [.ref q1, .int 0, .int 0])), (q1, .inl (kG, 4, .inr (.inr (.inr (.inr (va_up (fun _ => none) 0 (some q3)))))))] ++ wG kI (q3, z4.1, z4.2.1, z4.2.2) iG ++ [(q6, .inr (1, [.null, .int 0, .int 0, .null]))]) := hD
  refine lv_dup hx hb dX3_init_31 rfl ?_
  refine gIv (S := (Nat × Nat × Nat)) (As := []) (rest := [.ref q6, .int 1, .ref q1]) (wc := [(q6, .inr (1, [.null, .int 0, .int 0, .null]))]) (wr := [(h0, .inr (2, [.ref q1, .int 0, .int 0])), (q1, .inl (kG, 4, .inr (.inr (.inr (.inr (va_up (fun _ => none) 0 (some q3)))))))] ++ wG kI (q3, z4.1, z4.2.1, z4.2.2) iG) (cs1 := (fun zz : (Nat × Nat × Nat) => wG kI (q6, zz.1, zz.2.1, zz.2.2) iG)) (ws2 := (fun zz : (Nat × Nat × Nat) => [(h0, .inr (2, [.ref q1, .int 0, .int 0])), (q1, .inl (kG, 4, .inr (.inr (.inr (.inr (va_up (fun _ => none) 0 (some q3)))))))] ++ wG kI (q3, z4.1, z4.2.1, z4.2.2) iG ++ wG kI (q6, zz.1, zz.2.1, zz.2.2) iG)) ⟨hx, hb, hml, hown, hts⟩ (fun sz => kX2_init l D kI kC kG kJ q6 sz) (cwI 0 hts gX3_init_X2_init rfl rfl rfl (hts (.initialized RX2) (List.mem_of_getElem? (i := 7) rfl)) (hts (.methodLink RX3 15 yX2_init) (List.mem_of_getElem? (i := 10) rfl)) (hts (.instanceMethod yX2_init) (List.mem_of_getElem? (i := 11) rfl)) rfl hdX2_init ⟨Nat.le_of_ble_eq_true rfl, Nat.le_of_ble_eq_true rfl⟩) hK hP hD hE hS hA [6] [0, 1, 2, 3, 4, 5] rfl rfl rfl rfl (by decide) [0, 1, 2, 3, 4, 5, 6, 7, 8, 9] rfl (fun _ => rfl) rfl hl.1 rfl (Nat.le_of_ble_eq_true rfl) dX3_init_32 ⟨Nat.le_of_ble_eq_true rfl, Nat.le_of_ble_eq_true rfl⟩ (fun z7 H locs hw hP hD hS => ?_)
  have hP : va_P D vwCl ([(h0, .inr (2, [.ref q1, .int 0, .int 0])), (q1, .inl (kG, 4, .inr (.inr (.inr (.inr (va_up (fun _ => none) 0 (some q3)))))))] ++ wG kI (q3, z4.1, z4.2.1, z4.2.2) iG ++ wG kI (q6, z7.1, z7.2.1, z7.2.2) iG) H := hP
  have hD : va_D A ([(h0, .inr (2, [.ref q1, .int 0, .int 0])), (q1, .inl (kG, 4, .inr (.inr (.inr (.inr (va_up (fun _ => none) 0 (some q3)))))))] ++ wG kI (q3, z4.1, z4.2.1, z4.2.2) iG ++ wG kI (q6, z7.1, z7.2.1, z7.2.2) iG) := hD
  refine va_astq hx hb hK hP hD hS 1 2 6 1 rfl rfl rfl rfl (gin (by decide)) dX3_init_35 (fun H locs hP hD hS => ?_)
  have hP : va_P D vwCl ([(h0, .inr (2, [.ref q1, .int 0, .int 0])), (q1, .inl (kG, 4, .inr (.inr (.inr (.inr (va_up (va_up (fun _ => none) 0 (some q3)) 1 (some q6)))))))] ++ wG kI (q3, z4.1, z4.2.1, z4.2.2) iG ++ wG kI (q6, z7.1, z7.2.1, z7.2.2) iG) H := hP
  have hD : va_D A ([(h0, .inr (2, [.ref q1, .int 0, .int 0])), (q1, .inl (kG, 4, .inr (.inr (.inr (.inr (va_up (va_up (fun _ => none) 0 (some q3)) 1 (some q6)))))))] ++ wG kI (q3, z4.1, z4.2.1, z4.2.2) iG ++ wG kI (q6, z7.1, z7.2.1, z7.2.2) iG) := hD
  refine lv_iinc (v := 2) (lv' := [(1, .int 2), (0, .ref h0)]) hx hb dX3_init_36 hl (k := 0) rfl (by decide) (by decide) rfl (fun ls hl => ?_)
  refine lv_goto (tgt := 14) hx hb dX3_init_39 (by decide) ?_
  refine lv_iload_n hx hb dX3_init_14 rfl (lv_at hl 0 rfl) ?_
  refine lv_aload_n hx hb dX3_init_15 rfl (lv_at hl 1 rfl) ?_
  refine va_get (D := D) (ci := 2) (v := .ref q1) (C := RX3) (T := TX3) (N := 3) hx hb hts (fun _ h => List.mem_cons_of_mem _ (List.mem_append_left _ (List.mem_append_left _ (List.mem_append_right _ h)))) hown hK hP 0 rfl rfl 0 (by decide) (hts (.fieldLink RX3 11 "HazelGift$History" "states" "[LHazelGift$Game;") (List.mem_of_getElem? (i := 5) rfl)) (fun _ h9 => h9) rfl dX3_init_16 ?_
  refine va_alen (v := 4) hx hb hK hP 1 2 rfl rfl rfl dX3_init_19 ?_
  refine lv_icmp_ge (tgt := 42) hx hb dX3_init_20 (by decide) (fun c8 => ?_) (fun c8 => ?_)
  · exact absurd c8 (by decide)
  refine lv_aload_n hx hb dX3_init_23 rfl (lv_at hl 1 rfl) ?_
  refine va_get (D := D) (ci := 2) (v := .ref q1) (C := RX3) (T := TX3) (N := 3) hx hb hts (fun _ h => List.mem_cons_of_mem _ (List.mem_append_left _ (List.mem_append_left _ (List.mem_append_right _ h)))) hown hK hP 0 rfl rfl 0 (by decide) (hts (.fieldLink RX3 11 "HazelGift$History" "states" "[LHazelGift$Game;") (List.mem_of_getElem? (i := 5) rfl)) (fun _ h9 => h9) rfl dX3_init_24 ?_
  refine lv_iload_n hx hb dX3_init_27 rfl (lv_at hl 0 rfl) ?_
  refine va_new (ci := 1) (fs := [.null, .int 0, .int 0, .null]) (C := RX2) (T := TX2) (N := 4) hx hb hts (fun _ h => List.mem_cons_of_mem _ (List.mem_append_left _ (List.mem_append_right _ h))) tyX2 tyX2_ok hown (hts (.classLink RX3 9 RX2) (List.mem_of_getElem? (i := 4) rfl)) (hts (.instantiable RX2 4) (List.mem_of_getElem? (i := 6) rfl)) (hts (.initialized RX2) (List.mem_of_getElem? (i := 7) rfl)) hK hP hD hS hA rfl (fun j hj => by rcases (show j = 0 ∨ j = 1 ∨ j = 2 ∨ j = 3 by omega) with rfl | rfl | rfl | rfl <;> rfl) (Nat.le_of_ble_eq_true rfl) (Nat.le_of_ble_eq_true rfl) dX3_init_28 (fun q9 H hP hD hS => ?_)
  have hP : va_P D vwCl ([(h0, .inr (2, [.ref q1, .int 0, .int 0])), (q1, .inl (kG, 4, .inr (.inr (.inr (.inr (va_up (va_up (fun _ => none) 0 (some q3)) 1 (some q6)))))))] ++ wG kI (q3, z4.1, z4.2.1, z4.2.2) iG ++ wG kI (q6, z7.1, z7.2.1, z7.2.2) iG ++ [(q9, .inr (1, [.null, .int 0, .int 0, .null]))]) H := hP
  have hD : va_D A ([(h0, .inr (2, [.ref q1, .int 0, .int 0])), (q1, .inl (kG, 4, .inr (.inr (.inr (.inr (va_up (va_up (fun _ => none) 0 (some q3)) 1 (some q6)))))))] ++ wG kI (q3, z4.1, z4.2.1, z4.2.2) iG ++ wG kI (q6, z7.1, z7.2.1, z7.2.2) iG ++ [(q9, .inr (1, [.null, .int 0, .int 0, .null]))]) := hD
  refine lv_dup hx hb dX3_init_31 rfl ?_
  refine gIv (S := (Nat × Nat × Nat)) (As := []) (rest := [.ref q9, .int 2, .ref q1]) (wc := [(q9, .inr (1, [.null, .int 0, .int 0, .null]))]) (wr := [(h0, .inr (2, [.ref q1, .int 0, .int 0])), (q1, .inl (kG, 4, .inr (.inr (.inr (.inr (va_up (va_up (fun _ => none) 0 (some q3)) 1 (some q6)))))))] ++ wG kI (q3, z4.1, z4.2.1, z4.2.2) iG ++ wG kI (q6, z7.1, z7.2.1, z7.2.2) iG) (cs1 := (fun zz : (Nat × Nat × Nat) => wG kI (q9, zz.1, zz.2.1, zz.2.2) iG)) (ws2 := (fun zz : (Nat × Nat × Nat) => [(h0, .inr (2, [.ref q1, .int 0, .int 0])), (q1, .inl (kG, 4, .inr (.inr (.inr (.inr (va_up (va_up (fun _ => none) 0 (some q3)) 1 (some q6)))))))] ++ wG kI (q3, z4.1, z4.2.1, z4.2.2) iG ++ wG kI (q6, z7.1, z7.2.1, z7.2.2) iG ++ wG kI (q9, zz.1, zz.2.1, zz.2.2) iG)) ⟨hx, hb, hml, hown, hts⟩ (fun sz => kX2_init l D kI kC kG kJ q9 sz) (cwI 0 hts gX3_init_X2_init rfl rfl rfl (hts (.initialized RX2) (List.mem_of_getElem? (i := 7) rfl)) (hts (.methodLink RX3 15 yX2_init) (List.mem_of_getElem? (i := 10) rfl)) (hts (.instanceMethod yX2_init) (List.mem_of_getElem? (i := 11) rfl)) rfl hdX2_init ⟨Nat.le_of_ble_eq_true rfl, Nat.le_of_ble_eq_true rfl⟩) hK hP hD hE hS hA [10] [0, 1, 2, 3, 4, 5, 6, 7, 8, 9] rfl rfl rfl rfl (by decide) [0, 1, 2, 3, 4, 5, 6, 7, 8, 9, 10, 11, 12, 13] rfl (fun _ => rfl) rfl hl.1 rfl (Nat.le_of_ble_eq_true rfl) dX3_init_32 ⟨Nat.le_of_ble_eq_true rfl, Nat.le_of_ble_eq_true rfl⟩ (fun z10 H locs hw hP hD hS => ?_)
  have hP : va_P D vwCl ([(h0, .inr (2, [.ref q1, .int 0, .int 0])), (q1, .inl (kG, 4, .inr (.inr (.inr (.inr (va_up (va_up (fun _ => none) 0 (some q3)) 1 (some q6)))))))] ++ wG kI (q3, z4.1, z4.2.1, z4.2.2) iG ++ wG kI (q6, z7.1, z7.2.1, z7.2.2) iG ++ wG kI (q9, z10.1, z10.2.1, z10.2.2) iG) H := hP
  have hD : va_D A ([(h0, .inr (2, [.ref q1, .int 0, .int 0])), (q1, .inl (kG, 4, .inr (.inr (.inr (.inr (va_up (va_up (fun _ => none) 0 (some q3)) 1 (some q6)))))))] ++ wG kI (q3, z4.1, z4.2.1, z4.2.2) iG ++ wG kI (q6, z7.1, z7.2.1, z7.2.2) iG ++ wG kI (q9, z10.1, z10.2.1, z10.2.2) iG) := hD
  refine va_astq hx hb hK hP hD hS 1 2 10 1 rfl rfl rfl rfl (gin (by decide)) dX3_init_35 (fun H locs hP hD hS => ?_)
  have hP : va_P D vwCl ([(h0, .inr (2, [.ref q1, .int 0, .int 0])), (q1, .inl (kG, 4, .inr (.inr (.inr (.inr (va_up (va_up (va_up (fun _ => none) 0 (some q3)) 1 (some q6)) 2 (some q9)))))))] ++ wG kI (q3, z4.1, z4.2.1, z4.2.2) iG ++ wG kI (q6, z7.1, z7.2.1, z7.2.2) iG ++ wG kI (q9, z10.1, z10.2.1, z10.2.2) iG) H := hP
  have hD : va_D A ([(h0, .inr (2, [.ref q1, .int 0, .int 0])), (q1, .inl (kG, 4, .inr (.inr (.inr (.inr (va_up (va_up (va_up (fun _ => none) 0 (some q3)) 1 (some q6)) 2 (some q9)))))))] ++ wG kI (q3, z4.1, z4.2.1, z4.2.2) iG ++ wG kI (q6, z7.1, z7.2.1, z7.2.2) iG ++ wG kI (q9, z10.1, z10.2.1, z10.2.2) iG) := hD
  refine lv_iinc (v := 3) (lv' := [(1, .int 3), (0, .ref h0)]) hx hb dX3_init_36 hl (k := 0) rfl (by decide) (by decide) rfl (fun ls hl => ?_)
  refine lv_goto (tgt := 14) hx hb dX3_init_39 (by decide) ?_
  refine lv_iload_n hx hb dX3_init_14 rfl (lv_at hl 0 rfl) ?_
  refine lv_aload_n hx hb dX3_init_15 rfl (lv_at hl 1 rfl) ?_
  refine va_get (D := D) (ci := 2) (v := .ref q1) (C := RX3) (T := TX3) (N := 3) hx hb hts (fun _ h => List.mem_cons_of_mem _ (List.mem_append_left _ (List.mem_append_left _ (List.mem_append_right _ h)))) hown hK hP 0 rfl rfl 0 (by decide) (hts (.fieldLink RX3 11 "HazelGift$History" "states" "[LHazelGift$Game;") (List.mem_of_getElem? (i := 5) rfl)) (fun _ h9 => h9) rfl dX3_init_16 ?_
  refine va_alen (v := 4) hx hb hK hP 1 2 rfl rfl rfl dX3_init_19 ?_
  refine lv_icmp_ge (tgt := 42) hx hb dX3_init_20 (by decide) (fun c11 => ?_) (fun c11 => ?_)
  · exact absurd c11 (by decide)
  refine lv_aload_n hx hb dX3_init_23 rfl (lv_at hl 1 rfl) ?_
  refine va_get (D := D) (ci := 2) (v := .ref q1) (C := RX3) (T := TX3) (N := 3) hx hb hts (fun _ h => List.mem_cons_of_mem _ (List.mem_append_left _ (List.mem_append_left _ (List.mem_append_right _ h)))) hown hK hP 0 rfl rfl 0 (by decide) (hts (.fieldLink RX3 11 "HazelGift$History" "states" "[LHazelGift$Game;") (List.mem_of_getElem? (i := 5) rfl)) (fun _ h9 => h9) rfl dX3_init_24 ?_
  refine lv_iload_n hx hb dX3_init_27 rfl (lv_at hl 0 rfl) ?_
  refine va_new (ci := 1) (fs := [.null, .int 0, .int 0, .null]) (C := RX2) (T := TX2) (N := 4) hx hb hts (fun _ h => List.mem_cons_of_mem _ (List.mem_append_left _ (List.mem_append_right _ h))) tyX2 tyX2_ok hown (hts (.classLink RX3 9 RX2) (List.mem_of_getElem? (i := 4) rfl)) (hts (.instantiable RX2 4) (List.mem_of_getElem? (i := 6) rfl)) (hts (.initialized RX2) (List.mem_of_getElem? (i := 7) rfl)) hK hP hD hS hA rfl (fun j hj => by rcases (show j = 0 ∨ j = 1 ∨ j = 2 ∨ j = 3 by omega) with rfl | rfl | rfl | rfl <;> rfl) (Nat.le_of_ble_eq_true rfl) (Nat.le_of_ble_eq_true rfl) dX3_init_28 (fun q12 H hP hD hS => ?_)
  have hP : va_P D vwCl ([(h0, .inr (2, [.ref q1, .int 0, .int 0])), (q1, .inl (kG, 4, .inr (.inr (.inr (.inr (va_up (va_up (va_up (fun _ => none) 0 (some q3)) 1 (some q6)) 2 (some q9)))))))] ++ wG kI (q3, z4.1, z4.2.1, z4.2.2) iG ++ wG kI (q6, z7.1, z7.2.1, z7.2.2) iG ++ wG kI (q9, z10.1, z10.2.1, z10.2.2) iG ++ [(q12, .inr (1, [.null, .int 0, .int 0, .null]))]) H := hP
  have hD : va_D A ([(h0, .inr (2, [.ref q1, .int 0, .int 0])), (q1, .inl (kG, 4, .inr (.inr (.inr (.inr (va_up (va_up (va_up (fun _ => none) 0 (some q3)) 1 (some q6)) 2 (some q9)))))))] ++ wG kI (q3, z4.1, z4.2.1, z4.2.2) iG ++ wG kI (q6, z7.1, z7.2.1, z7.2.2) iG ++ wG kI (q9, z10.1, z10.2.1, z10.2.2) iG ++ [(q12, .inr (1, [.null, .int 0, .int 0, .null]))]) := hD
  refine lv_dup hx hb dX3_init_31 rfl ?_
  refine gIv (S := (Nat × Nat × Nat)) (As := []) (rest := [.ref q12, .int 3, .ref q1]) (wc := [(q12, .inr (1, [.null, .int 0, .int 0, .null]))]) (wr := [(h0, .inr (2, [.ref q1, .int 0, .int 0])), (q1, .inl (kG, 4, .inr (.inr (.inr (.inr (va_up (va_up (va_up (fun _ => none) 0 (some q3)) 1 (some q6)) 2 (some q9)))))))] ++ wG kI (q3, z4.1, z4.2.1, z4.2.2) iG ++ wG kI (q6, z7.1, z7.2.1, z7.2.2) iG ++ wG kI (q9, z10.1, z10.2.1, z10.2.2) iG) (cs1 := (fun zz : (Nat × Nat × Nat) => wG kI (q12, zz.1, zz.2.1, zz.2.2) iG)) (ws2 := (fun zz : (Nat × Nat × Nat) => [(h0, .inr (2, [.ref q1, .int 0, .int 0])), (q1, .inl (kG, 4, .inr (.inr (.inr (.inr (va_up (va_up (va_up (fun _ => none) 0 (some q3)) 1 (some q6)) 2 (some q9)))))))] ++ wG kI (q3, z4.1, z4.2.1, z4.2.2) iG ++ wG kI (q6, z7.1, z7.2.1, z7.2.2) iG ++ wG kI (q9, z10.1, z10.2.1, z10.2.2) iG ++ wG kI (q12, zz.1, zz.2.1, zz.2.2) iG)) ⟨hx, hb, hml, hown, hts⟩ (fun sz => kX2_init l D kI kC kG kJ q12 sz) (cwI 0 hts gX3_init_X2_init rfl rfl rfl (hts (.initialized RX2) (List.mem_of_getElem? (i := 7) rfl)) (hts (.methodLink RX3 15 yX2_init) (List.mem_of_getElem? (i := 10) rfl)) (hts (.instanceMethod yX2_init) (List.mem_of_getElem? (i := 11) rfl)) rfl hdX2_init ⟨Nat.le_of_ble_eq_true rfl, Nat.le_of_ble_eq_true rfl⟩) hK hP hD hE hS hA [14] [0, 1, 2, 3, 4, 5, 6, 7, 8, 9, 10, 11, 12, 13] rfl rfl rfl rfl (by decide) [0, 1, 2, 3, 4, 5, 6, 7, 8, 9, 10, 11, 12, 13, 14, 15, 16, 17] rfl (fun _ => rfl) rfl hl.1 rfl (Nat.le_of_ble_eq_true rfl) dX3_init_32 ⟨Nat.le_of_ble_eq_true rfl, Nat.le_of_ble_eq_true rfl⟩ (fun z13 H locs hw hP hD hS => ?_)
  have hP : va_P D vwCl ([(h0, .inr (2, [.ref q1, .int 0, .int 0])), (q1, .inl (kG, 4, .inr (.inr (.inr (.inr (va_up (va_up (va_up (fun _ => none) 0 (some q3)) 1 (some q6)) 2 (some q9)))))))] ++ wG kI (q3, z4.1, z4.2.1, z4.2.2) iG ++ wG kI (q6, z7.1, z7.2.1, z7.2.2) iG ++ wG kI (q9, z10.1, z10.2.1, z10.2.2) iG ++ wG kI (q12, z13.1, z13.2.1, z13.2.2) iG) H := hP
  have hD : va_D A ([(h0, .inr (2, [.ref q1, .int 0, .int 0])), (q1, .inl (kG, 4, .inr (.inr (.inr (.inr (va_up (va_up (va_up (fun _ => none) 0 (some q3)) 1 (some q6)) 2 (some q9)))))))] ++ wG kI (q3, z4.1, z4.2.1, z4.2.2) iG ++ wG kI (q6, z7.1, z7.2.1, z7.2.2) iG ++ wG kI (q9, z10.1, z10.2.1, z10.2.2) iG ++ wG kI (q12, z13.1, z13.2.1, z13.2.2) iG) := hD
  refine va_astq hx hb hK hP hD hS 1 2 14 1 rfl rfl rfl rfl (gin (by decide)) dX3_init_35 (fun H locs hP hD hS => ?_)
  have hP : va_P D vwCl ([(h0, .inr (2, [.ref q1, .int 0, .int 0])), (q1, .inl (kG, 4, .inr (.inr (.inr (.inr (va_up (va_up (va_up (va_up (fun _ => none) 0 (some q3)) 1 (some q6)) 2 (some q9)) 3 (some q12)))))))] ++ wG kI (q3, z4.1, z4.2.1, z4.2.2) iG ++ wG kI (q6, z7.1, z7.2.1, z7.2.2) iG ++ wG kI (q9, z10.1, z10.2.1, z10.2.2) iG ++ wG kI (q12, z13.1, z13.2.1, z13.2.2) iG) H := hP
  have hD : va_D A ([(h0, .inr (2, [.ref q1, .int 0, .int 0])), (q1, .inl (kG, 4, .inr (.inr (.inr (.inr (va_up (va_up (va_up (va_up (fun _ => none) 0 (some q3)) 1 (some q6)) 2 (some q9)) 3 (some q12)))))))] ++ wG kI (q3, z4.1, z4.2.1, z4.2.2) iG ++ wG kI (q6, z7.1, z7.2.1, z7.2.2) iG ++ wG kI (q9, z10.1, z10.2.1, z10.2.2) iG ++ wG kI (q12, z13.1, z13.2.1, z13.2.2) iG) := hD
  refine lv_iinc (v := 4) (lv' := [(1, .int 4), (0, .ref h0)]) hx hb dX3_init_36 hl (k := 0) rfl (by decide) (by decide) rfl (fun ls hl => ?_)
  refine lv_goto (tgt := 14) hx hb dX3_init_39 (by decide) ?_
  refine lv_iload_n hx hb dX3_init_14 rfl (lv_at hl 0 rfl) ?_
  refine lv_aload_n hx hb dX3_init_15 rfl (lv_at hl 1 rfl) ?_
  refine va_get (D := D) (ci := 2) (v := .ref q1) (C := RX3) (T := TX3) (N := 3) hx hb hts (fun _ h => List.mem_cons_of_mem _ (List.mem_append_left _ (List.mem_append_left _ (List.mem_append_right _ h)))) hown hK hP 0 rfl rfl 0 (by decide) (hts (.fieldLink RX3 11 "HazelGift$History" "states" "[LHazelGift$Game;") (List.mem_of_getElem? (i := 5) rfl)) (fun _ h9 => h9) rfl dX3_init_16 ?_
  refine va_alen (v := 4) hx hb hK hP 1 2 rfl rfl rfl dX3_init_19 ?_
  refine lv_icmp_ge (tgt := 42) hx hb dX3_init_20 (by decide) (fun c14 => ?_) (fun c14 => ?_)
  case refine_2 => exact absurd (by decide) c14
  refine lv_aload_n hx hb dX3_init_42 rfl (lv_at hl 1 rfl) ?_
  refine lv_iconst (v := 0) hx hb dX3_init_43 (by decide) ?_
  refine va_put (D := D) (ci := 2) (v := .int 0) (ty := tyX3 1) (C := RX3) (T := TX3) (N := 3) hx hb hts (fun _ h => List.mem_cons_of_mem _ (List.mem_append_left _ (List.mem_append_left _ (List.mem_append_right _ h)))) tyX3 tyX3_ok nmX3 hown hK hP hD hS 0 rfl rfl 1 (by decide) (hts (.fieldLink RX3 16 "HazelGift$History" "next" "I") (List.mem_of_getElem? (i := 8) rfl)) (fun _ h9 => h9) rfl (tyX3_ok 1 (by decide)) rfl rfl (Nat.le_of_ble_eq_true rfl) dX3_init_44 (fun H locs hP hD hS => ?_)
  have hP : va_P D vwCl ([(h0, .inr (2, [.ref q1, .int 0, .int 0])), (q1, .inl (kG, 4, .inr (.inr (.inr (.inr (va_up (va_up (va_up (va_up (fun _ => none) 0 (some q3)) 1 (some q6)) 2 (some q9)) 3 (some q12)))))))] ++ wG kI (q3, z4.1, z4.2.1, z4.2.2) iG ++ wG kI (q6, z7.1, z7.2.1, z7.2.2) iG ++ wG kI (q9, z10.1, z10.2.1, z10.2.2) iG ++ wG kI (q12, z13.1, z13.2.1, z13.2.2) iG) H := hP
  have hD : va_D A ([(h0, .inr (2, [.ref q1, .int 0, .int 0])), (q1, .inl (kG, 4, .inr (.inr (.inr (.inr (va_up (va_up (va_up (va_up (fun _ => none) 0 (some q3)) 1 (some q6)) 2 (some q9)) 3 (some q12)))))))] ++ wG kI (q3, z4.1, z4.2.1, z4.2.2) iG ++ wG kI (q6, z7.1, z7.2.1, z7.2.2) iG ++ wG kI (q9, z10.1, z10.2.1, z10.2.2) iG ++ wG kI (q12, z13.1, z13.2.1, z13.2.2) iG) := hD
  refine lv_aload_n hx hb dX3_init_47 rfl (lv_at hl 1 rfl) ?_
  refine lv_iconst (v := 0) hx hb dX3_init_48 (by decide) ?_
  refine va_put (D := D) (ci := 2) (v := .int 0) (ty := tyX3 2) (C := RX3) (T := TX3) (N := 3) hx hb hts (fun _ h => List.mem_cons_of_mem _ (List.mem_append_left _ (List.mem_append_left _ (List.mem_append_right _ h)))) tyX3 tyX3_ok nmX3 hown hK hP hD hS 0 rfl rfl 2 (by decide) (hts (.fieldLink RX3 20 "HazelGift$History" "size" "I") (List.mem_of_getElem? (i := 9) rfl)) (fun _ h9 => h9) rfl (tyX3_ok 2 (by decide)) rfl rfl (Nat.le_of_ble_eq_true rfl) dX3_init_49 (fun H locs hP hD hS => ?_)
  have hP : va_P D vwCl ([(h0, .inr (2, [.ref q1, .int 0, .int 0])), (q1, .inl (kG, 4, .inr (.inr (.inr (.inr (va_up (va_up (va_up (va_up (fun _ => none) 0 (some q3)) 1 (some q6)) 2 (some q9)) 3 (some q12)))))))] ++ wG kI (q3, z4.1, z4.2.1, z4.2.2) iG ++ wG kI (q6, z7.1, z7.2.1, z7.2.2) iG ++ wG kI (q9, z10.1, z10.2.1, z10.2.2) iG ++ wG kI (q12, z13.1, z13.2.1, z13.2.2) iG) H := hP
  have hD : va_D A ([(h0, .inr (2, [.ref q1, .int 0, .int 0])), (q1, .inl (kG, 4, .inr (.inr (.inr (.inr (va_up (va_up (va_up (va_up (fun _ => none) 0 (some q3)) 1 (some q6)) 2 (some q9)) 3 (some q12)))))))] ++ wG kI (q3, z4.1, z4.2.1, z4.2.2) iG ++ wG kI (q6, z7.1, z7.2.1, z7.2.2) iG ++ wG kI (q9, z10.1, z10.2.1, z10.2.2) iG ++ wG kI (q12, z13.1, z13.2.1, z13.2.2) iG) := hD
  exact W.vret hx hb hr (fun t ht hW => ⟨⟨(q1, (q3, z4.1, z4.2.1, z4.2.2), (q6, z7.1, z7.2.1, z7.2.2), (q9, z10.1, z10.2.1, z10.2.2), (q12, z13.1, z13.2.1, z13.2.2)), rfl, trivial, by rw [ht]; exact hP.sub [0, 1, 2, 3, 4, 5, 6, 7, 8, 9, 10, 11, 12, 13, 14, 15, 16, 17] rfl, va_K.moved hW.alike hK, hD.sub [0, 1, 2, 3, 4, 5, 6, 7, 8, 9, 10, 11, 12, 13, 14, 15, 16, 17] (by decide) rfl⟩, hS.F ht⟩) hS.2.2 dX3_init_52
set_option maxHeartbeats 4000000 in
set_option maxRecDepth 100000 in
theorem kX5_init (l : Launch) (D : va_G) (kI kC kG kJ : ClassId) (h0 : Nat) (sz : Nat) : Met l yX5_init wsX5_init ({ frames := 4, cells := 32, slots := 167, locals := 81 } : Room) (gPw D (gT kI kC kG kJ) [.ref h0] ([(h0, .inr (4, [.null, .null, .null, .int 0, .null, .null]))]) sz) (va_Qv (fun _ : (AG × AG × AG × Nat × Nat × AG × AG × AG × AG × Nat × Nat) => True) (gB D (gT kI kC kG kJ) (fun zz : (AG × AG × AG × Nat × Nat × AG × AG × AG × AG × Nat × Nat) => wX kI kC kG h0 zz.1 zz.2.1 zz.2.2.1 zz.2.2.2.1 zz.2.2.2.2.1 zz.2.2.2.2.2.1 zz.2.2.2.2.2.2.1 zz.2.2.2.2.2.2.2.1 zz.2.2.2.2.2.2.2.2.1 zz.2.2.2.2.2.2.2.2.2.1 zz.2.2.2.2.2.2.2.2.2.2 iX) (va_A ([(h0, .inr (4, [.null, .null, .null, .int 0, .null, .null]))]) sz)) (va_A ([(h0, .inr (4, [.null, .null, .null, .int 0, .null, .null]))]) sz)) 32 167 (va_A ([(h0, .inr (4, [.null, .null, .null, .int 0, .null, .null]))]) sz) := by
  refine Met.ofW (cc := cX5_init) (maxL := 1) (ret := none) (by decide) rfl ?_
  intro p e s m args below meth c s₁ B hml hv
  obtain ⟨rfl, hsz, hP, hK, hD0, hE⟩ := hv
  have hx := B.exec
  have hb := B.bytes
  have hr := B.returns
  have hts := atoms_spec (ws := wsX5_init) B.pre
  have hown : s.vm.findClass RX5 = some m.cls := findClass_of_methodNamed B.named
  have hlocks := B.notSynchronized
  have hin : meth.name = "<init>" := (name_of_methodNamed B.named B.method).1
  subst hsz
  have hD := hD0.self (sz := s.heap.size)
  generalize hAe : va_A ([(h0, .inr (4, [.null, .null, .null, .int 0, .null, .null]))]) s.heap.size = A at hD hE ⊢
  have hA : ∀ q : Nat, s.heap.size ≤ q → A q := fun q h => by rw [← hAe]; exact Or.inr h
  have hS : va_S A s.heap s.heap [] := va_S.rf
  clear hAe hD0
  have hl := lv_entry ([.ref h0]) (n := 1) (Nat.le_of_ble_eq_true rfl)
  rw [lg_entry_eq]
  generalize (lg_sl ([.ref h0]) ++ List.replicate (1 - (lg_sl ([.ref h0])).length) Slot.unset).toArray = ls at hl ⊢
  have hl : lv_has ls 1 [(0, .ref h0)] := hl
  refine lv_aload_n hx hb dX5_init_0 rfl (lv_at hl 0 rfl) ?_
  refine W.objInit hx hb hown (hts (.methodLink RX5 1 objectInit) (List.mem_of_getElem? (i := 1) rfl)) (hts (.instanceMethod objectInit) (List.mem_of_getElem? (i := 2) rfl)) (hts (.code objectInit ⟨#[0xb1]⟩ 1 none) (List.mem_of_getElem? (i := 3) rfl)) rfl (by rw [hml]; exact hl.1) rfl dX5_init_1 (Nat.le_of_ble_eq_true rfl) (Nat.le_of_ble_eq_true rfl) ?_
  refine W.eq (g2 := F0 m 4 ls []) rfl ?_
  refine lv_aload_n hx hb dX5_init_4 rfl (lv_at hl 0 rfl) ?_
  refine va_new (ci := 1) (fs := [.null, .int 0, .int 0, .null]) (C := RX2) (T := TX2) (N := 4) hx hb hts (fun _ h => List.mem_cons_of_mem _ (List.mem_append_left _ (List.mem_append_left _ (List.mem_append_left _ (List.mem_append_left _ (List.mem_append_right _ h)))))) tyX2 tyX2_ok hown (hts (.classLink RX5 7 RX2) (List.mem_of_getElem? (i := 4) rfl)) (hts (.instantiable RX2 4) (List.mem_of_getElem? (i := 5) rfl)) (hts (.initialized RX2) (List.mem_of_getElem? (i := 6) rfl)) hK hP hD hS hA rfl (fun j hj => by rcases (show j = 0 ∨ j = 1 ∨ j = 2 ∨ j = 3 by omega) with rfl | rfl | rfl | rfl <;> rfl) (Nat.le_of_ble_eq_true rfl) (Nat.le_of_ble_eq_true rfl) dX5_init_5 (fun q1 H hP hD hS => ?_)
  have hP : va_P D vwCl ([(h0, .inr (4, [.null, .null, .null, .int 0, .null, .null])), (q1, .inr (1, [.null, .int 0, .int 0, .null]))]) H := hP
  have hD : va_D A ([(h0, .inr (4, [.null, .null, .null, .int 0, .null, .null])), (q1, .inr (1, [.null, .int 0, .int 0, .null]))]) := hD
  refine lv_dup hx hb dX5_init_8 rfl ?_
  refine gIv (S := (Nat × Nat × Nat)) (As := []) (rest := [.ref q1, .ref h0]) (wc := [(q1, .inr (1, [.null, .int 0, .int 0, .null]))]) (wr := [(h0, .inr (4, [.null, .null, .null, .int 0, .null, .null]))]) (cs1 := (fun zz : (Nat × Nat × Nat) => wG kI (q1, zz.1, zz.2.1, zz.2.2) iG)) (ws2 := (fun zz : (Nat × Nat × Nat) => [(h0, .inr (4, [.null, .null, .null, .int 0, .null, .null]))] ++ wG kI (q1, zz.1, zz.2.1, zz.2.2) iG)) ⟨hx, hb, hml, hown, hts⟩ (fun sz => kX2_init l D kI kC kG kJ q1 sz) (cwI 0 hts gX5_init_X2_init rfl rfl rfl (hts (.initialized RX2) (List.mem_of_getElem? (i := 6) rfl)) (hts (.methodLink RX5 9 yX2_init) (List.mem_of_getElem? (i := 19) rfl)) (hts (.instanceMethod yX2_init) (List.mem_of_getElem? (i := 20) rfl)) rfl hdX2_init ⟨Nat.le_of_ble_eq_true rfl, Nat.le_of_ble_eq_true rfl⟩) hK hP hD hE hS hA [1] [0] rfl rfl rfl rfl (by decide) [0, 1, 2, 3, 4] rfl (fun _ => rfl) rfl hl.1 rfl (Nat.le_of_ble_eq_true rfl) dX5_init_9 ⟨Nat.le_of_ble_eq_true rfl, Nat.le_of_ble_eq_true rfl⟩ (fun z2 H locs hw hP hD hS => ?_)
  have hP : va_P D vwCl ([(h0, .inr (4, [.null, .null, .null, .int 0, .null, .null]))] ++ wG kI (q1, z2.1, z2.2.1, z2.2.2) iG) H := hP
  have hD : va_D A ([(h0, .inr (4, [.null, .null, .null, .int 0, .null, .null]))] ++ wG kI (q1, z2.1, z2.2.1, z2.2.2) iG) := hD
  refine va_putF (D := D) (ci := 4) (v := .ref q1) (ty := tyX5 0) (C := RX5) (T := TX5) (N := 6) hx hb hts (fun _ h => List.mem_cons_of_mem _ (List.mem_append_left _ (List.mem_append_left _ (List.mem_append_left _ (List.mem_append_right _ h))))) tyX5 tyX5_ok nmX5 hown hK hP hD hS 0 rfl rfl 0 (by decide) (hts (.fieldLink RX5 10 "HazelGift" "game" "LHazelGift$Game;") (List.mem_of_getElem? (i := 7) rfl)) (fun _ h9 => h9) rfl hin rfl (tyX5_ok 0 (by decide)) rfl rfl (Nat.le_of_ble_eq_true rfl) dX5_init_12 (fun H locs hP hD hS => ?_)
  have hP : va_P D vwCl ([(h0, .inr (4, [.ref q1, .null, .null, .int 0, .null, .null]))] ++ wG kI (q1, z2.1, z2.2.1, z2.2.2) iG) H := hP
  have hD : va_D A ([(h0, .inr (4, [.ref q1, .null, .null, .int 0, .null, .null]))] ++ wG kI (q1, z2.1, z2.2.1, z2.2.2) iG) := hD
  refine lv_aload_n hx hb dX5_init_15 rfl (lv_at hl 0 rfl) ?_
  refine va_new (ci := 1) (fs := [.null, .int 0, .int 0, .null]) (C := RX2) (T := TX2) (N := 4) hx hb hts (fun _ h => List.mem_cons_of_mem _ (List.mem_append_left _ (List.mem_append_left _ (List.mem_append_left _ (List.mem_append_left _ (List.mem_append_right _ h)))))) tyX2 tyX2_ok hown (hts (.classLink RX5 7 RX2) (List.mem_of_getElem? (i := 4) rfl)) (hts (.instantiable RX2 4) (List.mem_of_getElem? (i := 5) rfl)) (hts (.initialized RX2) (List.mem_of_getElem? (i := 6) rfl)) hK hP hD hS hA rfl (fun j hj => by rcases (show j = 0 ∨ j = 1 ∨ j = 2 ∨ j = 3 by omega) with rfl | rfl | rfl | rfl <;> rfl) (Nat.le_of_ble_eq_true rfl) (Nat.le_of_ble_eq_true rfl) dX5_init_16 (fun q3 H hP hD hS => ?_)
  have hP : va_P D vwCl ([(h0, .inr (4, [.ref q1, .null, .null, .int 0, .null, .null]))] ++ wG kI (q1, z2.1, z2.2.1, z2.2.2) iG ++ [(q3, .inr (1, [.null, .int 0, .int 0, .null]))]) H := hP
  have hD : va_D A ([(h0, .inr (4, [.ref q1, .null, .null, .int 0, .null, .null]))] ++ wG kI (q1, z2.1, z2.2.1, z2.2.2) iG ++ [(q3, .inr (1, [.null, .int 0, .int 0, .null]))]) := hD
  refine lv_dup hx hb dX5_init_19 rfl ?_
  refine gIv (S := (Nat × Nat × Nat)) (As := []) (rest := [.ref q3, .ref h0]) (wc := [(q3, .inr (1, [.null, .int 0, .int 0, .null]))]) (wr := [(h0, .inr (4, [.ref q1, .null, .null, .int 0, .null, .null]))] ++ wG kI (q1, z2.1, z2.2.1, z2.2.2) iG) (cs1 := (fun zz : (Nat × Nat × Nat) => wG kI (q3, zz.1, zz.2.1, zz.2.2) iG)) (ws2 := (fun zz : (Nat × Nat × Nat) => [(h0, .inr (4, [.ref q1, .null, .null, .int 0, .null, .null]))] ++ wG kI (q1, z2.1, z2.2.1, z2.2.2) iG ++ wG kI (q3, zz.1, zz.2.1, zz.2.2) iG)) ⟨hx, hb, hml, hown, hts⟩ (fun sz => kX2_init l D kI kC kG kJ q3 sz) (cwI 0 hts gX5_init_X2_init rfl rfl rfl (hts (.initialized RX2) (List.mem_of_getElem? (i := 6) rfl)) (hts (.methodLink RX5 9 yX2_init) (List.mem_of_getElem? (i := 19) rfl)) (hts (.instanceMethod yX2_init) (List.mem_of_getElem? (i := 20) rfl)) rfl hdX2_init ⟨Nat.le_of_ble_eq_true rfl, Nat.le_of_ble_eq_true rfl⟩) hK hP hD hE hS hA [5] [0, 1, 2, 3, 4] rfl rfl rfl rfl (by decide) [0, 1, 2, 3, 4, 5, 6, 7, 8] rfl (fun _ => rfl) rfl hl.1 rfl (Nat.le_of_ble_eq_true rfl) dX5_init_20 ⟨Nat.le_of_ble_eq_true rfl, Nat.le_of_ble_eq_true rfl⟩ (fun z4 H locs hw hP hD hS => ?_)
  have hP : va_P D vwCl ([(h0, .inr (4, [.ref q1, .null, .null, .int 0, .null, .null]))] ++ wG kI (q1, z2.1, z2.2.1, z2.2.2) iG ++ wG kI (q3, z4.1, z4.2.1, z4.2.2) iG) H := hP
  have hD : va_D A ([(h0, .inr (4, [.ref q1, .null, .null, .int 0, .null, .null]))] ++ wG kI (q1, z2.1, z2.2.1, z2.2.2) iG ++ wG kI (q3, z4.1, z4.2.1, z4.2.2) iG) := hD
  refine va_putF (D := D) (ci := 4) (v := .ref q3) (ty := tyX5 1) (C := RX5) (T := TX5) (N := 6) hx hb hts (fun _ h => List.mem_cons_of_mem _ (List.mem_append_left _ (List.mem_append_left _ (List.mem_append_left _ (List.mem_append_right _ h))))) tyX5 tyX5_ok nmX5 hown hK hP hD hS 0 rfl rfl 1 (by decide) (hts (.fieldLink RX5 16 "HazelGift" "trial" "LHazelGift$Game;") (List.mem_of_getElem? (i := 8) rfl)) (fun _ h9 => h9) rfl hin rfl (tyX5_ok 1 (by decide)) rfl rfl (Nat.le_of_ble_eq_true rfl) dX5_init_23 (fun H locs hP hD hS => ?_)
  have hP : va_P D vwCl ([(h0, .inr (4, [.ref q1, .ref q3, .null, .int 0, .null, .null]))] ++ wG kI (q1, z2.1, z2.2.1, z2.2.2) iG ++ wG kI (q3, z4.1, z4.2.1, z4.2.2) iG) H := hP
  have hD : va_D A ([(h0, .inr (4, [.ref q1, .ref q3, .null, .int 0, .null, .null]))] ++ wG kI (q1, z2.1, z2.2.1, z2.2.2) iG ++ wG kI (q3, z4.1, z4.2.1, z4.2.2) iG) := hD
  refine lv_aload_n hx hb dX5_init_26 rfl (lv_at hl 0 rfl) ?_
  refine va_new (ci := 1) (fs := [.null, .int 0, .int 0, .null]) (C := RX2) (T := TX2) (N := 4) hx hb hts (fun _ h => List.mem_cons_of_mem _ (List.mem_append_left _ (List.mem_append_left _ (List.mem_append_left _ (List.mem_append_left _ (List.mem_append_right _ h)))))) tyX2 tyX2_ok hown (hts (.classLink RX5 7 RX2) (List.mem_of_getElem? (i := 4) rfl)) (hts (.instantiable RX2 4) (List.mem_of_getElem? (i := 5) rfl)) (hts (.initialized RX2) (List.mem_of_getElem? (i := 6) rfl)) hK hP hD hS hA rfl (fun j hj => by rcases (show j = 0 ∨ j = 1 ∨ j = 2 ∨ j = 3 by omega) with rfl | rfl | rfl | rfl <;> rfl) (Nat.le_of_ble_eq_true rfl) (Nat.le_of_ble_eq_true rfl) dX5_init_27 (fun q5 H hP hD hS => ?_)
  have hP : va_P D vwCl ([(h0, .inr (4, [.ref q1, .ref q3, .null, .int 0, .null, .null]))] ++ wG kI (q1, z2.1, z2.2.1, z2.2.2) iG ++ wG kI (q3, z4.1, z4.2.1, z4.2.2) iG ++ [(q5, .inr (1, [.null, .int 0, .int 0, .null]))]) H := hP
  have hD : va_D A ([(h0, .inr (4, [.ref q1, .ref q3, .null, .int 0, .null, .null]))] ++ wG kI (q1, z2.1, z2.2.1, z2.2.2) iG ++ wG kI (q3, z4.1, z4.2.1, z4.2.2) iG ++ [(q5, .inr (1, [.null, .int 0, .int 0, .null]))]) := hD
  refine lv_dup hx hb dX5_init_30 rfl ?_
  refine gIv (S := (Nat × Nat × Nat)) (As := []) (rest := [.ref q5, .ref h0]) (wc := [(q5, .inr (1, [.null, .int 0, .int 0, .null]))]) (wr := [(h0, .inr (4, [.ref q1, .ref q3, .null, .int 0, .null, .null]))] ++ wG kI (q1, z2.1, z2.2.1, z2.2.2) iG ++ wG kI (q3, z4.1, z4.2.1, z4.2.2) iG) (cs1 := (fun zz : (Nat × Nat × Nat) => wG kI (q5, zz.1, zz.2.1, zz.2.2) iG)) (ws2 := (fun zz : (Nat × Nat × Nat) => [(h0, .inr (4, [.ref q1, .ref q3, .null, .int 0, .null, .null]))] ++ wG kI (q1, z2.1, z2.2.1, z2.2.2) iG ++ wG kI (q3, z4.1, z4.2.1, z4.2.2) iG ++ wG kI (q5, zz.1, zz.2.1, zz.2.2) iG)) ⟨hx, hb, hml, hown, hts⟩ (fun sz => kX2_init l D kI kC kG kJ q5 sz) (cwI 0 hts gX5_init_X2_init rfl rfl rfl (hts (.initialized RX2) (List.mem_of_getElem? (i := 6) rfl)) (hts (.methodLink RX5 9 yX2_init) (List.mem_of_getElem? (i := 19) rfl)) (hts (.instanceMethod yX2_init) (List.mem_of_getElem? (i := 20) rfl)) rfl hdX2_init ⟨Nat.le_of_ble_eq_true rfl, Nat.le_of_ble_eq_true rfl⟩) hK hP hD hE hS hA [9] [0, 1, 2, 3, 4, 5, 6, 7, 8] rfl rfl rfl rfl (by decide) [0, 1, 2, 3, 4, 5, 6, 7, 8, 9, 10, 11, 12] rfl (fun _ => rfl) rfl hl.1 rfl (Nat.le_of_ble_eq_true rfl) dX5_init_31 ⟨Nat.le_of_ble_eq_true rfl, Nat.le_of_ble_eq_true rfl⟩ (fun z6 H locs hw hP hD hS => ?_)
  have hP : va_P D vwCl ([(h0, .inr (4, [.ref q1, .ref q3, .null, .int 0, .null, .null]))] ++ wG kI (q1, z2.1, z2.2.1, z2.2.2) iG ++ wG kI (q3, z4.1, z4.2.1, z4.2.2) iG ++ wG kI (q5, z6.1, z6.2.1, z6.2.2) iG) H := hP
  have hD : va_D A ([(h0, .inr (4, [.ref q1, .ref q3, .null, .int 0, .null, .null]))] ++ wG kI (q1, z2.1, z2.2.1, z2.2.2) iG ++ wG kI (q3, z4.1, z4.2.1, z4.2.2) iG ++ wG kI (q5, z6.1, z6.2.1, z6.2.2) iG) := hD
  refine va_putF (D := D) (ci := 4) (v := .ref q5) (ty := tyX5 2) (C := RX5) (T := TX5) (N := 6) hx hb hts (fun _ h => List.mem_cons_of_mem _ (List.mem_append_left _ (List.mem_append_left _ (List.mem_append_left _ (List.mem_append_right _ h))))) tyX5 tyX5_ok nmX5 hown hK hP hD hS 0 rfl rfl 2 (by decide) (hts (.fieldLink RX5 19 "HazelGift" "snapshot" "LHazelGift$Game;") (List.mem_of_getElem? (i := 9) rfl)) (fun _ h9 => h9) rfl hin rfl (tyX5_ok 2 (by decide)) rfl rfl (Nat.le_of_ble_eq_true rfl) dX5_init_34 (fun H locs hP hD hS => ?_)
  have hP : va_P D vwCl ([(h0, .inr (4, [.ref q1, .ref q3, .ref q5, .int 0, .null, .null]))] ++ wG kI (q1, z2.1, z2.2.1, z2.2.2) iG ++ wG kI (q3, z4.1, z4.2.1, z4.2.2) iG ++ wG kI (q5, z6.1, z6.2.1, z6.2.2) iG) H := hP
  have hD : va_D A ([(h0, .inr (4, [.ref q1, .ref q3, .ref q5, .int 0, .null, .null]))] ++ wG kI (q1, z2.1, z2.2.1, z2.2.2) iG ++ wG kI (q3, z4.1, z4.2.1, z4.2.2) iG ++ wG kI (q5, z6.1, z6.2.1, z6.2.2) iG) := hD
  refine lv_aload_n hx hb dX5_init_37 rfl (lv_at hl 0 rfl) ?_
  refine lv_iconst (v := 0) hx hb dX5_init_38 (by decide) ?_
  refine va_put (D := D) (ci := 4) (v := .int 0) (ty := tyX5 3) (C := RX5) (T := TX5) (N := 6) hx hb hts (fun _ h => List.mem_cons_of_mem _ (List.mem_append_left _ (List.mem_append_left _ (List.mem_append_left _ (List.mem_append_right _ h))))) tyX5 tyX5_ok nmX5 hown hK hP hD hS 0 rfl rfl 3 (by decide) (hts (.fieldLink RX5 22 "HazelGift" "hasSnapshot" "Z") (List.mem_of_getElem? (i := 10) rfl)) (fun _ h9 => h9) rfl (tyX5_ok 3 (by decide)) rfl rfl (Nat.le_of_ble_eq_true rfl) dX5_init_39 (fun H locs hP hD hS => ?_)
  have hP : va_P D vwCl ([(h0, .inr (4, [.ref q1, .ref q3, .ref q5, .int 0, .null, .null]))] ++ wG kI (q1, z2.1, z2.2.1, z2.2.2) iG ++ wG kI (q3, z4.1, z4.2.1, z4.2.2) iG ++ wG kI (q5, z6.1, z6.2.1, z6.2.2) iG) H := hP
  have hD : va_D A ([(h0, .inr (4, [.ref q1, .ref q3, .ref q5, .int 0, .null, .null]))] ++ wG kI (q1, z2.1, z2.2.1, z2.2.2) iG ++ wG kI (q3, z4.1, z4.2.1, z4.2.2) iG ++ wG kI (q5, z6.1, z6.2.1, z6.2.2) iG) := hD
  refine lv_aload_n hx hb dX5_init_42 rfl (lv_at hl 0 rfl) ?_
  refine va_new (ci := 2) (fs := [.null, .int 0, .int 0]) (C := RX3) (T := TX3) (N := 3) hx hb hts (fun _ h => List.mem_cons_of_mem _ (List.mem_append_left _ (List.mem_append_left _ (List.mem_append_right _ h)))) tyX3 tyX3_ok hown (hts (.classLink RX5 26 RX3) (List.mem_of_getElem? (i := 11) rfl)) (hts (.instantiable RX3 3) (List.mem_of_getElem? (i := 12) rfl)) (hts (.initialized RX3) (List.mem_of_getElem? (i := 13) rfl)) hK hP hD hS hA rfl (fun j hj => by rcases (show j = 0 ∨ j = 1 ∨ j = 2 by omega) with rfl | rfl | rfl <;> rfl) (Nat.le_of_ble_eq_true rfl) (Nat.le_of_ble_eq_true rfl) dX5_init_43 (fun q7 H hP hD hS => ?_)
  have hP : va_P D vwCl ([(h0, .inr (4, [.ref q1, .ref q3, .ref q5, .int 0, .null, .null]))] ++ wG kI (q1, z2.1, z2.2.1, z2.2.2) iG ++ wG kI (q3, z4.1, z4.2.1, z4.2.2) iG ++ wG kI (q5, z6.1, z6.2.1, z6.2.2) iG ++ [(q7, .inr (2, [.null, .int 0, .int 0]))]) H := hP
  have hD : va_D A ([(h0, .inr (4, [.ref q1, .ref q3, .ref q5, .int 0, .null, .null]))] ++ wG kI (q1, z2.1, z2.2.1, z2.2.2) iG ++ wG kI (q3, z4.1, z4.2.1, z4.2.2) iG ++ wG kI (q5, z6.1, z6.2.1, z6.2.2) iG ++ [(q7, .inr (2, [.null, .int 0, .int 0]))]) := hD
  refine lv_dup hx hb dX5_init_46 rfl ?_
  refine gIv (S := (Nat × AG × AG × AG × AG)) (As := []) (rest := [.ref q7, .ref h0]) (wc := [(q7, .inr (2, [.null, .int 0, .int 0]))]) (wr := [(h0, .inr (4, [.ref q1, .ref q3, .ref q5, .int 0, .null, .null]))] ++ wG kI (q1, z2.1, z2.2.1, z2.2.2) iG ++ wG kI (q3, z4.1, z4.2.1, z4.2.2) iG ++ wG kI (q5, z6.1, z6.2.1, z6.2.2) iG) (cs1 := (fun zz : (Nat × AG × AG × AG × AG) => wH kI kG q7 zz.1 zz.2.1 zz.2.2.1 zz.2.2.2.1 zz.2.2.2.2 iH)) (ws2 := (fun zz : (Nat × AG × AG × AG × AG) => [(h0, .inr (4, [.ref q1, .ref q3, .ref q5, .int 0, .null, .null]))] ++ wG kI (q1, z2.1, z2.2.1, z2.2.2) iG ++ wG kI (q3, z4.1, z4.2.1, z4.2.2) iG ++ wG kI (q5, z6.1, z6.2.1, z6.2.2) iG ++ wH kI kG q7 zz.1 zz.2.1 zz.2.2.1 zz.2.2.2.1 zz.2.2.2.2 iH)) ⟨hx, hb, hml, hown, hts⟩ (fun sz => kX3_init l D kI kC kG kJ q7 sz) (cwI 0 hts gX5_init_X3_init rfl rfl rfl (hts (.initialized RX3) (List.mem_of_getElem? (i := 13) rfl)) (hts (.methodLink RX5 28 yX3_init) (List.mem_of_getElem? (i := 39) rfl)) (hts (.instanceMethod yX3_init) (List.mem_of_getElem? (i := 40) rfl)) rfl hdX3_init ⟨Nat.le_of_ble_eq_true rfl, Nat.le_of_ble_eq_true rfl⟩) hK hP hD hE hS hA [13] [0, 1, 2, 3, 4, 5, 6, 7, 8, 9, 10, 11, 12] rfl rfl rfl rfl (by decide) [0, 1, 2, 3, 4, 5, 6, 7, 8, 9, 10, 11, 12, 13, 14, 15, 16, 17, 18, 19, 20, 21, 22, 23, 24, 25, 26, 27, 28, 29, 30] rfl (fun _ => rfl) rfl hl.1 rfl (Nat.le_of_ble_eq_true rfl) dX5_init_47 ⟨Nat.le_of_ble_eq_true rfl, Nat.le_of_ble_eq_true rfl⟩ (fun z8 H locs hw hP hD hS => ?_)
  have hP : va_P D vwCl ([(h0, .inr (4, [.ref q1, .ref q3, .ref q5, .int 0, .null, .null]))] ++ wG kI (q1, z2.1, z2.2.1, z2.2.2) iG ++ wG kI (q3, z4.1, z4.2.1, z4.2.2) iG ++ wG kI (q5, z6.1, z6.2.1, z6.2.2) iG ++ wH kI kG q7 z8.1 z8.2.1 z8.2.2.1 z8.2.2.2.1 z8.2.2.2.2 iH) H := hP
  have hD : va_D A ([(h0, .inr (4, [.ref q1, .ref q3, .ref q5, .int 0, .null, .null]))] ++ wG kI (q1, z2.1, z2.2.1, z2.2.2) iG ++ wG kI (q3, z4.1, z4.2.1, z4.2.2) iG ++ wG kI (q5, z6.1, z6.2.1, z6.2.2) iG ++ wH kI kG q7 z8.1 z8.2.1 z8.2.2.1 z8.2.2.2.1 z8.2.2.2.2 iH) := hD
  refine va_putF (D := D) (ci := 4) (v := .ref q7) (ty := tyX5 4) (C := RX5) (T := TX5) (N := 6) hx hb hts (fun _ h => List.mem_cons_of_mem _ (List.mem_append_left _ (List.mem_append_left _ (List.mem_append_left _ (List.mem_append_right _ h))))) tyX5 tyX5_ok nmX5 hown hK hP hD hS 0 rfl rfl 4 (by decide) (hts (.fieldLink RX5 29 "HazelGift" "history" "LHazelGift$History;") (List.mem_of_getElem? (i := 14) rfl)) (fun _ h9 => h9) rfl hin rfl (tyX5_ok 4 (by decide)) rfl rfl (Nat.le_of_ble_eq_true rfl) dX5_init_50 (fun H locs hP hD hS => ?_)
  have hP : va_P D vwCl ([(h0, .inr (4, [.ref q1, .ref q3, .ref q5, .int 0, .ref q7, .null]))] ++ wG kI (q1, z2.1, z2.2.1, z2.2.2) iG ++ wG kI (q3, z4.1, z4.2.1, z4.2.2) iG ++ wG kI (q5, z6.1, z6.2.1, z6.2.2) iG ++ wH kI kG q7 z8.1 z8.2.1 z8.2.2.1 z8.2.2.2.1 z8.2.2.2.2 iH) H := hP
  have hD : va_D A ([(h0, .inr (4, [.ref q1, .ref q3, .ref q5, .int 0, .ref q7, .null]))] ++ wG kI (q1, z2.1, z2.2.1, z2.2.2) iG ++ wG kI (q3, z4.1, z4.2.1, z4.2.2) iG ++ wG kI (q5, z6.1, z6.2.1, z6.2.2) iG ++ wH kI kG q7 z8.1 z8.2.1 z8.2.2.1 z8.2.2.2.1 z8.2.2.2.2 iH) := hD
  refine lv_aload_n hx hb dX5_init_53 rfl (lv_at hl 0 rfl) ?_
  refine va_new (ci := 3) (fs := [.null, .int 0]) (C := RX4) (T := TX4) (N := 2) hx hb hts (fun _ h => List.mem_cons_of_mem _ (List.mem_append_left _ (List.mem_append_right _ h))) tyX4 tyX4_ok hown (hts (.classLink RX5 33 RX4) (List.mem_of_getElem? (i := 15) rfl)) (hts (.instantiable RX4 2) (List.mem_of_getElem? (i := 16) rfl)) (hts (.initialized RX4) (List.mem_of_getElem? (i := 17) rfl)) hK hP hD hS hA rfl (fun j hj => by rcases (show j = 0 ∨ j = 1 by omega) with rfl | rfl <;> rfl) (Nat.le_of_ble_eq_true rfl) (Nat.le_of_ble_eq_true rfl) dX5_init_54 (fun q9 H hP hD hS => ?_)
  have hP : va_P D vwCl ([(h0, .inr (4, [.ref q1, .ref q3, .ref q5, .int 0, .ref q7, .null]))] ++ wG kI (q1, z2.1, z2.2.1, z2.2.2) iG ++ wG kI (q3, z4.1, z4.2.1, z4.2.2) iG ++ wG kI (q5, z6.1, z6.2.1, z6.2.2) iG ++ wH kI kG q7 z8.1 z8.2.1 z8.2.2.1 z8.2.2.2.1 z8.2.2.2.2 iH ++ [(q9, .inr (3, [.null, .int 0]))]) H := hP
  have hD : va_D A ([(h0, .inr (4, [.ref q1, .ref q3, .ref q5, .int 0, .ref q7, .null]))] ++ wG kI (q1, z2.1, z2.2.1, z2.2.2) iG ++ wG kI (q3, z4.1, z4.2.1, z4.2.2) iG ++ wG kI (q5, z6.1, z6.2.1, z6.2.2) iG ++ wH kI kG q7 z8.1 z8.2.1 z8.2.2.1 z8.2.2.2.1 z8.2.2.2.2 iH ++ [(q9, .inr (3, [.null, .int 0]))]) := hD
  refine lv_dup hx hb dX5_init_57 rfl ?_
  refine gIv (S := Nat) (As := []) (rest := [.ref q9, .ref h0]) (wc := [(q9, .inr (3, [.null, .int 0]))]) (wr := [(h0, .inr (4, [.ref q1, .ref q3, .ref q5, .int 0, .ref q7, .null]))] ++ wG kI (q1, z2.1, z2.2.1, z2.2.2) iG ++ wG kI (q3, z4.1, z4.2.1, z4.2.2) iG ++ wG kI (q5, z6.1, z6.2.1, z6.2.2) iG ++ wH kI kG q7 z8.1 z8.2.1 z8.2.2.1 z8.2.2.2.1 z8.2.2.2.2 iH) (cs1 := (fun zz : Nat => wT kC q9 zz iT)) (ws2 := (fun zz : Nat => [(h0, .inr (4, [.ref q1, .ref q3, .ref q5, .int 0, .ref q7, .null]))] ++ wG kI (q1, z2.1, z2.2.1, z2.2.2) iG ++ wG kI (q3, z4.1, z4.2.1, z4.2.2) iG ++ wG kI (q5, z6.1, z6.2.1, z6.2.2) iG ++ wH kI kG q7 z8.1 z8.2.1 z8.2.2.1 z8.2.2.2.1 z8.2.2.2.2 iH ++ wT kC q9 zz iT)) ⟨hx, hb, hml, hown, hts⟩ (fun sz => kX4_init l D kI kC kG kJ q9 sz) (cwI 0 hts gX5_init_X4_init rfl rfl rfl (hts (.initialized RX4) (List.mem_of_getElem? (i := 17) rfl)) (hts (.methodLink RX5 35 yX4_init) (List.mem_of_getElem? (i := 48) rfl)) (hts (.instanceMethod yX4_init) (List.mem_of_getElem? (i := 49) rfl)) rfl hdX4_init ⟨Nat.le_of_ble_eq_true rfl, Nat.le_of_ble_eq_true rfl⟩) hK hP hD hE hS hA [31] [0, 1, 2, 3, 4, 5, 6, 7, 8, 9, 10, 11, 12, 13, 14, 15, 16, 17, 18, 19, 20, 21, 22, 23, 24, 25, 26, 27, 28, 29, 30] rfl rfl rfl rfl (by decide) [0, 1, 2, 3, 4, 5, 6, 7, 8, 9, 10, 11, 12, 13, 14, 15, 16, 17, 18, 19, 20, 21, 22, 23, 24, 25, 26, 27, 28, 29, 30, 31, 32] rfl (fun _ => rfl) rfl hl.1 rfl (Nat.le_of_ble_eq_true rfl) dX5_init_58 ⟨Nat.le_of_ble_eq_true rfl, Nat.le_of_ble_eq_true rfl⟩ (fun z10 H locs hw hP hD hS => ?_)
  have hP : va_P D vwCl ([(h0, .inr (4, [.ref q1, .ref q3, .ref q5, .int 0, .ref q7, .null]))] ++ wG kI (q1, z2.1, z2.2.1, z2.2.2) iG ++ wG kI (q3, z4.1, z4.2.1, z4.2.2) iG ++ wG kI (q5, z6.1, z6.2.1, z6.2.2) iG ++ wH kI kG q7 z8.1 z8.2.1 z8.2.2.1 z8.2.2.2.1 z8.2.2.2.2 iH ++ wT kC q9 z10 iT) H := hP
  have hD : va_D A ([(h0, .inr (4, [.ref q1, .ref q3, .ref q5, .int 0, .ref q7, .null]))] ++ wG kI (q1, z2.1, z2.2.1, z2.2.2) iG ++ wG kI (q3, z4.1, z4.2.1, z4.2.2) iG ++ wG kI (q5, z6.1, z6.2.1, z6.2.2) iG ++ wH kI kG q7 z8.1 z8.2.1 z8.2.2.1 z8.2.2.2.1 z8.2.2.2.2 iH ++ wT kC q9 z10 iT) := hD
  refine va_putF (D := D) (ci := 4) (v := .ref q9) (ty := tyX5 5) (C := RX5) (T := TX5) (N := 6) hx hb hts (fun _ h => List.mem_cons_of_mem _ (List.mem_append_left _ (List.mem_append_left _ (List.mem_append_left _ (List.mem_append_right _ h))))) tyX5 tyX5_ok nmX5 hown hK hP hD hS 0 rfl rfl 5 (by decide) (hts (.fieldLink RX5 36 "HazelGift" "text" "LHazelGift$MoveText;") (List.mem_of_getElem? (i := 18) rfl)) (fun _ h9 => h9) rfl hin rfl (tyX5_ok 5 (by decide)) rfl rfl (Nat.le_of_ble_eq_true rfl) dX5_init_61 (fun H locs hP hD hS => ?_)
  have hP : va_P D vwCl ([(h0, .inr (4, [.ref q1, .ref q3, .ref q5, .int 0, .ref q7, .ref q9]))] ++ wG kI (q1, z2.1, z2.2.1, z2.2.2) iG ++ wG kI (q3, z4.1, z4.2.1, z4.2.2) iG ++ wG kI (q5, z6.1, z6.2.1, z6.2.2) iG ++ wH kI kG q7 z8.1 z8.2.1 z8.2.2.1 z8.2.2.2.1 z8.2.2.2.2 iH ++ wT kC q9 z10 iT) H := hP
  have hD : va_D A ([(h0, .inr (4, [.ref q1, .ref q3, .ref q5, .int 0, .ref q7, .ref q9]))] ++ wG kI (q1, z2.1, z2.2.1, z2.2.2) iG ++ wG kI (q3, z4.1, z4.2.1, z4.2.2) iG ++ wG kI (q5, z6.1, z6.2.1, z6.2.2) iG ++ wH kI kG q7 z8.1 z8.2.1 z8.2.2.1 z8.2.2.2.1 z8.2.2.2.2 iH ++ wT kC q9 z10 iT) := hD
  exact W.vret hx hb hr (fun t ht hW => ⟨⟨((q1, z2.1, z2.2.1, z2.2.2), (q3, z4.1, z4.2.1, z4.2.2), (q5, z6.1, z6.2.1, z6.2.2), q7, z8.1, z8.2.1, z8.2.2.1, z8.2.2.2.1, z8.2.2.2.2, q9, z10), rfl, trivial, by rw [ht]; exact hP.sub [0, 1, 2, 3, 4, 5, 6, 7, 8, 9, 10, 11, 12, 13, 14, 15, 16, 17, 18, 19, 20, 21, 22, 23, 24, 25, 26, 27, 28, 29, 30, 31, 32] rfl, va_K.moved hW.alike hK, hD.sub [0, 1, 2, 3, 4, 5, 6, 7, 8, 9, 10, 11, 12, 13, 14, 15, 16, 17, 18, 19, 20, 21, 22, 23, 24, 25, 26, 27, 28, 29, 30, 31, 32] (by decide) rfl⟩, hS.F ht⟩) hS.2.2 dX5_init_64
