set_option maxHeartbeats 4000000 in
set_option maxRecDepth 100000 in
theorem kL_give (l : Launch) (D : va_G) (kI kC kG kJ : ClassId) (hlt : l.stackTraces = false) (x : Nat) (ag at_ as_ : AG) (hh hst : Nat) (a0 a1 a2 a3 : AG) (tx tch : Nat) (oo : Nat) (sz : Nat) (u : SX) (f : Nat → Int64) (p1 : Int32) (Z : Int32 → SX × (Nat → Int64) → Prop) (hw : pL_give p1 u f Z) : Met l yL_give wsL_give ({ frames := 8, cells := 2, slots := 12, locals := 131 } : Room) (gPw D (gT kI kC kG kJ) [.ref x, .int p1, .ref oo] (wX kI kC kG x ag at_ as_ hh hst a0 a1 a2 a3 tx tch u ++ [(oo, .inl (kJ, 1, .inr (.inl f)))]) sz) (va_Qi Z (gB D (gT kI kC kG kJ) (fun (zz : SX × (Nat → Int64)) => wX kI kC kG x ag at_ as_ hh hst a0 a1 a2 a3 tx tch zz.1 ++ [(oo, .inl (kJ, 1, .inr (.inl zz.2)))]) (va_A (wX kI kC kG x ag at_ as_ hh hst a0 a1 a2 a3 tx tch u ++ [(oo, .inl (kJ, 1, .inr (.inl f)))]) sz)) (va_A (wX kI kC kG x ag at_ as_ hh hst a0 a1 a2 a3 tx tch u ++ [(oo, .inl (kJ, 1, .inr (.inl f)))]) sz)) 2 12 (va_A (wX kI kC kG x ag at_ as_ hh hst a0 a1 a2 a3 tx tch u ++ [(oo, .inl (kJ, 1, .inr (.inl f)))]) sz) := by
  refine gOfWH (cc := cL_give) (maxL := 4) (ret := (some .int)) (hh := [(0, 9, 12, 13), (0, 9, 15, 15)]) (by decide) rfl ?_
  intro p e s m args below meth c s₁ B hml hv
  obtain ⟨rfl, hsz, hP, hK, hD0, hE⟩ := hv
  have hx := B.exec
  have hb := B.bytes
  have hr := B.returns
  have hts := atoms_spec (ws := wsL_give) B.pre
  have hown : s.vm.findClass RL = some m.cls := findClass_of_methodNamed B.named
  have hlocks := B.notSynchronized
  have htab := vx_table (x := yL_give) B (hts (.codeWith yL_give cL_give 4 (some .int) [(0, 9, 12, 13), (0, 9, 15, 15)]) List.mem_cons_self)
  subst hsz
  have hD := hD0.self (sz := s.heap.size)
  generalize hAe : va_A (wX kI kC kG x ag at_ as_ hh hst a0 a1 a2 a3 tx tch u ++ [(oo, .inl (kJ, 1, .inr (.inl f)))]) s.heap.size = A at hD hE ⊢
  have hA : ∀ q : Nat, s.heap.size ≤ q → A q := fun q h => by rw [← hAe]; exact Or.inr h
  have hS : va_S A s.heap s.heap [] := va_S.rf
  clear hAe hD0
  have hl := lv_entry ([.ref x, .int p1, .ref oo]) (n := 4) (Nat.le_of_ble_eq_true rfl)
  rw [lg_entry_eq]
  generalize (lg_sl ([.ref x, .int p1, .ref oo]) ++ List.replicate (4 - (lg_sl ([.ref x, .int p1, .ref oo])).length) Slot.unset).toArray = ls at hl ⊢
  have hl : lv_has ls 4 [(0, .ref x), (1, .int p1), (2, .ref oo)] := hl
  have hP : va_P D vwCl (wX kI kC kG x ag at_ as_ hh hst a0 a1 a2 a3 tx tch u ++ [(oo, .inl (kJ, 1, .inr (.inl f)))]) s.heap := hP
  unfold pL_give at hw
  refine lv_aload_n hx hb dL_give_0 rfl (lv_at hl 2 rfl) ?_
  refine lv_iconst (v := 0) hx hb dL_give_1 (by decide) ?_
  refine lv_aload_n hx hb dL_give_2 rfl (lv_at hl 0 rfl) ?_
  refine lv_iload_n hx hb dL_give_3 rfl (lv_at hl 1 rfl) ?_
  refine gCVi (S := SX) (As := [.int p1]) (rest := [.int 0, .ref oo]) (wc := wX kI kC kG x ag at_ as_ hh hst a0 a1 a2 a3 tx tch u) (wr := [(oo, .inl (kJ, 1, .inr (.inl f)))]) (cs1 := (fun zz : SX => wX kI kC kG x ag at_ as_ hh hst a0 a1 a2 a3 tx tch zz)) (ws2 := (fun zz : SX => wX kI kC kG x ag at_ as_ hh hst a0 a1 a2 a3 tx tch zz ++ [(oo, .inl (kJ, 1, .inr (.inl f)))])) ⟨hx, hb, hml, hown, hts⟩ (fun sz => kX5_give l D kI kC kG kJ hlt x ag at_ as_ hh hst a0 a1 a2 a3 tx tch sz u p1 _ _ hw) (cwV 1 hts gL_give_X5_give rfl rfl rfl hdX5_give ⟨Nat.le_of_ble_eq_true rfl, Nat.le_of_ble_eq_true rfl⟩) hK hP hD hE hS hA [0, 1, 2, 3, 4, 5, 6, 7, 8, 9, 10, 11, 12, 13, 14, 15, 16, 17, 18, 19, 20, 21, 22, 23, 24, 25, 26, 27, 28, 29, 30, 31, 32] [33] rfl rfl rfl rfl (by decide) [1, 2, 3, 4, 5, 6, 7, 8, 9, 10, 11, 12, 13, 14, 15, 16, 17, 18, 19, 20, 21, 22, 23, 24, 25, 26, 27, 28, 29, 30, 31, 32, 33, 0] rfl (fun _ => rfl) (ci := 4) (q0 := 0) rfl rfl rfl rfl hl.1 rfl (Nat.le_of_ble_eq_true rfl) dL_give_4 ⟨Nat.le_of_ble_eq_true rfl, Nat.le_of_ble_eq_true rfl⟩ (fun E ce q9 w1 H locs hw hP hD hS hce hcv hcl => ?_) (fun r1 w1 H locs hw hP hD hS => ?_)
  · have hP : va_P D vwCl (wX kI kC kG x ag at_ as_ hh hst a0 a1 a2 a3 tx tch w1 ++ [(oo, .inl (kJ, 1, .inr (.inl f)))]) H := hP
    have hD : va_D A (wX kI kC kG x ag at_ as_ hh hst a0 a1 a2 a3 tx tch w1 ++ [(oo, .inl (kJ, 1, .inr (.inl f)))]) := hD
    by_cases e1_0 : E = "java/lang/IndexOutOfBoundsException"
    · subst e1_0
      replace hw := Eq.mp (if_pos rfl) hw
      refine vx_catch hown [] ⟨0, 9, 12, 13⟩ [⟨0, 9, 15, 15⟩] htab (fun z hz => absurd hz List.not_mem_nil) rfl (by decide) (hts (.classLink RL 13 "java/lang/IndexOutOfBoundsException") (List.mem_of_getElem? (i := 1) rfl)) (hE.2.2.2.2.use _ (List.mem_of_getElem? (i := 4) rfl)) hce hcv hcl ?_
      refine lv_astore_n (lv' := [(3, .ref q9), (0, .ref x), (1, .int p1), (2, .ref oo)]) hx hb dL_give_12 rfl hl (by decide) rfl (fun ls hl => ?_)
      refine lv_iconst (v := 1) hx hb dL_give_13 (by decide) ?_
      exact W.iret (v := 1) hx hb hr (fun t ht hW => ⟨⟨1, (w1, f), rfl, hw, by rw [ht]; exact hP, va_K.moved hW.alike hK, hD⟩, hS.F ht⟩) hS.2.2 dL_give_14
    replace hw := Eq.mp (if_neg e1_0) hw
    by_cases e1_1 : E = "java/lang/IllegalStateException"
    · subst e1_1
      replace hw := Eq.mp (if_pos rfl) hw
      refine vx_catch hown [⟨0, 9, 12, 13⟩] ⟨0, 9, 15, 15⟩ [] htab (fun z hz => by rcases List.mem_singleton.mp hz with rfl; exact Or.inr ⟨by decide, "java/lang/IndexOutOfBoundsException", (hts (.classLink RL 13 "java/lang/IndexOutOfBoundsException") (List.mem_of_getElem? (i := 1) rfl)), hE.2.2.2.2.2.1⟩) rfl (by decide) (hts (.classLink RL 15 "java/lang/IllegalStateException") (List.mem_of_getElem? (i := 2) rfl)) (hE.2.2.2.2.use _ (List.mem_of_getElem? (i := 3) rfl)) hce hcv hcl ?_
      refine lv_astore_n (lv' := [(3, .ref q9), (0, .ref x), (1, .int p1), (2, .ref oo)]) hx hb dL_give_15 rfl hl (by decide) rfl (fun ls hl => ?_)
      refine lv_iconst (v := 2) hx hb dL_give_16 (by decide) ?_
      exact W.iret (v := 2) hx hb hr (fun t ht hW => ⟨⟨2, (w1, f), rfl, hw, by rw [ht]; exact hP, va_K.moved hW.alike hK, hD⟩, hS.F ht⟩) hS.2.2 dL_give_17
    replace hw := Eq.mp (if_neg e1_1) hw
    exact (hw : False).elim
  have hP : va_P D vwCl (wX kI kC kG x ag at_ as_ hh hst a0 a1 a2 a3 tx tch w1 ++ [(oo, .inl (kJ, 1, .inr (.inl f)))]) H := hP
  have hD : va_D A (wX kI kC kG x ag at_ as_ hh hst a0 a1 a2 a3 tx tch w1 ++ [(oo, .inl (kJ, 1, .inr (.inl f)))]) := hD
  refine lv_i2l (v := r1.toInt64) hx hb dL_give_7 rfl ?_
  refine gLast (k := 0) hx hb hK hP hD hS 33 3 rfl rfl (gin (by decide)) (by decide) dL_give_8 (fun H locs hP hD hS => ?_)
  have hP : va_P D vwCl (wX kI kC kG x ag at_ as_ hh hst a0 a1 a2 a3 tx tch w1 ++ [(oo, .inl (kJ, 1, .inr (.inl (vp_updL f 0 r1.toInt64))))]) H := hP
  have hD : va_D A (wX kI kC kG x ag at_ as_ hh hst a0 a1 a2 a3 tx tch w1 ++ [(oo, .inl (kJ, 1, .inr (.inl (vp_updL f 0 r1.toInt64))))]) := hD
  refine lv_goto (tgt := 18) hx hb dL_give_9 (by decide) ?_
  refine lv_iconst (v := 0) hx hb dL_give_18 (by decide) ?_
  exact W.iret (v := 0) hx hb hr (fun t ht hW => ⟨⟨0, (w1, (vp_updL f 0 r1.toInt64)), rfl, hw, by rw [ht]; exact hP, va_K.moved hW.alike hK, hD⟩, hS.F ht⟩) hS.2.2 dL_give_19
set_option maxHeartbeats 4000000 in
set_option maxRecDepth 100000 in
theorem kL_place (l : Launch) (D : va_G) (kI kC kG kJ : ClassId) (hlt : l.stackTraces = false) (x : Nat) (ag at_ as_ : AG) (hh hst : Nat) (a0 a1 a2 a3 : AG) (tx tch : Nat) (oo : Nat) (sz : Nat) (u : SX) (f : Nat → Int64) (p1 : Int32) (Z : Int32 → SX × (Nat → Int64) → Prop) (hw : pL_place p1 u f Z) : Met l yL_place wsL_place ({ frames := 8, cells := 2, slots := 12, locals := 144 } : Room) (gPw D (gT kI kC kG kJ) [.ref x, .int p1, .ref oo] (wX kI kC kG x ag at_ as_ hh hst a0 a1 a2 a3 tx tch u ++ [(oo, .inl (kJ, 1, .inr (.inl f)))]) sz) (va_Qi Z (gB D (gT kI kC kG kJ) (fun (zz : SX × (Nat → Int64)) => wX kI kC kG x ag at_ as_ hh hst a0 a1 a2 a3 tx tch zz.1 ++ [(oo, .inl (kJ, 1, .inr (.inl zz.2)))]) (va_A (wX kI kC kG x ag at_ as_ hh hst a0 a1 a2 a3 tx tch u ++ [(oo, .inl (kJ, 1, .inr (.inl f)))]) sz)) (va_A (wX kI kC kG x ag at_ as_ hh hst a0 a1 a2 a3 tx tch u ++ [(oo, .inl (kJ, 1, .inr (.inl f)))]) sz)) 2 12 (va_A (wX kI kC kG x ag at_ as_ hh hst a0 a1 a2 a3 tx tch u ++ [(oo, .inl (kJ, 1, .inr (.inl f)))]) sz) := by
  refine gOfWH (cc := cL_place) (maxL := 4) (ret := (some .int)) (hh := [(0, 16, 19, 13), (0, 16, 22, 15)]) (by decide) rfl ?_
  intro p e s m args below meth c s₁ B hml hv
  obtain ⟨rfl, hsz, hP, hK, hD0, hE⟩ := hv
  have hx := B.exec
  have hb := B.bytes
  have hr := B.returns
  have hts := atoms_spec (ws := wsL_place) B.pre
  have hown : s.vm.findClass RL = some m.cls := findClass_of_methodNamed B.named
  have hlocks := B.notSynchronized
  have htab := vx_table (x := yL_place) B (hts (.codeWith yL_place cL_place 4 (some .int) [(0, 16, 19, 13), (0, 16, 22, 15)]) List.mem_cons_self)
  subst hsz
  have hD := hD0.self (sz := s.heap.size)
  generalize hAe : va_A (wX kI kC kG x ag at_ as_ hh hst a0 a1 a2 a3 tx tch u ++ [(oo, .inl (kJ, 1, .inr (.inl f)))]) s.heap.size = A at hD hE ⊢
  have hA : ∀ q : Nat, s.heap.size ≤ q → A q := fun q h => by rw [← hAe]; exact Or.inr h
  have hS : va_S A s.heap s.heap [] := va_S.rf
  clear hAe hD0
  have hl := lv_entry ([.ref x, .int p1, .ref oo]) (n := 4) (Nat.le_of_ble_eq_true rfl)
  rw [lg_entry_eq]
  generalize (lg_sl ([.ref x, .int p1, .ref oo]) ++ List.replicate (4 - (lg_sl ([.ref x, .int p1, .ref oo])).length) Slot.unset).toArray = ls at hl ⊢
  have hl : lv_has ls 4 [(0, .ref x), (1, .int p1), (2, .ref oo)] := hl
  have hP : va_P D vwCl (wX kI kC kG x ag at_ as_ hh hst a0 a1 a2 a3 tx tch u ++ [(oo, .inl (kJ, 1, .inr (.inl f)))]) s.heap := hP
  unfold pL_place at hw
  refine lv_aload_n hx hb dL_place_0 rfl (lv_at hl 2 rfl) ?_
  refine lv_iconst (v := 0) hx hb dL_place_1 (by decide) ?_
  refine lv_aload_n hx hb dL_place_2 rfl (lv_at hl 0 rfl) ?_
  refine lv_iload_n hx hb dL_place_3 rfl (lv_at hl 1 rfl) ?_
  refine gCVi (S := SX) (As := [.int p1]) (rest := [.int 0, .ref oo]) (wc := wX kI kC kG x ag at_ as_ hh hst a0 a1 a2 a3 tx tch u) (wr := [(oo, .inl (kJ, 1, .inr (.inl f)))]) (cs1 := (fun zz : SX => wX kI kC kG x ag at_ as_ hh hst a0 a1 a2 a3 tx tch zz)) (ws2 := (fun zz : SX => wX kI kC kG x ag at_ as_ hh hst a0 a1 a2 a3 tx tch zz ++ [(oo, .inl (kJ, 1, .inr (.inl f)))])) ⟨hx, hb, hml, hown, hts⟩ (fun sz => kX5_place l D kI kC kG kJ hlt x ag at_ as_ hh hst a0 a1 a2 a3 tx tch sz u p1 _ _ hw) (cwV 1 hts gL_place_X5_place rfl rfl rfl hdX5_place ⟨Nat.le_of_ble_eq_true rfl, Nat.le_of_ble_eq_true rfl⟩) hK hP hD hE hS hA [0, 1, 2, 3, 4, 5, 6, 7, 8, 9, 10, 11, 12, 13, 14, 15, 16, 17, 18, 19, 20, 21, 22, 23, 24, 25, 26, 27, 28, 29, 30, 31, 32] [33] rfl rfl rfl rfl (by decide) [1, 2, 3, 4, 5, 6, 7, 8, 9, 10, 11, 12, 13, 14, 15, 16, 17, 18, 19, 20, 21, 22, 23, 24, 25, 26, 27, 28, 29, 30, 31, 32, 33, 0] rfl (fun _ => rfl) (ci := 4) (q0 := 0) rfl rfl rfl rfl hl.1 rfl (Nat.le_of_ble_eq_true rfl) dL_place_4 ⟨Nat.le_of_ble_eq_true rfl, Nat.le_of_ble_eq_true rfl⟩ (fun E ce q9 w1 H locs hw hP hD hS hce hcv hcl => ?_) (fun r1 w1 H locs hw hP hD hS => ?_)
  · have hP : va_P D vwCl (wX kI kC kG x ag at_ as_ hh hst a0 a1 a2 a3 tx tch w1 ++ [(oo, .inl (kJ, 1, .inr (.inl f)))]) H := hP
    have hD : va_D A (wX kI kC kG x ag at_ as_ hh hst a0 a1 a2 a3 tx tch w1 ++ [(oo, .inl (kJ, 1, .inr (.inl f)))]) := hD
    by_cases e1_0 : E = "java/lang/IndexOutOfBoundsException"
    · subst e1_0
      replace hw := Eq.mp (if_pos rfl) hw
      refine vx_catch hown [] ⟨0, 16, 19, 13⟩ [⟨0, 16, 22, 15⟩] htab (fun z hz => absurd hz List.not_mem_nil) rfl (by decide) (hts (.classLink RL 13 "java/lang/IndexOutOfBoundsException") (List.mem_of_getElem? (i := 1) rfl)) (hE.2.2.2.2.use _ (List.mem_of_getElem? (i := 4) rfl)) hce hcv hcl ?_
      refine lv_astore_n (lv' := [(3, .ref q9), (0, .ref x), (1, .int p1), (2, .ref oo)]) hx hb dL_place_19 rfl hl (by decide) rfl (fun ls hl => ?_)
      refine lv_iconst (v := 1) hx hb dL_place_20 (by decide) ?_
      exact W.iret (v := 1) hx hb hr (fun t ht hW => ⟨⟨1, (w1, f), rfl, hw, by rw [ht]; exact hP, va_K.moved hW.alike hK, hD⟩, hS.F ht⟩) hS.2.2 dL_place_21
    replace hw := Eq.mp (if_neg e1_0) hw
    by_cases e1_1 : E = "java/lang/IllegalStateException"
    · subst e1_1
      replace hw := Eq.mp (if_pos rfl) hw
      refine vx_catch hown [⟨0, 16, 19, 13⟩] ⟨0, 16, 22, 15⟩ [] htab (fun z hz => by rcases List.mem_singleton.mp hz with rfl; exact Or.inr ⟨by decide, "java/lang/IndexOutOfBoundsException", (hts (.classLink RL 13 "java/lang/IndexOutOfBoundsException") (List.mem_of_getElem? (i := 1) rfl)), hE.2.2.2.2.2.1⟩) rfl (by decide) (hts (.classLink RL 15 "java/lang/IllegalStateException") (List.mem_of_getElem? (i := 2) rfl)) (hE.2.2.2.2.use _ (List.mem_of_getElem? (i := 3) rfl)) hce hcv hcl ?_
      refine lv_astore_n (lv' := [(3, .ref q9), (0, .ref x), (1, .int p1), (2, .ref oo)]) hx hb dL_place_22 rfl hl (by decide) rfl (fun ls hl => ?_)
      refine lv_iconst (v := 2) hx hb dL_place_23 (by decide) ?_
      exact W.iret (v := 2) hx hb hr (fun t ht hW => ⟨⟨2, (w1, f), rfl, hw, by rw [ht]; exact hP, va_K.moved hW.alike hK, hD⟩, hS.F ht⟩) hS.2.2 dL_place_24
    replace hw := Eq.mp (if_neg e1_1) hw
    exact (hw : False).elim
  have hP : va_P D vwCl (wX kI kC kG x ag at_ as_ hh hst a0 a1 a2 a3 tx tch w1 ++ [(oo, .inl (kJ, 1, .inr (.inl f)))]) H := hP
  have hD : va_D A (wX kI kC kG x ag at_ as_ hh hst a0 a1 a2 a3 tx tch w1 ++ [(oo, .inl (kJ, 1, .inr (.inl f)))]) := hD
  refine lv_if_eq (tgt := 14) hx hb dL_place_7 (by decide) (fun c2 => ?_) (fun c2 => ?_)
  · replace hw := Eq.mp (if_pos c2) hw
    refine lv_lconst (v := 0) hx hb dL_place_14 (by decide) ?_
    refine gLast (k := 0) hx hb hK hP hD hS 33 3 rfl rfl (gin (by decide)) (by decide) dL_place_15 (fun H locs hP hD hS => ?_)
    have hP : va_P D vwCl (wX kI kC kG x ag at_ as_ hh hst a0 a1 a2 a3 tx tch w1 ++ [(oo, .inl (kJ, 1, .inr (.inl (vp_updL f 0 0))))]) H := hP
    have hD : va_D A (wX kI kC kG x ag at_ as_ hh hst a0 a1 a2 a3 tx tch w1 ++ [(oo, .inl (kJ, 1, .inr (.inl (vp_updL f 0 0))))]) := hD
    refine lv_goto (tgt := 25) hx hb dL_place_16 (by decide) ?_
    refine lv_iconst (v := 0) hx hb dL_place_25 (by decide) ?_
    exact W.iret (v := 0) hx hb hr (fun t ht hW => ⟨⟨0, (w1, (vp_updL f 0 0)), rfl, hw, by rw [ht]; exact hP, va_K.moved hW.alike hK, hD⟩, hS.F ht⟩) hS.2.2 dL_place_26
  · replace hw := Eq.mp (if_neg c2) hw
    refine lv_lconst (v := 1) hx hb dL_place_10 (by decide) ?_
    refine lv_goto (tgt := 15) hx hb dL_place_11 (by decide) ?_
    refine gLast (k := 0) hx hb hK hP hD hS 33 3 rfl rfl (gin (by decide)) (by decide) dL_place_15 (fun H locs hP hD hS => ?_)
    have hP : va_P D vwCl (wX kI kC kG x ag at_ as_ hh hst a0 a1 a2 a3 tx tch w1 ++ [(oo, .inl (kJ, 1, .inr (.inl (vp_updL f 0 1))))]) H := hP
    have hD : va_D A (wX kI kC kG x ag at_ as_ hh hst a0 a1 a2 a3 tx tch w1 ++ [(oo, .inl (kJ, 1, .inr (.inl (vp_updL f 0 1))))]) := hD
    refine lv_goto (tgt := 25) hx hb dL_place_16 (by decide) ?_
    refine lv_iconst (v := 0) hx hb dL_place_25 (by decide) ?_
    exact W.iret (v := 0) hx hb hr (fun t ht hW => ⟨⟨0, (w1, (vp_updL f 0 1)), rfl, hw, by rw [ht]; exact hP, va_K.moved hW.alike hK, hD⟩, hS.F ht⟩) hS.2.2 dL_place_26
set_option maxHeartbeats 4000000 in
set_option maxRecDepth 100000 in
theorem kL_restart (l : Launch) (D : va_G) (kI kC kG kJ : ClassId) (hlt : l.stackTraces = false) (x : Nat) (ag at_ as_ : AG) (hh hst : Nat) (a0 a1 a2 a3 : AG) (tx tch : Nat) (oo : Nat) (sz : Nat) (u : SX) (f : Nat → Int64) (p1 : Int32) (Z : Int32 → SX × (Nat → Int64) → Prop) (hw : pL_restart p1 u f Z) : Met l yL_restart wsL_restart ({ frames := 7, cells := 1, slots := 6, locals := 112 } : Room) (gPw D (gT kI kC kG kJ) [.ref x, .int p1, .ref oo] (wX kI kC kG x ag at_ as_ hh hst a0 a1 a2 a3 tx tch u ++ [(oo, .inl (kJ, 1, .inr (.inl f)))]) sz) (va_Qi Z (gB D (gT kI kC kG kJ) (fun (zz : SX × (Nat → Int64)) => wX kI kC kG x ag at_ as_ hh hst a0 a1 a2 a3 tx tch zz.1 ++ [(oo, .inl (kJ, 1, .inr (.inl zz.2)))]) (va_A (wX kI kC kG x ag at_ as_ hh hst a0 a1 a2 a3 tx tch u ++ [(oo, .inl (kJ, 1, .inr (.inl f)))]) sz)) (va_A (wX kI kC kG x ag at_ as_ hh hst a0 a1 a2 a3 tx tch u ++ [(oo, .inl (kJ, 1, .inr (.inl f)))]) sz)) 1 6 (va_A (wX kI kC kG x ag at_ as_ hh hst a0 a1 a2 a3 tx tch u ++ [(oo, .inl (kJ, 1, .inr (.inl f)))]) sz) := by
  refine gOfWH (cc := cL_restart) (maxL := 4) (ret := (some .int)) (hh := [(0, 9, 12, 24)]) (by decide) rfl ?_
  intro p e s m args below meth c s₁ B hml hv
  obtain ⟨rfl, hsz, hP, hK, hD0, hE⟩ := hv
  have hx := B.exec
  have hb := B.bytes
  have hr := B.returns
  have hts := atoms_spec (ws := wsL_restart) B.pre
  have hown : s.vm.findClass RL = some m.cls := findClass_of_methodNamed B.named
  have hlocks := B.notSynchronized
  have htab := vx_table (x := yL_restart) B (hts (.codeWith yL_restart cL_restart 4 (some .int) [(0, 9, 12, 24)]) List.mem_cons_self)
  subst hsz
  have hD := hD0.self (sz := s.heap.size)
  generalize hAe : va_A (wX kI kC kG x ag at_ as_ hh hst a0 a1 a2 a3 tx tch u ++ [(oo, .inl (kJ, 1, .inr (.inl f)))]) s.heap.size = A at hD hE ⊢
  have hA : ∀ q : Nat, s.heap.size ≤ q → A q := fun q h => by rw [← hAe]; exact Or.inr h
  have hS : va_S A s.heap s.heap [] := va_S.rf
  clear hAe hD0
  have hl := lv_entry ([.ref x, .int p1, .ref oo]) (n := 4) (Nat.le_of_ble_eq_true rfl)
  rw [lg_entry_eq]
  generalize (lg_sl ([.ref x, .int p1, .ref oo]) ++ List.replicate (4 - (lg_sl ([.ref x, .int p1, .ref oo])).length) Slot.unset).toArray = ls at hl ⊢
  have hl : lv_has ls 4 [(0, .ref x), (1, .int p1), (2, .ref oo)] := hl
  have hP : va_P D vwCl (wX kI kC kG x ag at_ as_ hh hst a0 a1 a2 a3 tx tch u ++ [(oo, .inl (kJ, 1, .inr (.inl f)))]) s.heap := hP
  unfold pL_restart at hw
  refine lv_aload_n hx hb dL_restart_0 rfl (lv_at hl 2 rfl) ?_
  refine lv_iconst (v := 0) hx hb dL_restart_1 (by decide) ?_
  refine lv_aload_n hx hb dL_restart_2 rfl (lv_at hl 0 rfl) ?_
  refine lv_iload_n hx hb dL_restart_3 rfl (lv_at hl 1 rfl) ?_
  refine gCVi (S := SX) (As := [.int p1]) (rest := [.int 0, .ref oo]) (wc := wX kI kC kG x ag at_ as_ hh hst a0 a1 a2 a3 tx tch u) (wr := [(oo, .inl (kJ, 1, .inr (.inl f)))]) (cs1 := (fun zz : SX => wX kI kC kG x ag at_ as_ hh hst a0 a1 a2 a3 tx tch zz)) (ws2 := (fun zz : SX => wX kI kC kG x ag at_ as_ hh hst a0 a1 a2 a3 tx tch zz ++ [(oo, .inl (kJ, 1, .inr (.inl f)))])) ⟨hx, hb, hml, hown, hts⟩ (fun sz => kX5_restart l D kI kC kG kJ hlt x ag at_ as_ hh hst a0 a1 a2 a3 tx tch sz u p1 _ _ hw) (cwV 1 hts gL_restart_X5_restart rfl rfl rfl hdX5_restart ⟨Nat.le_of_ble_eq_true rfl, Nat.le_of_ble_eq_true rfl⟩) hK hP hD hE hS hA [0, 1, 2, 3, 4, 5, 6, 7, 8, 9, 10, 11, 12, 13, 14, 15, 16, 17, 18, 19, 20, 21, 22, 23, 24, 25, 26, 27, 28, 29, 30, 31, 32] [33] rfl rfl rfl rfl (by decide) [1, 2, 3, 4, 5, 6, 7, 8, 9, 10, 11, 12, 13, 14, 15, 16, 17, 18, 19, 20, 21, 22, 23, 24, 25, 26, 27, 28, 29, 30, 31, 32, 33, 0] rfl (fun _ => rfl) (ci := 4) (q0 := 0) rfl rfl rfl rfl hl.1 rfl (Nat.le_of_ble_eq_true rfl) dL_restart_4 ⟨Nat.le_of_ble_eq_true rfl, Nat.le_of_ble_eq_true rfl⟩ (fun E ce q9 w1 H locs hw hP hD hS hce hcv hcl => ?_) (fun r1 w1 H locs hw hP hD hS => ?_)
  · have hP : va_P D vwCl (wX kI kC kG x ag at_ as_ hh hst a0 a1 a2 a3 tx tch w1 ++ [(oo, .inl (kJ, 1, .inr (.inl f)))]) H := hP
    have hD : va_D A (wX kI kC kG x ag at_ as_ hh hst a0 a1 a2 a3 tx tch w1 ++ [(oo, .inl (kJ, 1, .inr (.inl f)))]) := hD
    by_cases e1_0 : E = "java/lang/IllegalArgumentException"
    · subst e1_0
      replace hw := Eq.mp (if_pos rfl) hw
      refine vx_catch hown [] ⟨0, 9, 12, 24⟩ [] htab (fun z hz => absurd hz List.not_mem_nil) rfl (by decide) (hts (.classLink RL 24 "java/lang/IllegalArgumentException") (List.mem_of_getElem? (i := 1) rfl)) (hE.2.2.2.2.use _ (List.mem_of_getElem? (i := 5) rfl)) hce hcv hcl ?_
      refine lv_astore_n (lv' := [(3, .ref q9), (0, .ref x), (1, .int p1), (2, .ref oo)]) hx hb dL_restart_12 rfl hl (by decide) rfl (fun ls hl => ?_)
      refine lv_iconst (v := 1) hx hb dL_restart_13 (by decide) ?_
      exact W.iret (v := 1) hx hb hr (fun t ht hW => ⟨⟨1, (w1, f), rfl, hw, by rw [ht]; exact hP, va_K.moved hW.alike hK, hD⟩, hS.F ht⟩) hS.2.2 dL_restart_14
    replace hw := Eq.mp (if_neg e1_0) hw
    exact (hw : False).elim
  have hP : va_P D vwCl (wX kI kC kG x ag at_ as_ hh hst a0 a1 a2 a3 tx tch w1 ++ [(oo, .inl (kJ, 1, .inr (.inl f)))]) H := hP
  have hD : va_D A (wX kI kC kG x ag at_ as_ hh hst a0 a1 a2 a3 tx tch w1 ++ [(oo, .inl (kJ, 1, .inr (.inl f)))]) := hD
  refine lv_i2l (v := r1.toInt64) hx hb dL_restart_7 rfl ?_
  refine gLast (k := 0) hx hb hK hP hD hS 33 3 rfl rfl (gin (by decide)) (by decide) dL_restart_8 (fun H locs hP hD hS => ?_)
  have hP : va_P D vwCl (wX kI kC kG x ag at_ as_ hh hst a0 a1 a2 a3 tx tch w1 ++ [(oo, .inl (kJ, 1, .inr (.inl (vp_updL f 0 r1.toInt64))))]) H := hP
  have hD : va_D A (wX kI kC kG x ag at_ as_ hh hst a0 a1 a2 a3 tx tch w1 ++ [(oo, .inl (kJ, 1, .inr (.inl (vp_updL f 0 r1.toInt64))))]) := hD
  refine lv_goto (tgt := 15) hx hb dL_restart_9 (by decide) ?_
  refine lv_iconst (v := 0) hx hb dL_restart_15 (by decide) ?_
  exact W.iret (v := 0) hx hb hr (fun t ht hW => ⟨⟨0, (w1, (vp_updL f 0 r1.toInt64)), rfl, hw, by rw [ht]; exact hP, va_K.moved hW.alike hK, hD⟩, hS.F ht⟩) hS.2.2 dL_restart_16
set_option maxHeartbeats 4000000 in
set_option maxRecDepth 100000 in
theorem kL_type (l : Launch) (D : va_G) (kI kC kG kJ : ClassId) (hlt : l.stackTraces = false) (x : Nat) (ag at_ as_ : AG) (hh hst : Nat) (a0 a1 a2 a3 : AG) (tx tch : Nat) (oo : Nat) (sz : Nat) (u : SX) (f : Nat → Int64) (p1 : Int32) (Z : Int32 → SX × (Nat → Int64) → Prop) (hw : pL_type p1 u f Z) : Met l yL_type wsL_type ({ frames := 7, cells := 1, slots := 6, locals := 111 } : Room) (gPw D (gT kI kC kG kJ) [.ref x, .int p1, .ref oo] (wX kI kC kG x ag at_ as_ hh hst a0 a1 a2 a3 tx tch u ++ [(oo, .inl (kJ, 1, .inr (.inl f)))]) sz) (va_Qi Z (gB D (gT kI kC kG kJ) (fun (zz : SX × (Nat → Int64)) => wX kI kC kG x ag at_ as_ hh hst a0 a1 a2 a3 tx tch zz.1 ++ [(oo, .inl (kJ, 1, .inr (.inl zz.2)))]) (va_A (wX kI kC kG x ag at_ as_ hh hst a0 a1 a2 a3 tx tch u ++ [(oo, .inl (kJ, 1, .inr (.inl f)))]) sz)) (va_A (wX kI kC kG x ag at_ as_ hh hst a0 a1 a2 a3 tx tch u ++ [(oo, .inl (kJ, 1, .inr (.inl f)))]) sz)) 1 6 (va_A (wX kI kC kG x ag at_ as_ hh hst a0 a1 a2 a3 tx tch u ++ [(oo, .inl (kJ, 1, .inr (.inl f)))]) sz) := by
  refine gOfWH (cc := cL_type) (maxL := 4) (ret := (some .int)) (hh := [(0, 9, 12, 15)]) (by decide) rfl ?_
  intro p e s m args below meth c s₁ B hml hv
  obtain ⟨rfl, hsz, hP, hK, hD0, hE⟩ := hv
  have hx := B.exec
  have hb := B.bytes
  have hr := B.returns
  have hts := atoms_spec (ws := wsL_type) B.pre
  have hown : s.vm.findClass RL = some m.cls := findClass_of_methodNamed B.named
  have hlocks := B.notSynchronized
  have htab := vx_table (x := yL_type) B (hts (.codeWith yL_type cL_type 4 (some .int) [(0, 9, 12, 15)]) List.mem_cons_self)
  subst hsz
  have hD := hD0.self (sz := s.heap.size)
  generalize hAe : va_A (wX kI kC kG x ag at_ as_ hh hst a0 a1 a2 a3 tx tch u ++ [(oo, .inl (kJ, 1, .inr (.inl f)))]) s.heap.size = A at hD hE ⊢
  have hA : ∀ q : Nat, s.heap.size ≤ q → A q := fun q h => by rw [← hAe]; exact Or.inr h
  have hS : va_S A s.heap s.heap [] := va_S.rf
  clear hAe hD0
  have hl := lv_entry ([.ref x, .int p1, .ref oo]) (n := 4) (Nat.le_of_ble_eq_true rfl)
  rw [lg_entry_eq]
  generalize (lg_sl ([.ref x, .int p1, .ref oo]) ++ List.replicate (4 - (lg_sl ([.ref x, .int p1, .ref oo])).length) Slot.unset).toArray = ls at hl ⊢
  have hl : lv_has ls 4 [(0, .ref x), (1, .int p1), (2, .ref oo)] := hl
  have hP : va_P D vwCl (wX kI kC kG x ag at_ as_ hh hst a0 a1 a2 a3 tx tch u ++ [(oo, .inl (kJ, 1, .inr (.inl f)))]) s.heap := hP
  unfold pL_type at hw
  refine lv_aload_n hx hb dL_type_0 rfl (lv_at hl 2 rfl) ?_
  refine lv_iconst (v := 0) hx hb dL_type_1 (by decide) ?_
  refine lv_aload_n hx hb dL_type_2 rfl (lv_at hl 0 rfl) ?_
  refine lv_iload_n hx hb dL_type_3 rfl (lv_at hl 1 rfl) ?_
  refine gCVi (S := SX) (As := [.int p1]) (rest := [.int 0, .ref oo]) (wc := wX kI kC kG x ag at_ as_ hh hst a0 a1 a2 a3 tx tch u) (wr := [(oo, .inl (kJ, 1, .inr (.inl f)))]) (cs1 := (fun zz : SX => wX kI kC kG x ag at_ as_ hh hst a0 a1 a2 a3 tx tch zz)) (ws2 := (fun zz : SX => wX kI kC kG x ag at_ as_ hh hst a0 a1 a2 a3 tx tch zz ++ [(oo, .inl (kJ, 1, .inr (.inl f)))])) ⟨hx, hb, hml, hown, hts⟩ (fun sz => kX5_type l D kI kC kG kJ hlt x ag at_ as_ hh hst a0 a1 a2 a3 tx tch sz u p1 _ _ hw) (cwV 1 hts gL_type_X5_type rfl rfl rfl hdX5_type ⟨Nat.le_of_ble_eq_true rfl, Nat.le_of_ble_eq_true rfl⟩) hK hP hD hE hS hA [0, 1, 2, 3, 4, 5, 6, 7, 8, 9, 10, 11, 12, 13, 14, 15, 16, 17, 18, 19, 20, 21, 22, 23, 24, 25, 26, 27, 28, 29, 30, 31, 32] [33] rfl rfl rfl rfl (by decide) [1, 2, 3, 4, 5, 6, 7, 8, 9, 10, 11, 12, 13, 14, 15, 16, 17, 18, 19, 20, 21, 22, 23, 24, 25, 26, 27, 28, 29, 30, 31, 32, 33, 0] rfl (fun _ => rfl) (ci := 4) (q0 := 0) rfl rfl rfl rfl hl.1 rfl (Nat.le_of_ble_eq_true rfl) dL_type_4 ⟨Nat.le_of_ble_eq_true rfl, Nat.le_of_ble_eq_true rfl⟩ (fun E ce q9 w1 H locs hw hP hD hS hce hcv hcl => ?_) (fun r1 w1 H locs hw hP hD hS => ?_)
  · have hP : va_P D vwCl (wX kI kC kG x ag at_ as_ hh hst a0 a1 a2 a3 tx tch w1 ++ [(oo, .inl (kJ, 1, .inr (.inl f)))]) H := hP
    have hD : va_D A (wX kI kC kG x ag at_ as_ hh hst a0 a1 a2 a3 tx tch w1 ++ [(oo, .inl (kJ, 1, .inr (.inl f)))]) := hD
    by_cases e1_0 : E = "java/lang/IllegalStateException"
    · subst e1_0
      replace hw := Eq.mp (if_pos rfl) hw
      refine vx_catch hown [] ⟨0, 9, 12, 15⟩ [] htab (fun z hz => absurd hz List.not_mem_nil) rfl (by decide) (hts (.classLink RL 15 "java/lang/IllegalStateException") (List.mem_of_getElem? (i := 1) rfl)) (hE.2.2.2.2.use _ (List.mem_of_getElem? (i := 3) rfl)) hce hcv hcl ?_
      refine lv_astore_n (lv' := [(3, .ref q9), (0, .ref x), (1, .int p1), (2, .ref oo)]) hx hb dL_type_12 rfl hl (by decide) rfl (fun ls hl => ?_)
      refine lv_iconst (v := 1) hx hb dL_type_13 (by decide) ?_
      exact W.iret (v := 1) hx hb hr (fun t ht hW => ⟨⟨1, (w1, f), rfl, hw, by rw [ht]; exact hP, va_K.moved hW.alike hK, hD⟩, hS.F ht⟩) hS.2.2 dL_type_14
    replace hw := Eq.mp (if_neg e1_0) hw
    exact (hw : False).elim
  have hP : va_P D vwCl (wX kI kC kG x ag at_ as_ hh hst a0 a1 a2 a3 tx tch w1 ++ [(oo, .inl (kJ, 1, .inr (.inl f)))]) H := hP
  have hD : va_D A (wX kI kC kG x ag at_ as_ hh hst a0 a1 a2 a3 tx tch w1 ++ [(oo, .inl (kJ, 1, .inr (.inl f)))]) := hD
  refine lv_i2l (v := r1.toInt64) hx hb dL_type_7 rfl ?_
  refine gLast (k := 0) hx hb hK hP hD hS 33 3 rfl rfl (gin (by decide)) (by decide) dL_type_8 (fun H locs hP hD hS => ?_)
  have hP : va_P D vwCl (wX kI kC kG x ag at_ as_ hh hst a0 a1 a2 a3 tx tch w1 ++ [(oo, .inl (kJ, 1, .inr (.inl (vp_updL f 0 r1.toInt64))))]) H := hP
  have hD : va_D A (wX kI kC kG x ag at_ as_ hh hst a0 a1 a2 a3 tx tch w1 ++ [(oo, .inl (kJ, 1, .inr (.inl (vp_updL f 0 r1.toInt64))))]) := hD
  refine lv_goto (tgt := 15) hx hb dL_type_9 (by decide) ?_
  refine lv_iconst (v := 0) hx hb dL_type_15 (by decide) ?_
  exact W.iret (v := 0) hx hb hr (fun t ht hW => ⟨⟨0, (w1, (vp_updL f 0 r1.toInt64)), rfl, hw, by rw [ht]; exact hP, va_K.moved hW.alike hK, hD⟩, hS.F ht⟩) hS.2.2 dL_type_16
set_option maxHeartbeats 4000000 in
set_option maxRecDepth 100000 in
theorem kL_impossibleMove (l : Launch) (D : va_G) (kI kC kG kJ : ClassId) (hlt : l.stackTraces = false) (x : Nat) (ag at_ as_ : AG) (hh hst : Nat) (a0 a1 a2 a3 : AG) (tx tch : Nat) (oo : Nat) (sz : Nat) (u : SX) (f : Nat → Int64) (Z : Int32 → SX × (Nat → Int64) → Prop) (hw : pL_impossibleMove u f Z) : Met l yL_impossibleMove wsL_impossibleMove ({ frames := 9, cells := 1, slots := 6, locals := 188 } : Room) (gPw D (gT kI kC kG kJ) [.ref x, .ref oo] (wX kI kC kG x ag at_ as_ hh hst a0 a1 a2 a3 tx tch u ++ [(oo, .inl (kJ, 1, .inr (.inl f)))]) sz) (va_Qi Z (gB D (gT kI kC kG kJ) (fun (zz : SX × (Nat → Int64)) => wX kI kC kG x ag at_ as_ hh hst a0 a1 a2 a3 tx tch zz.1 ++ [(oo, .inl (kJ, 1, .inr (.inl zz.2)))]) (va_A (wX kI kC kG x ag at_ as_ hh hst a0 a1 a2 a3 tx tch u ++ [(oo, .inl (kJ, 1, .inr (.inl f)))]) sz)) (va_A (wX kI kC kG x ag at_ as_ hh hst a0 a1 a2 a3 tx tch u ++ [(oo, .inl (kJ, 1, .inr (.inl f)))]) sz)) 1 6 (va_A (wX kI kC kG x ag at_ as_ hh hst a0 a1 a2 a3 tx tch u ++ [(oo, .inl (kJ, 1, .inr (.inl f)))]) sz) := by
  refine gOfWH (cc := cL_impossibleMove) (maxL := 3) (ret := (some .int)) (hh := [(0, 8, 11, 15)]) (by decide) rfl ?_
  intro p e s m args below meth c s₁ B hml hv
  obtain ⟨rfl, hsz, hP, hK, hD0, hE⟩ := hv
  have hx := B.exec
  have hb := B.bytes
  have hr := B.returns
  have hts := atoms_spec (ws := wsL_impossibleMove) B.pre
  have hown : s.vm.findClass RL = some m.cls := findClass_of_methodNamed B.named
  have hlocks := B.notSynchronized
  have htab := vx_table (x := yL_impossibleMove) B (hts (.codeWith yL_impossibleMove cL_impossibleMove 3 (some .int) [(0, 8, 11, 15)]) List.mem_cons_self)
  subst hsz
  have hD := hD0.self (sz := s.heap.size)
  generalize hAe : va_A (wX kI kC kG x ag at_ as_ hh hst a0 a1 a2 a3 tx tch u ++ [(oo, .inl (kJ, 1, .inr (.inl f)))]) s.heap.size = A at hD hE ⊢
  have hA : ∀ q : Nat, s.heap.size ≤ q → A q := fun q h => by rw [← hAe]; exact Or.inr h
  have hS : va_S A s.heap s.heap [] := va_S.rf
  clear hAe hD0
  have hl := lv_entry ([.ref x, .ref oo]) (n := 3) (Nat.le_of_ble_eq_true rfl)
  rw [lg_entry_eq]
  generalize (lg_sl ([.ref x, .ref oo]) ++ List.replicate (3 - (lg_sl ([.ref x, .ref oo])).length) Slot.unset).toArray = ls at hl ⊢
  have hl : lv_has ls 3 [(0, .ref x), (1, .ref oo)] := hl
  have hP : va_P D vwCl (wX kI kC kG x ag at_ as_ hh hst a0 a1 a2 a3 tx tch u ++ [(oo, .inl (kJ, 1, .inr (.inl f)))]) s.heap := hP
  unfold pL_impossibleMove at hw
  refine lv_aload_n hx hb dL_impossibleMove_0 rfl (lv_at hl 1 rfl) ?_
  refine lv_iconst (v := 0) hx hb dL_impossibleMove_1 (by decide) ?_
  refine lv_aload_n hx hb dL_impossibleMove_2 rfl (lv_at hl 0 rfl) ?_
  refine gCVi (S := SX) (As := []) (rest := [.int 0, .ref oo]) (wc := wX kI kC kG x ag at_ as_ hh hst a0 a1 a2 a3 tx tch u) (wr := [(oo, .inl (kJ, 1, .inr (.inl f)))]) (cs1 := (fun zz : SX => wX kI kC kG x ag at_ as_ hh hst a0 a1 a2 a3 tx tch zz)) (ws2 := (fun zz : SX => wX kI kC kG x ag at_ as_ hh hst a0 a1 a2 a3 tx tch zz ++ [(oo, .inl (kJ, 1, .inr (.inl f)))])) ⟨hx, hb, hml, hown, hts⟩ (fun sz => kX5_impossibleMove l D kI kC kG kJ hlt x ag at_ as_ hh hst a0 a1 a2 a3 tx tch sz u _ _ hw) (cwV 0 hts gL_impossibleMove_X5_impossibleMove rfl rfl rfl hdX5_impossibleMove ⟨Nat.le_of_ble_eq_true rfl, Nat.le_of_ble_eq_true rfl⟩) hK hP hD hE hS hA [0, 1, 2, 3, 4, 5, 6, 7, 8, 9, 10, 11, 12, 13, 14, 15, 16, 17, 18, 19, 20, 21, 22, 23, 24, 25, 26, 27, 28, 29, 30, 31, 32] [33] rfl rfl rfl rfl (by decide) [1, 2, 3, 4, 5, 6, 7, 8, 9, 10, 11, 12, 13, 14, 15, 16, 17, 18, 19, 20, 21, 22, 23, 24, 25, 26, 27, 28, 29, 30, 31, 32, 33, 0] rfl (fun _ => rfl) (ci := 4) (q0 := 0) rfl rfl rfl rfl hl.1 rfl (Nat.le_of_ble_eq_true rfl) dL_impossibleMove_3 ⟨Nat.le_of_ble_eq_true rfl, Nat.le_of_ble_eq_true rfl⟩ (fun E ce q9 w1 H locs hw hP hD hS hce hcv hcl => ?_) (fun r1 w1 H locs hw hP hD hS => ?_)
  · have hP : va_P D vwCl (wX kI kC kG x ag at_ as_ hh hst a0 a1 a2 a3 tx tch w1 ++ [(oo, .inl (kJ, 1, .inr (.inl f)))]) H := hP
    have hD : va_D A (wX kI kC kG x ag at_ as_ hh hst a0 a1 a2 a3 tx tch w1 ++ [(oo, .inl (kJ, 1, .inr (.inl f)))]) := hD
    by_cases e1_0 : E = "java/lang/IllegalStateException"
    · subst e1_0
      replace hw := Eq.mp (if_pos rfl) hw
      refine vx_catch hown [] ⟨0, 8, 11, 15⟩ [] htab (fun z hz => absurd hz List.not_mem_nil) rfl (by decide) (hts (.classLink RL 15 "java/lang/IllegalStateException") (List.mem_of_getElem? (i := 1) rfl)) (hE.2.2.2.2.use _ (List.mem_of_getElem? (i := 3) rfl)) hce hcv hcl ?_
      refine lv_astore_n (lv' := [(2, .ref q9), (0, .ref x), (1, .ref oo)]) hx hb dL_impossibleMove_11 rfl hl (by decide) rfl (fun ls hl => ?_)
      refine lv_iconst (v := 1) hx hb dL_impossibleMove_12 (by decide) ?_
      exact W.iret (v := 1) hx hb hr (fun t ht hW => ⟨⟨1, (w1, f), rfl, hw, by rw [ht]; exact hP, va_K.moved hW.alike hK, hD⟩, hS.F ht⟩) hS.2.2 dL_impossibleMove_13
    replace hw := Eq.mp (if_neg e1_0) hw
    exact (hw : False).elim
  have hP : va_P D vwCl (wX kI kC kG x ag at_ as_ hh hst a0 a1 a2 a3 tx tch w1 ++ [(oo, .inl (kJ, 1, .inr (.inl f)))]) H := hP
  have hD : va_D A (wX kI kC kG x ag at_ as_ hh hst a0 a1 a2 a3 tx tch w1 ++ [(oo, .inl (kJ, 1, .inr (.inl f)))]) := hD
  refine lv_i2l (v := r1.toInt64) hx hb dL_impossibleMove_6 rfl ?_
  refine gLast (k := 0) hx hb hK hP hD hS 33 3 rfl rfl (gin (by decide)) (by decide) dL_impossibleMove_7 (fun H locs hP hD hS => ?_)
  have hP : va_P D vwCl (wX kI kC kG x ag at_ as_ hh hst a0 a1 a2 a3 tx tch w1 ++ [(oo, .inl (kJ, 1, .inr (.inl (vp_updL f 0 r1.toInt64))))]) H := hP
  have hD : va_D A (wX kI kC kG x ag at_ as_ hh hst a0 a1 a2 a3 tx tch w1 ++ [(oo, .inl (kJ, 1, .inr (.inl (vp_updL f 0 r1.toInt64))))]) := hD
  refine lv_goto (tgt := 14) hx hb dL_impossibleMove_8 (by decide) ?_
  refine lv_iconst (v := 0) hx hb dL_impossibleMove_14 (by decide) ?_
  exact W.iret (v := 0) hx hb hr (fun t ht hW => ⟨⟨0, (w1, (vp_updL f 0 r1.toInt64)), rfl, hw, by rw [ht]; exact hP, va_K.moved hW.alike hK, hD⟩, hS.F ht⟩) hS.2.2 dL_impossibleMove_15
set_option maxHeartbeats 4000000 in
set_option maxRecDepth 100000 in
theorem kL_carryOut (l : Launch) (D : va_G) (kI kC kG kJ : ClassId) (hlt : l.stackTraces = false) (x : Nat) (ag at_ as_ : AG) (hh hst : Nat) (a0 a1 a2 a3 : AG) (tx tch : Nat) (oo : Nat) (sz : Nat) (u : SX) (f : Nat → Int64) (Z : Int32 → SX × (Nat → Int64) → Prop) (hw : pL_carryOut u f Z) : Met l yL_carryOut wsL_carryOut ({ frames := 9, cells := 2, slots := 12, locals := 188 } : Room) (gPw D (gT kI kC kG kJ) [.ref x, .ref oo] (wX kI kC kG x ag at_ as_ hh hst a0 a1 a2 a3 tx tch u ++ [(oo, .inl (kJ, 1, .inr (.inl f)))]) sz) (va_Qi Z (gB D (gT kI kC kG kJ) (fun (zz : SX × (Nat → Int64)) => wX kI kC kG x ag at_ as_ hh hst a0 a1 a2 a3 tx tch zz.1 ++ [(oo, .inl (kJ, 1, .inr (.inl zz.2)))]) (va_A (wX kI kC kG x ag at_ as_ hh hst a0 a1 a2 a3 tx tch u ++ [(oo, .inl (kJ, 1, .inr (.inl f)))]) sz)) (va_A (wX kI kC kG x ag at_ as_ hh hst a0 a1 a2 a3 tx tch u ++ [(oo, .inl (kJ, 1, .inr (.inl f)))]) sz)) 2 12 (va_A (wX kI kC kG x ag at_ as_ hh hst a0 a1 a2 a3 tx tch u ++ [(oo, .inl (kJ, 1, .inr (.inl f)))]) sz) := by
  refine gOfWH (cc := cL_carryOut) (maxL := 3) (ret := (some .int)) (hh := [(0, 8, 11, 15)]) (by decide) rfl ?_
  intro p e s m args below meth c s₁ B hml hv
  obtain ⟨rfl, hsz, hP, hK, hD0, hE⟩ := hv
  have hx := B.exec
  have hb := B.bytes
  have hr := B.returns
  have hts := atoms_spec (ws := wsL_carryOut) B.pre
  have hown : s.vm.findClass RL = some m.cls := findClass_of_methodNamed B.named
  have hlocks := B.notSynchronized
  have htab := vx_table (x := yL_carryOut) B (hts (.codeWith yL_carryOut cL_carryOut 3 (some .int) [(0, 8, 11, 15)]) List.mem_cons_self)
  subst hsz
  have hD := hD0.self (sz := s.heap.size)
  generalize hAe : va_A (wX kI kC kG x ag at_ as_ hh hst a0 a1 a2 a3 tx tch u ++ [(oo, .inl (kJ, 1, .inr (.inl f)))]) s.heap.size = A at hD hE ⊢
  have hA : ∀ q : Nat, s.heap.size ≤ q → A q := fun q h => by rw [← hAe]; exact Or.inr h
  have hS : va_S A s.heap s.heap [] := va_S.rf
  clear hAe hD0
  have hl := lv_entry ([.ref x, .ref oo]) (n := 3) (Nat.le_of_ble_eq_true rfl)
  rw [lg_entry_eq]
  generalize (lg_sl ([.ref x, .ref oo]) ++ List.replicate (3 - (lg_sl ([.ref x, .ref oo])).length) Slot.unset).toArray = ls at hl ⊢
  have hl : lv_has ls 3 [(0, .ref x), (1, .ref oo)] := hl
  have hP : va_P D vwCl (wX kI kC kG x ag at_ as_ hh hst a0 a1 a2 a3 tx tch u ++ [(oo, .inl (kJ, 1, .inr (.inl f)))]) s.heap := hP
  unfold pL_carryOut at hw
  refine lv_aload_n hx hb dL_carryOut_0 rfl (lv_at hl 1 rfl) ?_
  refine lv_iconst (v := 0) hx hb dL_carryOut_1 (by decide) ?_
  refine lv_aload_n hx hb dL_carryOut_2 rfl (lv_at hl 0 rfl) ?_
  refine gCVi (S := SX) (As := []) (rest := [.int 0, .ref oo]) (wc := wX kI kC kG x ag at_ as_ hh hst a0 a1 a2 a3 tx tch u) (wr := [(oo, .inl (kJ, 1, .inr (.inl f)))]) (cs1 := (fun zz : SX => wX kI kC kG x ag at_ as_ hh hst a0 a1 a2 a3 tx tch zz)) (ws2 := (fun zz : SX => wX kI kC kG x ag at_ as_ hh hst a0 a1 a2 a3 tx tch zz ++ [(oo, .inl (kJ, 1, .inr (.inl f)))])) ⟨hx, hb, hml, hown, hts⟩ (fun sz => kX5_carryOut l D kI kC kG kJ hlt x ag at_ as_ hh hst a0 a1 a2 a3 tx tch sz u _ _ hw) (cwV 0 hts gL_carryOut_X5_carryOut rfl rfl rfl hdX5_carryOut ⟨Nat.le_of_ble_eq_true rfl, Nat.le_of_ble_eq_true rfl⟩) hK hP hD hE hS hA [0, 1, 2, 3, 4, 5, 6, 7, 8, 9, 10, 11, 12, 13, 14, 15, 16, 17, 18, 19, 20, 21, 22, 23, 24, 25, 26, 27, 28, 29, 30, 31, 32] [33] rfl rfl rfl rfl (by decide) [1, 2, 3, 4, 5, 6, 7, 8, 9, 10, 11, 12, 13, 14, 15, 16, 17, 18, 19, 20, 21, 22, 23, 24, 25, 26, 27, 28, 29, 30, 31, 32, 33, 0] rfl (fun _ => rfl) (ci := 4) (q0 := 0) rfl rfl rfl rfl hl.1 rfl (Nat.le_of_ble_eq_true rfl) dL_carryOut_3 ⟨Nat.le_of_ble_eq_true rfl, Nat.le_of_ble_eq_true rfl⟩ (fun E ce q9 w1 H locs hw hP hD hS hce hcv hcl => ?_) (fun r1 w1 H locs hw hP hD hS => ?_)
  · have hP : va_P D vwCl (wX kI kC kG x ag at_ as_ hh hst a0 a1 a2 a3 tx tch w1 ++ [(oo, .inl (kJ, 1, .inr (.inl f)))]) H := hP
    have hD : va_D A (wX kI kC kG x ag at_ as_ hh hst a0 a1 a2 a3 tx tch w1 ++ [(oo, .inl (kJ, 1, .inr (.inl f)))]) := hD
    by_cases e1_0 : E = "java/lang/IllegalStateException"
    · subst e1_0
      replace hw := Eq.mp (if_pos rfl) hw
      refine vx_catch hown [] ⟨0, 8, 11, 15⟩ [] htab (fun z hz => absurd hz List.not_mem_nil) rfl (by decide) (hts (.classLink RL 15 "java/lang/IllegalStateException") (List.mem_of_getElem? (i := 1) rfl)) (hE.2.2.2.2.use _ (List.mem_of_getElem? (i := 3) rfl)) hce hcv hcl ?_
      refine lv_astore_n (lv' := [(2, .ref q9), (0, .ref x), (1, .ref oo)]) hx hb dL_carryOut_11 rfl hl (by decide) rfl (fun ls hl => ?_)
      refine lv_iconst (v := 1) hx hb dL_carryOut_12 (by decide) ?_
      exact W.iret (v := 1) hx hb hr (fun t ht hW => ⟨⟨1, (w1, f), rfl, hw, by rw [ht]; exact hP, va_K.moved hW.alike hK, hD⟩, hS.F ht⟩) hS.2.2 dL_carryOut_13
    replace hw := Eq.mp (if_neg e1_0) hw
    exact (hw : False).elim
  have hP : va_P D vwCl (wX kI kC kG x ag at_ as_ hh hst a0 a1 a2 a3 tx tch w1 ++ [(oo, .inl (kJ, 1, .inr (.inl f)))]) H := hP
  have hD : va_D A (wX kI kC kG x ag at_ as_ hh hst a0 a1 a2 a3 tx tch w1 ++ [(oo, .inl (kJ, 1, .inr (.inl f)))]) := hD
  refine lv_i2l (v := r1.toInt64) hx hb dL_carryOut_6 rfl ?_
  refine gLast (k := 0) hx hb hK hP hD hS 33 3 rfl rfl (gin (by decide)) (by decide) dL_carryOut_7 (fun H locs hP hD hS => ?_)
  have hP : va_P D vwCl (wX kI kC kG x ag at_ as_ hh hst a0 a1 a2 a3 tx tch w1 ++ [(oo, .inl (kJ, 1, .inr (.inl (vp_updL f 0 r1.toInt64))))]) H := hP
  have hD : va_D A (wX kI kC kG x ag at_ as_ hh hst a0 a1 a2 a3 tx tch w1 ++ [(oo, .inl (kJ, 1, .inr (.inl (vp_updL f 0 r1.toInt64))))]) := hD
  refine lv_goto (tgt := 14) hx hb dL_carryOut_8 (by decide) ?_
  refine lv_iconst (v := 0) hx hb dL_carryOut_14 (by decide) ?_
  exact W.iret (v := 0) hx hb hr (fun t ht hW => ⟨⟨0, (w1, (vp_updL f 0 r1.toInt64)), rfl, hw, by rw [ht]; exact hP, va_K.moved hW.alike hK, hD⟩, hS.F ht⟩) hS.2.2 dL_carryOut_15
set_option maxHeartbeats 4000000 in
set_option maxRecDepth 100000 in
theorem kL_undo (l : Launch) (D : va_G) (kI kC kG kJ : ClassId) (hlt : l.stackTraces = false) (x : Nat) (ag at_ as_ : AG) (hh hst : Nat) (a0 a1 a2 a3 : AG) (tx tch : Nat) (oo : Nat) (sz : Nat) (u : SX) (f : Nat → Int64) (Z : Int32 → SX × (Nat → Int64) → Prop) (hw : pL_undo u f Z) : Met l yL_undo wsL_undo ({ frames := 7, cells := 1, slots := 6, locals := 110 } : Room) (gPw D (gT kI kC kG kJ) [.ref x, .ref oo] (wX kI kC kG x ag at_ as_ hh hst a0 a1 a2 a3 tx tch u ++ [(oo, .inl (kJ, 1, .inr (.inl f)))]) sz) (va_Qi Z (gB D (gT kI kC kG kJ) (fun (zz : SX × (Nat → Int64)) => wX kI kC kG x ag at_ as_ hh hst a0 a1 a2 a3 tx tch zz.1 ++ [(oo, .inl (kJ, 1, .inr (.inl zz.2)))]) (va_A (wX kI kC kG x ag at_ as_ hh hst a0 a1 a2 a3 tx tch u ++ [(oo, .inl (kJ, 1, .inr (.inl f)))]) sz)) (va_A (wX kI kC kG x ag at_ as_ hh hst a0 a1 a2 a3 tx tch u ++ [(oo, .inl (kJ, 1, .inr (.inl f)))]) sz)) 1 6 (va_A (wX kI kC kG x ag at_ as_ hh hst a0 a1 a2 a3 tx tch u ++ [(oo, .inl (kJ, 1, .inr (.inl f)))]) sz) := by
  refine gOfWH (cc := cL_undo) (maxL := 3) (ret := (some .int)) (hh := [(0, 8, 11, 15)]) (by decide) rfl ?_
  intro p e s m args below meth c s₁ B hml hv
  obtain ⟨rfl, hsz, hP, hK, hD0, hE⟩ := hv
  have hx := B.exec
  have hb := B.bytes
  have hr := B.returns
  have hts := atoms_spec (ws := wsL_undo) B.pre
  have hown : s.vm.findClass RL = some m.cls := findClass_of_methodNamed B.named
  have hlocks := B.notSynchronized
  have htab := vx_table (x := yL_undo) B (hts (.codeWith yL_undo cL_undo 3 (some .int) [(0, 8, 11, 15)]) List.mem_cons_self)
  subst hsz
  have hD := hD0.self (sz := s.heap.size)
  generalize hAe : va_A (wX kI kC kG x ag at_ as_ hh hst a0 a1 a2 a3 tx tch u ++ [(oo, .inl (kJ, 1, .inr (.inl f)))]) s.heap.size = A at hD hE ⊢
  have hA : ∀ q : Nat, s.heap.size ≤ q → A q := fun q h => by rw [← hAe]; exact Or.inr h
  have hS : va_S A s.heap s.heap [] := va_S.rf
  clear hAe hD0
  have hl := lv_entry ([.ref x, .ref oo]) (n := 3) (Nat.le_of_ble_eq_true rfl)
  rw [lg_entry_eq]
  generalize (lg_sl ([.ref x, .ref oo]) ++ List.replicate (3 - (lg_sl ([.ref x, .ref oo])).length) Slot.unset).toArray = ls at hl ⊢
  have hl : lv_has ls 3 [(0, .ref x), (1, .ref oo)] := hl
  have hP : va_P D vwCl (wX kI kC kG x ag at_ as_ hh hst a0 a1 a2 a3 tx tch u ++ [(oo, .inl (kJ, 1, .inr (.inl f)))]) s.heap := hP
  unfold pL_undo at hw
  refine lv_aload_n hx hb dL_undo_0 rfl (lv_at hl 1 rfl) ?_
  refine lv_iconst (v := 0) hx hb dL_undo_1 (by decide) ?_
  refine lv_aload_n hx hb dL_undo_2 rfl (lv_at hl 0 rfl) ?_
  refine gCVi (S := SX) (As := []) (rest := [.int 0, .ref oo]) (wc := wX kI kC kG x ag at_ as_ hh hst a0 a1 a2 a3 tx tch u) (wr := [(oo, .inl (kJ, 1, .inr (.inl f)))]) (cs1 := (fun zz : SX => wX kI kC kG x ag at_ as_ hh hst a0 a1 a2 a3 tx tch zz)) (ws2 := (fun zz : SX => wX kI kC kG x ag at_ as_ hh hst a0 a1 a2 a3 tx tch zz ++ [(oo, .inl (kJ, 1, .inr (.inl f)))])) ⟨hx, hb, hml, hown, hts⟩ (fun sz => kX5_undo l D kI kC kG kJ hlt x ag at_ as_ hh hst a0 a1 a2 a3 tx tch sz u _ _ hw) (cwV 0 hts gL_undo_X5_undo rfl rfl rfl hdX5_undo ⟨Nat.le_of_ble_eq_true rfl, Nat.le_of_ble_eq_true rfl⟩) hK hP hD hE hS hA [0, 1, 2, 3, 4, 5, 6, 7, 8, 9, 10, 11, 12, 13, 14, 15, 16, 17, 18, 19, 20, 21, 22, 23, 24, 25, 26, 27, 28, 29, 30, 31, 32] [33] rfl rfl rfl rfl (by decide) [1, 2, 3, 4, 5, 6, 7, 8, 9, 10, 11, 12, 13, 14, 15, 16, 17, 18, 19, 20, 21, 22, 23, 24, 25, 26, 27, 28, 29, 30, 31, 32, 33, 0] rfl (fun _ => rfl) (ci := 4) (q0 := 0) rfl rfl rfl rfl hl.1 rfl (Nat.le_of_ble_eq_true rfl) dL_undo_3 ⟨Nat.le_of_ble_eq_true rfl, Nat.le_of_ble_eq_true rfl⟩ (fun E ce q9 w1 H locs hw hP hD hS hce hcv hcl => ?_) (fun r1 w1 H locs hw hP hD hS => ?_)
  · have hP : va_P D vwCl (wX kI kC kG x ag at_ as_ hh hst a0 a1 a2 a3 tx tch w1 ++ [(oo, .inl (kJ, 1, .inr (.inl f)))]) H := hP
    have hD : va_D A (wX kI kC kG x ag at_ as_ hh hst a0 a1 a2 a3 tx tch w1 ++ [(oo, .inl (kJ, 1, .inr (.inl f)))]) := hD
    by_cases e1_0 : E = "java/lang/IllegalStateException"
    · subst e1_0
      replace hw := Eq.mp (if_pos rfl) hw
      refine vx_catch hown [] ⟨0, 8, 11, 15⟩ [] htab (fun z hz => absurd hz List.not_mem_nil) rfl (by decide) (hts (.classLink RL 15 "java/lang/IllegalStateException") (List.mem_of_getElem? (i := 1) rfl)) (hE.2.2.2.2.use _ (List.mem_of_getElem? (i := 3) rfl)) hce hcv hcl ?_
      refine lv_astore_n (lv' := [(2, .ref q9), (0, .ref x), (1, .ref oo)]) hx hb dL_undo_11 rfl hl (by decide) rfl (fun ls hl => ?_)
      refine lv_iconst (v := 1) hx hb dL_undo_12 (by decide) ?_
      exact W.iret (v := 1) hx hb hr (fun t ht hW => ⟨⟨1, (w1, f), rfl, hw, by rw [ht]; exact hP, va_K.moved hW.alike hK, hD⟩, hS.F ht⟩) hS.2.2 dL_undo_13
    replace hw := Eq.mp (if_neg e1_0) hw
    exact (hw : False).elim
  have hP : va_P D vwCl (wX kI kC kG x ag at_ as_ hh hst a0 a1 a2 a3 tx tch w1 ++ [(oo, .inl (kJ, 1, .inr (.inl f)))]) H := hP
  have hD : va_D A (wX kI kC kG x ag at_ as_ hh hst a0 a1 a2 a3 tx tch w1 ++ [(oo, .inl (kJ, 1, .inr (.inl f)))]) := hD
  refine lv_i2l (v := r1.toInt64) hx hb dL_undo_6 rfl ?_
  refine gLast (k := 0) hx hb hK hP hD hS 33 3 rfl rfl (gin (by decide)) (by decide) dL_undo_7 (fun H locs hP hD hS => ?_)
  have hP : va_P D vwCl (wX kI kC kG x ag at_ as_ hh hst a0 a1 a2 a3 tx tch w1 ++ [(oo, .inl (kJ, 1, .inr (.inl (vp_updL f 0 r1.toInt64))))]) H := hP
  have hD : va_D A (wX kI kC kG x ag at_ as_ hh hst a0 a1 a2 a3 tx tch w1 ++ [(oo, .inl (kJ, 1, .inr (.inl (vp_updL f 0 r1.toInt64))))]) := hD
  refine lv_goto (tgt := 14) hx hb dL_undo_8 (by decide) ?_
  refine lv_iconst (v := 0) hx hb dL_undo_14 (by decide) ?_
  exact W.iret (v := 0) hx hb hr (fun t ht hW => ⟨⟨0, (w1, (vp_updL f 0 r1.toInt64)), rfl, hw, by rw [ht]; exact hP, va_K.moved hW.alike hK, hD⟩, hS.F ht⟩) hS.2.2 dL_undo_15
set_option maxHeartbeats 4000000 in
set_option maxRecDepth 100000 in
theorem kL_restoreSnapshot (l : Launch) (D : va_G) (kI kC kG kJ : ClassId) (hlt : l.stackTraces = false) (x : Nat) (ag at_ as_ : AG) (hh hst : Nat) (a0 a1 a2 a3 : AG) (tx tch : Nat) (oo : Nat) (sz : Nat) (u : SX) (f : Nat → Int64) (Z : Int32 → SX × (Nat → Int64) → Prop) (hw : pL_restoreSnapshot u f Z) : Met l yL_restoreSnapshot wsL_restoreSnapshot ({ frames := 7, cells := 1, slots := 6, locals := 110 } : Room) (gPw D (gT kI kC kG kJ) [.ref x, .ref oo] (wX kI kC kG x ag at_ as_ hh hst a0 a1 a2 a3 tx tch u ++ [(oo, .inl (kJ, 1, .inr (.inl f)))]) sz) (va_Qi Z (gB D (gT kI kC kG kJ) (fun (zz : SX × (Nat → Int64)) => wX kI kC kG x ag at_ as_ hh hst a0 a1 a2 a3 tx tch zz.1 ++ [(oo, .inl (kJ, 1, .inr (.inl zz.2)))]) (va_A (wX kI kC kG x ag at_ as_ hh hst a0 a1 a2 a3 tx tch u ++ [(oo, .inl (kJ, 1, .inr (.inl f)))]) sz)) (va_A (wX kI kC kG x ag at_ as_ hh hst a0 a1 a2 a3 tx tch u ++ [(oo, .inl (kJ, 1, .inr (.inl f)))]) sz)) 1 6 (va_A (wX kI kC kG x ag at_ as_ hh hst a0 a1 a2 a3 tx tch u ++ [(oo, .inl (kJ, 1, .inr (.inl f)))]) sz) := by
  refine gOfWH (cc := cL_restoreSnapshot) (maxL := 3) (ret := (some .int)) (hh := [(0, 8, 11, 15)]) (by decide) rfl ?_
  intro p e s m args below meth c s₁ B hml hv
  obtain ⟨rfl, hsz, hP, hK, hD0, hE⟩ := hv
  have hx := B.exec
  have hb := B.bytes
  have hr := B.returns
  have hts := atoms_spec (ws := wsL_restoreSnapshot) B.pre
  have hown : s.vm.findClass RL = some m.cls := findClass_of_methodNamed B.named
  have hlocks := B.notSynchronized
  have htab := vx_table (x := yL_restoreSnapshot) B (hts (.codeWith yL_restoreSnapshot cL_restoreSnapshot 3 (some .int) [(0, 8, 11, 15)]) List.mem_cons_self)
  subst hsz
  have hD := hD0.self (sz := s.heap.size)
  generalize hAe : va_A (wX kI kC kG x ag at_ as_ hh hst a0 a1 a2 a3 tx tch u ++ [(oo, .inl (kJ, 1, .inr (.inl f)))]) s.heap.size = A at hD hE ⊢
  have hA : ∀ q : Nat, s.heap.size ≤ q → A q := fun q h => by rw [← hAe]; exact Or.inr h
  have hS : va_S A s.heap s.heap [] := va_S.rf
  clear hAe hD0
  have hl := lv_entry ([.ref x, .ref oo]) (n := 3) (Nat.le_of_ble_eq_true rfl)
  rw [lg_entry_eq]
  generalize (lg_sl ([.ref x, .ref oo]) ++ List.replicate (3 - (lg_sl ([.ref x, .ref oo])).length) Slot.unset).toArray = ls at hl ⊢
  have hl : lv_has ls 3 [(0, .ref x), (1, .ref oo)] := hl
  have hP : va_P D vwCl (wX kI kC kG x ag at_ as_ hh hst a0 a1 a2 a3 tx tch u ++ [(oo, .inl (kJ, 1, .inr (.inl f)))]) s.heap := hP
  unfold pL_restoreSnapshot at hw
  refine lv_aload_n hx hb dL_restoreSnapshot_0 rfl (lv_at hl 1 rfl) ?_
  refine lv_iconst (v := 0) hx hb dL_restoreSnapshot_1 (by decide) ?_
  refine lv_aload_n hx hb dL_restoreSnapshot_2 rfl (lv_at hl 0 rfl) ?_
  refine gCVi (S := SX) (As := []) (rest := [.int 0, .ref oo]) (wc := wX kI kC kG x ag at_ as_ hh hst a0 a1 a2 a3 tx tch u) (wr := [(oo, .inl (kJ, 1, .inr (.inl f)))]) (cs1 := (fun zz : SX => wX kI kC kG x ag at_ as_ hh hst a0 a1 a2 a3 tx tch zz)) (ws2 := (fun zz : SX => wX kI kC kG x ag at_ as_ hh hst a0 a1 a2 a3 tx tch zz ++ [(oo, .inl (kJ, 1, .inr (.inl f)))])) ⟨hx, hb, hml, hown, hts⟩ (fun sz => kX5_restoreSnapshot l D kI kC kG kJ hlt x ag at_ as_ hh hst a0 a1 a2 a3 tx tch sz u _ _ hw) (cwV 0 hts gL_restoreSnapshot_X5_restoreSnapshot rfl rfl rfl hdX5_restoreSnapshot ⟨Nat.le_of_ble_eq_true rfl, Nat.le_of_ble_eq_true rfl⟩) hK hP hD hE hS hA [0, 1, 2, 3, 4, 5, 6, 7, 8, 9, 10, 11, 12, 13, 14, 15, 16, 17, 18, 19, 20, 21, 22, 23, 24, 25, 26, 27, 28, 29, 30, 31, 32] [33] rfl rfl rfl rfl (by decide) [1, 2, 3, 4, 5, 6, 7, 8, 9, 10, 11, 12, 13, 14, 15, 16, 17, 18, 19, 20, 21, 22, 23, 24, 25, 26, 27, 28, 29, 30, 31, 32, 33, 0] rfl (fun _ => rfl) (ci := 4) (q0 := 0) rfl rfl rfl rfl hl.1 rfl (Nat.le_of_ble_eq_true rfl) dL_restoreSnapshot_3 ⟨Nat.le_of_ble_eq_true rfl, Nat.le_of_ble_eq_true rfl⟩ (fun E ce q9 w1 H locs hw hP hD hS hce hcv hcl => ?_) (fun r1 w1 H locs hw hP hD hS => ?_)
  · have hP : va_P D vwCl (wX kI kC kG x ag at_ as_ hh hst a0 a1 a2 a3 tx tch w1 ++ [(oo, .inl (kJ, 1, .inr (.inl f)))]) H := hP
    have hD : va_D A (wX kI kC kG x ag at_ as_ hh hst a0 a1 a2 a3 tx tch w1 ++ [(oo, .inl (kJ, 1, .inr (.inl f)))]) := hD
    by_cases e1_0 : E = "java/lang/IllegalStateException"
    · subst e1_0
      replace hw := Eq.mp (if_pos rfl) hw
      refine vx_catch hown [] ⟨0, 8, 11, 15⟩ [] htab (fun z hz => absurd hz List.not_mem_nil) rfl (by decide) (hts (.classLink RL 15 "java/lang/IllegalStateException") (List.mem_of_getElem? (i := 1) rfl)) (hE.2.2.2.2.use _ (List.mem_of_getElem? (i := 3) rfl)) hce hcv hcl ?_
      refine lv_astore_n (lv' := [(2, .ref q9), (0, .ref x), (1, .ref oo)]) hx hb dL_restoreSnapshot_11 rfl hl (by decide) rfl (fun ls hl => ?_)
      refine lv_iconst (v := 1) hx hb dL_restoreSnapshot_12 (by decide) ?_
      exact W.iret (v := 1) hx hb hr (fun t ht hW => ⟨⟨1, (w1, f), rfl, hw, by rw [ht]; exact hP, va_K.moved hW.alike hK, hD⟩, hS.F ht⟩) hS.2.2 dL_restoreSnapshot_13
    replace hw := Eq.mp (if_neg e1_0) hw
    exact (hw : False).elim
  have hP : va_P D vwCl (wX kI kC kG x ag at_ as_ hh hst a0 a1 a2 a3 tx tch w1 ++ [(oo, .inl (kJ, 1, .inr (.inl f)))]) H := hP
  have hD : va_D A (wX kI kC kG x ag at_ as_ hh hst a0 a1 a2 a3 tx tch w1 ++ [(oo, .inl (kJ, 1, .inr (.inl f)))]) := hD
  refine lv_i2l (v := r1.toInt64) hx hb dL_restoreSnapshot_6 rfl ?_
  refine gLast (k := 0) hx hb hK hP hD hS 33 3 rfl rfl (gin (by decide)) (by decide) dL_restoreSnapshot_7 (fun H locs hP hD hS => ?_)
  have hP : va_P D vwCl (wX kI kC kG x ag at_ as_ hh hst a0 a1 a2 a3 tx tch w1 ++ [(oo, .inl (kJ, 1, .inr (.inl (vp_updL f 0 r1.toInt64))))]) H := hP
  have hD : va_D A (wX kI kC kG x ag at_ as_ hh hst a0 a1 a2 a3 tx tch w1 ++ [(oo, .inl (kJ, 1, .inr (.inl (vp_updL f 0 r1.toInt64))))]) := hD
  refine lv_goto (tgt := 14) hx hb dL_restoreSnapshot_8 (by decide) ?_
  refine lv_iconst (v := 0) hx hb dL_restoreSnapshot_14 (by decide) ?_
  exact W.iret (v := 0) hx hb hr (fun t ht hW => ⟨⟨0, (w1, (vp_updL f 0 r1.toInt64)), rfl, hw, by rw [ht]; exact hP, va_K.moved hW.alike hK, hD⟩, hS.F ht⟩) hS.2.2 dL_restoreSnapshot_15
set_option maxHeartbeats 4000000 in
set_option maxRecDepth 100000 in
theorem kL_pieceOn (l : Launch) (D : va_G) (kI kC kG kJ : ClassId) (hlt : l.stackTraces = false) (x : Nat) (ag at_ as_ : AG) (hh hst : Nat) (a0 a1 a2 a3 : AG) (tx tch : Nat) (oo : Nat) (sz : Nat) (u : SX) (f : Nat → Int64) (p1 : Int32) (Z : Int32 → SX × (Nat → Int64) → Prop) (hw : pL_pieceOn p1 u f Z) : Met l yL_pieceOn wsL_pieceOn ({ frames := 8, cells := 1, slots := 6, locals := 131 } : Room) (gPw D (gT kI kC kG kJ) [.ref x, .int p1, .ref oo] (wX kI kC kG x ag at_ as_ hh hst a0 a1 a2 a3 tx tch u ++ [(oo, .inl (kJ, 1, .inr (.inl f)))]) sz) (va_Qi Z (gB D (gT kI kC kG kJ) (fun (zz : SX × (Nat → Int64)) => wX kI kC kG x ag at_ as_ hh hst a0 a1 a2 a3 tx tch zz.1 ++ [(oo, .inl (kJ, 1, .inr (.inl zz.2)))]) (va_A (wX kI kC kG x ag at_ as_ hh hst a0 a1 a2 a3 tx tch u ++ [(oo, .inl (kJ, 1, .inr (.inl f)))]) sz)) (va_A (wX kI kC kG x ag at_ as_ hh hst a0 a1 a2 a3 tx tch u ++ [(oo, .inl (kJ, 1, .inr (.inl f)))]) sz)) 1 6 (va_A (wX kI kC kG x ag at_ as_ hh hst a0 a1 a2 a3 tx tch u ++ [(oo, .inl (kJ, 1, .inr (.inl f)))]) sz) := by
  refine gOfWH (cc := cL_pieceOn) (maxL := 4) (ret := (some .int)) (hh := [(0, 9, 12, 13)]) (by decide) rfl ?_
  intro p e s m args below meth c s₁ B hml hv
  obtain ⟨rfl, hsz, hP, hK, hD0, hE⟩ := hv
  have hx := B.exec
  have hb := B.bytes
  have hr := B.returns
  have hts := atoms_spec (ws := wsL_pieceOn) B.pre
  have hown : s.vm.findClass RL = some m.cls := findClass_of_methodNamed B.named
  have hlocks := B.notSynchronized
  have htab := vx_table (x := yL_pieceOn) B (hts (.codeWith yL_pieceOn cL_pieceOn 4 (some .int) [(0, 9, 12, 13)]) List.mem_cons_self)
  subst hsz
  have hD := hD0.self (sz := s.heap.size)
  generalize hAe : va_A (wX kI kC kG x ag at_ as_ hh hst a0 a1 a2 a3 tx tch u ++ [(oo, .inl (kJ, 1, .inr (.inl f)))]) s.heap.size = A at hD hE ⊢
  have hA : ∀ q : Nat, s.heap.size ≤ q → A q := fun q h => by rw [← hAe]; exact Or.inr h
  have hS : va_S A s.heap s.heap [] := va_S.rf
  clear hAe hD0
  have hl := lv_entry ([.ref x, .int p1, .ref oo]) (n := 4) (Nat.le_of_ble_eq_true rfl)
  rw [lg_entry_eq]
  generalize (lg_sl ([.ref x, .int p1, .ref oo]) ++ List.replicate (4 - (lg_sl ([.ref x, .int p1, .ref oo])).length) Slot.unset).toArray = ls at hl ⊢
  have hl : lv_has ls 4 [(0, .ref x), (1, .int p1), (2, .ref oo)] := hl
  have hP : va_P D vwCl (wX kI kC kG x ag at_ as_ hh hst a0 a1 a2 a3 tx tch u ++ [(oo, .inl (kJ, 1, .inr (.inl f)))]) s.heap := hP
  unfold pL_pieceOn at hw
  refine lv_aload_n hx hb dL_pieceOn_0 rfl (lv_at hl 2 rfl) ?_
  refine lv_iconst (v := 0) hx hb dL_pieceOn_1 (by decide) ?_
  refine lv_aload_n hx hb dL_pieceOn_2 rfl (lv_at hl 0 rfl) ?_
  refine lv_iload_n hx hb dL_pieceOn_3 rfl (lv_at hl 1 rfl) ?_
  refine gCVi (S := SX) (As := [.int p1]) (rest := [.int 0, .ref oo]) (wc := wX kI kC kG x ag at_ as_ hh hst a0 a1 a2 a3 tx tch u) (wr := [(oo, .inl (kJ, 1, .inr (.inl f)))]) (cs1 := (fun zz : SX => wX kI kC kG x ag at_ as_ hh hst a0 a1 a2 a3 tx tch zz)) (ws2 := (fun zz : SX => wX kI kC kG x ag at_ as_ hh hst a0 a1 a2 a3 tx tch zz ++ [(oo, .inl (kJ, 1, .inr (.inl f)))])) ⟨hx, hb, hml, hown, hts⟩ (fun sz => kX5_pieceOn l D kI kC kG kJ hlt x ag at_ as_ hh hst a0 a1 a2 a3 tx tch sz u p1 _ _ hw) (cwV 1 hts gL_pieceOn_X5_pieceOn rfl rfl rfl hdX5_pieceOn ⟨Nat.le_of_ble_eq_true rfl, Nat.le_of_ble_eq_true rfl⟩) hK hP hD hE hS hA [0, 1, 2, 3, 4, 5, 6, 7, 8, 9, 10, 11, 12, 13, 14, 15, 16, 17, 18, 19, 20, 21, 22, 23, 24, 25, 26, 27, 28, 29, 30, 31, 32] [33] rfl rfl rfl rfl (by decide) [1, 2, 3, 4, 5, 6, 7, 8, 9, 10, 11, 12, 13, 14, 15, 16, 17, 18, 19, 20, 21, 22, 23, 24, 25, 26, 27, 28, 29, 30, 31, 32, 33, 0] rfl (fun _ => rfl) (ci := 4) (q0 := 0) rfl rfl rfl rfl hl.1 rfl (Nat.le_of_ble_eq_true rfl) dL_pieceOn_4 ⟨Nat.le_of_ble_eq_true rfl, Nat.le_of_ble_eq_true rfl⟩ (fun E ce q9 w1 H locs hw hP hD hS hce hcv hcl => ?_) (fun r1 w1 H locs hw hP hD hS => ?_)
  · have hP : va_P D vwCl (wX kI kC kG x ag at_ as_ hh hst a0 a1 a2 a3 tx tch w1 ++ [(oo, .inl (kJ, 1, .inr (.inl f)))]) H := hP
    have hD : va_D A (wX kI kC kG x ag at_ as_ hh hst a0 a1 a2 a3 tx tch w1 ++ [(oo, .inl (kJ, 1, .inr (.inl f)))]) := hD
    by_cases e1_0 : E = "java/lang/IndexOutOfBoundsException"
    · subst e1_0
      replace hw := Eq.mp (if_pos rfl) hw
      refine vx_catch hown [] ⟨0, 9, 12, 13⟩ [] htab (fun z hz => absurd hz List.not_mem_nil) rfl (by decide) (hts (.classLink RL 13 "java/lang/IndexOutOfBoundsException") (List.mem_of_getElem? (i := 1) rfl)) (hE.2.2.2.2.use _ (List.mem_of_getElem? (i := 4) rfl)) hce hcv hcl ?_
      refine lv_astore_n (lv' := [(3, .ref q9), (0, .ref x), (1, .int p1), (2, .ref oo)]) hx hb dL_pieceOn_12 rfl hl (by decide) rfl (fun ls hl => ?_)
      refine lv_iconst (v := 1) hx hb dL_pieceOn_13 (by decide) ?_
      exact W.iret (v := 1) hx hb hr (fun t ht hW => ⟨⟨1, (w1, f), rfl, hw, by rw [ht]; exact hP, va_K.moved hW.alike hK, hD⟩, hS.F ht⟩) hS.2.2 dL_pieceOn_14
    replace hw := Eq.mp (if_neg e1_0) hw
    exact (hw : False).elim
  have hP : va_P D vwCl (wX kI kC kG x ag at_ as_ hh hst a0 a1 a2 a3 tx tch w1 ++ [(oo, .inl (kJ, 1, .inr (.inl f)))]) H := hP
  have hD : va_D A (wX kI kC kG x ag at_ as_ hh hst a0 a1 a2 a3 tx tch w1 ++ [(oo, .inl (kJ, 1, .inr (.inl f)))]) := hD
  refine lv_i2l (v := r1.toInt64) hx hb dL_pieceOn_7 rfl ?_
  refine gLast (k := 0) hx hb hK hP hD hS 33 3 rfl rfl (gin (by decide)) (by decide) dL_pieceOn_8 (fun H locs hP hD hS => ?_)
  have hP : va_P D vwCl (wX kI kC kG x ag at_ as_ hh hst a0 a1 a2 a3 tx tch w1 ++ [(oo, .inl (kJ, 1, .inr (.inl (vp_updL f 0 r1.toInt64))))]) H := hP
  have hD : va_D A (wX kI kC kG x ag at_ as_ hh hst a0 a1 a2 a3 tx tch w1 ++ [(oo, .inl (kJ, 1, .inr (.inl (vp_updL f 0 r1.toInt64))))]) := hD
  refine lv_goto (tgt := 15) hx hb dL_pieceOn_9 (by decide) ?_
  refine lv_iconst (v := 0) hx hb dL_pieceOn_15 (by decide) ?_
  exact W.iret (v := 0) hx hb hr (fun t ht hW => ⟨⟨0, (w1, (vp_updL f 0 r1.toInt64)), rfl, hw, by rw [ht]; exact hP, va_K.moved hW.alike hK, hD⟩, hS.F ht⟩) hS.2.2 dL_pieceOn_16
set_option maxHeartbeats 4000000 in
set_option maxRecDepth 100000 in
theorem kL_cellOf (l : Launch) (D : va_G) (kI kC kG kJ : ClassId) (hlt : l.stackTraces = false) (x : Nat) (ag at_ as_ : AG) (hh hst : Nat) (a0 a1 a2 a3 : AG) (tx tch : Nat) (oo : Nat) (sz : Nat) (u : SX) (f : Nat → Int64) (p1 : Int32) (Z : Int32 → SX × (Nat → Int64) → Prop) (hw : pL_cellOf p1 u f Z) : Met l yL_cellOf wsL_cellOf ({ frames := 8, cells := 1, slots := 6, locals := 131 } : Room) (gPw D (gT kI kC kG kJ) [.ref x, .int p1, .ref oo] (wX kI kC kG x ag at_ as_ hh hst a0 a1 a2 a3 tx tch u ++ [(oo, .inl (kJ, 1, .inr (.inl f)))]) sz) (va_Qi Z (gB D (gT kI kC kG kJ) (fun (zz : SX × (Nat → Int64)) => wX kI kC kG x ag at_ as_ hh hst a0 a1 a2 a3 tx tch zz.1 ++ [(oo, .inl (kJ, 1, .inr (.inl zz.2)))]) (va_A (wX kI kC kG x ag at_ as_ hh hst a0 a1 a2 a3 tx tch u ++ [(oo, .inl (kJ, 1, .inr (.inl f)))]) sz)) (va_A (wX kI kC kG x ag at_ as_ hh hst a0 a1 a2 a3 tx tch u ++ [(oo, .inl (kJ, 1, .inr (.inl f)))]) sz)) 1 6 (va_A (wX kI kC kG x ag at_ as_ hh hst a0 a1 a2 a3 tx tch u ++ [(oo, .inl (kJ, 1, .inr (.inl f)))]) sz) := by
  refine gOfWH (cc := cL_cellOf) (maxL := 4) (ret := (some .int)) (hh := [(0, 9, 12, 13)]) (by decide) rfl ?_
  intro p e s m args below meth c s₁ B hml hv
  obtain ⟨rfl, hsz, hP, hK, hD0, hE⟩ := hv
  have hx := B.exec
  have hb := B.bytes
  have hr := B.returns
  have hts := atoms_spec (ws := wsL_cellOf) B.pre
  have hown : s.vm.findClass RL = some m.cls := findClass_of_methodNamed B.named
  have hlocks := B.notSynchronized
  have htab := vx_table (x := yL_cellOf) B (hts (.codeWith yL_cellOf cL_cellOf 4 (some .int) [(0, 9, 12, 13)]) List.mem_cons_self)
  subst hsz
  have hD := hD0.self (sz := s.heap.size)
  generalize hAe : va_A (wX kI kC kG x ag at_ as_ hh hst a0 a1 a2 a3 tx tch u ++ [(oo, .inl (kJ, 1, .inr (.inl f)))]) s.heap.size = A at hD hE ⊢
  have hA : ∀ q : Nat, s.heap.size ≤ q → A q := fun q h => by rw [← hAe]; exact Or.inr h
  have hS : va_S A s.heap s.heap [] := va_S.rf
  clear hAe hD0
  have hl := lv_entry ([.ref x, .int p1, .ref oo]) (n := 4) (Nat.le_of_ble_eq_true rfl)
  rw [lg_entry_eq]
  generalize (lg_sl ([.ref x, .int p1, .ref oo]) ++ List.replicate (4 - (lg_sl ([.ref x, .int p1, .ref oo])).length) Slot.unset).toArray = ls at hl ⊢
  have hl : lv_has ls 4 [(0, .ref x), (1, .int p1), (2, .ref oo)] := hl
  have hP : va_P D vwCl (wX kI kC kG x ag at_ as_ hh hst a0 a1 a2 a3 tx tch u ++ [(oo, .inl (kJ, 1, .inr (.inl f)))]) s.heap := hP
  unfold pL_cellOf at hw
  refine lv_aload_n hx hb dL_cellOf_0 rfl (lv_at hl 2 rfl) ?_
  refine lv_iconst (v := 0) hx hb dL_cellOf_1 (by decide) ?_
  refine lv_aload_n hx hb dL_cellOf_2 rfl (lv_at hl 0 rfl) ?_
  refine lv_iload_n hx hb dL_cellOf_3 rfl (lv_at hl 1 rfl) ?_
  refine gCVi (S := SX) (As := [.int p1]) (rest := [.int 0, .ref oo]) (wc := wX kI kC kG x ag at_ as_ hh hst a0 a1 a2 a3 tx tch u) (wr := [(oo, .inl (kJ, 1, .inr (.inl f)))]) (cs1 := (fun zz : SX => wX kI kC kG x ag at_ as_ hh hst a0 a1 a2 a3 tx tch zz)) (ws2 := (fun zz : SX => wX kI kC kG x ag at_ as_ hh hst a0 a1 a2 a3 tx tch zz ++ [(oo, .inl (kJ, 1, .inr (.inl f)))])) ⟨hx, hb, hml, hown, hts⟩ (fun sz => kX5_cellOf l D kI kC kG kJ hlt x ag at_ as_ hh hst a0 a1 a2 a3 tx tch sz u p1 _ _ hw) (cwV 1 hts gL_cellOf_X5_cellOf rfl rfl rfl hdX5_cellOf ⟨Nat.le_of_ble_eq_true rfl, Nat.le_of_ble_eq_true rfl⟩) hK hP hD hE hS hA [0, 1, 2, 3, 4, 5, 6, 7, 8, 9, 10, 11, 12, 13, 14, 15, 16, 17, 18, 19, 20, 21, 22, 23, 24, 25, 26, 27, 28, 29, 30, 31, 32] [33] rfl rfl rfl rfl (by decide) [1, 2, 3, 4, 5, 6, 7, 8, 9, 10, 11, 12, 13, 14, 15, 16, 17, 18, 19, 20, 21, 22, 23, 24, 25, 26, 27, 28, 29, 30, 31, 32, 33, 0] rfl (fun _ => rfl) (ci := 4) (q0 := 0) rfl rfl rfl rfl hl.1 rfl (Nat.le_of_ble_eq_true rfl) dL_cellOf_4 ⟨Nat.le_of_ble_eq_true rfl, Nat.le_of_ble_eq_true rfl⟩ (fun E ce q9 w1 H locs hw hP hD hS hce hcv hcl => ?_) (fun r1 w1 H locs hw hP hD hS => ?_)
  · have hP : va_P D vwCl (wX kI kC kG x ag at_ as_ hh hst a0 a1 a2 a3 tx tch w1 ++ [(oo, .inl (kJ, 1, .inr (.inl f)))]) H := hP
    have hD : va_D A (wX kI kC kG x ag at_ as_ hh hst a0 a1 a2 a3 tx tch w1 ++ [(oo, .inl (kJ, 1, .inr (.inl f)))]) := hD
    by_cases e1_0 : E = "java/lang/IndexOutOfBoundsException"
    · subst e1_0
      replace hw := Eq.mp (if_pos rfl) hw
      refine vx_catch hown [] ⟨0, 9, 12, 13⟩ [] htab (fun z hz => absurd hz List.not_mem_nil) rfl (by decide) (hts (.classLink RL 13 "java/lang/IndexOutOfBoundsException") (List.mem_of_getElem? (i := 1) rfl)) (hE.2.2.2.2.use _ (List.mem_of_getElem? (i := 4) rfl)) hce hcv hcl ?_
      refine lv_astore_n (lv' := [(3, .ref q9), (0, .ref x), (1, .int p1), (2, .ref oo)]) hx hb dL_cellOf_12 rfl hl (by decide) rfl (fun ls hl => ?_)
      refine lv_iconst (v := 1) hx hb dL_cellOf_13 (by decide) ?_
      exact W.iret (v := 1) hx hb hr (fun t ht hW => ⟨⟨1, (w1, f), rfl, hw, by rw [ht]; exact hP, va_K.moved hW.alike hK, hD⟩, hS.F ht⟩) hS.2.2 dL_cellOf_14
    replace hw := Eq.mp (if_neg e1_0) hw
    exact (hw : False).elim
  have hP : va_P D vwCl (wX kI kC kG x ag at_ as_ hh hst a0 a1 a2 a3 tx tch w1 ++ [(oo, .inl (kJ, 1, .inr (.inl f)))]) H := hP
  have hD : va_D A (wX kI kC kG x ag at_ as_ hh hst a0 a1 a2 a3 tx tch w1 ++ [(oo, .inl (kJ, 1, .inr (.inl f)))]) := hD
  refine lv_i2l (v := r1.toInt64) hx hb dL_cellOf_7 rfl ?_
  refine gLast (k := 0) hx hb hK hP hD hS 33 3 rfl rfl (gin (by decide)) (by decide) dL_cellOf_8 (fun H locs hP hD hS => ?_)
  have hP : va_P D vwCl (wX kI kC kG x ag at_ as_ hh hst a0 a1 a2 a3 tx tch w1 ++ [(oo, .inl (kJ, 1, .inr (.inl (vp_updL f 0 r1.toInt64))))]) H := hP
  have hD : va_D A (wX kI kC kG x ag at_ as_ hh hst a0 a1 a2 a3 tx tch w1 ++ [(oo, .inl (kJ, 1, .inr (.inl (vp_updL f 0 r1.toInt64))))]) := hD
  refine lv_goto (tgt := 15) hx hb dL_cellOf_9 (by decide) ?_
  refine lv_iconst (v := 0) hx hb dL_cellOf_15 (by decide) ?_
  exact W.iret (v := 0) hx hb hr (fun t ht hW => ⟨⟨0, (w1, (vp_updL f 0 r1.toInt64)), rfl, hw, by rw [ht]; exact hP, va_K.moved hW.alike hK, hD⟩, hS.F ht⟩) hS.2.2 dL_cellOf_16
set_option maxHeartbeats 4000000 in
set_option maxRecDepth 100000 in
theorem kL_piecesOn (l : Launch) (D : va_G) (kI kC kG kJ : ClassId) (hlt : l.stackTraces = false) (x : Nat) (ag at_ as_ : AG) (hh hst : Nat) (a0 a1 a2 a3 : AG) (tx tch : Nat) (oo : Nat) (sz : Nat) (u : SX) (f : Nat → Int64) (p1 : Int32) (Z : Int32 → SX × (Nat → Int64) → Prop) (hw : pL_piecesOn p1 u f Z) : Met l yL_piecesOn wsL_piecesOn ({ frames := 8, cells := 1, slots := 6, locals := 132 } : Room) (gPw D (gT kI kC kG kJ) [.ref x, .int p1, .ref oo] (wX kI kC kG x ag at_ as_ hh hst a0 a1 a2 a3 tx tch u ++ [(oo, .inl (kJ, 1, .inr (.inl f)))]) sz) (va_Qi Z (gB D (gT kI kC kG kJ) (fun (zz : SX × (Nat → Int64)) => wX kI kC kG x ag at_ as_ hh hst a0 a1 a2 a3 tx tch zz.1 ++ [(oo, .inl (kJ, 1, .inr (.inl zz.2)))]) (va_A (wX kI kC kG x ag at_ as_ hh hst a0 a1 a2 a3 tx tch u ++ [(oo, .inl (kJ, 1, .inr (.inl f)))]) sz)) (va_A (wX kI kC kG x ag at_ as_ hh hst a0 a1 a2 a3 tx tch u ++ [(oo, .inl (kJ, 1, .inr (.inl f)))]) sz)) 1 6 (va_A (wX kI kC kG x ag at_ as_ hh hst a0 a1 a2 a3 tx tch u ++ [(oo, .inl (kJ, 1, .inr (.inl f)))]) sz) := by
  refine gOfWH (cc := cL_piecesOn) (maxL := 4) (ret := (some .int)) (hh := [(0, 9, 12, 13)]) (by decide) rfl ?_
  intro p e s m args below meth c s₁ B hml hv
  obtain ⟨rfl, hsz, hP, hK, hD0, hE⟩ := hv
  have hx := B.exec
  have hb := B.bytes
  have hr := B.returns
  have hts := atoms_spec (ws := wsL_piecesOn) B.pre
  have hown : s.vm.findClass RL = some m.cls := findClass_of_methodNamed B.named
  have hlocks := B.notSynchronized
  have htab := vx_table (x := yL_piecesOn) B (hts (.codeWith yL_piecesOn cL_piecesOn 4 (some .int) [(0, 9, 12, 13)]) List.mem_cons_self)
  subst hsz
  have hD := hD0.self (sz := s.heap.size)
  generalize hAe : va_A (wX kI kC kG x ag at_ as_ hh hst a0 a1 a2 a3 tx tch u ++ [(oo, .inl (kJ, 1, .inr (.inl f)))]) s.heap.size = A at hD hE ⊢
  have hA : ∀ q : Nat, s.heap.size ≤ q → A q := fun q h => by rw [← hAe]; exact Or.inr h
  have hS : va_S A s.heap s.heap [] := va_S.rf
  clear hAe hD0
  have hl := lv_entry ([.ref x, .int p1, .ref oo]) (n := 4) (Nat.le_of_ble_eq_true rfl)
  rw [lg_entry_eq]
  generalize (lg_sl ([.ref x, .int p1, .ref oo]) ++ List.replicate (4 - (lg_sl ([.ref x, .int p1, .ref oo])).length) Slot.unset).toArray = ls at hl ⊢
  have hl : lv_has ls 4 [(0, .ref x), (1, .int p1), (2, .ref oo)] := hl
  have hP : va_P D vwCl (wX kI kC kG x ag at_ as_ hh hst a0 a1 a2 a3 tx tch u ++ [(oo, .inl (kJ, 1, .inr (.inl f)))]) s.heap := hP
  unfold pL_piecesOn at hw
  refine lv_aload_n hx hb dL_piecesOn_0 rfl (lv_at hl 2 rfl) ?_
  refine lv_iconst (v := 0) hx hb dL_piecesOn_1 (by decide) ?_
  refine lv_aload_n hx hb dL_piecesOn_2 rfl (lv_at hl 0 rfl) ?_
  refine lv_iload_n hx hb dL_piecesOn_3 rfl (lv_at hl 1 rfl) ?_
  refine gCVi (S := SX) (As := [.int p1]) (rest := [.int 0, .ref oo]) (wc := wX kI kC kG x ag at_ as_ hh hst a0 a1 a2 a3 tx tch u) (wr := [(oo, .inl (kJ, 1, .inr (.inl f)))]) (cs1 := (fun zz : SX => wX kI kC kG x ag at_ as_ hh hst a0 a1 a2 a3 tx tch zz)) (ws2 := (fun zz : SX => wX kI kC kG x ag at_ as_ hh hst a0 a1 a2 a3 tx tch zz ++ [(oo, .inl (kJ, 1, .inr (.inl f)))])) ⟨hx, hb, hml, hown, hts⟩ (fun sz => kX5_piecesOn l D kI kC kG kJ hlt x ag at_ as_ hh hst a0 a1 a2 a3 tx tch sz u p1 _ _ hw) (cwV 1 hts gL_piecesOn_X5_piecesOn rfl rfl rfl hdX5_piecesOn ⟨Nat.le_of_ble_eq_true rfl, Nat.le_of_ble_eq_true rfl⟩) hK hP hD hE hS hA [0, 1, 2, 3, 4, 5, 6, 7, 8, 9, 10, 11, 12, 13, 14, 15, 16, 17, 18, 19, 20, 21, 22, 23, 24, 25, 26, 27, 28, 29, 30, 31, 32] [33] rfl rfl rfl rfl (by decide) [1, 2, 3, 4, 5, 6, 7, 8, 9, 10, 11, 12, 13, 14, 15, 16, 17, 18, 19, 20, 21, 22, 23, 24, 25, 26, 27, 28, 29, 30, 31, 32, 33, 0] rfl (fun _ => rfl) (ci := 4) (q0 := 0) rfl rfl rfl rfl hl.1 rfl (Nat.le_of_ble_eq_true rfl) dL_piecesOn_4 ⟨Nat.le_of_ble_eq_true rfl, Nat.le_of_ble_eq_true rfl⟩ (fun E ce q9 w1 H locs hw hP hD hS hce hcv hcl => ?_) (fun r1 w1 H locs hw hP hD hS => ?_)
  · have hP : va_P D vwCl (wX kI kC kG x ag at_ as_ hh hst a0 a1 a2 a3 tx tch w1 ++ [(oo, .inl (kJ, 1, .inr (.inl f)))]) H := hP
    have hD : va_D A (wX kI kC kG x ag at_ as_ hh hst a0 a1 a2 a3 tx tch w1 ++ [(oo, .inl (kJ, 1, .inr (.inl f)))]) := hD
    by_cases e1_0 : E = "java/lang/IndexOutOfBoundsException"
    · subst e1_0
      replace hw := Eq.mp (if_pos rfl) hw
      refine vx_catch hown [] ⟨0, 9, 12, 13⟩ [] htab (fun z hz => absurd hz List.not_mem_nil) rfl (by decide) (hts (.classLink RL 13 "java/lang/IndexOutOfBoundsException") (List.mem_of_getElem? (i := 1) rfl)) (hE.2.2.2.2.use _ (List.mem_of_getElem? (i := 4) rfl)) hce hcv hcl ?_
      refine lv_astore_n (lv' := [(3, .ref q9), (0, .ref x), (1, .int p1), (2, .ref oo)]) hx hb dL_piecesOn_12 rfl hl (by decide) rfl (fun ls hl => ?_)
      refine lv_iconst (v := 1) hx hb dL_piecesOn_13 (by decide) ?_
      exact W.iret (v := 1) hx hb hr (fun t ht hW => ⟨⟨1, (w1, f), rfl, hw, by rw [ht]; exact hP, va_K.moved hW.alike hK, hD⟩, hS.F ht⟩) hS.2.2 dL_piecesOn_14
    replace hw := Eq.mp (if_neg e1_0) hw
    exact (hw : False).elim
  have hP : va_P D vwCl (wX kI kC kG x ag at_ as_ hh hst a0 a1 a2 a3 tx tch w1 ++ [(oo, .inl (kJ, 1, .inr (.inl f)))]) H := hP
  have hD : va_D A (wX kI kC kG x ag at_ as_ hh hst a0 a1 a2 a3 tx tch w1 ++ [(oo, .inl (kJ, 1, .inr (.inl f)))]) := hD
  refine lv_i2l (v := r1.toInt64) hx hb dL_piecesOn_7 rfl ?_
  refine gLast (k := 0) hx hb hK hP hD hS 33 3 rfl rfl (gin (by decide)) (by decide) dL_piecesOn_8 (fun H locs hP hD hS => ?_)
  have hP : va_P D vwCl (wX kI kC kG x ag at_ as_ hh hst a0 a1 a2 a3 tx tch w1 ++ [(oo, .inl (kJ, 1, .inr (.inl (vp_updL f 0 r1.toInt64))))]) H := hP
  have hD : va_D A (wX kI kC kG x ag at_ as_ hh hst a0 a1 a2 a3 tx tch w1 ++ [(oo, .inl (kJ, 1, .inr (.inl (vp_updL f 0 r1.toInt64))))]) := hD
  refine lv_goto (tgt := 15) hx hb dL_piecesOn_9 (by decide) ?_
  refine lv_iconst (v := 0) hx hb dL_piecesOn_15 (by decide) ?_
  exact W.iret (v := 0) hx hb hr (fun t ht hW => ⟨⟨0, (w1, (vp_updL f 0 r1.toInt64)), rfl, hw, by rw [ht]; exact hP, va_K.moved hW.alike hK, hD⟩, hS.F ht⟩) hS.2.2 dL_piecesOn_16
set_option maxHeartbeats 4000000 in
set_option maxRecDepth 100000 in
theorem kL_sharedOn (l : Launch) (D : va_G) (kI kC kG kJ : ClassId) (hlt : l.stackTraces = false) (x : Nat) (ag at_ as_ : AG) (hh hst : Nat) (a0 a1 a2 a3 : AG) (tx tch : Nat) (oo : Nat) (sz : Nat) (u : SX) (f : Nat → Int64) (p1 : Int32) (Z : Int32 → SX × (Nat → Int64) → Prop) (hw : pL_sharedOn p1 u f Z) : Met l yL_sharedOn wsL_sharedOn ({ frames := 8, cells := 1, slots := 6, locals := 132 } : Room) (gPw D (gT kI kC kG kJ) [.ref x, .int p1, .ref oo] (wX kI kC kG x ag at_ as_ hh hst a0 a1 a2 a3 tx tch u ++ [(oo, .inl (kJ, 1, .inr (.inl f)))]) sz) (va_Qi Z (gB D (gT kI kC kG kJ) (fun (zz : SX × (Nat → Int64)) => wX kI kC kG x ag at_ as_ hh hst a0 a1 a2 a3 tx tch zz.1 ++ [(oo, .inl (kJ, 1, .inr (.inl zz.2)))]) (va_A (wX kI kC kG x ag at_ as_ hh hst a0 a1 a2 a3 tx tch u ++ [(oo, .inl (kJ, 1, .inr (.inl f)))]) sz)) (va_A (wX kI kC kG x ag at_ as_ hh hst a0 a1 a2 a3 tx tch u ++ [(oo, .inl (kJ, 1, .inr (.inl f)))]) sz)) 1 6 (va_A (wX kI kC kG x ag at_ as_ hh hst a0 a1 a2 a3 tx tch u ++ [(oo, .inl (kJ, 1, .inr (.inl f)))]) sz) := by
  refine gOfWH (cc := cL_sharedOn) (maxL := 4) (ret := (some .int)) (hh := [(0, 9, 12, 13)]) (by decide) rfl ?_
  intro p e s m args below meth c s₁ B hml hv
  obtain ⟨rfl, hsz, hP, hK, hD0, hE⟩ := hv
  have hx := B.exec
  have hb := B.bytes
  have hr := B.returns
  have hts := atoms_spec (ws := wsL_sharedOn) B.pre
  have hown : s.vm.findClass RL = some m.cls := findClass_of_methodNamed B.named
  have hlocks := B.notSynchronized
  have htab := vx_table (x := yL_sharedOn) B (hts (.codeWith yL_sharedOn cL_sharedOn 4 (some .int) [(0, 9, 12, 13)]) List.mem_cons_self)
  subst hsz
  have hD := hD0.self (sz := s.heap.size)
  generalize hAe : va_A (wX kI kC kG x ag at_ as_ hh hst a0 a1 a2 a3 tx tch u ++ [(oo, .inl (kJ, 1, .inr (.inl f)))]) s.heap.size = A at hD hE ⊢
  have hA : ∀ q : Nat, s.heap.size ≤ q → A q := fun q h => by rw [← hAe]; exact Or.inr h
  have hS : va_S A s.heap s.heap [] := va_S.rf
  clear hAe hD0
  have hl := lv_entry ([.ref x, .int p1, .ref oo]) (n := 4) (Nat.le_of_ble_eq_true rfl)
  rw [lg_entry_eq]
  generalize (lg_sl ([.ref x, .int p1, .ref oo]) ++ List.replicate (4 - (lg_sl ([.ref x, .int p1, .ref oo])).length) Slot.unset).toArray = ls at hl ⊢
  have hl : lv_has ls 4 [(0, .ref x), (1, .int p1), (2, .ref oo)] := hl
  have hP : va_P D vwCl (wX kI kC kG x ag at_ as_ hh hst a0 a1 a2 a3 tx tch u ++ [(oo, .inl (kJ, 1, .inr (.inl f)))]) s.heap := hP
  unfold pL_sharedOn at hw
  refine lv_aload_n hx hb dL_sharedOn_0 rfl (lv_at hl 2 rfl) ?_
  refine lv_iconst (v := 0) hx hb dL_sharedOn_1 (by decide) ?_
  refine lv_aload_n hx hb dL_sharedOn_2 rfl (lv_at hl 0 rfl) ?_
  refine lv_iload_n hx hb dL_sharedOn_3 rfl (lv_at hl 1 rfl) ?_
  refine gCVi (S := SX) (As := [.int p1]) (rest := [.int 0, .ref oo]) (wc := wX kI kC kG x ag at_ as_ hh hst a0 a1 a2 a3 tx tch u) (wr := [(oo, .inl (kJ, 1, .inr (.inl f)))]) (cs1 := (fun zz : SX => wX kI kC kG x ag at_ as_ hh hst a0 a1 a2 a3 tx tch zz)) (ws2 := (fun zz : SX => wX kI kC kG x ag at_ as_ hh hst a0 a1 a2 a3 tx tch zz ++ [(oo, .inl (kJ, 1, .inr (.inl f)))])) ⟨hx, hb, hml, hown, hts⟩ (fun sz => kX5_sharedOn l D kI kC kG kJ hlt x ag at_ as_ hh hst a0 a1 a2 a3 tx tch sz u p1 _ _ hw) (cwV 1 hts gL_sharedOn_X5_sharedOn rfl rfl rfl hdX5_sharedOn ⟨Nat.le_of_ble_eq_true rfl, Nat.le_of_ble_eq_true rfl⟩) hK hP hD hE hS hA [0, 1, 2, 3, 4, 5, 6, 7, 8, 9, 10, 11, 12, 13, 14, 15, 16, 17, 18, 19, 20, 21, 22, 23, 24, 25, 26, 27, 28, 29, 30, 31, 32] [33] rfl rfl rfl rfl (by decide) [1, 2, 3, 4, 5, 6, 7, 8, 9, 10, 11, 12, 13, 14, 15, 16, 17, 18, 19, 20, 21, 22, 23, 24, 25, 26, 27, 28, 29, 30, 31, 32, 33, 0] rfl (fun _ => rfl) (ci := 4) (q0 := 0) rfl rfl rfl rfl hl.1 rfl (Nat.le_of_ble_eq_true rfl) dL_sharedOn_4 ⟨Nat.le_of_ble_eq_true rfl, Nat.le_of_ble_eq_true rfl⟩ (fun E ce q9 w1 H locs hw hP hD hS hce hcv hcl => ?_) (fun r1 w1 H locs hw hP hD hS => ?_)
  · have hP : va_P D vwCl (wX kI kC kG x ag at_ as_ hh hst a0 a1 a2 a3 tx tch w1 ++ [(oo, .inl (kJ, 1, .inr (.inl f)))]) H := hP
    have hD : va_D A (wX kI kC kG x ag at_ as_ hh hst a0 a1 a2 a3 tx tch w1 ++ [(oo, .inl (kJ, 1, .inr (.inl f)))]) := hD
    by_cases e1_0 : E = "java/lang/IndexOutOfBoundsException"
    · subst e1_0
      replace hw := Eq.mp (if_pos rfl) hw
      refine vx_catch hown [] ⟨0, 9, 12, 13⟩ [] htab (fun z hz => absurd hz List.not_mem_nil) rfl (by decide) (hts (.classLink RL 13 "java/lang/IndexOutOfBoundsException") (List.mem_of_getElem? (i := 1) rfl)) (hE.2.2.2.2.use _ (List.mem_of_getElem? (i := 4) rfl)) hce hcv hcl ?_
      refine lv_astore_n (lv' := [(3, .ref q9), (0, .ref x), (1, .int p1), (2, .ref oo)]) hx hb dL_sharedOn_12 rfl hl (by decide) rfl (fun ls hl => ?_)
      refine lv_iconst (v := 1) hx hb dL_sharedOn_13 (by decide) ?_
      exact W.iret (v := 1) hx hb hr (fun t ht hW => ⟨⟨1, (w1, f), rfl, hw, by rw [ht]; exact hP, va_K.moved hW.alike hK, hD⟩, hS.F ht⟩) hS.2.2 dL_sharedOn_14
    replace hw := Eq.mp (if_neg e1_0) hw
    exact (hw : False).elim
  have hP : va_P D vwCl (wX kI kC kG x ag at_ as_ hh hst a0 a1 a2 a3 tx tch w1 ++ [(oo, .inl (kJ, 1, .inr (.inl f)))]) H := hP
  have hD : va_D A (wX kI kC kG x ag at_ as_ hh hst a0 a1 a2 a3 tx tch w1 ++ [(oo, .inl (kJ, 1, .inr (.inl f)))]) := hD
  refine lv_i2l (v := r1.toInt64) hx hb dL_sharedOn_7 rfl ?_
  refine gLast (k := 0) hx hb hK hP hD hS 33 3 rfl rfl (gin (by decide)) (by decide) dL_sharedOn_8 (fun H locs hP hD hS => ?_)
  have hP : va_P D vwCl (wX kI kC kG x ag at_ as_ hh hst a0 a1 a2 a3 tx tch w1 ++ [(oo, .inl (kJ, 1, .inr (.inl (vp_updL f 0 r1.toInt64))))]) H := hP
  have hD : va_D A (wX kI kC kG x ag at_ as_ hh hst a0 a1 a2 a3 tx tch w1 ++ [(oo, .inl (kJ, 1, .inr (.inl (vp_updL f 0 r1.toInt64))))]) := hD
  refine lv_goto (tgt := 15) hx hb dL_sharedOn_9 (by decide) ?_
  refine lv_iconst (v := 0) hx hb dL_sharedOn_15 (by decide) ?_
  exact W.iret (v := 0) hx hb hr (fun t ht hW => ⟨⟨0, (w1, (vp_updL f 0 r1.toInt64)), rfl, hw, by rw [ht]; exact hP, va_K.moved hW.alike hK, hD⟩, hS.F ht⟩) hS.2.2 dL_sharedOn_16
set_option maxHeartbeats 4000000 in
set_option maxRecDepth 100000 in
theorem kL_winsOf (l : Launch) (D : va_G) (kI kC kG kJ : ClassId) (hlt : l.stackTraces = false) (x : Nat) (ag at_ as_ : AG) (hh hst : Nat) (a0 a1 a2 a3 : AG) (tx tch : Nat) (oo : Nat) (sz : Nat) (u : SX) (f : Nat → Int64) (p1 : Int32) (Z : Int32 → SX × (Nat → Int64) → Prop) (hw : pL_winsOf p1 u f Z) : Met l yL_winsOf wsL_winsOf ({ frames := 7, cells := 1, slots := 6, locals := 111 } : Room) (gPw D (gT kI kC kG kJ) [.ref x, .int p1, .ref oo] (wX kI kC kG x ag at_ as_ hh hst a0 a1 a2 a3 tx tch u ++ [(oo, .inl (kJ, 1, .inr (.inl f)))]) sz) (va_Qi Z (gB D (gT kI kC kG kJ) (fun (zz : SX × (Nat → Int64)) => wX kI kC kG x ag at_ as_ hh hst a0 a1 a2 a3 tx tch zz.1 ++ [(oo, .inl (kJ, 1, .inr (.inl zz.2)))]) (va_A (wX kI kC kG x ag at_ as_ hh hst a0 a1 a2 a3 tx tch u ++ [(oo, .inl (kJ, 1, .inr (.inl f)))]) sz)) (va_A (wX kI kC kG x ag at_ as_ hh hst a0 a1 a2 a3 tx tch u ++ [(oo, .inl (kJ, 1, .inr (.inl f)))]) sz)) 1 6 (va_A (wX kI kC kG x ag at_ as_ hh hst a0 a1 a2 a3 tx tch u ++ [(oo, .inl (kJ, 1, .inr (.inl f)))]) sz) := by
  refine gOfWH (cc := cL_winsOf) (maxL := 4) (ret := (some .int)) (hh := [(0, 9, 12, 13)]) (by decide) rfl ?_
  intro p e s m args below meth c s₁ B hml hv
  obtain ⟨rfl, hsz, hP, hK, hD0, hE⟩ := hv
  have hx := B.exec
  have hb := B.bytes
  have hr := B.returns
  have hts := atoms_spec (ws := wsL_winsOf) B.pre
  have hown : s.vm.findClass RL = some m.cls := findClass_of_methodNamed B.named
  have hlocks := B.notSynchronized
  have htab := vx_table (x := yL_winsOf) B (hts (.codeWith yL_winsOf cL_winsOf 4 (some .int) [(0, 9, 12, 13)]) List.mem_cons_self)
  subst hsz
  have hD := hD0.self (sz := s.heap.size)
  generalize hAe : va_A (wX kI kC kG x ag at_ as_ hh hst a0 a1 a2 a3 tx tch u ++ [(oo, .inl (kJ, 1, .inr (.inl f)))]) s.heap.size = A at hD hE ⊢
  have hA : ∀ q : Nat, s.heap.size ≤ q → A q := fun q h => by rw [← hAe]; exact Or.inr h
  have hS : va_S A s.heap s.heap [] := va_S.rf
  clear hAe hD0
  have hl := lv_entry ([.ref x, .int p1, .ref oo]) (n := 4) (Nat.le_of_ble_eq_true rfl)
  rw [lg_entry_eq]
  generalize (lg_sl ([.ref x, .int p1, .ref oo]) ++ List.replicate (4 - (lg_sl ([.ref x, .int p1, .ref oo])).length) Slot.unset).toArray = ls at hl ⊢
  have hl : lv_has ls 4 [(0, .ref x), (1, .int p1), (2, .ref oo)] := hl
  have hP : va_P D vwCl (wX kI kC kG x ag at_ as_ hh hst a0 a1 a2 a3 tx tch u ++ [(oo, .inl (kJ, 1, .inr (.inl f)))]) s.heap := hP
  unfold pL_winsOf at hw
  refine lv_aload_n hx hb dL_winsOf_0 rfl (lv_at hl 2 rfl) ?_
  refine lv_iconst (v := 0) hx hb dL_winsOf_1 (by decide) ?_
  refine lv_aload_n hx hb dL_winsOf_2 rfl (lv_at hl 0 rfl) ?_
  refine lv_iload_n hx hb dL_winsOf_3 rfl (lv_at hl 1 rfl) ?_
  refine gCVi (S := SX) (As := [.int p1]) (rest := [.int 0, .ref oo]) (wc := wX kI kC kG x ag at_ as_ hh hst a0 a1 a2 a3 tx tch u) (wr := [(oo, .inl (kJ, 1, .inr (.inl f)))]) (cs1 := (fun zz : SX => wX kI kC kG x ag at_ as_ hh hst a0 a1 a2 a3 tx tch zz)) (ws2 := (fun zz : SX => wX kI kC kG x ag at_ as_ hh hst a0 a1 a2 a3 tx tch zz ++ [(oo, .inl (kJ, 1, .inr (.inl f)))])) ⟨hx, hb, hml, hown, hts⟩ (fun sz => kX5_winsOf l D kI kC kG kJ hlt x ag at_ as_ hh hst a0 a1 a2 a3 tx tch sz u p1 _ _ hw) (cwV 1 hts gL_winsOf_X5_winsOf rfl rfl rfl hdX5_winsOf ⟨Nat.le_of_ble_eq_true rfl, Nat.le_of_ble_eq_true rfl⟩) hK hP hD hE hS hA [0, 1, 2, 3, 4, 5, 6, 7, 8, 9, 10, 11, 12, 13, 14, 15, 16, 17, 18, 19, 20, 21, 22, 23, 24, 25, 26, 27, 28, 29, 30, 31, 32] [33] rfl rfl rfl rfl (by decide) [1, 2, 3, 4, 5, 6, 7, 8, 9, 10, 11, 12, 13, 14, 15, 16, 17, 18, 19, 20, 21, 22, 23, 24, 25, 26, 27, 28, 29, 30, 31, 32, 33, 0] rfl (fun _ => rfl) (ci := 4) (q0 := 0) rfl rfl rfl rfl hl.1 rfl (Nat.le_of_ble_eq_true rfl) dL_winsOf_4 ⟨Nat.le_of_ble_eq_true rfl, Nat.le_of_ble_eq_true rfl⟩ (fun E ce q9 w1 H locs hw hP hD hS hce hcv hcl => ?_) (fun r1 w1 H locs hw hP hD hS => ?_)
  · have hP : va_P D vwCl (wX kI kC kG x ag at_ as_ hh hst a0 a1 a2 a3 tx tch w1 ++ [(oo, .inl (kJ, 1, .inr (.inl f)))]) H := hP
    have hD : va_D A (wX kI kC kG x ag at_ as_ hh hst a0 a1 a2 a3 tx tch w1 ++ [(oo, .inl (kJ, 1, .inr (.inl f)))]) := hD
    by_cases e1_0 : E = "java/lang/IndexOutOfBoundsException"
    · subst e1_0
      replace hw := Eq.mp (if_pos rfl) hw
      refine vx_catch hown [] ⟨0, 9, 12, 13⟩ [] htab (fun z hz => absurd hz List.not_mem_nil) rfl (by decide) (hts (.classLink RL 13 "java/lang/IndexOutOfBoundsException") (List.mem_of_getElem? (i := 1) rfl)) (hE.2.2.2.2.use _ (List.mem_of_getElem? (i := 4) rfl)) hce hcv hcl ?_
      refine lv_astore_n (lv' := [(3, .ref q9), (0, .ref x), (1, .int p1), (2, .ref oo)]) hx hb dL_winsOf_12 rfl hl (by decide) rfl (fun ls hl => ?_)
      refine lv_iconst (v := 1) hx hb dL_winsOf_13 (by decide) ?_
      exact W.iret (v := 1) hx hb hr (fun t ht hW => ⟨⟨1, (w1, f), rfl, hw, by rw [ht]; exact hP, va_K.moved hW.alike hK, hD⟩, hS.F ht⟩) hS.2.2 dL_winsOf_14
    replace hw := Eq.mp (if_neg e1_0) hw
    exact (hw : False).elim
  have hP : va_P D vwCl (wX kI kC kG x ag at_ as_ hh hst a0 a1 a2 a3 tx tch w1 ++ [(oo, .inl (kJ, 1, .inr (.inl f)))]) H := hP
  have hD : va_D A (wX kI kC kG x ag at_ as_ hh hst a0 a1 a2 a3 tx tch w1 ++ [(oo, .inl (kJ, 1, .inr (.inl f)))]) := hD
  refine lv_i2l (v := r1.toInt64) hx hb dL_winsOf_7 rfl ?_
  refine gLast (k := 0) hx hb hK hP hD hS 33 3 rfl rfl (gin (by decide)) (by decide) dL_winsOf_8 (fun H locs hP hD hS => ?_)
  have hP : va_P D vwCl (wX kI kC kG x ag at_ as_ hh hst a0 a1 a2 a3 tx tch w1 ++ [(oo, .inl (kJ, 1, .inr (.inl (vp_updL f 0 r1.toInt64))))]) H := hP
  have hD : va_D A (wX kI kC kG x ag at_ as_ hh hst a0 a1 a2 a3 tx tch w1 ++ [(oo, .inl (kJ, 1, .inr (.inl (vp_updL f 0 r1.toInt64))))]) := hD
  refine lv_goto (tgt := 15) hx hb dL_winsOf_9 (by decide) ?_
  refine lv_iconst (v := 0) hx hb dL_winsOf_15 (by decide) ?_
  exact W.iret (v := 0) hx hb hr (fun t ht hW => ⟨⟨0, (w1, (vp_updL f 0 r1.toInt64)), rfl, hw, by rw [ht]; exact hP, va_K.moved hW.alike hK, hD⟩, hS.F ht⟩) hS.2.2 dL_winsOf_16
set_option maxHeartbeats 4000000 in
set_option maxRecDepth 100000 in
theorem kL_winningCell (l : Launch) (D : va_G) (kI kC kG kJ : ClassId) (hlt : l.stackTraces = false) (x : Nat) (ag at_ as_ : AG) (hh hst : Nat) (a0 a1 a2 a3 : AG) (tx tch : Nat) (oo : Nat) (sz : Nat) (u : SX) (f : Nat → Int64) (p1 : Int32) (Z : Int32 → SX × (Nat → Int64) → Prop) (hw : pL_winningCell p1 u f Z) : Met l yL_winningCell wsL_winningCell ({ frames := 8, cells := 1, slots := 6, locals := 131 } : Room) (gPw D (gT kI kC kG kJ) [.ref x, .int p1, .ref oo] (wX kI kC kG x ag at_ as_ hh hst a0 a1 a2 a3 tx tch u ++ [(oo, .inl (kJ, 1, .inr (.inl f)))]) sz) (va_Qi Z (gB D (gT kI kC kG kJ) (fun (zz : SX × (Nat → Int64)) => wX kI kC kG x ag at_ as_ hh hst a0 a1 a2 a3 tx tch zz.1 ++ [(oo, .inl (kJ, 1, .inr (.inl zz.2)))]) (va_A (wX kI kC kG x ag at_ as_ hh hst a0 a1 a2 a3 tx tch u ++ [(oo, .inl (kJ, 1, .inr (.inl f)))]) sz)) (va_A (wX kI kC kG x ag at_ as_ hh hst a0 a1 a2 a3 tx tch u ++ [(oo, .inl (kJ, 1, .inr (.inl f)))]) sz)) 1 6 (va_A (wX kI kC kG x ag at_ as_ hh hst a0 a1 a2 a3 tx tch u ++ [(oo, .inl (kJ, 1, .inr (.inl f)))]) sz) := by
  refine gOfWH (cc := cL_winningCell) (maxL := 4) (ret := (some .int)) (hh := [(0, 9, 12, 13)]) (by decide) rfl ?_
  intro p e s m args below meth c s₁ B hml hv
  obtain ⟨rfl, hsz, hP, hK, hD0, hE⟩ := hv
  have hx := B.exec
  have hb := B.bytes
  have hr := B.returns
  have hts := atoms_spec (ws := wsL_winningCell) B.pre
  have hown : s.vm.findClass RL = some m.cls := findClass_of_methodNamed B.named
  have hlocks := B.notSynchronized
  have htab := vx_table (x := yL_winningCell) B (hts (.codeWith yL_winningCell cL_winningCell 4 (some .int) [(0, 9, 12, 13)]) List.mem_cons_self)
  subst hsz
  have hD := hD0.self (sz := s.heap.size)
  generalize hAe : va_A (wX kI kC kG x ag at_ as_ hh hst a0 a1 a2 a3 tx tch u ++ [(oo, .inl (kJ, 1, .inr (.inl f)))]) s.heap.size = A at hD hE ⊢
  have hA : ∀ q : Nat, s.heap.size ≤ q → A q := fun q h => by rw [← hAe]; exact Or.inr h
  have hS : va_S A s.heap s.heap [] := va_S.rf
  clear hAe hD0
  have hl := lv_entry ([.ref x, .int p1, .ref oo]) (n := 4) (Nat.le_of_ble_eq_true rfl)
  rw [lg_entry_eq]
  generalize (lg_sl ([.ref x, .int p1, .ref oo]) ++ List.replicate (4 - (lg_sl ([.ref x, .int p1, .ref oo])).length) Slot.unset).toArray = ls at hl ⊢
  have hl : lv_has ls 4 [(0, .ref x), (1, .int p1), (2, .ref oo)] := hl
  have hP : va_P D vwCl (wX kI kC kG x ag at_ as_ hh hst a0 a1 a2 a3 tx tch u ++ [(oo, .inl (kJ, 1, .inr (.inl f)))]) s.heap := hP
  unfold pL_winningCell at hw
  refine lv_aload_n hx hb dL_winningCell_0 rfl (lv_at hl 2 rfl) ?_
  refine lv_iconst (v := 0) hx hb dL_winningCell_1 (by decide) ?_
  refine lv_aload_n hx hb dL_winningCell_2 rfl (lv_at hl 0 rfl) ?_
  refine lv_iload_n hx hb dL_winningCell_3 rfl (lv_at hl 1 rfl) ?_
  refine gCVi (S := SX) (As := [.int p1]) (rest := [.int 0, .ref oo]) (wc := wX kI kC kG x ag at_ as_ hh hst a0 a1 a2 a3 tx tch u) (wr := [(oo, .inl (kJ, 1, .inr (.inl f)))]) (cs1 := (fun zz : SX => wX kI kC kG x ag at_ as_ hh hst a0 a1 a2 a3 tx tch zz)) (ws2 := (fun zz : SX => wX kI kC kG x ag at_ as_ hh hst a0 a1 a2 a3 tx tch zz ++ [(oo, .inl (kJ, 1, .inr (.inl f)))])) ⟨hx, hb, hml, hown, hts⟩ (fun sz => kX5_winningCell l D kI kC kG kJ hlt x ag at_ as_ hh hst a0 a1 a2 a3 tx tch sz u p1 _ _ hw) (cwV 1 hts gL_winningCell_X5_winningCell rfl rfl rfl hdX5_winningCell ⟨Nat.le_of_ble_eq_true rfl, Nat.le_of_ble_eq_true rfl⟩) hK hP hD hE hS hA [0, 1, 2, 3, 4, 5, 6, 7, 8, 9, 10, 11, 12, 13, 14, 15, 16, 17, 18, 19, 20, 21, 22, 23, 24, 25, 26, 27, 28, 29, 30, 31, 32] [33] rfl rfl rfl rfl (by decide) [1, 2, 3, 4, 5, 6, 7, 8, 9, 10, 11, 12, 13, 14, 15, 16, 17, 18, 19, 20, 21, 22, 23, 24, 25, 26, 27, 28, 29, 30, 31, 32, 33, 0] rfl (fun _ => rfl) (ci := 4) (q0 := 0) rfl rfl rfl rfl hl.1 rfl (Nat.le_of_ble_eq_true rfl) dL_winningCell_4 ⟨Nat.le_of_ble_eq_true rfl, Nat.le_of_ble_eq_true rfl⟩ (fun E ce q9 w1 H locs hw hP hD hS hce hcv hcl => ?_) (fun r1 w1 H locs hw hP hD hS => ?_)
  · have hP : va_P D vwCl (wX kI kC kG x ag at_ as_ hh hst a0 a1 a2 a3 tx tch w1 ++ [(oo, .inl (kJ, 1, .inr (.inl f)))]) H := hP
    have hD : va_D A (wX kI kC kG x ag at_ as_ hh hst a0 a1 a2 a3 tx tch w1 ++ [(oo, .inl (kJ, 1, .inr (.inl f)))]) := hD
    by_cases e1_0 : E = "java/lang/IndexOutOfBoundsException"
    · subst e1_0
      replace hw := Eq.mp (if_pos rfl) hw
      refine vx_catch hown [] ⟨0, 9, 12, 13⟩ [] htab (fun z hz => absurd hz List.not_mem_nil) rfl (by decide) (hts (.classLink RL 13 "java/lang/IndexOutOfBoundsException") (List.mem_of_getElem? (i := 1) rfl)) (hE.2.2.2.2.use _ (List.mem_of_getElem? (i := 4) rfl)) hce hcv hcl ?_
      refine lv_astore_n (lv' := [(3, .ref q9), (0, .ref x), (1, .int p1), (2, .ref oo)]) hx hb dL_winningCell_12 rfl hl (by decide) rfl (fun ls hl => ?_)
      refine lv_iconst (v := 1) hx hb dL_winningCell_13 (by decide) ?_
      exact W.iret (v := 1) hx hb hr (fun t ht hW => ⟨⟨1, (w1, f), rfl, hw, by rw [ht]; exact hP, va_K.moved hW.alike hK, hD⟩, hS.F ht⟩) hS.2.2 dL_winningCell_14
    replace hw := Eq.mp (if_neg e1_0) hw
    exact (hw : False).elim
  have hP : va_P D vwCl (wX kI kC kG x ag at_ as_ hh hst a0 a1 a2 a3 tx tch w1 ++ [(oo, .inl (kJ, 1, .inr (.inl f)))]) H := hP
  have hD : va_D A (wX kI kC kG x ag at_ as_ hh hst a0 a1 a2 a3 tx tch w1 ++ [(oo, .inl (kJ, 1, .inr (.inl f)))]) := hD
  refine lv_i2l (v := r1.toInt64) hx hb dL_winningCell_7 rfl ?_
  refine gLast (k := 0) hx hb hK hP hD hS 33 3 rfl rfl (gin (by decide)) (by decide) dL_winningCell_8 (fun H locs hP hD hS => ?_)
  have hP : va_P D vwCl (wX kI kC kG x ag at_ as_ hh hst a0 a1 a2 a3 tx tch w1 ++ [(oo, .inl (kJ, 1, .inr (.inl (vp_updL f 0 r1.toInt64))))]) H := hP
  have hD : va_D A (wX kI kC kG x ag at_ as_ hh hst a0 a1 a2 a3 tx tch w1 ++ [(oo, .inl (kJ, 1, .inr (.inl (vp_updL f 0 r1.toInt64))))]) := hD
  refine lv_goto (tgt := 15) hx hb dL_winningCell_9 (by decide) ?_
  refine lv_iconst (v := 0) hx hb dL_winningCell_15 (by decide) ?_
  exact W.iret (v := 0) hx hb hr (fun t ht hW => ⟨⟨0, (w1, (vp_updL f 0 r1.toInt64)), rfl, hw, by rw [ht]; exact hP, va_K.moved hW.alike hK, hD⟩, hS.F ht⟩) hS.2.2 dL_winningCell_16
set_option maxHeartbeats 4000000 in
set_option maxRecDepth 100000 in
theorem kL_outcome (l : Launch) (D : va_G) (kI kC kG kJ : ClassId) (hlt : l.stackTraces = false) (x : Nat) (ag at_ as_ : AG) (hh hst : Nat) (a0 a1 a2 a3 : AG) (tx tch : Nat) (oo : Nat) (sz : Nat) (u : SX) (f : Nat → Int64) (Z : Int32 → SX × (Nat → Int64) → Prop) (hw : pL_outcome u f Z) : Met l yL_outcome wsL_outcome ({ frames := 16, cells := 1, slots := 6, locals := 370 } : Room) (gPw D (gT kI kC kG kJ) [.ref x, .ref oo] (wX kI kC kG x ag at_ as_ hh hst a0 a1 a2 a3 tx tch u ++ [(oo, .inl (kJ, 1, .inr (.inl f)))]) sz) (va_Qi Z (gB D (gT kI kC kG kJ) (fun (zz : SX × (Nat → Int64)) => wX kI kC kG x ag at_ as_ hh hst a0 a1 a2 a3 tx tch zz.1 ++ [(oo, .inl (kJ, 1, .inr (.inl zz.2)))]) (va_A (wX kI kC kG x ag at_ as_ hh hst a0 a1 a2 a3 tx tch u ++ [(oo, .inl (kJ, 1, .inr (.inl f)))]) sz)) (va_A (wX kI kC kG x ag at_ as_ hh hst a0 a1 a2 a3 tx tch u ++ [(oo, .inl (kJ, 1, .inr (.inl f)))]) sz)) 1 6 (va_A (wX kI kC kG x ag at_ as_ hh hst a0 a1 a2 a3 tx tch u ++ [(oo, .inl (kJ, 1, .inr (.inl f)))]) sz) := by
  refine gOfWH (cc := cL_outcome) (maxL := 3) (ret := (some .int)) (hh := [(0, 8, 11, 15)]) (by decide) rfl ?_
  intro p e s m args below meth c s₁ B hml hv
  obtain ⟨rfl, hsz, hP, hK, hD0, hE⟩ := hv
  have hx := B.exec
  have hb := B.bytes
  have hr := B.returns
  have hts := atoms_spec (ws := wsL_outcome) B.pre
  have hown : s.vm.findClass RL = some m.cls := findClass_of_methodNamed B.named
  have hlocks := B.notSynchronized
  have htab := vx_table (x := yL_outcome) B (hts (.codeWith yL_outcome cL_outcome 3 (some .int) [(0, 8, 11, 15)]) List.mem_cons_self)
  subst hsz
  have hD := hD0.self (sz := s.heap.size)
  generalize hAe : va_A (wX kI kC kG x ag at_ as_ hh hst a0 a1 a2 a3 tx tch u ++ [(oo, .inl (kJ, 1, .inr (.inl f)))]) s.heap.size = A at hD hE ⊢
  have hA : ∀ q : Nat, s.heap.size ≤ q → A q := fun q h => by rw [← hAe]; exact Or.inr h
  have hS : va_S A s.heap s.heap [] := va_S.rf
  clear hAe hD0
  have hl := lv_entry ([.ref x, .ref oo]) (n := 3) (Nat.le_of_ble_eq_true rfl)
  rw [lg_entry_eq]
  generalize (lg_sl ([.ref x, .ref oo]) ++ List.replicate (3 - (lg_sl ([.ref x, .ref oo])).length) Slot.unset).toArray = ls at hl ⊢
  have hl : lv_has ls 3 [(0, .ref x), (1, .ref oo)] := hl
  have hP : va_P D vwCl (wX kI kC kG x ag at_ as_ hh hst a0 a1 a2 a3 tx tch u ++ [(oo, .inl (kJ, 1, .inr (.inl f)))]) s.heap := hP
  unfold pL_outcome at hw
  refine lv_aload_n hx hb dL_outcome_0 rfl (lv_at hl 1 rfl) ?_
  refine lv_iconst (v := 0) hx hb dL_outcome_1 (by decide) ?_
  refine lv_aload_n hx hb dL_outcome_2 rfl (lv_at hl 0 rfl) ?_
  refine gCVi (S := SX) (As := []) (rest := [.int 0, .ref oo]) (wc := wX kI kC kG x ag at_ as_ hh hst a0 a1 a2 a3 tx tch u) (wr := [(oo, .inl (kJ, 1, .inr (.inl f)))]) (cs1 := (fun zz : SX => wX kI kC kG x ag at_ as_ hh hst a0 a1 a2 a3 tx tch zz)) (ws2 := (fun zz : SX => wX kI kC kG x ag at_ as_ hh hst a0 a1 a2 a3 tx tch zz ++ [(oo, .inl (kJ, 1, .inr (.inl f)))])) ⟨hx, hb, hml, hown, hts⟩ (fun sz => kX5_outcome l D kI kC kG kJ hlt x ag at_ as_ hh hst a0 a1 a2 a3 tx tch sz u _ _ hw) (cwV 0 hts gL_outcome_X5_outcome rfl rfl rfl hdX5_outcome ⟨Nat.le_of_ble_eq_true rfl, Nat.le_of_ble_eq_true rfl⟩) hK hP hD hE hS hA [0, 1, 2, 3, 4, 5, 6, 7, 8, 9, 10, 11, 12, 13, 14, 15, 16, 17, 18, 19, 20, 21, 22, 23, 24, 25, 26, 27, 28, 29, 30, 31, 32] [33] rfl rfl rfl rfl (by decide) [1, 2, 3, 4, 5, 6, 7, 8, 9, 10, 11, 12, 13, 14, 15, 16, 17, 18, 19, 20, 21, 22, 23, 24, 25, 26, 27, 28, 29, 30, 31, 32, 33, 0] rfl (fun _ => rfl) (ci := 4) (q0 := 0) rfl rfl rfl rfl hl.1 rfl (Nat.le_of_ble_eq_true rfl) dL_outcome_3 ⟨Nat.le_of_ble_eq_true rfl, Nat.le_of_ble_eq_true rfl⟩ (fun E ce q9 w1 H locs hw hP hD hS hce hcv hcl => ?_) (fun r1 w1 H locs hw hP hD hS => ?_)
  · have hP : va_P D vwCl (wX kI kC kG x ag at_ as_ hh hst a0 a1 a2 a3 tx tch w1 ++ [(oo, .inl (kJ, 1, .inr (.inl f)))]) H := hP
    have hD : va_D A (wX kI kC kG x ag at_ as_ hh hst a0 a1 a2 a3 tx tch w1 ++ [(oo, .inl (kJ, 1, .inr (.inl f)))]) := hD
    by_cases e1_0 : E = "java/lang/IllegalStateException"
    · subst e1_0
      replace hw := Eq.mp (if_pos rfl) hw
      refine vx_catch hown [] ⟨0, 8, 11, 15⟩ [] htab (fun z hz => absurd hz List.not_mem_nil) rfl (by decide) (hts (.classLink RL 15 "java/lang/IllegalStateException") (List.mem_of_getElem? (i := 1) rfl)) (hE.2.2.2.2.use _ (List.mem_of_getElem? (i := 3) rfl)) hce hcv hcl ?_
      refine lv_astore_n (lv' := [(2, .ref q9), (0, .ref x), (1, .ref oo)]) hx hb dL_outcome_11 rfl hl (by decide) rfl (fun ls hl => ?_)
      refine lv_iconst (v := 1) hx hb dL_outcome_12 (by decide) ?_
      exact W.iret (v := 1) hx hb hr (fun t ht hW => ⟨⟨1, (w1, f), rfl, hw, by rw [ht]; exact hP, va_K.moved hW.alike hK, hD⟩, hS.F ht⟩) hS.2.2 dL_outcome_13
    replace hw := Eq.mp (if_neg e1_0) hw
    exact (hw : False).elim
  have hP : va_P D vwCl (wX kI kC kG x ag at_ as_ hh hst a0 a1 a2 a3 tx tch w1 ++ [(oo, .inl (kJ, 1, .inr (.inl f)))]) H := hP
  have hD : va_D A (wX kI kC kG x ag at_ as_ hh hst a0 a1 a2 a3 tx tch w1 ++ [(oo, .inl (kJ, 1, .inr (.inl f)))]) := hD
  refine lv_i2l (v := r1.toInt64) hx hb dL_outcome_6 rfl ?_
  refine gLast (k := 0) hx hb hK hP hD hS 33 3 rfl rfl (gin (by decide)) (by decide) dL_outcome_7 (fun H locs hP hD hS => ?_)
  have hP : va_P D vwCl (wX kI kC kG x ag at_ as_ hh hst a0 a1 a2 a3 tx tch w1 ++ [(oo, .inl (kJ, 1, .inr (.inl (vp_updL f 0 r1.toInt64))))]) H := hP
  have hD : va_D A (wX kI kC kG x ag at_ as_ hh hst a0 a1 a2 a3 tx tch w1 ++ [(oo, .inl (kJ, 1, .inr (.inl (vp_updL f 0 r1.toInt64))))]) := hD
  refine lv_goto (tgt := 14) hx hb dL_outcome_8 (by decide) ?_
  refine lv_iconst (v := 0) hx hb dL_outcome_14 (by decide) ?_
  exact W.iret (v := 0) hx hb hr (fun t ht hW => ⟨⟨0, (w1, (vp_updL f 0 r1.toInt64)), rfl, hw, by rw [ht]; exact hP, va_K.moved hW.alike hK, hD⟩, hS.F ht⟩) hS.2.2 dL_outcome_15
set_option maxHeartbeats 4000000 in
set_option maxRecDepth 100000 in
theorem kL_bestMove (l : Launch) (D : va_G) (kI kC kG kJ : ClassId) (hlt : l.stackTraces = false) (x : Nat) (ag at_ as_ : AG) (hh hst : Nat) (a0 a1 a2 a3 : AG) (tx tch : Nat) (oo : Nat) (sz : Nat) (u : SX) (f : Nat → Int64) (Z : Int32 → SX × (Nat → Int64) → Prop) (hw : pL_bestMove u f Z) : Met l yL_bestMove wsL_bestMove ({ frames := 17, cells := 1, slots := 6, locals := 392 } : Room) (gPw D (gT kI kC kG kJ) [.ref x, .ref oo] (wX kI kC kG x ag at_ as_ hh hst a0 a1 a2 a3 tx tch u ++ [(oo, .inl (kJ, 1, .inr (.inl f)))]) sz) (va_Qi Z (gB D (gT kI kC kG kJ) (fun (zz : SX × (Nat → Int64)) => wX kI kC kG x ag at_ as_ hh hst a0 a1 a2 a3 tx tch zz.1 ++ [(oo, .inl (kJ, 1, .inr (.inl zz.2)))]) (va_A (wX kI kC kG x ag at_ as_ hh hst a0 a1 a2 a3 tx tch u ++ [(oo, .inl (kJ, 1, .inr (.inl f)))]) sz)) (va_A (wX kI kC kG x ag at_ as_ hh hst a0 a1 a2 a3 tx tch u ++ [(oo, .inl (kJ, 1, .inr (.inl f)))]) sz)) 1 6 (va_A (wX kI kC kG x ag at_ as_ hh hst a0 a1 a2 a3 tx tch u ++ [(oo, .inl (kJ, 1, .inr (.inl f)))]) sz) := by
  refine gOfWH (cc := cL_bestMove) (maxL := 3) (ret := (some .int)) (hh := [(0, 8, 11, 15)]) (by decide) rfl ?_
  intro p e s m args below meth c s₁ B hml hv
  obtain ⟨rfl, hsz, hP, hK, hD0, hE⟩ := hv
  have hx := B.exec
  have hb := B.bytes
  have hr := B.returns
  have hts := atoms_spec (ws := wsL_bestMove) B.pre
  have hown : s.vm.findClass RL = some m.cls := findClass_of_methodNamed B.named
  have hlocks := B.notSynchronized
  have htab := vx_table (x := yL_bestMove) B (hts (.codeWith yL_bestMove cL_bestMove 3 (some .int) [(0, 8, 11, 15)]) List.mem_cons_self)
  subst hsz
  have hD := hD0.self (sz := s.heap.size)
  generalize hAe : va_A (wX kI kC kG x ag at_ as_ hh hst a0 a1 a2 a3 tx tch u ++ [(oo, .inl (kJ, 1, .inr (.inl f)))]) s.heap.size = A at hD hE ⊢
  have hA : ∀ q : Nat, s.heap.size ≤ q → A q := fun q h => by rw [← hAe]; exact Or.inr h
  have hS : va_S A s.heap s.heap [] := va_S.rf
  clear hAe hD0
  have hl := lv_entry ([.ref x, .ref oo]) (n := 3) (Nat.le_of_ble_eq_true rfl)
  rw [lg_entry_eq]
  generalize (lg_sl ([.ref x, .ref oo]) ++ List.replicate (3 - (lg_sl ([.ref x, .ref oo])).length) Slot.unset).toArray = ls at hl ⊢
  have hl : lv_has ls 3 [(0, .ref x), (1, .ref oo)] := hl
  have hP : va_P D vwCl (wX kI kC kG x ag at_ as_ hh hst a0 a1 a2 a3 tx tch u ++ [(oo, .inl (kJ, 1, .inr (.inl f)))]) s.heap := hP
  unfold pL_bestMove at hw
  refine lv_aload_n hx hb dL_bestMove_0 rfl (lv_at hl 1 rfl) ?_
  refine lv_iconst (v := 0) hx hb dL_bestMove_1 (by decide) ?_
  refine lv_aload_n hx hb dL_bestMove_2 rfl (lv_at hl 0 rfl) ?_
  refine gCVi (S := SX) (As := []) (rest := [.int 0, .ref oo]) (wc := wX kI kC kG x ag at_ as_ hh hst a0 a1 a2 a3 tx tch u) (wr := [(oo, .inl (kJ, 1, .inr (.inl f)))]) (cs1 := (fun zz : SX => wX kI kC kG x ag at_ as_ hh hst a0 a1 a2 a3 tx tch zz)) (ws2 := (fun zz : SX => wX kI kC kG x ag at_ as_ hh hst a0 a1 a2 a3 tx tch zz ++ [(oo, .inl (kJ, 1, .inr (.inl f)))])) ⟨hx, hb, hml, hown, hts⟩ (fun sz => kX5_bestMove l D kI kC kG kJ hlt x ag at_ as_ hh hst a0 a1 a2 a3 tx tch sz u _ _ hw) (cwV 0 hts gL_bestMove_X5_bestMove rfl rfl rfl hdX5_bestMove ⟨Nat.le_of_ble_eq_true rfl, Nat.le_of_ble_eq_true rfl⟩) hK hP hD hE hS hA [0, 1, 2, 3, 4, 5, 6, 7, 8, 9, 10, 11, 12, 13, 14, 15, 16, 17, 18, 19, 20, 21, 22, 23, 24, 25, 26, 27, 28, 29, 30, 31, 32] [33] rfl rfl rfl rfl (by decide) [1, 2, 3, 4, 5, 6, 7, 8, 9, 10, 11, 12, 13, 14, 15, 16, 17, 18, 19, 20, 21, 22, 23, 24, 25, 26, 27, 28, 29, 30, 31, 32, 33, 0] rfl (fun _ => rfl) (ci := 4) (q0 := 0) rfl rfl rfl rfl hl.1 rfl (Nat.le_of_ble_eq_true rfl) dL_bestMove_3 ⟨Nat.le_of_ble_eq_true rfl, Nat.le_of_ble_eq_true rfl⟩ (fun E ce q9 w1 H locs hw hP hD hS hce hcv hcl => ?_) (fun r1 w1 H locs hw hP hD hS => ?_)
  · have hP : va_P D vwCl (wX kI kC kG x ag at_ as_ hh hst a0 a1 a2 a3 tx tch w1 ++ [(oo, .inl (kJ, 1, .inr (.inl f)))]) H := hP
    have hD : va_D A (wX kI kC kG x ag at_ as_ hh hst a0 a1 a2 a3 tx tch w1 ++ [(oo, .inl (kJ, 1, .inr (.inl f)))]) := hD
    by_cases e1_0 : E = "java/lang/IllegalStateException"
    · subst e1_0
      replace hw := Eq.mp (if_pos rfl) hw
      refine vx_catch hown [] ⟨0, 8, 11, 15⟩ [] htab (fun z hz => absurd hz List.not_mem_nil) rfl (by decide) (hts (.classLink RL 15 "java/lang/IllegalStateException") (List.mem_of_getElem? (i := 1) rfl)) (hE.2.2.2.2.use _ (List.mem_of_getElem? (i := 3) rfl)) hce hcv hcl ?_
      refine lv_astore_n (lv' := [(2, .ref q9), (0, .ref x), (1, .ref oo)]) hx hb dL_bestMove_11 rfl hl (by decide) rfl (fun ls hl => ?_)
      refine lv_iconst (v := 1) hx hb dL_bestMove_12 (by decide) ?_
      exact W.iret (v := 1) hx hb hr (fun t ht hW => ⟨⟨1, (w1, f), rfl, hw, by rw [ht]; exact hP, va_K.moved hW.alike hK, hD⟩, hS.F ht⟩) hS.2.2 dL_bestMove_13
    replace hw := Eq.mp (if_neg e1_0) hw
    exact (hw : False).elim
  have hP : va_P D vwCl (wX kI kC kG x ag at_ as_ hh hst a0 a1 a2 a3 tx tch w1 ++ [(oo, .inl (kJ, 1, .inr (.inl f)))]) H := hP
  have hD : va_D A (wX kI kC kG x ag at_ as_ hh hst a0 a1 a2 a3 tx tch w1 ++ [(oo, .inl (kJ, 1, .inr (.inl f)))]) := hD
  refine lv_i2l (v := r1.toInt64) hx hb dL_bestMove_6 rfl ?_
  refine gLast (k := 0) hx hb hK hP hD hS 33 3 rfl rfl (gin (by decide)) (by decide) dL_bestMove_7 (fun H locs hP hD hS => ?_)
  have hP : va_P D vwCl (wX kI kC kG x ag at_ as_ hh hst a0 a1 a2 a3 tx tch w1 ++ [(oo, .inl (kJ, 1, .inr (.inl (vp_updL f 0 r1.toInt64))))]) H := hP
  have hD : va_D A (wX kI kC kG x ag at_ as_ hh hst a0 a1 a2 a3 tx tch w1 ++ [(oo, .inl (kJ, 1, .inr (.inl (vp_updL f 0 r1.toInt64))))]) := hD
  refine lv_goto (tgt := 14) hx hb dL_bestMove_8 (by decide) ?_
  refine lv_iconst (v := 0) hx hb dL_bestMove_14 (by decide) ?_
  exact W.iret (v := 0) hx hb hr (fun t ht hW => ⟨⟨0, (w1, (vp_updL f 0 r1.toInt64)), rfl, hw, by rw [ht]; exact hP, va_K.moved hW.alike hK, hD⟩, hS.F ht⟩) hS.2.2 dL_bestMove_15
