set_option maxHeartbeats 4000000 in
set_option maxRecDepth 100000 in
theorem kL_give (l : Launch) (D : va_G) (kI kC kG kJ : ClassId) (hlt : l.stackTraces = false) (x : Nat) (ag at_ as_ : AG) (hh hst : Nat) (a0 a1 a2 a3 : AG) (tx tch : Nat) (sz : Nat) (u : SX) (p1 : Int32) (Z : Int32 → SX → Prop) (hw : pL_give p1 u Z) : Met l yL_give wsL_give ({ frames := 8, cells := 2, slots := 12, locals := 131 } : Room) (gPw D (gT kI kC kG kJ) [.ref x, .int p1] (wX kI kC kG x ag at_ as_ hh hst a0 a1 a2 a3 tx tch u) sz) (va_Qi Z (gB D (gT kI kC kG kJ) (fun (zz : SX) => wX kI kC kG x ag at_ as_ hh hst a0 a1 a2 a3 tx tch zz) (va_A (wX kI kC kG x ag at_ as_ hh hst a0 a1 a2 a3 tx tch u) sz)) (va_A (wX kI kC kG x ag at_ as_ hh hst a0 a1 a2 a3 tx tch u) sz)) 2 12 (va_A (wX kI kC kG x ag at_ as_ hh hst a0 a1 a2 a3 tx tch u) sz) := by
  refine gOfWH (cc := cL_give) (maxL := 3) (ret := (some .int)) (hh := [(0, 5, 6, 15), (0, 5, 10, 18)]) (by decide) rfl ?_
  intro p e s m args below meth c s₁ B hml hv
  obtain ⟨rfl, hsz, hP, hK, hD0, hE⟩ := hv
  have hx := B.exec
  have hb := B.bytes
  have hr := B.returns
  have hts := atoms_spec (ws := wsL_give) B.pre
  have hown : s.vm.findClass RL = some m.cls := findClass_of_methodNamed B.named
  have hlocks := B.notSynchronized
  have htab := vx_table (x := yL_give) B (hts (.codeWith yL_give cL_give 3 (some .int) [(0, 5, 6, 15), (0, 5, 10, 18)]) List.mem_cons_self)
  subst hsz
  have hD := hD0.self (sz := s.heap.size)
  generalize hAe : va_A (wX kI kC kG x ag at_ as_ hh hst a0 a1 a2 a3 tx tch u) s.heap.size = A at hD hE ⊢
  have hA : ∀ q : Nat, s.heap.size ≤ q → A q := fun q h => by rw [← hAe]; exact Or.inr h
  have hS : va_S A s.heap s.heap [] := va_S.rf
  clear hAe hD0
  have hl := lv_entry ([.ref x, .int p1]) (n := 3) (Nat.le_of_ble_eq_true rfl)
  rw [lg_entry_eq]
  generalize (lg_sl ([.ref x, .int p1]) ++ List.replicate (3 - (lg_sl ([.ref x, .int p1])).length) Slot.unset).toArray = ls at hl ⊢
  have hl : lv_has ls 3 [(0, .ref x), (1, .int p1)] := hl
  have hP : va_P D vwCl (wX kI kC kG x ag at_ as_ hh hst a0 a1 a2 a3 tx tch u) s.heap := hP
  unfold pL_give at hw
  refine lv_aload_n hx hb dL_give_0 rfl (lv_at hl 0 rfl) ?_
  refine lv_iload_n hx hb dL_give_1 rfl (lv_at hl 1 rfl) ?_
  refine gCVi (S := SX) (As := [.int p1]) (rest := []) (wc := wX kI kC kG x ag at_ as_ hh hst a0 a1 a2 a3 tx tch u) (wr := []) (cs1 := (fun zz : SX => wX kI kC kG x ag at_ as_ hh hst a0 a1 a2 a3 tx tch zz)) (ws2 := (fun zz : SX => wX kI kC kG x ag at_ as_ hh hst a0 a1 a2 a3 tx tch zz)) ⟨hx, hb, hml, hown, hts⟩ (fun sz => kX5_give l D kI kC kG kJ hlt x ag at_ as_ hh hst a0 a1 a2 a3 tx tch sz u p1 _ _ hw) (cwV 1 hts gL_give_X5_give rfl rfl rfl hdX5_give ⟨Nat.le_of_ble_eq_true rfl, Nat.le_of_ble_eq_true rfl⟩) hK hP hD hE hS hA [0, 1, 2, 3, 4, 5, 6, 7, 8, 9, 10, 11, 12, 13, 14, 15, 16, 17, 18, 19, 20, 21, 22, 23, 24, 25, 26, 27, 28, 29, 30, 31, 32] [] rfl rfl rfl rfl (by decide) [0, 1, 2, 3, 4, 5, 6, 7, 8, 9, 10, 11, 12, 13, 14, 15, 16, 17, 18, 19, 20, 21, 22, 23, 24, 25, 26, 27, 28, 29, 30, 31, 32] rfl (fun _ => rfl) (ci := 4) (q0 := 0) rfl rfl rfl rfl hl.1 rfl (Nat.le_of_ble_eq_true rfl) dL_give_2 ⟨Nat.le_of_ble_eq_true rfl, Nat.le_of_ble_eq_true rfl⟩ (fun E ce q9 w1 H locs hw hP hD hS hce hcv hcl => ?_) (fun r1 w1 H locs hw hP hD hS => ?_)
  · have hP : va_P D vwCl (wX kI kC kG x ag at_ as_ hh hst a0 a1 a2 a3 tx tch w1) H := hP
    have hD : va_D A (wX kI kC kG x ag at_ as_ hh hst a0 a1 a2 a3 tx tch w1) := hD
    by_cases e1_0 : E = "java/lang/IndexOutOfBoundsException"
    · subst e1_0
      replace hw := Eq.mp (if_pos rfl) hw
      refine vx_catch hown [] ⟨0, 5, 6, 15⟩ [⟨0, 5, 10, 18⟩] htab (fun z hz => absurd hz List.not_mem_nil) rfl (by decide) (hts (.classLink RL 15 "java/lang/IndexOutOfBoundsException") (List.mem_of_getElem? (i := 1) rfl)) (hE.2.2.2.2.use _ (List.mem_of_getElem? (i := 4) rfl)) hce hcv hcl ?_
      refine lv_astore_n (lv' := [(2, .ref q9), (0, .ref x), (1, .int p1)]) hx hb dL_give_6 rfl hl (by decide) rfl (fun ls hl => ?_)
      refine lv_ldc (v := 90001) hx hb hown (hts (.constant RL 17 (90001)) (List.mem_of_getElem? (i := 3) rfl)) dL_give_7 ?_
      exact W.iret (v := 90001) hx hb hr (fun t ht hW => ⟨⟨90001, w1, rfl, hw, by rw [ht]; exact hP, va_K.moved hW.alike hK, hD⟩, hS.F ht⟩) hS.2.2 dL_give_9
    replace hw := Eq.mp (if_neg e1_0) hw
    by_cases e1_1 : E = "java/lang/IllegalStateException"
    · subst e1_1
      replace hw := Eq.mp (if_pos rfl) hw
      refine vx_catch hown [⟨0, 5, 6, 15⟩] ⟨0, 5, 10, 18⟩ [] htab (fun z hz => by rcases List.mem_singleton.mp hz with rfl; exact Or.inr ⟨by decide, "java/lang/IndexOutOfBoundsException", (hts (.classLink RL 15 "java/lang/IndexOutOfBoundsException") (List.mem_of_getElem? (i := 1) rfl)), hE.2.2.2.2.2.1⟩) rfl (by decide) (hts (.classLink RL 18 "java/lang/IllegalStateException") (List.mem_of_getElem? (i := 2) rfl)) (hE.2.2.2.2.use _ (List.mem_of_getElem? (i := 3) rfl)) hce hcv hcl ?_
      refine lv_astore_n (lv' := [(2, .ref q9), (0, .ref x), (1, .int p1)]) hx hb dL_give_10 rfl hl (by decide) rfl (fun ls hl => ?_)
      refine lv_ldc (v := 90002) hx hb hown (hts (.constant RL 20 (90002)) (List.mem_of_getElem? (i := 4) rfl)) dL_give_11 ?_
      exact W.iret (v := 90002) hx hb hr (fun t ht hW => ⟨⟨90002, w1, rfl, hw, by rw [ht]; exact hP, va_K.moved hW.alike hK, hD⟩, hS.F ht⟩) hS.2.2 dL_give_13
    replace hw := Eq.mp (if_neg e1_1) hw
    exact (hw : False).elim
  have hP : va_P D vwCl (wX kI kC kG x ag at_ as_ hh hst a0 a1 a2 a3 tx tch w1) H := hP
  have hD : va_D A (wX kI kC kG x ag at_ as_ hh hst a0 a1 a2 a3 tx tch w1) := hD
  exact W.iret (v := r1) hx hb hr (fun t ht hW => ⟨⟨r1, w1, rfl, hw, by rw [ht]; exact hP, va_K.moved hW.alike hK, hD⟩, hS.F ht⟩) hS.2.2 dL_give_5
set_option maxHeartbeats 4000000 in
set_option maxRecDepth 100000 in
theorem kL_place (l : Launch) (D : va_G) (kI kC kG kJ : ClassId) (hlt : l.stackTraces = false) (x : Nat) (ag at_ as_ : AG) (hh hst : Nat) (a0 a1 a2 a3 : AG) (tx tch : Nat) (sz : Nat) (u : SX) (p1 : Int32) (Z : Int32 → SX → Prop) (hw : pL_place p1 u Z) : Met l yL_place wsL_place ({ frames := 8, cells := 2, slots := 12, locals := 144 } : Room) (gPw D (gT kI kC kG kJ) [.ref x, .int p1] (wX kI kC kG x ag at_ as_ hh hst a0 a1 a2 a3 tx tch u) sz) (va_Qi Z (gB D (gT kI kC kG kJ) (fun (zz : SX) => wX kI kC kG x ag at_ as_ hh hst a0 a1 a2 a3 tx tch zz) (va_A (wX kI kC kG x ag at_ as_ hh hst a0 a1 a2 a3 tx tch u) sz)) (va_A (wX kI kC kG x ag at_ as_ hh hst a0 a1 a2 a3 tx tch u) sz)) 2 12 (va_A (wX kI kC kG x ag at_ as_ hh hst a0 a1 a2 a3 tx tch u) sz) := by
  refine gOfWH (cc := cL_place) (maxL := 3) (ret := (some .int)) (hh := [(0, 13, 14, 15), (0, 13, 18, 18)]) (by decide) rfl ?_
  intro p e s m args below meth c s₁ B hml hv
  obtain ⟨rfl, hsz, hP, hK, hD0, hE⟩ := hv
  have hx := B.exec
  have hb := B.bytes
  have hr := B.returns
  have hts := atoms_spec (ws := wsL_place) B.pre
  have hown : s.vm.findClass RL = some m.cls := findClass_of_methodNamed B.named
  have hlocks := B.notSynchronized
  have htab := vx_table (x := yL_place) B (hts (.codeWith yL_place cL_place 3 (some .int) [(0, 13, 14, 15), (0, 13, 18, 18)]) List.mem_cons_self)
  subst hsz
  have hD := hD0.self (sz := s.heap.size)
  generalize hAe : va_A (wX kI kC kG x ag at_ as_ hh hst a0 a1 a2 a3 tx tch u) s.heap.size = A at hD hE ⊢
  have hA : ∀ q : Nat, s.heap.size ≤ q → A q := fun q h => by rw [← hAe]; exact Or.inr h
  have hS : va_S A s.heap s.heap [] := va_S.rf
  clear hAe hD0
  have hl := lv_entry ([.ref x, .int p1]) (n := 3) (Nat.le_of_ble_eq_true rfl)
  rw [lg_entry_eq]
  generalize (lg_sl ([.ref x, .int p1]) ++ List.replicate (3 - (lg_sl ([.ref x, .int p1])).length) Slot.unset).toArray = ls at hl ⊢
  have hl : lv_has ls 3 [(0, .ref x), (1, .int p1)] := hl
  have hP : va_P D vwCl (wX kI kC kG x ag at_ as_ hh hst a0 a1 a2 a3 tx tch u) s.heap := hP
  unfold pL_place at hw
  refine lv_aload_n hx hb dL_place_0 rfl (lv_at hl 0 rfl) ?_
  refine lv_iload_n hx hb dL_place_1 rfl (lv_at hl 1 rfl) ?_
  refine gCVi (S := SX) (As := [.int p1]) (rest := []) (wc := wX kI kC kG x ag at_ as_ hh hst a0 a1 a2 a3 tx tch u) (wr := []) (cs1 := (fun zz : SX => wX kI kC kG x ag at_ as_ hh hst a0 a1 a2 a3 tx tch zz)) (ws2 := (fun zz : SX => wX kI kC kG x ag at_ as_ hh hst a0 a1 a2 a3 tx tch zz)) ⟨hx, hb, hml, hown, hts⟩ (fun sz => kX5_place l D kI kC kG kJ hlt x ag at_ as_ hh hst a0 a1 a2 a3 tx tch sz u p1 _ _ hw) (cwV 1 hts gL_place_X5_place rfl rfl rfl hdX5_place ⟨Nat.le_of_ble_eq_true rfl, Nat.le_of_ble_eq_true rfl⟩) hK hP hD hE hS hA [0, 1, 2, 3, 4, 5, 6, 7, 8, 9, 10, 11, 12, 13, 14, 15, 16, 17, 18, 19, 20, 21, 22, 23, 24, 25, 26, 27, 28, 29, 30, 31, 32] [] rfl rfl rfl rfl (by decide) [0, 1, 2, 3, 4, 5, 6, 7, 8, 9, 10, 11, 12, 13, 14, 15, 16, 17, 18, 19, 20, 21, 22, 23, 24, 25, 26, 27, 28, 29, 30, 31, 32] rfl (fun _ => rfl) (ci := 4) (q0 := 0) rfl rfl rfl rfl hl.1 rfl (Nat.le_of_ble_eq_true rfl) dL_place_2 ⟨Nat.le_of_ble_eq_true rfl, Nat.le_of_ble_eq_true rfl⟩ (fun E ce q9 w1 H locs hw hP hD hS hce hcv hcl => ?_) (fun r1 w1 H locs hw hP hD hS => ?_)
  · have hP : va_P D vwCl (wX kI kC kG x ag at_ as_ hh hst a0 a1 a2 a3 tx tch w1) H := hP
    have hD : va_D A (wX kI kC kG x ag at_ as_ hh hst a0 a1 a2 a3 tx tch w1) := hD
    by_cases e1_0 : E = "java/lang/IndexOutOfBoundsException"
    · subst e1_0
      replace hw := Eq.mp (if_pos rfl) hw
      refine vx_catch hown [] ⟨0, 13, 14, 15⟩ [⟨0, 13, 18, 18⟩] htab (fun z hz => absurd hz List.not_mem_nil) rfl (by decide) (hts (.classLink RL 15 "java/lang/IndexOutOfBoundsException") (List.mem_of_getElem? (i := 1) rfl)) (hE.2.2.2.2.use _ (List.mem_of_getElem? (i := 4) rfl)) hce hcv hcl ?_
      refine lv_astore_n (lv' := [(2, .ref q9), (0, .ref x), (1, .int p1)]) hx hb dL_place_14 rfl hl (by decide) rfl (fun ls hl => ?_)
      refine lv_ldc (v := 90001) hx hb hown (hts (.constant RL 17 (90001)) (List.mem_of_getElem? (i := 3) rfl)) dL_place_15 ?_
      exact W.iret (v := 90001) hx hb hr (fun t ht hW => ⟨⟨90001, w1, rfl, hw, by rw [ht]; exact hP, va_K.moved hW.alike hK, hD⟩, hS.F ht⟩) hS.2.2 dL_place_17
    replace hw := Eq.mp (if_neg e1_0) hw
    by_cases e1_1 : E = "java/lang/IllegalStateException"
    · subst e1_1
      replace hw := Eq.mp (if_pos rfl) hw
      refine vx_catch hown [⟨0, 13, 14, 15⟩] ⟨0, 13, 18, 18⟩ [] htab (fun z hz => by rcases List.mem_singleton.mp hz with rfl; exact Or.inr ⟨by decide, "java/lang/IndexOutOfBoundsException", (hts (.classLink RL 15 "java/lang/IndexOutOfBoundsException") (List.mem_of_getElem? (i := 1) rfl)), hE.2.2.2.2.2.1⟩) rfl (by decide) (hts (.classLink RL 18 "java/lang/IllegalStateException") (List.mem_of_getElem? (i := 2) rfl)) (hE.2.2.2.2.use _ (List.mem_of_getElem? (i := 3) rfl)) hce hcv hcl ?_
      refine lv_astore_n (lv' := [(2, .ref q9), (0, .ref x), (1, .int p1)]) hx hb dL_place_18 rfl hl (by decide) rfl (fun ls hl => ?_)
      refine lv_ldc (v := 90002) hx hb hown (hts (.constant RL 20 (90002)) (List.mem_of_getElem? (i := 4) rfl)) dL_place_19 ?_
      exact W.iret (v := 90002) hx hb hr (fun t ht hW => ⟨⟨90002, w1, rfl, hw, by rw [ht]; exact hP, va_K.moved hW.alike hK, hD⟩, hS.F ht⟩) hS.2.2 dL_place_21
    replace hw := Eq.mp (if_neg e1_1) hw
    exact (hw : False).elim
  have hP : va_P D vwCl (wX kI kC kG x ag at_ as_ hh hst a0 a1 a2 a3 tx tch w1) H := hP
  have hD : va_D A (wX kI kC kG x ag at_ as_ hh hst a0 a1 a2 a3 tx tch w1) := hD
  refine lv_if_eq (tgt := 12) hx hb dL_place_5 (by decide) (fun c2 => ?_) (fun c2 => ?_)
  · replace hw := Eq.mp (if_pos c2) hw
    refine lv_iconst (v := 0) hx hb dL_place_12 (by decide) ?_
    exact W.iret (v := 0) hx hb hr (fun t ht hW => ⟨⟨0, w1, rfl, hw, by rw [ht]; exact hP, va_K.moved hW.alike hK, hD⟩, hS.F ht⟩) hS.2.2 dL_place_13
  · replace hw := Eq.mp (if_neg c2) hw
    refine lv_iconst (v := 1) hx hb dL_place_8 (by decide) ?_
    refine lv_goto (tgt := 13) hx hb dL_place_9 (by decide) ?_
    exact W.iret (v := 1) hx hb hr (fun t ht hW => ⟨⟨1, w1, rfl, hw, by rw [ht]; exact hP, va_K.moved hW.alike hK, hD⟩, hS.F ht⟩) hS.2.2 dL_place_13
set_option maxHeartbeats 4000000 in
set_option maxRecDepth 100000 in
theorem kL_restart (l : Launch) (D : va_G) (kI kC kG kJ : ClassId) (hlt : l.stackTraces = false) (x : Nat) (ag at_ as_ : AG) (hh hst : Nat) (a0 a1 a2 a3 : AG) (tx tch : Nat) (sz : Nat) (u : SX) (p1 : Int32) (Z : Int32 → SX → Prop) (hw : pL_restart p1 u Z) : Met l yL_restart wsL_restart ({ frames := 4, cells := 0, slots := 0, locals := 88 } : Room) (gPw D (gT kI kC kG kJ) [.ref x, .int p1] (wX kI kC kG x ag at_ as_ hh hst a0 a1 a2 a3 tx tch u) sz) (va_Qi Z (gB D (gT kI kC kG kJ) (fun (zz : SX) => wX kI kC kG x ag at_ as_ hh hst a0 a1 a2 a3 tx tch zz) (va_A (wX kI kC kG x ag at_ as_ hh hst a0 a1 a2 a3 tx tch u) sz)) (va_A (wX kI kC kG x ag at_ as_ hh hst a0 a1 a2 a3 tx tch u) sz)) 0 0 (va_A (wX kI kC kG x ag at_ as_ hh hst a0 a1 a2 a3 tx tch u) sz) := by
  refine gOfWH (cc := cL_restart) (maxL := 3) (ret := (some .int)) (hh := [(0, 5, 6, 28)]) (by decide) rfl ?_
  intro p e s m args below meth c s₁ B hml hv
  obtain ⟨rfl, hsz, hP, hK, hD0, hE⟩ := hv
  have hx := B.exec
  have hb := B.bytes
  have hr := B.returns
  have hts := atoms_spec (ws := wsL_restart) B.pre
  have hown : s.vm.findClass RL = some m.cls := findClass_of_methodNamed B.named
  have hlocks := B.notSynchronized
  subst hsz
  have hD := hD0.self (sz := s.heap.size)
  generalize hAe : va_A (wX kI kC kG x ag at_ as_ hh hst a0 a1 a2 a3 tx tch u) s.heap.size = A at hD hE ⊢
  have hA : ∀ q : Nat, s.heap.size ≤ q → A q := fun q h => by rw [← hAe]; exact Or.inr h
  have hS : va_S A s.heap s.heap [] := va_S.rf
  clear hAe hD0
  have hl := lv_entry ([.ref x, .int p1]) (n := 3) (Nat.le_of_ble_eq_true rfl)
  rw [lg_entry_eq]
  generalize (lg_sl ([.ref x, .int p1]) ++ List.replicate (3 - (lg_sl ([.ref x, .int p1])).length) Slot.unset).toArray = ls at hl ⊢
  have hl : lv_has ls 3 [(0, .ref x), (1, .int p1)] := hl
  have hP : va_P D vwCl (wX kI kC kG x ag at_ as_ hh hst a0 a1 a2 a3 tx tch u) s.heap := hP
  unfold pL_restart at hw
  refine lv_aload_n hx hb dL_restart_0 rfl (lv_at hl 0 rfl) ?_
  refine lv_iload_n hx hb dL_restart_1 rfl (lv_at hl 1 rfl) ?_
  refine gWVi (S := SX) (As := [.int p1]) (rest := []) (wc := wX kI kC kG x ag at_ as_ hh hst a0 a1 a2 a3 tx tch u) (wr := []) (cs1 := (fun zz : SX => wX kI kC kG x ag at_ as_ hh hst a0 a1 a2 a3 tx tch zz)) (ws2 := (fun zz : SX => wX kI kC kG x ag at_ as_ hh hst a0 a1 a2 a3 tx tch zz)) ⟨hx, hb, hml, hown, hts⟩ (fun sz => kX5_restart_n l D kI kC kG kJ x ag at_ as_ hh hst a0 a1 a2 a3 tx tch sz u p1 _ hw) (cwV 1 hts gL_restart_X5_restart rfl rfl rfl hdX5_restart ⟨Nat.le_of_ble_eq_true rfl, Nat.le_of_ble_eq_true rfl⟩) hK hP hD hE hS hA [0, 1, 2, 3, 4, 5, 6, 7, 8, 9, 10, 11, 12, 13, 14, 15, 16, 17, 18, 19, 20, 21, 22, 23, 24, 25, 26, 27, 28, 29, 30, 31, 32] [] rfl rfl rfl rfl (by decide) [0, 1, 2, 3, 4, 5, 6, 7, 8, 9, 10, 11, 12, 13, 14, 15, 16, 17, 18, 19, 20, 21, 22, 23, 24, 25, 26, 27, 28, 29, 30, 31, 32] rfl (fun _ => rfl) (ci := 4) (q0 := 0) rfl rfl rfl rfl hl.1 rfl (Nat.le_of_ble_eq_true rfl) dL_restart_2 ⟨Nat.le_of_ble_eq_true rfl, Nat.le_of_ble_eq_true rfl⟩ (fun r1 w1 H locs hw hP hD hS => ?_)
  have hP : va_P D vwCl (wX kI kC kG x ag at_ as_ hh hst a0 a1 a2 a3 tx tch w1) H := hP
  have hD : va_D A (wX kI kC kG x ag at_ as_ hh hst a0 a1 a2 a3 tx tch w1) := hD
  exact W.iret (v := r1) hx hb hr (fun t ht hW => ⟨⟨r1, w1, rfl, hw, by rw [ht]; exact hP, va_K.moved hW.alike hK, hD⟩, hS.F ht⟩) hS.2.2 dL_restart_5
set_option maxHeartbeats 4000000 in
set_option maxRecDepth 100000 in
theorem kL_type (l : Launch) (D : va_G) (kI kC kG kJ : ClassId) (hlt : l.stackTraces = false) (x : Nat) (ag at_ as_ : AG) (hh hst : Nat) (a0 a1 a2 a3 : AG) (tx tch : Nat) (sz : Nat) (u : SX) (p1 : Int32) (Z : Int32 → SX → Prop) (hw : pL_type p1 u Z) : Met l yL_type wsL_type ({ frames := 2, cells := 0, slots := 0, locals := 42 } : Room) (gPw D (gT kI kC kG kJ) [.ref x, .int p1] (wX kI kC kG x ag at_ as_ hh hst a0 a1 a2 a3 tx tch u) sz) (va_Qi Z (gB D (gT kI kC kG kJ) (fun (zz : SX) => wX kI kC kG x ag at_ as_ hh hst a0 a1 a2 a3 tx tch zz) (va_A (wX kI kC kG x ag at_ as_ hh hst a0 a1 a2 a3 tx tch u) sz)) (va_A (wX kI kC kG x ag at_ as_ hh hst a0 a1 a2 a3 tx tch u) sz)) 0 0 (va_A (wX kI kC kG x ag at_ as_ hh hst a0 a1 a2 a3 tx tch u) sz) := by
  refine gOfWH (cc := cL_type) (maxL := 3) (ret := (some .int)) (hh := [(0, 6, 7, 18)]) (by decide) rfl ?_
  intro p e s m args below meth c s₁ B hml hv
  obtain ⟨rfl, hsz, hP, hK, hD0, hE⟩ := hv
  have hx := B.exec
  have hb := B.bytes
  have hr := B.returns
  have hts := atoms_spec (ws := wsL_type) B.pre
  have hown : s.vm.findClass RL = some m.cls := findClass_of_methodNamed B.named
  have hlocks := B.notSynchronized
  subst hsz
  have hD := hD0.self (sz := s.heap.size)
  generalize hAe : va_A (wX kI kC kG x ag at_ as_ hh hst a0 a1 a2 a3 tx tch u) s.heap.size = A at hD hE ⊢
  have hA : ∀ q : Nat, s.heap.size ≤ q → A q := fun q h => by rw [← hAe]; exact Or.inr h
  have hS : va_S A s.heap s.heap [] := va_S.rf
  clear hAe hD0
  have hl := lv_entry ([.ref x, .int p1]) (n := 3) (Nat.le_of_ble_eq_true rfl)
  rw [lg_entry_eq]
  generalize (lg_sl ([.ref x, .int p1]) ++ List.replicate (3 - (lg_sl ([.ref x, .int p1])).length) Slot.unset).toArray = ls at hl ⊢
  have hl : lv_has ls 3 [(0, .ref x), (1, .int p1)] := hl
  have hP : va_P D vwCl (wX kI kC kG x ag at_ as_ hh hst a0 a1 a2 a3 tx tch u) s.heap := hP
  unfold pL_type at hw
  refine lv_aload_n hx hb dL_type_0 rfl (lv_at hl 0 rfl) ?_
  refine lv_iload_n hx hb dL_type_1 rfl (lv_at hl 1 rfl) ?_
  refine lv_i2c (v := ((p1).toUInt32 % 65536).toInt32) hx hb dL_type_2 rfl ?_
  refine gWVi (S := SX) (As := [.int ((p1).toUInt32 % 65536).toInt32]) (rest := []) (wc := wX kI kC kG x ag at_ as_ hh hst a0 a1 a2 a3 tx tch u) (wr := []) (cs1 := (fun zz : SX => wX kI kC kG x ag at_ as_ hh hst a0 a1 a2 a3 tx tch zz)) (ws2 := (fun zz : SX => wX kI kC kG x ag at_ as_ hh hst a0 a1 a2 a3 tx tch zz)) ⟨hx, hb, hml, hown, hts⟩ (fun sz => kX5_type_n l D kI kC kG kJ x ag at_ as_ hh hst a0 a1 a2 a3 tx tch sz u ((p1).toUInt32 % 65536).toInt32 _ hw) (cwV 1 hts gL_type_X5_type rfl rfl rfl hdX5_type ⟨Nat.le_of_ble_eq_true rfl, Nat.le_of_ble_eq_true rfl⟩) hK hP hD hE hS hA [0, 1, 2, 3, 4, 5, 6, 7, 8, 9, 10, 11, 12, 13, 14, 15, 16, 17, 18, 19, 20, 21, 22, 23, 24, 25, 26, 27, 28, 29, 30, 31, 32] [] rfl rfl rfl rfl (by decide) [0, 1, 2, 3, 4, 5, 6, 7, 8, 9, 10, 11, 12, 13, 14, 15, 16, 17, 18, 19, 20, 21, 22, 23, 24, 25, 26, 27, 28, 29, 30, 31, 32] rfl (fun _ => rfl) (ci := 4) (q0 := 0) rfl rfl rfl rfl hl.1 rfl (Nat.le_of_ble_eq_true rfl) dL_type_3 ⟨Nat.le_of_ble_eq_true rfl, Nat.le_of_ble_eq_true rfl⟩ (fun r1 w1 H locs hw hP hD hS => ?_)
  have hP : va_P D vwCl (wX kI kC kG x ag at_ as_ hh hst a0 a1 a2 a3 tx tch w1) H := hP
  have hD : va_D A (wX kI kC kG x ag at_ as_ hh hst a0 a1 a2 a3 tx tch w1) := hD
  exact W.iret (v := r1) hx hb hr (fun t ht hW => ⟨⟨r1, w1, rfl, hw, by rw [ht]; exact hP, va_K.moved hW.alike hK, hD⟩, hS.F ht⟩) hS.2.2 dL_type_6
set_option maxHeartbeats 4000000 in
set_option maxRecDepth 100000 in
theorem kL_carryOut (l : Launch) (D : va_G) (kI kC kG kJ : ClassId) (hlt : l.stackTraces = false) (x : Nat) (ag at_ as_ : AG) (hh hst : Nat) (a0 a1 a2 a3 : AG) (tx tch : Nat) (sz : Nat) (u : SX) (Z : Int32 → SX → Prop) (hw : pL_carryOut u Z) : Met l yL_carryOut wsL_carryOut ({ frames := 9, cells := 2, slots := 12, locals := 188 } : Room) (gPw D (gT kI kC kG kJ) [.ref x] (wX kI kC kG x ag at_ as_ hh hst a0 a1 a2 a3 tx tch u) sz) (va_Qi Z (gB D (gT kI kC kG kJ) (fun (zz : SX) => wX kI kC kG x ag at_ as_ hh hst a0 a1 a2 a3 tx tch zz) (va_A (wX kI kC kG x ag at_ as_ hh hst a0 a1 a2 a3 tx tch u) sz)) (va_A (wX kI kC kG x ag at_ as_ hh hst a0 a1 a2 a3 tx tch u) sz)) 2 12 (va_A (wX kI kC kG x ag at_ as_ hh hst a0 a1 a2 a3 tx tch u) sz) := by
  refine gOfWH (cc := cL_carryOut) (maxL := 2) (ret := (some .int)) (hh := [(0, 4, 5, 18)]) (by decide) rfl ?_
  intro p e s m args below meth c s₁ B hml hv
  obtain ⟨rfl, hsz, hP, hK, hD0, hE⟩ := hv
  have hx := B.exec
  have hb := B.bytes
  have hr := B.returns
  have hts := atoms_spec (ws := wsL_carryOut) B.pre
  have hown : s.vm.findClass RL = some m.cls := findClass_of_methodNamed B.named
  have hlocks := B.notSynchronized
  have htab := vx_table (x := yL_carryOut) B (hts (.codeWith yL_carryOut cL_carryOut 2 (some .int) [(0, 4, 5, 18)]) List.mem_cons_self)
  subst hsz
  have hD := hD0.self (sz := s.heap.size)
  generalize hAe : va_A (wX kI kC kG x ag at_ as_ hh hst a0 a1 a2 a3 tx tch u) s.heap.size = A at hD hE ⊢
  have hA : ∀ q : Nat, s.heap.size ≤ q → A q := fun q h => by rw [← hAe]; exact Or.inr h
  have hS : va_S A s.heap s.heap [] := va_S.rf
  clear hAe hD0
  have hl := lv_entry ([.ref x]) (n := 2) (Nat.le_of_ble_eq_true rfl)
  rw [lg_entry_eq]
  generalize (lg_sl ([.ref x]) ++ List.replicate (2 - (lg_sl ([.ref x])).length) Slot.unset).toArray = ls at hl ⊢
  have hl : lv_has ls 2 [(0, .ref x)] := hl
  have hP : va_P D vwCl (wX kI kC kG x ag at_ as_ hh hst a0 a1 a2 a3 tx tch u) s.heap := hP
  unfold pL_carryOut at hw
  refine lv_aload_n hx hb dL_carryOut_0 rfl (lv_at hl 0 rfl) ?_
  refine gCVi (S := SX) (As := []) (rest := []) (wc := wX kI kC kG x ag at_ as_ hh hst a0 a1 a2 a3 tx tch u) (wr := []) (cs1 := (fun zz : SX => wX kI kC kG x ag at_ as_ hh hst a0 a1 a2 a3 tx tch zz)) (ws2 := (fun zz : SX => wX kI kC kG x ag at_ as_ hh hst a0 a1 a2 a3 tx tch zz)) ⟨hx, hb, hml, hown, hts⟩ (fun sz => kX5_carryOut l D kI kC kG kJ hlt x ag at_ as_ hh hst a0 a1 a2 a3 tx tch sz u _ _ hw) (cwV 0 hts gL_carryOut_X5_carryOut rfl rfl rfl hdX5_carryOut ⟨Nat.le_of_ble_eq_true rfl, Nat.le_of_ble_eq_true rfl⟩) hK hP hD hE hS hA [0, 1, 2, 3, 4, 5, 6, 7, 8, 9, 10, 11, 12, 13, 14, 15, 16, 17, 18, 19, 20, 21, 22, 23, 24, 25, 26, 27, 28, 29, 30, 31, 32] [] rfl rfl rfl rfl (by decide) [0, 1, 2, 3, 4, 5, 6, 7, 8, 9, 10, 11, 12, 13, 14, 15, 16, 17, 18, 19, 20, 21, 22, 23, 24, 25, 26, 27, 28, 29, 30, 31, 32] rfl (fun _ => rfl) (ci := 4) (q0 := 0) rfl rfl rfl rfl hl.1 rfl (Nat.le_of_ble_eq_true rfl) dL_carryOut_1 ⟨Nat.le_of_ble_eq_true rfl, Nat.le_of_ble_eq_true rfl⟩ (fun E ce q9 w1 H locs hw hP hD hS hce hcv hcl => ?_) (fun r1 w1 H locs hw hP hD hS => ?_)
  · have hP : va_P D vwCl (wX kI kC kG x ag at_ as_ hh hst a0 a1 a2 a3 tx tch w1) H := hP
    have hD : va_D A (wX kI kC kG x ag at_ as_ hh hst a0 a1 a2 a3 tx tch w1) := hD
    by_cases e1_0 : E = "java/lang/IllegalStateException"
    · subst e1_0
      replace hw := Eq.mp (if_pos rfl) hw
      refine vx_catch hown [] ⟨0, 4, 5, 18⟩ [] htab (fun z hz => absurd hz List.not_mem_nil) rfl (by decide) (hts (.classLink RL 18 "java/lang/IllegalStateException") (List.mem_of_getElem? (i := 1) rfl)) (hE.2.2.2.2.use _ (List.mem_of_getElem? (i := 3) rfl)) hce hcv hcl ?_
      refine lv_astore_n (lv' := [(1, .ref q9), (0, .ref x)]) hx hb dL_carryOut_5 rfl hl (by decide) rfl (fun ls hl => ?_)
      refine lv_ldc (v := 90001) hx hb hown (hts (.constant RL 17 (90001)) (List.mem_of_getElem? (i := 2) rfl)) dL_carryOut_6 ?_
      exact W.iret (v := 90001) hx hb hr (fun t ht hW => ⟨⟨90001, w1, rfl, hw, by rw [ht]; exact hP, va_K.moved hW.alike hK, hD⟩, hS.F ht⟩) hS.2.2 dL_carryOut_8
    replace hw := Eq.mp (if_neg e1_0) hw
    exact (hw : False).elim
  have hP : va_P D vwCl (wX kI kC kG x ag at_ as_ hh hst a0 a1 a2 a3 tx tch w1) H := hP
  have hD : va_D A (wX kI kC kG x ag at_ as_ hh hst a0 a1 a2 a3 tx tch w1) := hD
  exact W.iret (v := r1) hx hb hr (fun t ht hW => ⟨⟨r1, w1, rfl, hw, by rw [ht]; exact hP, va_K.moved hW.alike hK, hD⟩, hS.F ht⟩) hS.2.2 dL_carryOut_4
set_option maxHeartbeats 4000000 in
set_option maxRecDepth 100000 in
theorem kL_undo (l : Launch) (D : va_G) (kI kC kG kJ : ClassId) (hlt : l.stackTraces = false) (x : Nat) (ag at_ as_ : AG) (hh hst : Nat) (a0 a1 a2 a3 : AG) (tx tch : Nat) (sz : Nat) (u : SX) (Z : Int32 → SX → Prop) (hw : pL_undo u Z) : Met l yL_undo wsL_undo ({ frames := 7, cells := 1, slots := 6, locals := 110 } : Room) (gPw D (gT kI kC kG kJ) [.ref x] (wX kI kC kG x ag at_ as_ hh hst a0 a1 a2 a3 tx tch u) sz) (va_Qi Z (gB D (gT kI kC kG kJ) (fun (zz : SX) => wX kI kC kG x ag at_ as_ hh hst a0 a1 a2 a3 tx tch zz) (va_A (wX kI kC kG x ag at_ as_ hh hst a0 a1 a2 a3 tx tch u) sz)) (va_A (wX kI kC kG x ag at_ as_ hh hst a0 a1 a2 a3 tx tch u) sz)) 1 6 (va_A (wX kI kC kG x ag at_ as_ hh hst a0 a1 a2 a3 tx tch u) sz) := by
  refine gOfWH (cc := cL_undo) (maxL := 2) (ret := (some .int)) (hh := [(0, 4, 5, 18)]) (by decide) rfl ?_
  intro p e s m args below meth c s₁ B hml hv
  obtain ⟨rfl, hsz, hP, hK, hD0, hE⟩ := hv
  have hx := B.exec
  have hb := B.bytes
  have hr := B.returns
  have hts := atoms_spec (ws := wsL_undo) B.pre
  have hown : s.vm.findClass RL = some m.cls := findClass_of_methodNamed B.named
  have hlocks := B.notSynchronized
  have htab := vx_table (x := yL_undo) B (hts (.codeWith yL_undo cL_undo 2 (some .int) [(0, 4, 5, 18)]) List.mem_cons_self)
  subst hsz
  have hD := hD0.self (sz := s.heap.size)
  generalize hAe : va_A (wX kI kC kG x ag at_ as_ hh hst a0 a1 a2 a3 tx tch u) s.heap.size = A at hD hE ⊢
  have hA : ∀ q : Nat, s.heap.size ≤ q → A q := fun q h => by rw [← hAe]; exact Or.inr h
  have hS : va_S A s.heap s.heap [] := va_S.rf
  clear hAe hD0
  have hl := lv_entry ([.ref x]) (n := 2) (Nat.le_of_ble_eq_true rfl)
  rw [lg_entry_eq]
  generalize (lg_sl ([.ref x]) ++ List.replicate (2 - (lg_sl ([.ref x])).length) Slot.unset).toArray = ls at hl ⊢
  have hl : lv_has ls 2 [(0, .ref x)] := hl
  have hP : va_P D vwCl (wX kI kC kG x ag at_ as_ hh hst a0 a1 a2 a3 tx tch u) s.heap := hP
  unfold pL_undo at hw
  refine lv_aload_n hx hb dL_undo_0 rfl (lv_at hl 0 rfl) ?_
  refine gCVi (S := SX) (As := []) (rest := []) (wc := wX kI kC kG x ag at_ as_ hh hst a0 a1 a2 a3 tx tch u) (wr := []) (cs1 := (fun zz : SX => wX kI kC kG x ag at_ as_ hh hst a0 a1 a2 a3 tx tch zz)) (ws2 := (fun zz : SX => wX kI kC kG x ag at_ as_ hh hst a0 a1 a2 a3 tx tch zz)) ⟨hx, hb, hml, hown, hts⟩ (fun sz => kX5_undo l D kI kC kG kJ hlt x ag at_ as_ hh hst a0 a1 a2 a3 tx tch sz u _ _ hw) (cwV 0 hts gL_undo_X5_undo rfl rfl rfl hdX5_undo ⟨Nat.le_of_ble_eq_true rfl, Nat.le_of_ble_eq_true rfl⟩) hK hP hD hE hS hA [0, 1, 2, 3, 4, 5, 6, 7, 8, 9, 10, 11, 12, 13, 14, 15, 16, 17, 18, 19, 20, 21, 22, 23, 24, 25, 26, 27, 28, 29, 30, 31, 32] [] rfl rfl rfl rfl (by decide) [0, 1, 2, 3, 4, 5, 6, 7, 8, 9, 10, 11, 12, 13, 14, 15, 16, 17, 18, 19, 20, 21, 22, 23, 24, 25, 26, 27, 28, 29, 30, 31, 32] rfl (fun _ => rfl) (ci := 4) (q0 := 0) rfl rfl rfl rfl hl.1 rfl (Nat.le_of_ble_eq_true rfl) dL_undo_1 ⟨Nat.le_of_ble_eq_true rfl, Nat.le_of_ble_eq_true rfl⟩ (fun E ce q9 w1 H locs hw hP hD hS hce hcv hcl => ?_) (fun r1 w1 H locs hw hP hD hS => ?_)
  · have hP : va_P D vwCl (wX kI kC kG x ag at_ as_ hh hst a0 a1 a2 a3 tx tch w1) H := hP
    have hD : va_D A (wX kI kC kG x ag at_ as_ hh hst a0 a1 a2 a3 tx tch w1) := hD
    by_cases e1_0 : E = "java/lang/IllegalStateException"
    · subst e1_0
      replace hw := Eq.mp (if_pos rfl) hw
      refine vx_catch hown [] ⟨0, 4, 5, 18⟩ [] htab (fun z hz => absurd hz List.not_mem_nil) rfl (by decide) (hts (.classLink RL 18 "java/lang/IllegalStateException") (List.mem_of_getElem? (i := 1) rfl)) (hE.2.2.2.2.use _ (List.mem_of_getElem? (i := 3) rfl)) hce hcv hcl ?_
      refine lv_astore_n (lv' := [(1, .ref q9), (0, .ref x)]) hx hb dL_undo_5 rfl hl (by decide) rfl (fun ls hl => ?_)
      refine lv_ldc (v := 90001) hx hb hown (hts (.constant RL 17 (90001)) (List.mem_of_getElem? (i := 2) rfl)) dL_undo_6 ?_
      exact W.iret (v := 90001) hx hb hr (fun t ht hW => ⟨⟨90001, w1, rfl, hw, by rw [ht]; exact hP, va_K.moved hW.alike hK, hD⟩, hS.F ht⟩) hS.2.2 dL_undo_8
    replace hw := Eq.mp (if_neg e1_0) hw
    exact (hw : False).elim
  have hP : va_P D vwCl (wX kI kC kG x ag at_ as_ hh hst a0 a1 a2 a3 tx tch w1) H := hP
  have hD : va_D A (wX kI kC kG x ag at_ as_ hh hst a0 a1 a2 a3 tx tch w1) := hD
  exact W.iret (v := r1) hx hb hr (fun t ht hW => ⟨⟨r1, w1, rfl, hw, by rw [ht]; exact hP, va_K.moved hW.alike hK, hD⟩, hS.F ht⟩) hS.2.2 dL_undo_4
set_option maxHeartbeats 4000000 in
set_option maxRecDepth 100000 in
theorem kL_restore (l : Launch) (D : va_G) (kI kC kG kJ : ClassId) (hlt : l.stackTraces = false) (x : Nat) (ag at_ as_ : AG) (hh hst : Nat) (a0 a1 a2 a3 : AG) (tx tch : Nat) (sz : Nat) (u : SX) (Z : Int32 → SX → Prop) (hw : pL_restore u Z) : Met l yL_restore wsL_restore ({ frames := 7, cells := 1, slots := 6, locals := 110 } : Room) (gPw D (gT kI kC kG kJ) [.ref x] (wX kI kC kG x ag at_ as_ hh hst a0 a1 a2 a3 tx tch u) sz) (va_Qi Z (gB D (gT kI kC kG kJ) (fun (zz : SX) => wX kI kC kG x ag at_ as_ hh hst a0 a1 a2 a3 tx tch zz) (va_A (wX kI kC kG x ag at_ as_ hh hst a0 a1 a2 a3 tx tch u) sz)) (va_A (wX kI kC kG x ag at_ as_ hh hst a0 a1 a2 a3 tx tch u) sz)) 1 6 (va_A (wX kI kC kG x ag at_ as_ hh hst a0 a1 a2 a3 tx tch u) sz) := by
  refine gOfWH (cc := cL_restore) (maxL := 2) (ret := (some .int)) (hh := [(0, 4, 5, 18)]) (by decide) rfl ?_
  intro p e s m args below meth c s₁ B hml hv
  obtain ⟨rfl, hsz, hP, hK, hD0, hE⟩ := hv
  have hx := B.exec
  have hb := B.bytes
  have hr := B.returns
  have hts := atoms_spec (ws := wsL_restore) B.pre
  have hown : s.vm.findClass RL = some m.cls := findClass_of_methodNamed B.named
  have hlocks := B.notSynchronized
  have htab := vx_table (x := yL_restore) B (hts (.codeWith yL_restore cL_restore 2 (some .int) [(0, 4, 5, 18)]) List.mem_cons_self)
  subst hsz
  have hD := hD0.self (sz := s.heap.size)
  generalize hAe : va_A (wX kI kC kG x ag at_ as_ hh hst a0 a1 a2 a3 tx tch u) s.heap.size = A at hD hE ⊢
  have hA : ∀ q : Nat, s.heap.size ≤ q → A q := fun q h => by rw [← hAe]; exact Or.inr h
  have hS : va_S A s.heap s.heap [] := va_S.rf
  clear hAe hD0
  have hl := lv_entry ([.ref x]) (n := 2) (Nat.le_of_ble_eq_true rfl)
  rw [lg_entry_eq]
  generalize (lg_sl ([.ref x]) ++ List.replicate (2 - (lg_sl ([.ref x])).length) Slot.unset).toArray = ls at hl ⊢
  have hl : lv_has ls 2 [(0, .ref x)] := hl
  have hP : va_P D vwCl (wX kI kC kG x ag at_ as_ hh hst a0 a1 a2 a3 tx tch u) s.heap := hP
  unfold pL_restore at hw
  refine lv_aload_n hx hb dL_restore_0 rfl (lv_at hl 0 rfl) ?_
  refine gCVi (S := SX) (As := []) (rest := []) (wc := wX kI kC kG x ag at_ as_ hh hst a0 a1 a2 a3 tx tch u) (wr := []) (cs1 := (fun zz : SX => wX kI kC kG x ag at_ as_ hh hst a0 a1 a2 a3 tx tch zz)) (ws2 := (fun zz : SX => wX kI kC kG x ag at_ as_ hh hst a0 a1 a2 a3 tx tch zz)) ⟨hx, hb, hml, hown, hts⟩ (fun sz => kX5_restoreSnapshot l D kI kC kG kJ hlt x ag at_ as_ hh hst a0 a1 a2 a3 tx tch sz u _ _ hw) (cwV 0 hts gL_restore_X5_restoreSnapshot rfl rfl rfl hdX5_restoreSnapshot ⟨Nat.le_of_ble_eq_true rfl, Nat.le_of_ble_eq_true rfl⟩) hK hP hD hE hS hA [0, 1, 2, 3, 4, 5, 6, 7, 8, 9, 10, 11, 12, 13, 14, 15, 16, 17, 18, 19, 20, 21, 22, 23, 24, 25, 26, 27, 28, 29, 30, 31, 32] [] rfl rfl rfl rfl (by decide) [0, 1, 2, 3, 4, 5, 6, 7, 8, 9, 10, 11, 12, 13, 14, 15, 16, 17, 18, 19, 20, 21, 22, 23, 24, 25, 26, 27, 28, 29, 30, 31, 32] rfl (fun _ => rfl) (ci := 4) (q0 := 0) rfl rfl rfl rfl hl.1 rfl (Nat.le_of_ble_eq_true rfl) dL_restore_1 ⟨Nat.le_of_ble_eq_true rfl, Nat.le_of_ble_eq_true rfl⟩ (fun E ce q9 w1 H locs hw hP hD hS hce hcv hcl => ?_) (fun r1 w1 H locs hw hP hD hS => ?_)
  · have hP : va_P D vwCl (wX kI kC kG x ag at_ as_ hh hst a0 a1 a2 a3 tx tch w1) H := hP
    have hD : va_D A (wX kI kC kG x ag at_ as_ hh hst a0 a1 a2 a3 tx tch w1) := hD
    by_cases e1_0 : E = "java/lang/IllegalStateException"
    · subst e1_0
      replace hw := Eq.mp (if_pos rfl) hw
      refine vx_catch hown [] ⟨0, 4, 5, 18⟩ [] htab (fun z hz => absurd hz List.not_mem_nil) rfl (by decide) (hts (.classLink RL 18 "java/lang/IllegalStateException") (List.mem_of_getElem? (i := 1) rfl)) (hE.2.2.2.2.use _ (List.mem_of_getElem? (i := 3) rfl)) hce hcv hcl ?_
      refine lv_astore_n (lv' := [(1, .ref q9), (0, .ref x)]) hx hb dL_restore_5 rfl hl (by decide) rfl (fun ls hl => ?_)
      refine lv_ldc (v := 90001) hx hb hown (hts (.constant RL 17 (90001)) (List.mem_of_getElem? (i := 2) rfl)) dL_restore_6 ?_
      exact W.iret (v := 90001) hx hb hr (fun t ht hW => ⟨⟨90001, w1, rfl, hw, by rw [ht]; exact hP, va_K.moved hW.alike hK, hD⟩, hS.F ht⟩) hS.2.2 dL_restore_8
    replace hw := Eq.mp (if_neg e1_0) hw
    exact (hw : False).elim
  have hP : va_P D vwCl (wX kI kC kG x ag at_ as_ hh hst a0 a1 a2 a3 tx tch w1) H := hP
  have hD : va_D A (wX kI kC kG x ag at_ as_ hh hst a0 a1 a2 a3 tx tch w1) := hD
  exact W.iret (v := r1) hx hb hr (fun t ht hW => ⟨⟨r1, w1, rfl, hw, by rw [ht]; exact hP, va_K.moved hW.alike hK, hD⟩, hS.F ht⟩) hS.2.2 dL_restore_4
set_option maxHeartbeats 4000000 in
set_option maxRecDepth 100000 in
theorem kL_pieceOn (l : Launch) (D : va_G) (kI kC kG kJ : ClassId) (hlt : l.stackTraces = false) (x : Nat) (ag at_ as_ : AG) (hh hst : Nat) (a0 a1 a2 a3 : AG) (tx tch : Nat) (sz : Nat) (u : SX) (p1 : Int32) (Z : Int32 → SX → Prop) (hw : pL_pieceOn p1 u Z) : Met l yL_pieceOn wsL_pieceOn ({ frames := 3, cells := 0, slots := 0, locals := 65 } : Room) (gPw D (gT kI kC kG kJ) [.ref x, .int p1] (wX kI kC kG x ag at_ as_ hh hst a0 a1 a2 a3 tx tch u) sz) (va_Qi Z (gB D (gT kI kC kG kJ) (fun (zz : SX) => wX kI kC kG x ag at_ as_ hh hst a0 a1 a2 a3 tx tch zz) (va_A (wX kI kC kG x ag at_ as_ hh hst a0 a1 a2 a3 tx tch u) sz)) (va_A (wX kI kC kG x ag at_ as_ hh hst a0 a1 a2 a3 tx tch u) sz)) 0 0 (va_A (wX kI kC kG x ag at_ as_ hh hst a0 a1 a2 a3 tx tch u) sz) := by
  refine gOfWH (cc := cL_pieceOn) (maxL := 3) (ret := (some .int)) (hh := [(0, 5, 6, 15)]) (by decide) rfl ?_
  intro p e s m args below meth c s₁ B hml hv
  obtain ⟨rfl, hsz, hP, hK, hD0, hE⟩ := hv
  have hx := B.exec
  have hb := B.bytes
  have hr := B.returns
  have hts := atoms_spec (ws := wsL_pieceOn) B.pre
  have hown : s.vm.findClass RL = some m.cls := findClass_of_methodNamed B.named
  have hlocks := B.notSynchronized
  subst hsz
  have hD := hD0.self (sz := s.heap.size)
  generalize hAe : va_A (wX kI kC kG x ag at_ as_ hh hst a0 a1 a2 a3 tx tch u) s.heap.size = A at hD hE ⊢
  have hA : ∀ q : Nat, s.heap.size ≤ q → A q := fun q h => by rw [← hAe]; exact Or.inr h
  have hS : va_S A s.heap s.heap [] := va_S.rf
  clear hAe hD0
  have hl := lv_entry ([.ref x, .int p1]) (n := 3) (Nat.le_of_ble_eq_true rfl)
  rw [lg_entry_eq]
  generalize (lg_sl ([.ref x, .int p1]) ++ List.replicate (3 - (lg_sl ([.ref x, .int p1])).length) Slot.unset).toArray = ls at hl ⊢
  have hl : lv_has ls 3 [(0, .ref x), (1, .int p1)] := hl
  have hP : va_P D vwCl (wX kI kC kG x ag at_ as_ hh hst a0 a1 a2 a3 tx tch u) s.heap := hP
  unfold pL_pieceOn at hw
  refine lv_aload_n hx hb dL_pieceOn_0 rfl (lv_at hl 0 rfl) ?_
  refine lv_iload_n hx hb dL_pieceOn_1 rfl (lv_at hl 1 rfl) ?_
  refine gWVi (S := SX) (As := [.int p1]) (rest := []) (wc := wX kI kC kG x ag at_ as_ hh hst a0 a1 a2 a3 tx tch u) (wr := []) (cs1 := (fun zz : SX => wX kI kC kG x ag at_ as_ hh hst a0 a1 a2 a3 tx tch zz)) (ws2 := (fun zz : SX => wX kI kC kG x ag at_ as_ hh hst a0 a1 a2 a3 tx tch zz)) ⟨hx, hb, hml, hown, hts⟩ (fun sz => kX5_pieceOn_n l D kI kC kG kJ x ag at_ as_ hh hst a0 a1 a2 a3 tx tch sz u p1 _ hw) (cwV 1 hts gL_pieceOn_X5_pieceOn rfl rfl rfl hdX5_pieceOn ⟨Nat.le_of_ble_eq_true rfl, Nat.le_of_ble_eq_true rfl⟩) hK hP hD hE hS hA [0, 1, 2, 3, 4, 5, 6, 7, 8, 9, 10, 11, 12, 13, 14, 15, 16, 17, 18, 19, 20, 21, 22, 23, 24, 25, 26, 27, 28, 29, 30, 31, 32] [] rfl rfl rfl rfl (by decide) [0, 1, 2, 3, 4, 5, 6, 7, 8, 9, 10, 11, 12, 13, 14, 15, 16, 17, 18, 19, 20, 21, 22, 23, 24, 25, 26, 27, 28, 29, 30, 31, 32] rfl (fun _ => rfl) (ci := 4) (q0 := 0) rfl rfl rfl rfl hl.1 rfl (Nat.le_of_ble_eq_true rfl) dL_pieceOn_2 ⟨Nat.le_of_ble_eq_true rfl, Nat.le_of_ble_eq_true rfl⟩ (fun r1 w1 H locs hw hP hD hS => ?_)
  have hP : va_P D vwCl (wX kI kC kG x ag at_ as_ hh hst a0 a1 a2 a3 tx tch w1) H := hP
  have hD : va_D A (wX kI kC kG x ag at_ as_ hh hst a0 a1 a2 a3 tx tch w1) := hD
  exact W.iret (v := r1) hx hb hr (fun t ht hW => ⟨⟨r1, w1, rfl, hw, by rw [ht]; exact hP, va_K.moved hW.alike hK, hD⟩, hS.F ht⟩) hS.2.2 dL_pieceOn_5
set_option maxHeartbeats 4000000 in
set_option maxRecDepth 100000 in
theorem kL_cellOf (l : Launch) (D : va_G) (kI kC kG kJ : ClassId) (hlt : l.stackTraces = false) (x : Nat) (ag at_ as_ : AG) (hh hst : Nat) (a0 a1 a2 a3 : AG) (tx tch : Nat) (sz : Nat) (u : SX) (p1 : Int32) (Z : Int32 → SX → Prop) (hw : pL_cellOf p1 u Z) : Met l yL_cellOf wsL_cellOf ({ frames := 4, cells := 0, slots := 0, locals := 87 } : Room) (gPw D (gT kI kC kG kJ) [.ref x, .int p1] (wX kI kC kG x ag at_ as_ hh hst a0 a1 a2 a3 tx tch u) sz) (va_Qi Z (gB D (gT kI kC kG kJ) (fun (zz : SX) => wX kI kC kG x ag at_ as_ hh hst a0 a1 a2 a3 tx tch zz) (va_A (wX kI kC kG x ag at_ as_ hh hst a0 a1 a2 a3 tx tch u) sz)) (va_A (wX kI kC kG x ag at_ as_ hh hst a0 a1 a2 a3 tx tch u) sz)) 0 0 (va_A (wX kI kC kG x ag at_ as_ hh hst a0 a1 a2 a3 tx tch u) sz) := by
  refine gOfWH (cc := cL_cellOf) (maxL := 3) (ret := (some .int)) (hh := [(0, 5, 6, 15)]) (by decide) rfl ?_
  intro p e s m args below meth c s₁ B hml hv
  obtain ⟨rfl, hsz, hP, hK, hD0, hE⟩ := hv
  have hx := B.exec
  have hb := B.bytes
  have hr := B.returns
  have hts := atoms_spec (ws := wsL_cellOf) B.pre
  have hown : s.vm.findClass RL = some m.cls := findClass_of_methodNamed B.named
  have hlocks := B.notSynchronized
  subst hsz
  have hD := hD0.self (sz := s.heap.size)
  generalize hAe : va_A (wX kI kC kG x ag at_ as_ hh hst a0 a1 a2 a3 tx tch u) s.heap.size = A at hD hE ⊢
  have hA : ∀ q : Nat, s.heap.size ≤ q → A q := fun q h => by rw [← hAe]; exact Or.inr h
  have hS : va_S A s.heap s.heap [] := va_S.rf
  clear hAe hD0
  have hl := lv_entry ([.ref x, .int p1]) (n := 3) (Nat.le_of_ble_eq_true rfl)
  rw [lg_entry_eq]
  generalize (lg_sl ([.ref x, .int p1]) ++ List.replicate (3 - (lg_sl ([.ref x, .int p1])).length) Slot.unset).toArray = ls at hl ⊢
  have hl : lv_has ls 3 [(0, .ref x), (1, .int p1)] := hl
  have hP : va_P D vwCl (wX kI kC kG x ag at_ as_ hh hst a0 a1 a2 a3 tx tch u) s.heap := hP
  unfold pL_cellOf at hw
  refine lv_aload_n hx hb dL_cellOf_0 rfl (lv_at hl 0 rfl) ?_
  refine lv_iload_n hx hb dL_cellOf_1 rfl (lv_at hl 1 rfl) ?_
  refine gWVi (S := SX) (As := [.int p1]) (rest := []) (wc := wX kI kC kG x ag at_ as_ hh hst a0 a1 a2 a3 tx tch u) (wr := []) (cs1 := (fun zz : SX => wX kI kC kG x ag at_ as_ hh hst a0 a1 a2 a3 tx tch zz)) (ws2 := (fun zz : SX => wX kI kC kG x ag at_ as_ hh hst a0 a1 a2 a3 tx tch zz)) ⟨hx, hb, hml, hown, hts⟩ (fun sz => kX5_cellOf_n l D kI kC kG kJ x ag at_ as_ hh hst a0 a1 a2 a3 tx tch sz u p1 _ hw) (cwV 1 hts gL_cellOf_X5_cellOf rfl rfl rfl hdX5_cellOf ⟨Nat.le_of_ble_eq_true rfl, Nat.le_of_ble_eq_true rfl⟩) hK hP hD hE hS hA [0, 1, 2, 3, 4, 5, 6, 7, 8, 9, 10, 11, 12, 13, 14, 15, 16, 17, 18, 19, 20, 21, 22, 23, 24, 25, 26, 27, 28, 29, 30, 31, 32] [] rfl rfl rfl rfl (by decide) [0, 1, 2, 3, 4, 5, 6, 7, 8, 9, 10, 11, 12, 13, 14, 15, 16, 17, 18, 19, 20, 21, 22, 23, 24, 25, 26, 27, 28, 29, 30, 31, 32] rfl (fun _ => rfl) (ci := 4) (q0 := 0) rfl rfl rfl rfl hl.1 rfl (Nat.le_of_ble_eq_true rfl) dL_cellOf_2 ⟨Nat.le_of_ble_eq_true rfl, Nat.le_of_ble_eq_true rfl⟩ (fun r1 w1 H locs hw hP hD hS => ?_)
  have hP : va_P D vwCl (wX kI kC kG x ag at_ as_ hh hst a0 a1 a2 a3 tx tch w1) H := hP
  have hD : va_D A (wX kI kC kG x ag at_ as_ hh hst a0 a1 a2 a3 tx tch w1) := hD
  exact W.iret (v := r1) hx hb hr (fun t ht hW => ⟨⟨r1, w1, rfl, hw, by rw [ht]; exact hP, va_K.moved hW.alike hK, hD⟩, hS.F ht⟩) hS.2.2 dL_cellOf_5
set_option maxHeartbeats 4000000 in
set_option maxRecDepth 100000 in
theorem kL_piecesOn (l : Launch) (D : va_G) (kI kC kG kJ : ClassId) (hlt : l.stackTraces = false) (x : Nat) (ag at_ as_ : AG) (hh hst : Nat) (a0 a1 a2 a3 : AG) (tx tch : Nat) (sz : Nat) (u : SX) (p1 : Int32) (Z : Int32 → SX → Prop) (hw : pL_piecesOn p1 u Z) : Met l yL_piecesOn wsL_piecesOn ({ frames := 3, cells := 0, slots := 0, locals := 62 } : Room) (gPw D (gT kI kC kG kJ) [.ref x, .int p1] (wX kI kC kG x ag at_ as_ hh hst a0 a1 a2 a3 tx tch u) sz) (va_Qi Z (gB D (gT kI kC kG kJ) (fun (zz : SX) => wX kI kC kG x ag at_ as_ hh hst a0 a1 a2 a3 tx tch zz) (va_A (wX kI kC kG x ag at_ as_ hh hst a0 a1 a2 a3 tx tch u) sz)) (va_A (wX kI kC kG x ag at_ as_ hh hst a0 a1 a2 a3 tx tch u) sz)) 0 0 (va_A (wX kI kC kG x ag at_ as_ hh hst a0 a1 a2 a3 tx tch u) sz) := by
  refine gOfWH (cc := cL_piecesOn) (maxL := 3) (ret := (some .int)) (hh := [(0, 5, 6, 15)]) (by decide) rfl ?_
  intro p e s m args below meth c s₁ B hml hv
  obtain ⟨rfl, hsz, hP, hK, hD0, hE⟩ := hv
  have hx := B.exec
  have hb := B.bytes
  have hr := B.returns
  have hts := atoms_spec (ws := wsL_piecesOn) B.pre
  have hown : s.vm.findClass RL = some m.cls := findClass_of_methodNamed B.named
  have hlocks := B.notSynchronized
  subst hsz
  have hD := hD0.self (sz := s.heap.size)
  generalize hAe : va_A (wX kI kC kG x ag at_ as_ hh hst a0 a1 a2 a3 tx tch u) s.heap.size = A at hD hE ⊢
  have hA : ∀ q : Nat, s.heap.size ≤ q → A q := fun q h => by rw [← hAe]; exact Or.inr h
  have hS : va_S A s.heap s.heap [] := va_S.rf
  clear hAe hD0
  have hl := lv_entry ([.ref x, .int p1]) (n := 3) (Nat.le_of_ble_eq_true rfl)
  rw [lg_entry_eq]
  generalize (lg_sl ([.ref x, .int p1]) ++ List.replicate (3 - (lg_sl ([.ref x, .int p1])).length) Slot.unset).toArray = ls at hl ⊢
  have hl : lv_has ls 3 [(0, .ref x), (1, .int p1)] := hl
  have hP : va_P D vwCl (wX kI kC kG x ag at_ as_ hh hst a0 a1 a2 a3 tx tch u) s.heap := hP
  unfold pL_piecesOn at hw
  refine lv_aload_n hx hb dL_piecesOn_0 rfl (lv_at hl 0 rfl) ?_
  refine lv_iload_n hx hb dL_piecesOn_1 rfl (lv_at hl 1 rfl) ?_
  refine gWVi (S := SX) (As := [.int p1]) (rest := []) (wc := wX kI kC kG x ag at_ as_ hh hst a0 a1 a2 a3 tx tch u) (wr := []) (cs1 := (fun zz : SX => wX kI kC kG x ag at_ as_ hh hst a0 a1 a2 a3 tx tch zz)) (ws2 := (fun zz : SX => wX kI kC kG x ag at_ as_ hh hst a0 a1 a2 a3 tx tch zz)) ⟨hx, hb, hml, hown, hts⟩ (fun sz => kX5_piecesOn_n l D kI kC kG kJ x ag at_ as_ hh hst a0 a1 a2 a3 tx tch sz u p1 _ hw) (cwV 1 hts gL_piecesOn_X5_piecesOn rfl rfl rfl hdX5_piecesOn ⟨Nat.le_of_ble_eq_true rfl, Nat.le_of_ble_eq_true rfl⟩) hK hP hD hE hS hA [0, 1, 2, 3, 4, 5, 6, 7, 8, 9, 10, 11, 12, 13, 14, 15, 16, 17, 18, 19, 20, 21, 22, 23, 24, 25, 26, 27, 28, 29, 30, 31, 32] [] rfl rfl rfl rfl (by decide) [0, 1, 2, 3, 4, 5, 6, 7, 8, 9, 10, 11, 12, 13, 14, 15, 16, 17, 18, 19, 20, 21, 22, 23, 24, 25, 26, 27, 28, 29, 30, 31, 32] rfl (fun _ => rfl) (ci := 4) (q0 := 0) rfl rfl rfl rfl hl.1 rfl (Nat.le_of_ble_eq_true rfl) dL_piecesOn_2 ⟨Nat.le_of_ble_eq_true rfl, Nat.le_of_ble_eq_true rfl⟩ (fun r1 w1 H locs hw hP hD hS => ?_)
  have hP : va_P D vwCl (wX kI kC kG x ag at_ as_ hh hst a0 a1 a2 a3 tx tch w1) H := hP
  have hD : va_D A (wX kI kC kG x ag at_ as_ hh hst a0 a1 a2 a3 tx tch w1) := hD
  exact W.iret (v := r1) hx hb hr (fun t ht hW => ⟨⟨r1, w1, rfl, hw, by rw [ht]; exact hP, va_K.moved hW.alike hK, hD⟩, hS.F ht⟩) hS.2.2 dL_piecesOn_5
set_option maxHeartbeats 4000000 in
set_option maxRecDepth 100000 in
theorem kL_shared (l : Launch) (D : va_G) (kI kC kG kJ : ClassId) (hlt : l.stackTraces = false) (x : Nat) (ag at_ as_ : AG) (hh hst : Nat) (a0 a1 a2 a3 : AG) (tx tch : Nat) (sz : Nat) (u : SX) (p1 : Int32) (Z : Int32 → SX → Prop) (hw : pL_shared p1 u Z) : Met l yL_shared wsL_shared ({ frames := 3, cells := 0, slots := 0, locals := 66 } : Room) (gPw D (gT kI kC kG kJ) [.ref x, .int p1] (wX kI kC kG x ag at_ as_ hh hst a0 a1 a2 a3 tx tch u) sz) (va_Qi Z (gB D (gT kI kC kG kJ) (fun (zz : SX) => wX kI kC kG x ag at_ as_ hh hst a0 a1 a2 a3 tx tch zz) (va_A (wX kI kC kG x ag at_ as_ hh hst a0 a1 a2 a3 tx tch u) sz)) (va_A (wX kI kC kG x ag at_ as_ hh hst a0 a1 a2 a3 tx tch u) sz)) 0 0 (va_A (wX kI kC kG x ag at_ as_ hh hst a0 a1 a2 a3 tx tch u) sz) := by
  refine gOfWH (cc := cL_shared) (maxL := 3) (ret := (some .int)) (hh := [(0, 5, 6, 15)]) (by decide) rfl ?_
  intro p e s m args below meth c s₁ B hml hv
  obtain ⟨rfl, hsz, hP, hK, hD0, hE⟩ := hv
  have hx := B.exec
  have hb := B.bytes
  have hr := B.returns
  have hts := atoms_spec (ws := wsL_shared) B.pre
  have hown : s.vm.findClass RL = some m.cls := findClass_of_methodNamed B.named
  have hlocks := B.notSynchronized
  subst hsz
  have hD := hD0.self (sz := s.heap.size)
  generalize hAe : va_A (wX kI kC kG x ag at_ as_ hh hst a0 a1 a2 a3 tx tch u) s.heap.size = A at hD hE ⊢
  have hA : ∀ q : Nat, s.heap.size ≤ q → A q := fun q h => by rw [← hAe]; exact Or.inr h
  have hS : va_S A s.heap s.heap [] := va_S.rf
  clear hAe hD0
  have hl := lv_entry ([.ref x, .int p1]) (n := 3) (Nat.le_of_ble_eq_true rfl)
  rw [lg_entry_eq]
  generalize (lg_sl ([.ref x, .int p1]) ++ List.replicate (3 - (lg_sl ([.ref x, .int p1])).length) Slot.unset).toArray = ls at hl ⊢
  have hl : lv_has ls 3 [(0, .ref x), (1, .int p1)] := hl
  have hP : va_P D vwCl (wX kI kC kG x ag at_ as_ hh hst a0 a1 a2 a3 tx tch u) s.heap := hP
  unfold pL_shared at hw
  refine lv_aload_n hx hb dL_shared_0 rfl (lv_at hl 0 rfl) ?_
  refine lv_iload_n hx hb dL_shared_1 rfl (lv_at hl 1 rfl) ?_
  refine gWVi (S := SX) (As := [.int p1]) (rest := []) (wc := wX kI kC kG x ag at_ as_ hh hst a0 a1 a2 a3 tx tch u) (wr := []) (cs1 := (fun zz : SX => wX kI kC kG x ag at_ as_ hh hst a0 a1 a2 a3 tx tch zz)) (ws2 := (fun zz : SX => wX kI kC kG x ag at_ as_ hh hst a0 a1 a2 a3 tx tch zz)) ⟨hx, hb, hml, hown, hts⟩ (fun sz => kX5_sharedOn_n l D kI kC kG kJ x ag at_ as_ hh hst a0 a1 a2 a3 tx tch sz u p1 _ hw) (cwV 1 hts gL_shared_X5_sharedOn rfl rfl rfl hdX5_sharedOn ⟨Nat.le_of_ble_eq_true rfl, Nat.le_of_ble_eq_true rfl⟩) hK hP hD hE hS hA [0, 1, 2, 3, 4, 5, 6, 7, 8, 9, 10, 11, 12, 13, 14, 15, 16, 17, 18, 19, 20, 21, 22, 23, 24, 25, 26, 27, 28, 29, 30, 31, 32] [] rfl rfl rfl rfl (by decide) [0, 1, 2, 3, 4, 5, 6, 7, 8, 9, 10, 11, 12, 13, 14, 15, 16, 17, 18, 19, 20, 21, 22, 23, 24, 25, 26, 27, 28, 29, 30, 31, 32] rfl (fun _ => rfl) (ci := 4) (q0 := 0) rfl rfl rfl rfl hl.1 rfl (Nat.le_of_ble_eq_true rfl) dL_shared_2 ⟨Nat.le_of_ble_eq_true rfl, Nat.le_of_ble_eq_true rfl⟩ (fun r1 w1 H locs hw hP hD hS => ?_)
  have hP : va_P D vwCl (wX kI kC kG x ag at_ as_ hh hst a0 a1 a2 a3 tx tch w1) H := hP
  have hD : va_D A (wX kI kC kG x ag at_ as_ hh hst a0 a1 a2 a3 tx tch w1) := hD
  exact W.iret (v := r1) hx hb hr (fun t ht hW => ⟨⟨r1, w1, rfl, hw, by rw [ht]; exact hP, va_K.moved hW.alike hK, hD⟩, hS.F ht⟩) hS.2.2 dL_shared_5
set_option maxHeartbeats 4000000 in
set_option maxRecDepth 100000 in
theorem kL_wins (l : Launch) (D : va_G) (kI kC kG kJ : ClassId) (hlt : l.stackTraces = false) (x : Nat) (ag at_ as_ : AG) (hh hst : Nat) (a0 a1 a2 a3 : AG) (tx tch : Nat) (sz : Nat) (u : SX) (p1 : Int32) (Z : Int32 → SX → Prop) (hw : pL_wins p1 u Z) : Met l yL_wins wsL_wins ({ frames := 2, cells := 0, slots := 0, locals := 42 } : Room) (gPw D (gT kI kC kG kJ) [.ref x, .int p1] (wX kI kC kG x ag at_ as_ hh hst a0 a1 a2 a3 tx tch u) sz) (va_Qi Z (gB D (gT kI kC kG kJ) (fun (zz : SX) => wX kI kC kG x ag at_ as_ hh hst a0 a1 a2 a3 tx tch zz) (va_A (wX kI kC kG x ag at_ as_ hh hst a0 a1 a2 a3 tx tch u) sz)) (va_A (wX kI kC kG x ag at_ as_ hh hst a0 a1 a2 a3 tx tch u) sz)) 0 0 (va_A (wX kI kC kG x ag at_ as_ hh hst a0 a1 a2 a3 tx tch u) sz) := by
  refine gOfWH (cc := cL_wins) (maxL := 3) (ret := (some .int)) (hh := [(0, 5, 6, 15)]) (by decide) rfl ?_
  intro p e s m args below meth c s₁ B hml hv
  obtain ⟨rfl, hsz, hP, hK, hD0, hE⟩ := hv
  have hx := B.exec
  have hb := B.bytes
  have hr := B.returns
  have hts := atoms_spec (ws := wsL_wins) B.pre
  have hown : s.vm.findClass RL = some m.cls := findClass_of_methodNamed B.named
  have hlocks := B.notSynchronized
  subst hsz
  have hD := hD0.self (sz := s.heap.size)
  generalize hAe : va_A (wX kI kC kG x ag at_ as_ hh hst a0 a1 a2 a3 tx tch u) s.heap.size = A at hD hE ⊢
  have hA : ∀ q : Nat, s.heap.size ≤ q → A q := fun q h => by rw [← hAe]; exact Or.inr h
  have hS : va_S A s.heap s.heap [] := va_S.rf
  clear hAe hD0
  have hl := lv_entry ([.ref x, .int p1]) (n := 3) (Nat.le_of_ble_eq_true rfl)
  rw [lg_entry_eq]
  generalize (lg_sl ([.ref x, .int p1]) ++ List.replicate (3 - (lg_sl ([.ref x, .int p1])).length) Slot.unset).toArray = ls at hl ⊢
  have hl : lv_has ls 3 [(0, .ref x), (1, .int p1)] := hl
  have hP : va_P D vwCl (wX kI kC kG x ag at_ as_ hh hst a0 a1 a2 a3 tx tch u) s.heap := hP
  unfold pL_wins at hw
  refine lv_aload_n hx hb dL_wins_0 rfl (lv_at hl 0 rfl) ?_
  refine lv_iload_n hx hb dL_wins_1 rfl (lv_at hl 1 rfl) ?_
  refine gWVi (S := SX) (As := [.int p1]) (rest := []) (wc := wX kI kC kG x ag at_ as_ hh hst a0 a1 a2 a3 tx tch u) (wr := []) (cs1 := (fun zz : SX => wX kI kC kG x ag at_ as_ hh hst a0 a1 a2 a3 tx tch zz)) (ws2 := (fun zz : SX => wX kI kC kG x ag at_ as_ hh hst a0 a1 a2 a3 tx tch zz)) ⟨hx, hb, hml, hown, hts⟩ (fun sz => kX5_winsOf_n l D kI kC kG kJ x ag at_ as_ hh hst a0 a1 a2 a3 tx tch sz u p1 _ hw) (cwV 1 hts gL_wins_X5_winsOf rfl rfl rfl hdX5_winsOf ⟨Nat.le_of_ble_eq_true rfl, Nat.le_of_ble_eq_true rfl⟩) hK hP hD hE hS hA [0, 1, 2, 3, 4, 5, 6, 7, 8, 9, 10, 11, 12, 13, 14, 15, 16, 17, 18, 19, 20, 21, 22, 23, 24, 25, 26, 27, 28, 29, 30, 31, 32] [] rfl rfl rfl rfl (by decide) [0, 1, 2, 3, 4, 5, 6, 7, 8, 9, 10, 11, 12, 13, 14, 15, 16, 17, 18, 19, 20, 21, 22, 23, 24, 25, 26, 27, 28, 29, 30, 31, 32] rfl (fun _ => rfl) (ci := 4) (q0 := 0) rfl rfl rfl rfl hl.1 rfl (Nat.le_of_ble_eq_true rfl) dL_wins_2 ⟨Nat.le_of_ble_eq_true rfl, Nat.le_of_ble_eq_true rfl⟩ (fun r1 w1 H locs hw hP hD hS => ?_)
  have hP : va_P D vwCl (wX kI kC kG x ag at_ as_ hh hst a0 a1 a2 a3 tx tch w1) H := hP
  have hD : va_D A (wX kI kC kG x ag at_ as_ hh hst a0 a1 a2 a3 tx tch w1) := hD
  exact W.iret (v := r1) hx hb hr (fun t ht hW => ⟨⟨r1, w1, rfl, hw, by rw [ht]; exact hP, va_K.moved hW.alike hK, hD⟩, hS.F ht⟩) hS.2.2 dL_wins_5
set_option maxHeartbeats 4000000 in
set_option maxRecDepth 100000 in
theorem kL_winningCell (l : Launch) (D : va_G) (kI kC kG kJ : ClassId) (hlt : l.stackTraces = false) (x : Nat) (ag at_ as_ : AG) (hh hst : Nat) (a0 a1 a2 a3 : AG) (tx tch : Nat) (sz : Nat) (u : SX) (p1 : Int32) (Z : Int32 → SX → Prop) (hw : pL_winningCell p1 u Z) : Met l yL_winningCell wsL_winningCell ({ frames := 5, cells := 0, slots := 0, locals := 111 } : Room) (gPw D (gT kI kC kG kJ) [.ref x, .int p1] (wX kI kC kG x ag at_ as_ hh hst a0 a1 a2 a3 tx tch u) sz) (va_Qi Z (gB D (gT kI kC kG kJ) (fun (zz : SX) => wX kI kC kG x ag at_ as_ hh hst a0 a1 a2 a3 tx tch zz) (va_A (wX kI kC kG x ag at_ as_ hh hst a0 a1 a2 a3 tx tch u) sz)) (va_A (wX kI kC kG x ag at_ as_ hh hst a0 a1 a2 a3 tx tch u) sz)) 0 0 (va_A (wX kI kC kG x ag at_ as_ hh hst a0 a1 a2 a3 tx tch u) sz) := by
  refine gOfWH (cc := cL_winningCell) (maxL := 3) (ret := (some .int)) (hh := [(0, 5, 6, 15)]) (by decide) rfl ?_
  intro p e s m args below meth c s₁ B hml hv
  obtain ⟨rfl, hsz, hP, hK, hD0, hE⟩ := hv
  have hx := B.exec
  have hb := B.bytes
  have hr := B.returns
  have hts := atoms_spec (ws := wsL_winningCell) B.pre
  have hown : s.vm.findClass RL = some m.cls := findClass_of_methodNamed B.named
  have hlocks := B.notSynchronized
  subst hsz
  have hD := hD0.self (sz := s.heap.size)
  generalize hAe : va_A (wX kI kC kG x ag at_ as_ hh hst a0 a1 a2 a3 tx tch u) s.heap.size = A at hD hE ⊢
  have hA : ∀ q : Nat, s.heap.size ≤ q → A q := fun q h => by rw [← hAe]; exact Or.inr h
  have hS : va_S A s.heap s.heap [] := va_S.rf
  clear hAe hD0
  have hl := lv_entry ([.ref x, .int p1]) (n := 3) (Nat.le_of_ble_eq_true rfl)
  rw [lg_entry_eq]
  generalize (lg_sl ([.ref x, .int p1]) ++ List.replicate (3 - (lg_sl ([.ref x, .int p1])).length) Slot.unset).toArray = ls at hl ⊢
  have hl : lv_has ls 3 [(0, .ref x), (1, .int p1)] := hl
  have hP : va_P D vwCl (wX kI kC kG x ag at_ as_ hh hst a0 a1 a2 a3 tx tch u) s.heap := hP
  unfold pL_winningCell at hw
  refine lv_aload_n hx hb dL_winningCell_0 rfl (lv_at hl 0 rfl) ?_
  refine lv_iload_n hx hb dL_winningCell_1 rfl (lv_at hl 1 rfl) ?_
  refine gWVi (S := SX) (As := [.int p1]) (rest := []) (wc := wX kI kC kG x ag at_ as_ hh hst a0 a1 a2 a3 tx tch u) (wr := []) (cs1 := (fun zz : SX => wX kI kC kG x ag at_ as_ hh hst a0 a1 a2 a3 tx tch zz)) (ws2 := (fun zz : SX => wX kI kC kG x ag at_ as_ hh hst a0 a1 a2 a3 tx tch zz)) ⟨hx, hb, hml, hown, hts⟩ (fun sz => kX5_winningCell_n l D kI kC kG kJ x ag at_ as_ hh hst a0 a1 a2 a3 tx tch sz u p1 _ hw) (cwV 1 hts gL_winningCell_X5_winningCell rfl rfl rfl hdX5_winningCell ⟨Nat.le_of_ble_eq_true rfl, Nat.le_of_ble_eq_true rfl⟩) hK hP hD hE hS hA [0, 1, 2, 3, 4, 5, 6, 7, 8, 9, 10, 11, 12, 13, 14, 15, 16, 17, 18, 19, 20, 21, 22, 23, 24, 25, 26, 27, 28, 29, 30, 31, 32] [] rfl rfl rfl rfl (by decide) [0, 1, 2, 3, 4, 5, 6, 7, 8, 9, 10, 11, 12, 13, 14, 15, 16, 17, 18, 19, 20, 21, 22, 23, 24, 25, 26, 27, 28, 29, 30, 31, 32] rfl (fun _ => rfl) (ci := 4) (q0 := 0) rfl rfl rfl rfl hl.1 rfl (Nat.le_of_ble_eq_true rfl) dL_winningCell_2 ⟨Nat.le_of_ble_eq_true rfl, Nat.le_of_ble_eq_true rfl⟩ (fun r1 w1 H locs hw hP hD hS => ?_)
  have hP : va_P D vwCl (wX kI kC kG x ag at_ as_ hh hst a0 a1 a2 a3 tx tch w1) H := hP
  have hD : va_D A (wX kI kC kG x ag at_ as_ hh hst a0 a1 a2 a3 tx tch w1) := hD
  exact W.iret (v := r1) hx hb hr (fun t ht hW => ⟨⟨r1, w1, rfl, hw, by rw [ht]; exact hP, va_K.moved hW.alike hK, hD⟩, hS.F ht⟩) hS.2.2 dL_winningCell_5
set_option maxHeartbeats 4000000 in
set_option maxRecDepth 100000 in
theorem kL_outcome (l : Launch) (D : va_G) (kI kC kG kJ : ClassId) (hlt : l.stackTraces = false) (x : Nat) (ag at_ as_ : AG) (hh hst : Nat) (a0 a1 a2 a3 : AG) (tx tch : Nat) (sz : Nat) (u : SX) (Z : Int32 → SX → Prop) (hw : pL_outcome u Z) : Met l yL_outcome wsL_outcome ({ frames := 16, cells := 1, slots := 6, locals := 370 } : Room) (gPw D (gT kI kC kG kJ) [.ref x] (wX kI kC kG x ag at_ as_ hh hst a0 a1 a2 a3 tx tch u) sz) (va_Qi Z (gB D (gT kI kC kG kJ) (fun (zz : SX) => wX kI kC kG x ag at_ as_ hh hst a0 a1 a2 a3 tx tch zz) (va_A (wX kI kC kG x ag at_ as_ hh hst a0 a1 a2 a3 tx tch u) sz)) (va_A (wX kI kC kG x ag at_ as_ hh hst a0 a1 a2 a3 tx tch u) sz)) 1 6 (va_A (wX kI kC kG x ag at_ as_ hh hst a0 a1 a2 a3 tx tch u) sz) := by
  refine gOfWH (cc := cL_outcome) (maxL := 2) (ret := (some .int)) (hh := [(0, 4, 5, 18)]) (by decide) rfl ?_
  intro p e s m args below meth c s₁ B hml hv
  obtain ⟨rfl, hsz, hP, hK, hD0, hE⟩ := hv
  have hx := B.exec
  have hb := B.bytes
  have hr := B.returns
  have hts := atoms_spec (ws := wsL_outcome) B.pre
  have hown : s.vm.findClass RL = some m.cls := findClass_of_methodNamed B.named
  have hlocks := B.notSynchronized
  have htab := vx_table (x := yL_outcome) B (hts (.codeWith yL_outcome cL_outcome 2 (some .int) [(0, 4, 5, 18)]) List.mem_cons_self)
  subst hsz
  have hD := hD0.self (sz := s.heap.size)
  generalize hAe : va_A (wX kI kC kG x ag at_ as_ hh hst a0 a1 a2 a3 tx tch u) s.heap.size = A at hD hE ⊢
  have hA : ∀ q : Nat, s.heap.size ≤ q → A q := fun q h => by rw [← hAe]; exact Or.inr h
  have hS : va_S A s.heap s.heap [] := va_S.rf
  clear hAe hD0
  have hl := lv_entry ([.ref x]) (n := 2) (Nat.le_of_ble_eq_true rfl)
  rw [lg_entry_eq]
  generalize (lg_sl ([.ref x]) ++ List.replicate (2 - (lg_sl ([.ref x])).length) Slot.unset).toArray = ls at hl ⊢
  have hl : lv_has ls 2 [(0, .ref x)] := hl
  have hP : va_P D vwCl (wX kI kC kG x ag at_ as_ hh hst a0 a1 a2 a3 tx tch u) s.heap := hP
  unfold pL_outcome at hw
  refine lv_aload_n hx hb dL_outcome_0 rfl (lv_at hl 0 rfl) ?_
  refine gCVi (S := SX) (As := []) (rest := []) (wc := wX kI kC kG x ag at_ as_ hh hst a0 a1 a2 a3 tx tch u) (wr := []) (cs1 := (fun zz : SX => wX kI kC kG x ag at_ as_ hh hst a0 a1 a2 a3 tx tch zz)) (ws2 := (fun zz : SX => wX kI kC kG x ag at_ as_ hh hst a0 a1 a2 a3 tx tch zz)) ⟨hx, hb, hml, hown, hts⟩ (fun sz => kX5_outcome l D kI kC kG kJ hlt x ag at_ as_ hh hst a0 a1 a2 a3 tx tch sz u _ _ hw) (cwV 0 hts gL_outcome_X5_outcome rfl rfl rfl hdX5_outcome ⟨Nat.le_of_ble_eq_true rfl, Nat.le_of_ble_eq_true rfl⟩) hK hP hD hE hS hA [0, 1, 2, 3, 4, 5, 6, 7, 8, 9, 10, 11, 12, 13, 14, 15, 16, 17, 18, 19, 20, 21, 22, 23, 24, 25, 26, 27, 28, 29, 30, 31, 32] [] rfl rfl rfl rfl (by decide) [0, 1, 2, 3, 4, 5, 6, 7, 8, 9, 10, 11, 12, 13, 14, 15, 16, 17, 18, 19, 20, 21, 22, 23, 24, 25, 26, 27, 28, 29, 30, 31, 32] rfl (fun _ => rfl) (ci := 4) (q0 := 0) rfl rfl rfl rfl hl.1 rfl (Nat.le_of_ble_eq_true rfl) dL_outcome_1 ⟨Nat.le_of_ble_eq_true rfl, Nat.le_of_ble_eq_true rfl⟩ (fun E ce q9 w1 H locs hw hP hD hS hce hcv hcl => ?_) (fun r1 w1 H locs hw hP hD hS => ?_)
  · have hP : va_P D vwCl (wX kI kC kG x ag at_ as_ hh hst a0 a1 a2 a3 tx tch w1) H := hP
    have hD : va_D A (wX kI kC kG x ag at_ as_ hh hst a0 a1 a2 a3 tx tch w1) := hD
    by_cases e1_0 : E = "java/lang/IllegalStateException"
    · subst e1_0
      replace hw := Eq.mp (if_pos rfl) hw
      refine vx_catch hown [] ⟨0, 4, 5, 18⟩ [] htab (fun z hz => absurd hz List.not_mem_nil) rfl (by decide) (hts (.classLink RL 18 "java/lang/IllegalStateException") (List.mem_of_getElem? (i := 1) rfl)) (hE.2.2.2.2.use _ (List.mem_of_getElem? (i := 3) rfl)) hce hcv hcl ?_
      refine lv_astore_n (lv' := [(1, .ref q9), (0, .ref x)]) hx hb dL_outcome_5 rfl hl (by decide) rfl (fun ls hl => ?_)
      refine lv_ldc (v := 90001) hx hb hown (hts (.constant RL 17 (90001)) (List.mem_of_getElem? (i := 2) rfl)) dL_outcome_6 ?_
      exact W.iret (v := 90001) hx hb hr (fun t ht hW => ⟨⟨90001, w1, rfl, hw, by rw [ht]; exact hP, va_K.moved hW.alike hK, hD⟩, hS.F ht⟩) hS.2.2 dL_outcome_8
    replace hw := Eq.mp (if_neg e1_0) hw
    exact (hw : False).elim
  have hP : va_P D vwCl (wX kI kC kG x ag at_ as_ hh hst a0 a1 a2 a3 tx tch w1) H := hP
  have hD : va_D A (wX kI kC kG x ag at_ as_ hh hst a0 a1 a2 a3 tx tch w1) := hD
  exact W.iret (v := r1) hx hb hr (fun t ht hW => ⟨⟨r1, w1, rfl, hw, by rw [ht]; exact hP, va_K.moved hW.alike hK, hD⟩, hS.F ht⟩) hS.2.2 dL_outcome_4
