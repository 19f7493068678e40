set_option maxHeartbeats 4000000 in
set_option maxRecDepth 100000 in
theorem kX6_give (l : Launch) (D : va_G) (kI kC kG kJ : ClassId) (mo m0 m1 m2 m3 m4 m5 m6 m7 : Nat) (sz : Nat) (u : SM) (p0 : Int32) (Z : Int32 → SM → Prop) (hw : pX6_give p0 u Z) : Met l yX6_give wsX6_give ({ frames := 3, cells := 0, slots := 0, locals := 64 } : Room) (gPw D (gT kI kC kG kJ) [.ref mo, .int p0] (wM kI mo m0 m1 m2 m3 m4 m5 m6 m7 u) sz) (va_Qi Z (gB D (gT kI kC kG kJ) (fun (zz : SM) => wM kI mo m0 m1 m2 m3 m4 m5 m6 m7 zz) (va_A (wM kI mo m0 m1 m2 m3 m4 m5 m6 m7 u) sz)) (va_A (wM kI mo m0 m1 m2 m3 m4 m5 m6 m7 u) sz)) 0 0 (va_A (wM kI mo m0 m1 m2 m3 m4 m5 m6 m7 u) sz) := by
  refine Met.ofW (cc := cX6_give) (maxL := 2) (ret := (some .int)) (by decide) rfl ?_
  intro p e s m args below meth c s₁ B hml hv
  obtain ⟨rfl, hsz, hP, hK, hD0, hE⟩ := hv
  have hx := B.exec
  have hb := B.bytes
  have hr := B.returns
  have hts := atoms_spec (ws := wsX6_give) B.pre
  have hown : s.vm.findClass RX6 = some m.cls := findClass_of_methodNamed B.named
  have hlocks := B.notSynchronized
  subst hsz
  have hD := hD0.self (sz := s.heap.size)
  generalize hAe : va_A (wM kI mo m0 m1 m2 m3 m4 m5 m6 m7 u) s.heap.size = A at hD hE ⊢
  have hA : ∀ q : Nat, s.heap.size ≤ q → A q := fun q h => by rw [← hAe]; exact Or.inr h
  have hS : va_S A s.heap s.heap [] := va_S.rf
  clear hAe hD0
  have hl := lv_entry ([.ref mo, .int p0]) (n := 2) (Nat.le_of_ble_eq_true rfl)
  rw [lg_entry_eq]
  generalize (lg_sl ([.ref mo, .int p0]) ++ List.replicate (2 - (lg_sl ([.ref mo, .int p0])).length) Slot.unset).toArray = ls at hl ⊢
  have hl : lv_has ls 2 [(0, .ref mo), (1, .int p0)] := hl
  have hP : va_P D vwCl (wM kI mo m0 m1 m2 m3 m4 m5 m6 m7 u) s.heap := hP
  unfold pX6_give at hw
  refine lv_iload_n hx hb dX6_give_0 rfl (lv_at hl 1 rfl) ?_
  refine gSi (As := [.int p0]) (rest := []) (cs' := ([] : va_W)) ⟨hx, hb, hml, hown, hts⟩ (kX6_isPlace l D kI kC kG kJ p0 _ hw) (va_cwS 1 hts gX6_give_X6_isPlace rfl rfl rfl hdX6_isPlace ⟨Nat.le_of_ble_eq_true rfl, Nat.le_of_ble_eq_true rfl⟩) hK hP hE hS [] rfl rfl hl.1 rfl (Nat.le_of_ble_eq_true rfl) dX6_give_1 ⟨Nat.le_of_ble_eq_true rfl, Nat.le_of_ble_eq_true rfl⟩ (fun r1 hw => ?_)
  refine lv_if_ne (tgt := 13) hx hb dX6_give_4 (by decide) (fun c2 => ?_) (fun c2 => ?_)
  · replace hw := Eq.mp (if_neg c2) hw
    refine lv_aload_n hx hb dX6_give_13 rfl (lv_at hl 0 rfl) ?_
    refine lv_iload_n hx hb dX6_give_14 rfl (lv_at hl 1 rfl) ?_
    refine gVi (As := [.int p0]) (rest := []) (cs' := wM kI mo m0 m1 m2 m3 m4 m5 m6 m7 u) ⟨hx, hb, hml, hown, hts⟩ (kX6_canGive l D kI kC kG kJ mo m0 m1 m2 m3 m4 m5 m6 m7 u p0 _ hw) (cwV 1 hts gX6_give_X6_canGive rfl rfl rfl hdX6_canGive ⟨Nat.le_of_ble_eq_true rfl, Nat.le_of_ble_eq_true rfl⟩) hK hP hE hS [0, 1, 2, 3, 4, 5, 6, 7, 8] rfl (ci := 5) (q0 := 0) rfl rfl rfl rfl hl.1 rfl (Nat.le_of_ble_eq_true rfl) dX6_give_15 ⟨Nat.le_of_ble_eq_true rfl, Nat.le_of_ble_eq_true rfl⟩ (fun r3 hw => ?_)
    refine lv_if_ne (tgt := 27) hx hb dX6_give_18 (by decide) (fun c4 => ?_) (fun c4 => ?_)
    · replace hw := Eq.mp (if_neg c4) hw
      refine lv_aload_n hx hb dX6_give_27 rfl (lv_at hl 0 rfl) ?_
      refine gWVv (S := SM) (As := []) (rest := []) (wc := wM kI mo m0 m1 m2 m3 m4 m5 m6 m7 u) (wr := []) (cs1 := (fun zz : SM => wM kI mo m0 m1 m2 m3 m4 m5 m6 m7 zz)) (ws2 := (fun zz : SM => wM kI mo m0 m1 m2 m3 m4 m5 m6 m7 zz)) ⟨hx, hb, hml, hown, hts⟩ (fun sz => kX6_records l D kI kC kG kJ mo m0 m1 m2 m3 m4 m5 m6 m7 sz u _ hw) (cwV 0 hts gX6_give_X6_records rfl rfl rfl hdX6_records ⟨Nat.le_of_ble_eq_true rfl, Nat.le_of_ble_eq_true rfl⟩) hK hP hD hE hS hA [0, 1, 2, 3, 4, 5, 6, 7, 8] [] rfl rfl rfl rfl (by decide) [0, 1, 2, 3, 4, 5, 6, 7, 8] rfl (fun _ => rfl) (ci := 5) (q0 := 0) rfl rfl rfl rfl hl.1 rfl (Nat.le_of_ble_eq_true rfl) dX6_give_28 ⟨Nat.le_of_ble_eq_true rfl, Nat.le_of_ble_eq_true rfl⟩ (fun w5 H locs hw hP hD hS => ?_)
      have hP : va_P D vwCl (wM kI mo m0 m1 m2 m3 m4 m5 m6 m7 w5) H := hP
      have hD : va_D A (wM kI mo m0 m1 m2 m3 m4 m5 m6 m7 w5) := hD
      refine lv_aload_n hx hb dX6_give_31 rfl (lv_at hl 0 rfl) ?_
      refine lv_iload_n hx hb dX6_give_32 rfl (lv_at hl 1 rfl) ?_
      refine gWVi (S := SM) (As := [.int p0]) (rest := []) (wc := wM kI mo m0 m1 m2 m3 m4 m5 m6 m7 w5) (wr := []) (cs1 := (fun zz : SM => wM kI mo m0 m1 m2 m3 m4 m5 m6 m7 zz)) (ws2 := (fun zz : SM => wM kI mo m0 m1 m2 m3 m4 m5 m6 m7 zz)) ⟨hx, hb, hml, hown, hts⟩ (fun sz => kX6_gives l D kI kC kG kJ mo m0 m1 m2 m3 m4 m5 m6 m7 sz w5 p0 _ hw) (cwV 1 hts gX6_give_X6_gives rfl rfl rfl hdX6_gives ⟨Nat.le_of_ble_eq_true rfl, Nat.le_of_ble_eq_true rfl⟩) hK hP hD hE hS hA [0, 1, 2, 3, 4, 5, 6, 7, 8] [] rfl rfl rfl rfl (by decide) [0, 1, 2, 3, 4, 5, 6, 7, 8] rfl (fun _ => rfl) (ci := 5) (q0 := 0) rfl rfl rfl rfl hl.1 rfl (Nat.le_of_ble_eq_true rfl) dX6_give_33 ⟨Nat.le_of_ble_eq_true rfl, Nat.le_of_ble_eq_true rfl⟩ (fun r6 w6 H locs hw hP hD hS => ?_)
      have hP : va_P D vwCl (wM kI mo m0 m1 m2 m3 m4 m5 m6 m7 w6) H := hP
      have hD : va_D A (wM kI mo m0 m1 m2 m3 m4 m5 m6 m7 w6) := hD
      exact W.iret (v := r6) hx hb hr (fun t ht hW => ⟨⟨r6, w6, rfl, hw, by rw [ht]; exact hP, va_K.moved hW.alike hK, hD⟩, hS.F ht⟩) hS.2.2 dX6_give_36
    · replace hw := Eq.mp (if_pos c4) hw
      refine lv_aload_n hx hb dX6_give_21 rfl (lv_at hl 0 rfl) ?_
      refine lv_iconst (v := 2) hx hb dX6_give_22 (by decide) ?_
      refine gWVi (S := SM) (As := [.int 2]) (rest := []) (wc := wM kI mo m0 m1 m2 m3 m4 m5 m6 m7 u) (wr := []) (cs1 := (fun zz : SM => wM kI mo m0 m1 m2 m3 m4 m5 m6 m7 zz)) (ws2 := (fun zz : SM => wM kI mo m0 m1 m2 m3 m4 m5 m6 m7 zz)) ⟨hx, hb, hml, hown, hts⟩ (fun sz => kX6_fails l D kI kC kG kJ mo m0 m1 m2 m3 m4 m5 m6 m7 sz u 2 _ hw) (cwV 1 hts gX6_give_X6_fails rfl rfl rfl hdX6_fails ⟨Nat.le_of_ble_eq_true rfl, Nat.le_of_ble_eq_true rfl⟩) hK hP hD hE hS hA [0, 1, 2, 3, 4, 5, 6, 7, 8] [] rfl rfl rfl rfl (by decide) [0, 1, 2, 3, 4, 5, 6, 7, 8] rfl (fun _ => rfl) (ci := 5) (q0 := 0) rfl rfl rfl rfl hl.1 rfl (Nat.le_of_ble_eq_true rfl) dX6_give_23 ⟨Nat.le_of_ble_eq_true rfl, Nat.le_of_ble_eq_true rfl⟩ (fun r7 w7 H locs hw hP hD hS => ?_)
      have hP : va_P D vwCl (wM kI mo m0 m1 m2 m3 m4 m5 m6 m7 w7) H := hP
      have hD : va_D A (wM kI mo m0 m1 m2 m3 m4 m5 m6 m7 w7) := hD
      exact W.iret (v := r7) hx hb hr (fun t ht hW => ⟨⟨r7, w7, rfl, hw, by rw [ht]; exact hP, va_K.moved hW.alike hK, hD⟩, hS.F ht⟩) hS.2.2 dX6_give_26
  · replace hw := Eq.mp (if_pos c2) hw
    refine lv_aload_n hx hb dX6_give_7 rfl (lv_at hl 0 rfl) ?_
    refine lv_iconst (v := 1) hx hb dX6_give_8 (by decide) ?_
    refine gWVi (S := SM) (As := [.int 1]) (rest := []) (wc := wM kI mo m0 m1 m2 m3 m4 m5 m6 m7 u) (wr := []) (cs1 := (fun zz : SM => wM kI mo m0 m1 m2 m3 m4 m5 m6 m7 zz)) (ws2 := (fun zz : SM => wM kI mo m0 m1 m2 m3 m4 m5 m6 m7 zz)) ⟨hx, hb, hml, hown, hts⟩ (fun sz => kX6_fails l D kI kC kG kJ mo m0 m1 m2 m3 m4 m5 m6 m7 sz u 1 _ hw) (cwV 1 hts gX6_give_X6_fails rfl rfl rfl hdX6_fails ⟨Nat.le_of_ble_eq_true rfl, Nat.le_of_ble_eq_true rfl⟩) hK hP hD hE hS hA [0, 1, 2, 3, 4, 5, 6, 7, 8] [] rfl rfl rfl rfl (by decide) [0, 1, 2, 3, 4, 5, 6, 7, 8] rfl (fun _ => rfl) (ci := 5) (q0 := 0) rfl rfl rfl rfl hl.1 rfl (Nat.le_of_ble_eq_true rfl) dX6_give_9 ⟨Nat.le_of_ble_eq_true rfl, Nat.le_of_ble_eq_true rfl⟩ (fun r8 w8 H locs hw hP hD hS => ?_)
    have hP : va_P D vwCl (wM kI mo m0 m1 m2 m3 m4 m5 m6 m7 w8) H := hP
    have hD : va_D A (wM kI mo m0 m1 m2 m3 m4 m5 m6 m7 w8) := hD
    exact W.iret (v := r8) hx hb hr (fun t ht hW => ⟨⟨r8, w8, rfl, hw, by rw [ht]; exact hP, va_K.moved hW.alike hK, hD⟩, hS.F ht⟩) hS.2.2 dX6_give_12
set_option maxHeartbeats 4000000 in
set_option maxRecDepth 100000 in
theorem kX6_place (l : Launch) (D : va_G) (kI kC kG kJ : ClassId) (mo m0 m1 m2 m3 m4 m5 m6 m7 : Nat) (sz : Nat) (u : SM) (p0 : Int32) (Z : Int32 → SM → Prop) (hw : pX6_place p0 u Z) : Met l yX6_place wsX6_place ({ frames := 4, cells := 0, slots := 0, locals := 91 } : Room) (gPw D (gT kI kC kG kJ) [.ref mo, .int p0] (wM kI mo m0 m1 m2 m3 m4 m5 m6 m7 u) sz) (va_Qi Z (gB D (gT kI kC kG kJ) (fun (zz : SM) => wM kI mo m0 m1 m2 m3 m4 m5 m6 m7 zz) (va_A (wM kI mo m0 m1 m2 m3 m4 m5 m6 m7 u) sz)) (va_A (wM kI mo m0 m1 m2 m3 m4 m5 m6 m7 u) sz)) 0 0 (va_A (wM kI mo m0 m1 m2 m3 m4 m5 m6 m7 u) sz) := by
  refine Met.ofW (cc := cX6_place) (maxL := 2) (ret := (some .boolean)) (by decide) rfl ?_
  intro p e s m args below meth c s₁ B hml hv
  obtain ⟨rfl, hsz, hP, hK, hD0, hE⟩ := hv
  have hx := B.exec
  have hb := B.bytes
  have hr := B.returns
  have hts := atoms_spec (ws := wsX6_place) B.pre
  have hown : s.vm.findClass RX6 = some m.cls := findClass_of_methodNamed B.named
  have hlocks := B.notSynchronized
  subst hsz
  have hD := hD0.self (sz := s.heap.size)
  generalize hAe : va_A (wM kI mo m0 m1 m2 m3 m4 m5 m6 m7 u) s.heap.size = A at hD hE ⊢
  have hA : ∀ q : Nat, s.heap.size ≤ q → A q := fun q h => by rw [← hAe]; exact Or.inr h
  have hS : va_S A s.heap s.heap [] := va_S.rf
  clear hAe hD0
  have hl := lv_entry ([.ref mo, .int p0]) (n := 2) (Nat.le_of_ble_eq_true rfl)
  rw [lg_entry_eq]
  generalize (lg_sl ([.ref mo, .int p0]) ++ List.replicate (2 - (lg_sl ([.ref mo, .int p0])).length) Slot.unset).toArray = ls at hl ⊢
  have hl : lv_has ls 2 [(0, .ref mo), (1, .int p0)] := hl
  have hP : va_P D vwCl (wM kI mo m0 m1 m2 m3 m4 m5 m6 m7 u) s.heap := hP
  unfold pX6_place at hw
  refine lv_aload_n hx hb dX6_place_0 rfl (lv_at hl 0 rfl) ?_
  refine lv_iload_n hx hb dX6_place_1 rfl (lv_at hl 1 rfl) ?_
  refine gSi (As := [.int p0]) (rest := [.ref mo]) (cs' := ([] : va_W)) ⟨hx, hb, hml, hown, hts⟩ (kX6_isPlace l D kI kC kG kJ p0 _ hw) (va_cwS 1 hts gX6_place_X6_isPlace rfl rfl rfl hdX6_isPlace ⟨Nat.le_of_ble_eq_true rfl, Nat.le_of_ble_eq_true rfl⟩) hK hP hE hS [] rfl rfl hl.1 rfl (Nat.le_of_ble_eq_true rfl) dX6_place_2 ⟨Nat.le_of_ble_eq_true rfl, Nat.le_of_ble_eq_true rfl⟩ (fun r1 hw => ?_)
  refine lv_if_ne (tgt := 12) hx hb dX6_place_5 (by decide) (fun c2 => ?_) (fun c2 => ?_)
  · replace hw := Eq.mp (if_neg c2) hw
    refine lv_aload_n hx hb dX6_place_12 rfl (lv_at hl 0 rfl) ?_
    refine lv_iload_n hx hb dX6_place_13 rfl (lv_at hl 1 rfl) ?_
    refine gVi (As := [.int p0]) (rest := [.ref mo]) (cs' := wM kI mo m0 m1 m2 m3 m4 m5 m6 m7 u) ⟨hx, hb, hml, hown, hts⟩ (kX6_canPlace l D kI kC kG kJ mo m0 m1 m2 m3 m4 m5 m6 m7 u p0 _ hw) (cwV 1 hts gX6_place_X6_canPlace rfl rfl rfl hdX6_canPlace ⟨Nat.le_of_ble_eq_true rfl, Nat.le_of_ble_eq_true rfl⟩) hK hP hE hS [0, 1, 2, 3, 4, 5, 6, 7, 8] rfl (ci := 5) (q0 := 0) rfl rfl rfl rfl hl.1 rfl (Nat.le_of_ble_eq_true rfl) dX6_place_14 ⟨Nat.le_of_ble_eq_true rfl, Nat.le_of_ble_eq_true rfl⟩ (fun r3 hw => ?_)
    refine lv_if_eq (tgt := 24) hx hb dX6_place_17 (by decide) (fun c4 => ?_) (fun c4 => ?_)
    · replace hw := Eq.mp (if_pos c4) hw
      refine lv_iconst (v := 2) hx hb dX6_place_24 (by decide) ?_
      refine va_put (D := D) (ci := 5) (v := .int 2) (ty := tyX6 6) (C := RX6) (T := TX6) (N := 18) hx hb hts (fun _ h => List.mem_cons_of_mem _ (List.mem_append_right _ h)) tyX6 tyX6_ok nmX6 hown hK hP hD hS 0 rfl rfl 6 (by decide) (hts (.fieldLink RX6 34 "HazelGiftModel" "thrown" "I") (List.mem_of_getElem? (i := 1) rfl)) (fun _ h9 => h9) rfl (tyX6_ok 6 (by decide)) rfl rfl (Nat.le_of_ble_eq_true rfl) dX6_place_25 (fun H locs hP hD hS => ?_)
      have hP : va_P D vwCl (wM kI mo m0 m1 m2 m3 m4 m5 m6 m7 (u.1, u.2.1, u.2.2.1, u.2.2.2.1, u.2.2.2.2.1, u.2.2.2.2.2.1, u.2.2.2.2.2.2.1, u.2.2.2.2.2.2.2.1, u.2.2.2.2.2.2.2.2.1, u.2.2.2.2.2.2.2.2.2.1, 2, u.2.2.2.2.2.2.2.2.2.2.2.1, u.2.2.2.2.2.2.2.2.2.2.2.2.1, u.2.2.2.2.2.2.2.2.2.2.2.2.2.1, u.2.2.2.2.2.2.2.2.2.2.2.2.2.2.1, u.2.2.2.2.2.2.2.2.2.2.2.2.2.2.2.1, u.2.2.2.2.2.2.2.2.2.2.2.2.2.2.2.2.1, u.2.2.2.2.2.2.2.2.2.2.2.2.2.2.2.2.2)) H := hP
      have hD : va_D A (wM kI mo m0 m1 m2 m3 m4 m5 m6 m7 (u.1, u.2.1, u.2.2.1, u.2.2.2.1, u.2.2.2.2.1, u.2.2.2.2.2.1, u.2.2.2.2.2.2.1, u.2.2.2.2.2.2.2.1, u.2.2.2.2.2.2.2.2.1, u.2.2.2.2.2.2.2.2.2.1, 2, u.2.2.2.2.2.2.2.2.2.2.2.1, u.2.2.2.2.2.2.2.2.2.2.2.2.1, u.2.2.2.2.2.2.2.2.2.2.2.2.2.1, u.2.2.2.2.2.2.2.2.2.2.2.2.2.2.1, u.2.2.2.2.2.2.2.2.2.2.2.2.2.2.2.1, u.2.2.2.2.2.2.2.2.2.2.2.2.2.2.2.2.1, u.2.2.2.2.2.2.2.2.2.2.2.2.2.2.2.2.2)) := hD
      refine lv_aload_n hx hb dX6_place_28 rfl (lv_at hl 0 rfl) ?_
      refine va_get (D := D) (ci := 5) (v := .int 2) (C := RX6) (T := TX6) (N := 18) hx hb hts (fun _ h => List.mem_cons_of_mem _ (List.mem_append_right _ h)) hown hK hP 0 rfl rfl 6 (by decide) (hts (.fieldLink RX6 34 "HazelGiftModel" "thrown" "I") (List.mem_of_getElem? (i := 1) rfl)) (fun _ h9 => h9) rfl dX6_place_29 ?_
      refine lv_if_eq (tgt := 37) hx hb dX6_place_32 (by decide) (fun c5 => ?_) (fun c5 => ?_)
      · exact absurd c5 (by decide)
      refine lv_iconst (v := 0) hx hb dX6_place_35 (by decide) ?_
      exact W.zret (v := 0) hx hb hr rfl (fun t ht hW => ⟨⟨0, (u.1, u.2.1, u.2.2.1, u.2.2.2.1, u.2.2.2.2.1, u.2.2.2.2.2.1, u.2.2.2.2.2.2.1, u.2.2.2.2.2.2.2.1, u.2.2.2.2.2.2.2.2.1, u.2.2.2.2.2.2.2.2.2.1, 2, u.2.2.2.2.2.2.2.2.2.2.2.1, u.2.2.2.2.2.2.2.2.2.2.2.2.1, u.2.2.2.2.2.2.2.2.2.2.2.2.2.1, u.2.2.2.2.2.2.2.2.2.2.2.2.2.2.1, u.2.2.2.2.2.2.2.2.2.2.2.2.2.2.2.1, u.2.2.2.2.2.2.2.2.2.2.2.2.2.2.2.2.1, u.2.2.2.2.2.2.2.2.2.2.2.2.2.2.2.2.2), rfl, hw, by rw [ht]; exact hP, va_K.moved hW.alike hK, hD⟩, hS.F ht⟩) hS.2.2 dX6_place_36
    · replace hw := Eq.mp (if_neg c4) hw
      refine lv_iconst (v := 0) hx hb dX6_place_20 (by decide) ?_
      refine lv_goto (tgt := 25) hx hb dX6_place_21 (by decide) ?_
      refine va_put (D := D) (ci := 5) (v := .int 0) (ty := tyX6 6) (C := RX6) (T := TX6) (N := 18) hx hb hts (fun _ h => List.mem_cons_of_mem _ (List.mem_append_right _ h)) tyX6 tyX6_ok nmX6 hown hK hP hD hS 0 rfl rfl 6 (by decide) (hts (.fieldLink RX6 34 "HazelGiftModel" "thrown" "I") (List.mem_of_getElem? (i := 1) rfl)) (fun _ h9 => h9) rfl (tyX6_ok 6 (by decide)) rfl rfl (Nat.le_of_ble_eq_true rfl) dX6_place_25 (fun H locs hP hD hS => ?_)
      have hP : va_P D vwCl (wM kI mo m0 m1 m2 m3 m4 m5 m6 m7 (u.1, u.2.1, u.2.2.1, u.2.2.2.1, u.2.2.2.2.1, u.2.2.2.2.2.1, u.2.2.2.2.2.2.1, u.2.2.2.2.2.2.2.1, u.2.2.2.2.2.2.2.2.1, u.2.2.2.2.2.2.2.2.2.1, 0, u.2.2.2.2.2.2.2.2.2.2.2.1, u.2.2.2.2.2.2.2.2.2.2.2.2.1, u.2.2.2.2.2.2.2.2.2.2.2.2.2.1, u.2.2.2.2.2.2.2.2.2.2.2.2.2.2.1, u.2.2.2.2.2.2.2.2.2.2.2.2.2.2.2.1, u.2.2.2.2.2.2.2.2.2.2.2.2.2.2.2.2.1, u.2.2.2.2.2.2.2.2.2.2.2.2.2.2.2.2.2)) H := hP
      have hD : va_D A (wM kI mo m0 m1 m2 m3 m4 m5 m6 m7 (u.1, u.2.1, u.2.2.1, u.2.2.2.1, u.2.2.2.2.1, u.2.2.2.2.2.1, u.2.2.2.2.2.2.1, u.2.2.2.2.2.2.2.1, u.2.2.2.2.2.2.2.2.1, u.2.2.2.2.2.2.2.2.2.1, 0, u.2.2.2.2.2.2.2.2.2.2.2.1, u.2.2.2.2.2.2.2.2.2.2.2.2.1, u.2.2.2.2.2.2.2.2.2.2.2.2.2.1, u.2.2.2.2.2.2.2.2.2.2.2.2.2.2.1, u.2.2.2.2.2.2.2.2.2.2.2.2.2.2.2.1, u.2.2.2.2.2.2.2.2.2.2.2.2.2.2.2.2.1, u.2.2.2.2.2.2.2.2.2.2.2.2.2.2.2.2.2)) := hD
      refine lv_aload_n hx hb dX6_place_28 rfl (lv_at hl 0 rfl) ?_
      refine va_get (D := D) (ci := 5) (v := .int 0) (C := RX6) (T := TX6) (N := 18) hx hb hts (fun _ h => List.mem_cons_of_mem _ (List.mem_append_right _ h)) hown hK hP 0 rfl rfl 6 (by decide) (hts (.fieldLink RX6 34 "HazelGiftModel" "thrown" "I") (List.mem_of_getElem? (i := 1) rfl)) (fun _ h9 => h9) rfl dX6_place_29 ?_
      refine lv_if_eq (tgt := 37) hx hb dX6_place_32 (by decide) (fun c6 => ?_) (fun c6 => ?_)
      · skip
        refine lv_aload_n hx hb dX6_place_37 rfl (lv_at hl 0 rfl) ?_
        refine gWVv (S := SM) (As := []) (rest := []) (wc := wM kI mo m0 m1 m2 m3 m4 m5 m6 m7 (u.1, u.2.1, u.2.2.1, u.2.2.2.1, u.2.2.2.2.1, u.2.2.2.2.2.1, u.2.2.2.2.2.2.1, u.2.2.2.2.2.2.2.1, u.2.2.2.2.2.2.2.2.1, u.2.2.2.2.2.2.2.2.2.1, 0, u.2.2.2.2.2.2.2.2.2.2.2.1, u.2.2.2.2.2.2.2.2.2.2.2.2.1, u.2.2.2.2.2.2.2.2.2.2.2.2.2.1, u.2.2.2.2.2.2.2.2.2.2.2.2.2.2.1, u.2.2.2.2.2.2.2.2.2.2.2.2.2.2.2.1, u.2.2.2.2.2.2.2.2.2.2.2.2.2.2.2.2.1, u.2.2.2.2.2.2.2.2.2.2.2.2.2.2.2.2.2)) (wr := []) (cs1 := (fun zz : SM => wM kI mo m0 m1 m2 m3 m4 m5 m6 m7 zz)) (ws2 := (fun zz : SM => wM kI mo m0 m1 m2 m3 m4 m5 m6 m7 zz)) ⟨hx, hb, hml, hown, hts⟩ (fun sz => kX6_records l D kI kC kG kJ mo m0 m1 m2 m3 m4 m5 m6 m7 sz (u.1, u.2.1, u.2.2.1, u.2.2.2.1, u.2.2.2.2.1, u.2.2.2.2.2.1, u.2.2.2.2.2.2.1, u.2.2.2.2.2.2.2.1, u.2.2.2.2.2.2.2.2.1, u.2.2.2.2.2.2.2.2.2.1, 0, u.2.2.2.2.2.2.2.2.2.2.2.1, u.2.2.2.2.2.2.2.2.2.2.2.2.1, u.2.2.2.2.2.2.2.2.2.2.2.2.2.1, u.2.2.2.2.2.2.2.2.2.2.2.2.2.2.1, u.2.2.2.2.2.2.2.2.2.2.2.2.2.2.2.1, u.2.2.2.2.2.2.2.2.2.2.2.2.2.2.2.2.1, u.2.2.2.2.2.2.2.2.2.2.2.2.2.2.2.2.2) _ hw) (cwV 0 hts gX6_place_X6_records rfl rfl rfl hdX6_records ⟨Nat.le_of_ble_eq_true rfl, Nat.le_of_ble_eq_true rfl⟩) hK hP hD hE hS hA [0, 1, 2, 3, 4, 5, 6, 7, 8] [] rfl rfl rfl rfl (by decide) [0, 1, 2, 3, 4, 5, 6, 7, 8] rfl (fun _ => rfl) (ci := 5) (q0 := 0) rfl rfl rfl rfl hl.1 rfl (Nat.le_of_ble_eq_true rfl) dX6_place_38 ⟨Nat.le_of_ble_eq_true rfl, Nat.le_of_ble_eq_true rfl⟩ (fun w7 H locs hw hP hD hS => ?_)
        have hP : va_P D vwCl (wM kI mo m0 m1 m2 m3 m4 m5 m6 m7 w7) H := hP
        have hD : va_D A (wM kI mo m0 m1 m2 m3 m4 m5 m6 m7 w7) := hD
        refine lv_aload_n hx hb dX6_place_41 rfl (lv_at hl 0 rfl) ?_
        refine lv_iload_n hx hb dX6_place_42 rfl (lv_at hl 1 rfl) ?_
        refine gWVi (S := SM) (As := [.int p0]) (rest := []) (wc := wM kI mo m0 m1 m2 m3 m4 m5 m6 m7 w7) (wr := []) (cs1 := (fun zz : SM => wM kI mo m0 m1 m2 m3 m4 m5 m6 m7 zz)) (ws2 := (fun zz : SM => wM kI mo m0 m1 m2 m3 m4 m5 m6 m7 zz)) ⟨hx, hb, hml, hown, hts⟩ (fun sz => kX6_places l D kI kC kG kJ mo m0 m1 m2 m3 m4 m5 m6 m7 sz w7 p0 _ hw) (cwV 1 hts gX6_place_X6_places rfl rfl rfl hdX6_places ⟨Nat.le_of_ble_eq_true rfl, Nat.le_of_ble_eq_true rfl⟩) hK hP hD hE hS hA [0, 1, 2, 3, 4, 5, 6, 7, 8] [] rfl rfl rfl rfl (by decide) [0, 1, 2, 3, 4, 5, 6, 7, 8] rfl (fun _ => rfl) (ci := 5) (q0 := 0) rfl rfl rfl rfl hl.1 rfl (Nat.le_of_ble_eq_true rfl) dX6_place_43 ⟨Nat.le_of_ble_eq_true rfl, Nat.le_of_ble_eq_true rfl⟩ (fun r8 w8 H locs hw hP hD hS => ?_)
        have hP : va_P D vwCl (wM kI mo m0 m1 m2 m3 m4 m5 m6 m7 w8) H := hP
        have hD : va_D A (wM kI mo m0 m1 m2 m3 m4 m5 m6 m7 w8) := hD
        obtain ⟨hn, hw⟩ := hw
        exact W.zret (v := r8) hx hb hr hn (fun t ht hW => ⟨⟨r8, w8, rfl, hw, by rw [ht]; exact hP, va_K.moved hW.alike hK, hD⟩, hS.F ht⟩) hS.2.2 dX6_place_46
      · exact absurd (by decide) c6
  · replace hw := Eq.mp (if_pos c2) hw
    refine lv_iconst (v := 1) hx hb dX6_place_8 (by decide) ?_
    refine lv_goto (tgt := 25) hx hb dX6_place_9 (by decide) ?_
    refine va_put (D := D) (ci := 5) (v := .int 1) (ty := tyX6 6) (C := RX6) (T := TX6) (N := 18) hx hb hts (fun _ h => List.mem_cons_of_mem _ (List.mem_append_right _ h)) tyX6 tyX6_ok nmX6 hown hK hP hD hS 0 rfl rfl 6 (by decide) (hts (.fieldLink RX6 34 "HazelGiftModel" "thrown" "I") (List.mem_of_getElem? (i := 1) rfl)) (fun _ h9 => h9) rfl (tyX6_ok 6 (by decide)) rfl rfl (Nat.le_of_ble_eq_true rfl) dX6_place_25 (fun H locs hP hD hS => ?_)
    have hP : va_P D vwCl (wM kI mo m0 m1 m2 m3 m4 m5 m6 m7 (u.1, u.2.1, u.2.2.1, u.2.2.2.1, u.2.2.2.2.1, u.2.2.2.2.2.1, u.2.2.2.2.2.2.1, u.2.2.2.2.2.2.2.1, u.2.2.2.2.2.2.2.2.1, u.2.2.2.2.2.2.2.2.2.1, 1, u.2.2.2.2.2.2.2.2.2.2.2.1, u.2.2.2.2.2.2.2.2.2.2.2.2.1, u.2.2.2.2.2.2.2.2.2.2.2.2.2.1, u.2.2.2.2.2.2.2.2.2.2.2.2.2.2.1, u.2.2.2.2.2.2.2.2.2.2.2.2.2.2.2.1, u.2.2.2.2.2.2.2.2.2.2.2.2.2.2.2.2.1, u.2.2.2.2.2.2.2.2.2.2.2.2.2.2.2.2.2)) H := hP
    have hD : va_D A (wM kI mo m0 m1 m2 m3 m4 m5 m6 m7 (u.1, u.2.1, u.2.2.1, u.2.2.2.1, u.2.2.2.2.1, u.2.2.2.2.2.1, u.2.2.2.2.2.2.1, u.2.2.2.2.2.2.2.1, u.2.2.2.2.2.2.2.2.1, u.2.2.2.2.2.2.2.2.2.1, 1, u.2.2.2.2.2.2.2.2.2.2.2.1, u.2.2.2.2.2.2.2.2.2.2.2.2.1, u.2.2.2.2.2.2.2.2.2.2.2.2.2.1, u.2.2.2.2.2.2.2.2.2.2.2.2.2.2.1, u.2.2.2.2.2.2.2.2.2.2.2.2.2.2.2.1, u.2.2.2.2.2.2.2.2.2.2.2.2.2.2.2.2.1, u.2.2.2.2.2.2.2.2.2.2.2.2.2.2.2.2.2)) := hD
    refine lv_aload_n hx hb dX6_place_28 rfl (lv_at hl 0 rfl) ?_
    refine va_get (D := D) (ci := 5) (v := .int 1) (C := RX6) (T := TX6) (N := 18) hx hb hts (fun _ h => List.mem_cons_of_mem _ (List.mem_append_right _ h)) hown hK hP 0 rfl rfl 6 (by decide) (hts (.fieldLink RX6 34 "HazelGiftModel" "thrown" "I") (List.mem_of_getElem? (i := 1) rfl)) (fun _ h9 => h9) rfl dX6_place_29 ?_
    refine lv_if_eq (tgt := 37) hx hb dX6_place_32 (by decide) (fun c9 => ?_) (fun c9 => ?_)
    · exact absurd c9 (by decide)
    refine lv_iconst (v := 0) hx hb dX6_place_35 (by decide) ?_
    exact W.zret (v := 0) hx hb hr rfl (fun t ht hW => ⟨⟨0, (u.1, u.2.1, u.2.2.1, u.2.2.2.1, u.2.2.2.2.1, u.2.2.2.2.2.1, u.2.2.2.2.2.2.1, u.2.2.2.2.2.2.2.1, u.2.2.2.2.2.2.2.2.1, u.2.2.2.2.2.2.2.2.2.1, 1, u.2.2.2.2.2.2.2.2.2.2.2.1, u.2.2.2.2.2.2.2.2.2.2.2.2.1, u.2.2.2.2.2.2.2.2.2.2.2.2.2.1, u.2.2.2.2.2.2.2.2.2.2.2.2.2.2.1, u.2.2.2.2.2.2.2.2.2.2.2.2.2.2.2.1, u.2.2.2.2.2.2.2.2.2.2.2.2.2.2.2.2.1, u.2.2.2.2.2.2.2.2.2.2.2.2.2.2.2.2.2), rfl, hw, by rw [ht]; exact hP, va_K.moved hW.alike hK, hD⟩, hS.F ht⟩) hS.2.2 dX6_place_36
set_option maxHeartbeats 4000000 in
set_option maxRecDepth 100000 in
theorem kX6_restart (l : Launch) (D : va_G) (kI kC kG kJ : ClassId) (mo m0 m1 m2 m3 m4 m5 m6 m7 : Nat) (sz : Nat) (u : SM) (p0 : Int32) (Z : Int32 → SM → Prop) (hw : pX6_restart p0 u Z) : Met l yX6_restart wsX6_restart ({ frames := 1, cells := 0, slots := 0, locals := 25 } : Room) (gPw D (gT kI kC kG kJ) [.ref mo, .int p0] (wM kI mo m0 m1 m2 m3 m4 m5 m6 m7 u) sz) (va_Qi Z (gB D (gT kI kC kG kJ) (fun (zz : SM) => wM kI mo m0 m1 m2 m3 m4 m5 m6 m7 zz) (va_A (wM kI mo m0 m1 m2 m3 m4 m5 m6 m7 u) sz)) (va_A (wM kI mo m0 m1 m2 m3 m4 m5 m6 m7 u) sz)) 0 0 (va_A (wM kI mo m0 m1 m2 m3 m4 m5 m6 m7 u) sz) := by
  refine Met.ofW (cc := cX6_restart) (maxL := 4) (ret := (some .int)) (by decide) rfl ?_
  intro p e s m args below meth c s₁ B hml hv
  obtain ⟨rfl, hsz, hP, hK, hD0, hE⟩ := hv
  have hx := B.exec
  have hb := B.bytes
  have hr := B.returns
  have hts := atoms_spec (ws := wsX6_restart) B.pre
  have hown : s.vm.findClass RX6 = some m.cls := findClass_of_methodNamed B.named
  have hlocks := B.notSynchronized
  subst hsz
  have hD := hD0.self (sz := s.heap.size)
  generalize hAe : va_A (wM kI mo m0 m1 m2 m3 m4 m5 m6 m7 u) s.heap.size = A at hD hE ⊢
  have hA : ∀ q : Nat, s.heap.size ≤ q → A q := fun q h => by rw [← hAe]; exact Or.inr h
  have hS : va_S A s.heap s.heap [] := va_S.rf
  clear hAe hD0
  have hl := lv_entry ([.ref mo, .int p0]) (n := 4) (Nat.le_of_ble_eq_true rfl)
  rw [lg_entry_eq]
  generalize (lg_sl ([.ref mo, .int p0]) ++ List.replicate (4 - (lg_sl ([.ref mo, .int p0])).length) Slot.unset).toArray = ls at hl ⊢
  have hl : lv_has ls 4 [(0, .ref mo), (1, .int p0)] := hl
  have hP : va_P D vwCl (wM kI mo m0 m1 m2 m3 m4 m5 m6 m7 u) s.heap := hP
  have L27 : ∀ (v1 : Int32) (v2 : Int32), ∀ (n : Nat), ∀ (v3 : Int32) (u : SM) (H : Heap) (locs : List Loc) (ls : Array Slot), va_P D vwCl (wM kI mo m0 m1 m2 m3 m4 m5 m6 m7 u) H → va_D A (wM kI mo m0 m1 m2 m3 m4 m5 m6 m7 u) → va_S A s.heap H locs → lv_has ls 4 [(0, .ref mo), (1, .int v1), (2, .int v2), (3, .int v3)] → pX6_restart_27 Z v1 v2 n v3 u → W p l e (headSpec wsX6_restart ({ frames := 1, cells := 0, slots := 0, locals := 25 } : Room)).room s m ([.ref mo, .int p0] : List Value).toArray below meth c H locs 0 0 (MQ below (va_Qi Z (gB D (gT kI kC kG kJ) (fun (zz : SM) => wM kI mo m0 m1 m2 m3 m4 m5 m6 m7 zz) A) A) ([.ref mo, .int p0] : List Value).toArray s 0 0 A) (F0 m 27 ls []) := by
    intro v1 v2 n
    induction n with
    | zero => intro v3 u H locs ls hP hD hS hl hw; exact hw.elim
    | succ n ih =>
    intro v3 u H locs ls hP hD hS hl hw
    rw [pX6_restart_27] at hw
    refine lv_iload_n hx hb dX6_restart_27 rfl (lv_at hl 3 rfl) ?_
    refine lv_bipush (v := 16) hx hb dX6_restart_28 (by decide) ?_
    refine lv_icmp_gt (tgt := 46) hx hb dX6_restart_30 (by decide) (fun c5 => ?_) (fun c5 => ?_)
    · replace hw := Eq.mp (if_pos c5) hw
      refine lv_aload_n hx hb dX6_restart_46 rfl (lv_at hl 0 rfl) ?_
      refine va_get (D := D) (ci := 5) (v := .ref m0) (C := RX6) (T := TX6) (N := 18) hx hb hts (fun _ h => List.mem_cons_of_mem _ (List.mem_append_right _ h)) hown hK hP 0 rfl rfl 0 (by decide) (hts (.fieldLink RX6 7 "HazelGiftModel" "all" "[I") (List.mem_of_getElem? (i := 1) rfl)) (fun _ h9 => h9) rfl dX6_restart_47 ?_
      refine lv_bipush (v := 17) hx hb dX6_restart_50 (by decide) ?_
      refine lv_iload_n hx hb dX6_restart_52 rfl (lv_at hl 1 rfl) ?_
      refine gIast (k := 17) hx hb hK hP hD hS 1 0 rfl rfl (gin (by decide)) (by decide) dX6_restart_53 (fun H locs hP hD hS => ?_)
      have hP : va_P D vwCl (wM kI mo m0 m1 m2 m3 m4 m5 m6 m7 ((upd u.1 17 v1), u.2.1, u.2.2.1, u.2.2.2.1, u.2.2.2.2.1, u.2.2.2.2.2.1, u.2.2.2.2.2.2.1, u.2.2.2.2.2.2.2.1, u.2.2.2.2.2.2.2.2.1, u.2.2.2.2.2.2.2.2.2.1, u.2.2.2.2.2.2.2.2.2.2.1, u.2.2.2.2.2.2.2.2.2.2.2.1, u.2.2.2.2.2.2.2.2.2.2.2.2.1, u.2.2.2.2.2.2.2.2.2.2.2.2.2.1, u.2.2.2.2.2.2.2.2.2.2.2.2.2.2.1, u.2.2.2.2.2.2.2.2.2.2.2.2.2.2.2.1, u.2.2.2.2.2.2.2.2.2.2.2.2.2.2.2.2.1, u.2.2.2.2.2.2.2.2.2.2.2.2.2.2.2.2.2)) H := hP
      have hD : va_D A (wM kI mo m0 m1 m2 m3 m4 m5 m6 m7 ((upd u.1 17 v1), u.2.1, u.2.2.1, u.2.2.2.1, u.2.2.2.2.1, u.2.2.2.2.2.1, u.2.2.2.2.2.2.1, u.2.2.2.2.2.2.2.1, u.2.2.2.2.2.2.2.2.1, u.2.2.2.2.2.2.2.2.2.1, u.2.2.2.2.2.2.2.2.2.2.1, u.2.2.2.2.2.2.2.2.2.2.2.1, u.2.2.2.2.2.2.2.2.2.2.2.2.1, u.2.2.2.2.2.2.2.2.2.2.2.2.2.1, u.2.2.2.2.2.2.2.2.2.2.2.2.2.2.1, u.2.2.2.2.2.2.2.2.2.2.2.2.2.2.2.1, u.2.2.2.2.2.2.2.2.2.2.2.2.2.2.2.2.1, u.2.2.2.2.2.2.2.2.2.2.2.2.2.2.2.2.2)) := hD
      refine lv_aload_n hx hb dX6_restart_54 rfl (lv_at hl 0 rfl) ?_
      refine va_get (D := D) (ci := 5) (v := .ref m0) (C := RX6) (T := TX6) (N := 18) hx hb hts (fun _ h => List.mem_cons_of_mem _ (List.mem_append_right _ h)) hown hK hP 0 rfl rfl 0 (by decide) (hts (.fieldLink RX6 7 "HazelGiftModel" "all" "[I") (List.mem_of_getElem? (i := 1) rfl)) (fun _ h9 => h9) rfl dX6_restart_55 ?_
      refine lv_bipush (v := 20) hx hb dX6_restart_58 (by decide) ?_
      refine lv_iconst (v := 0) hx hb dX6_restart_60 (by decide) ?_
      refine gIast (k := 20) hx hb hK hP hD hS 1 0 rfl rfl (gin (by decide)) (by decide) dX6_restart_61 (fun H locs hP hD hS => ?_)
      have hP : va_P D vwCl (wM kI mo m0 m1 m2 m3 m4 m5 m6 m7 ((upd (upd u.1 17 v1) 20 0), u.2.1, u.2.2.1, u.2.2.2.1, u.2.2.2.2.1, u.2.2.2.2.2.1, u.2.2.2.2.2.2.1, u.2.2.2.2.2.2.2.1, u.2.2.2.2.2.2.2.2.1, u.2.2.2.2.2.2.2.2.2.1, u.2.2.2.2.2.2.2.2.2.2.1, u.2.2.2.2.2.2.2.2.2.2.2.1, u.2.2.2.2.2.2.2.2.2.2.2.2.1, u.2.2.2.2.2.2.2.2.2.2.2.2.2.1, u.2.2.2.2.2.2.2.2.2.2.2.2.2.2.1, u.2.2.2.2.2.2.2.2.2.2.2.2.2.2.2.1, u.2.2.2.2.2.2.2.2.2.2.2.2.2.2.2.2.1, u.2.2.2.2.2.2.2.2.2.2.2.2.2.2.2.2.2)) H := hP
      have hD : va_D A (wM kI mo m0 m1 m2 m3 m4 m5 m6 m7 ((upd (upd u.1 17 v1) 20 0), u.2.1, u.2.2.1, u.2.2.2.1, u.2.2.2.2.1, u.2.2.2.2.2.1, u.2.2.2.2.2.2.1, u.2.2.2.2.2.2.2.1, u.2.2.2.2.2.2.2.2.1, u.2.2.2.2.2.2.2.2.2.1, u.2.2.2.2.2.2.2.2.2.2.1, u.2.2.2.2.2.2.2.2.2.2.2.1, u.2.2.2.2.2.2.2.2.2.2.2.2.1, u.2.2.2.2.2.2.2.2.2.2.2.2.2.1, u.2.2.2.2.2.2.2.2.2.2.2.2.2.2.1, u.2.2.2.2.2.2.2.2.2.2.2.2.2.2.2.1, u.2.2.2.2.2.2.2.2.2.2.2.2.2.2.2.2.1, u.2.2.2.2.2.2.2.2.2.2.2.2.2.2.2.2.2)) := hD
      refine lv_iload_n hx hb dX6_restart_62 rfl (lv_at hl 2 rfl) ?_
      exact W.iret (v := v2) hx hb hr (fun t ht hW => ⟨⟨v2, ((upd (upd u.1 17 v1) 20 0), u.2.1, u.2.2.1, u.2.2.2.1, u.2.2.2.2.1, u.2.2.2.2.2.1, u.2.2.2.2.2.2.1, u.2.2.2.2.2.2.2.1, u.2.2.2.2.2.2.2.2.1, u.2.2.2.2.2.2.2.2.2.1, u.2.2.2.2.2.2.2.2.2.2.1, u.2.2.2.2.2.2.2.2.2.2.2.1, u.2.2.2.2.2.2.2.2.2.2.2.2.1, u.2.2.2.2.2.2.2.2.2.2.2.2.2.1, u.2.2.2.2.2.2.2.2.2.2.2.2.2.2.1, u.2.2.2.2.2.2.2.2.2.2.2.2.2.2.2.1, u.2.2.2.2.2.2.2.2.2.2.2.2.2.2.2.2.1, u.2.2.2.2.2.2.2.2.2.2.2.2.2.2.2.2.2), rfl, hw, by rw [ht]; exact hP, va_K.moved hW.alike hK, hD⟩, hS.F ht⟩) hS.2.2 dX6_restart_63
    · replace hw := Eq.mp (if_neg c5) hw
      refine lv_aload_n hx hb dX6_restart_33 rfl (lv_at hl 0 rfl) ?_
      refine va_get (D := D) (ci := 5) (v := .ref m0) (C := RX6) (T := TX6) (N := 18) hx hb hts (fun _ h => List.mem_cons_of_mem _ (List.mem_append_right _ h)) hown hK hP 0 rfl rfl 0 (by decide) (hts (.fieldLink RX6 7 "HazelGiftModel" "all" "[I") (List.mem_of_getElem? (i := 1) rfl)) (fun _ h9 => h9) rfl dX6_restart_34 ?_
      refine lv_iload_n hx hb dX6_restart_37 rfl (lv_at hl 3 rfl) ?_
      refine lv_iconst (v := 0) hx hb dX6_restart_38 (by decide) ?_
      obtain ⟨hi6, hw⟩ := hw
      refine gIast (k := (v3).toNatClampNeg) hx hb hK hP hD hS 1 0 rfl rfl hi6 rfl dX6_restart_39 (fun H locs hP hD hS => ?_)
      have hP : va_P D vwCl (wM kI mo m0 m1 m2 m3 m4 m5 m6 m7 ((upd u.1 (v3).toNatClampNeg 0), u.2.1, u.2.2.1, u.2.2.2.1, u.2.2.2.2.1, u.2.2.2.2.2.1, u.2.2.2.2.2.2.1, u.2.2.2.2.2.2.2.1, u.2.2.2.2.2.2.2.2.1, u.2.2.2.2.2.2.2.2.2.1, u.2.2.2.2.2.2.2.2.2.2.1, u.2.2.2.2.2.2.2.2.2.2.2.1, u.2.2.2.2.2.2.2.2.2.2.2.2.1, u.2.2.2.2.2.2.2.2.2.2.2.2.2.1, u.2.2.2.2.2.2.2.2.2.2.2.2.2.2.1, u.2.2.2.2.2.2.2.2.2.2.2.2.2.2.2.1, u.2.2.2.2.2.2.2.2.2.2.2.2.2.2.2.2.1, u.2.2.2.2.2.2.2.2.2.2.2.2.2.2.2.2.2)) H := hP
      have hD : va_D A (wM kI mo m0 m1 m2 m3 m4 m5 m6 m7 ((upd u.1 (v3).toNatClampNeg 0), u.2.1, u.2.2.1, u.2.2.2.1, u.2.2.2.2.1, u.2.2.2.2.2.1, u.2.2.2.2.2.2.1, u.2.2.2.2.2.2.2.1, u.2.2.2.2.2.2.2.2.1, u.2.2.2.2.2.2.2.2.2.1, u.2.2.2.2.2.2.2.2.2.2.1, u.2.2.2.2.2.2.2.2.2.2.2.1, u.2.2.2.2.2.2.2.2.2.2.2.2.1, u.2.2.2.2.2.2.2.2.2.2.2.2.2.1, u.2.2.2.2.2.2.2.2.2.2.2.2.2.2.1, u.2.2.2.2.2.2.2.2.2.2.2.2.2.2.2.1, u.2.2.2.2.2.2.2.2.2.2.2.2.2.2.2.2.1, u.2.2.2.2.2.2.2.2.2.2.2.2.2.2.2.2.2)) := hD
      obtain ⟨x7, ex7⟩ : ∃ y : Int32, y = (v3 + 1) := ⟨_, rfl⟩
      replace hw := hw x7 ex7
      refine lv_iinc (v := x7) (lv' := [(3, .int x7), (0, .ref mo), (1, .int v1), (2, .int v2)]) hx hb dX6_restart_40 hl (k := 3) rfl (by rw [ex7]; rfl) (by decide) rfl (fun ls hl => ?_)
      refine lv_goto (tgt := 27) hx hb dX6_restart_43 (by decide) ?_
      exact ih x7 ((upd u.1 (v3).toNatClampNeg 0), u.2.1, u.2.2.1, u.2.2.2.1, u.2.2.2.2.1, u.2.2.2.2.2.1, u.2.2.2.2.2.2.1, u.2.2.2.2.2.2.2.1, u.2.2.2.2.2.2.2.2.1, u.2.2.2.2.2.2.2.2.2.1, u.2.2.2.2.2.2.2.2.2.2.1, u.2.2.2.2.2.2.2.2.2.2.2.1, u.2.2.2.2.2.2.2.2.2.2.2.2.1, u.2.2.2.2.2.2.2.2.2.2.2.2.2.1, u.2.2.2.2.2.2.2.2.2.2.2.2.2.2.1, u.2.2.2.2.2.2.2.2.2.2.2.2.2.2.2.1, u.2.2.2.2.2.2.2.2.2.2.2.2.2.2.2.2.1, u.2.2.2.2.2.2.2.2.2.2.2.2.2.2.2.2.2) H locs ls hP hD hS (lv_sub hl [1, 2, 3, 0] rfl) hw
  unfold pX6_restart at hw
  refine lv_iload_n hx hb dX6_restart_0 rfl (lv_at hl 1 rfl) ?_
  refine lv_i2l (v := p0.toInt64) hx hb dX6_restart_1 rfl ?_
  refine lv_lconst (v := 0) hx hb dX6_restart_2 (by decide) ?_
  refine lv_lconst (v := 1) hx hb dX6_restart_3 (by decide) ?_
  refine gSi (As := [.long p0.toInt64, .long 0, .long 1]) (rest := []) (cs' := ([] : va_W)) ⟨hx, hb, hml, hown, hts⟩ (kX6_in l D kI kC kG kJ p0.toInt64 0 1 _ hw) (va_cwS 3 hts gX6_restart_X6_in rfl rfl rfl hdX6_in ⟨Nat.le_of_ble_eq_true rfl, Nat.le_of_ble_eq_true rfl⟩) hK hP hE hS [] rfl rfl hl.1 rfl (Nat.le_of_ble_eq_true rfl) dX6_restart_4 ⟨Nat.le_of_ble_eq_true rfl, Nat.le_of_ble_eq_true rfl⟩ (fun r1 hw => ?_)
  refine lv_if_ne (tgt := 16) hx hb dX6_restart_7 (by decide) (fun c2 => ?_) (fun c2 => ?_)
  · replace hw := Eq.mp (if_neg c2) hw
    refine lv_aload_n hx hb dX6_restart_16 rfl (lv_at hl 0 rfl) ?_
    refine gWVv (S := SM) (As := []) (rest := []) (wc := wM kI mo m0 m1 m2 m3 m4 m5 m6 m7 u) (wr := []) (cs1 := (fun zz : SM => wM kI mo m0 m1 m2 m3 m4 m5 m6 m7 zz)) (ws2 := (fun zz : SM => wM kI mo m0 m1 m2 m3 m4 m5 m6 m7 zz)) ⟨hx, hb, hml, hown, hts⟩ (fun sz => kX6_records l D kI kC kG kJ mo m0 m1 m2 m3 m4 m5 m6 m7 sz u _ hw) (cwV 0 hts gX6_restart_X6_records rfl rfl rfl hdX6_records ⟨Nat.le_of_ble_eq_true rfl, Nat.le_of_ble_eq_true rfl⟩) hK hP hD hE hS hA [0, 1, 2, 3, 4, 5, 6, 7, 8] [] rfl rfl rfl rfl (by decide) [0, 1, 2, 3, 4, 5, 6, 7, 8] rfl (fun _ => rfl) (ci := 5) (q0 := 0) rfl rfl rfl rfl hl.1 rfl (Nat.le_of_ble_eq_true rfl) dX6_restart_17 ⟨Nat.le_of_ble_eq_true rfl, Nat.le_of_ble_eq_true rfl⟩ (fun w3 H locs hw hP hD hS => ?_)
    have hP : va_P D vwCl (wM kI mo m0 m1 m2 m3 m4 m5 m6 m7 w3) H := hP
    have hD : va_D A (wM kI mo m0 m1 m2 m3 m4 m5 m6 m7 w3) := hD
    refine lv_aload_n hx hb dX6_restart_20 rfl (lv_at hl 0 rfl) ?_
    refine gVi (As := []) (rest := []) (cs' := wM kI mo m0 m1 m2 m3 m4 m5 m6 m7 w3) ⟨hx, hb, hml, hown, hts⟩ (kX6_count l D kI kC kG kJ mo m0 m1 m2 m3 m4 m5 m6 m7 w3 _ hw) (cwV 0 hts gX6_restart_X6_count rfl rfl rfl hdX6_count ⟨Nat.le_of_ble_eq_true rfl, Nat.le_of_ble_eq_true rfl⟩) hK hP hE hS [0, 1, 2, 3, 4, 5, 6, 7, 8] rfl (ci := 5) (q0 := 0) rfl rfl rfl rfl hl.1 rfl (Nat.le_of_ble_eq_true rfl) dX6_restart_21 ⟨Nat.le_of_ble_eq_true rfl, Nat.le_of_ble_eq_true rfl⟩ (fun r4 hw => ?_)
    refine lv_istore_n (lv' := [(2, .int r4), (0, .ref mo), (1, .int p0)]) hx hb dX6_restart_24 rfl hl (by decide) rfl (fun ls hl => ?_)
    refine lv_iconst (v := 0) hx hb dX6_restart_25 (by decide) ?_
    refine lv_istore_n (lv' := [(3, .int 0), (2, .int r4), (0, .ref mo), (1, .int p0)]) hx hb dX6_restart_26 rfl hl (by decide) rfl (fun ls hl => ?_)
    obtain ⟨n9, hw⟩ := hw
    exact L27 p0 r4 n9 0 w3 H locs ls hP hD hS (lv_sub hl [2, 3, 1, 0] rfl) hw
  · replace hw := Eq.mp (if_pos c2) hw
    refine lv_aload_n hx hb dX6_restart_10 rfl (lv_at hl 0 rfl) ?_
    refine lv_iconst (v := 1) hx hb dX6_restart_11 (by decide) ?_
    refine gWVi (S := SM) (As := [.int 1]) (rest := []) (wc := wM kI mo m0 m1 m2 m3 m4 m5 m6 m7 u) (wr := []) (cs1 := (fun zz : SM => wM kI mo m0 m1 m2 m3 m4 m5 m6 m7 zz)) (ws2 := (fun zz : SM => wM kI mo m0 m1 m2 m3 m4 m5 m6 m7 zz)) ⟨hx, hb, hml, hown, hts⟩ (fun sz => kX6_fails l D kI kC kG kJ mo m0 m1 m2 m3 m4 m5 m6 m7 sz u 1 _ hw) (cwV 1 hts gX6_restart_X6_fails rfl rfl rfl hdX6_fails ⟨Nat.le_of_ble_eq_true rfl, Nat.le_of_ble_eq_true rfl⟩) hK hP hD hE hS hA [0, 1, 2, 3, 4, 5, 6, 7, 8] [] rfl rfl rfl rfl (by decide) [0, 1, 2, 3, 4, 5, 6, 7, 8] rfl (fun _ => rfl) (ci := 5) (q0 := 0) rfl rfl rfl rfl hl.1 rfl (Nat.le_of_ble_eq_true rfl) dX6_restart_12 ⟨Nat.le_of_ble_eq_true rfl, Nat.le_of_ble_eq_true rfl⟩ (fun r8 w8 H locs hw hP hD hS => ?_)
    have hP : va_P D vwCl (wM kI mo m0 m1 m2 m3 m4 m5 m6 m7 w8) H := hP
    have hD : va_D A (wM kI mo m0 m1 m2 m3 m4 m5 m6 m7 w8) := hD
    exact W.iret (v := r8) hx hb hr (fun t ht hW => ⟨⟨r8, w8, rfl, hw, by rw [ht]; exact hP, va_K.moved hW.alike hK, hD⟩, hS.F ht⟩) hS.2.2 dX6_restart_15
set_option maxHeartbeats 4000000 in
set_option maxRecDepth 100000 in
theorem kX6_type (l : Launch) (D : va_G) (kI kC kG kJ : ClassId) (mo m0 m1 m2 m3 m4 m5 m6 m7 : Nat) (sz : Nat) (u : SM) (p0 : Int32) (Z : Int32 → SM → Prop) (hw : pX6_type p0 u Z) : Met l yX6_type wsX6_type ({ frames := 1, cells := 0, slots := 0, locals := 21 } : Room) (gPw D (gT kI kC kG kJ) [.ref mo, .int p0] (wM kI mo m0 m1 m2 m3 m4 m5 m6 m7 u) sz) (va_Qi Z (gB D (gT kI kC kG kJ) (fun (zz : SM) => wM kI mo m0 m1 m2 m3 m4 m5 m6 m7 zz) (va_A (wM kI mo m0 m1 m2 m3 m4 m5 m6 m7 u) sz)) (va_A (wM kI mo m0 m1 m2 m3 m4 m5 m6 m7 u) sz)) 0 0 (va_A (wM kI mo m0 m1 m2 m3 m4 m5 m6 m7 u) sz) := by
  refine Met.ofW (cc := cX6_type) (maxL := 2) (ret := (some .int)) (by decide) rfl ?_
  intro p e s m args below meth c s₁ B hml hv
  obtain ⟨rfl, hsz, hP, hK, hD0, hE⟩ := hv
  have hx := B.exec
  have hb := B.bytes
  have hr := B.returns
  have hts := atoms_spec (ws := wsX6_type) B.pre
  have hown : s.vm.findClass RX6 = some m.cls := findClass_of_methodNamed B.named
  have hlocks := B.notSynchronized
  subst hsz
  have hD := hD0.self (sz := s.heap.size)
  generalize hAe : va_A (wM kI mo m0 m1 m2 m3 m4 m5 m6 m7 u) s.heap.size = A at hD hE ⊢
  have hA : ∀ q : Nat, s.heap.size ≤ q → A q := fun q h => by rw [← hAe]; exact Or.inr h
  have hS : va_S A s.heap s.heap [] := va_S.rf
  clear hAe hD0
  have hl := lv_entry ([.ref mo, .int p0]) (n := 2) (Nat.le_of_ble_eq_true rfl)
  rw [lg_entry_eq]
  generalize (lg_sl ([.ref mo, .int p0]) ++ List.replicate (2 - (lg_sl ([.ref mo, .int p0])).length) Slot.unset).toArray = ls at hl ⊢
  have hl : lv_has ls 2 [(0, .ref mo), (1, .int p0)] := hl
  have hP : va_P D vwCl (wM kI mo m0 m1 m2 m3 m4 m5 m6 m7 u) s.heap := hP
  unfold pX6_type at hw
  refine lv_aload_n hx hb dX6_type_0 rfl (lv_at hl 0 rfl) ?_
  refine va_get (D := D) (ci := 5) (v := .int u.2.2.2.2.2.2.2.2.2.2.2.1) (C := RX6) (T := TX6) (N := 18) hx hb hts (fun _ h => List.mem_cons_of_mem _ (List.mem_append_right _ h)) hown hK hP 0 rfl rfl 8 (by decide) (hts (.fieldLink RX6 107 "HazelGiftModel" "textLong" "I") (List.mem_of_getElem? (i := 1) rfl)) (fun _ h9 => h9) rfl dX6_type_1 ?_
  refine lv_bipush (v := 60) hx hb dX6_type_4 (by decide) ?_
  refine lv_icmp_ne (tgt := 15) hx hb dX6_type_6 (by decide) (fun c1 => ?_) (fun c1 => ?_)
  · replace hw := Eq.mp (if_neg c1) hw
    refine lv_aload_n hx hb dX6_type_15 rfl (lv_at hl 0 rfl) ?_
    refine lv_iconst (v := 0) hx hb dX6_type_16 (by decide) ?_
    refine va_put (D := D) (ci := 5) (v := .int 0) (ty := tyX6 6) (C := RX6) (T := TX6) (N := 18) hx hb hts (fun _ h => List.mem_cons_of_mem _ (List.mem_append_right _ h)) tyX6 tyX6_ok nmX6 hown hK hP hD hS 0 rfl rfl 6 (by decide) (hts (.fieldLink RX6 34 "HazelGiftModel" "thrown" "I") (List.mem_of_getElem? (i := 2) rfl)) (fun _ h9 => h9) rfl (tyX6_ok 6 (by decide)) rfl rfl (Nat.le_of_ble_eq_true rfl) dX6_type_17 (fun H locs hP hD hS => ?_)
    have hP : va_P D vwCl (wM kI mo m0 m1 m2 m3 m4 m5 m6 m7 (u.1, u.2.1, u.2.2.1, u.2.2.2.1, u.2.2.2.2.1, u.2.2.2.2.2.1, u.2.2.2.2.2.2.1, u.2.2.2.2.2.2.2.1, u.2.2.2.2.2.2.2.2.1, u.2.2.2.2.2.2.2.2.2.1, 0, u.2.2.2.2.2.2.2.2.2.2.2.1, u.2.2.2.2.2.2.2.2.2.2.2.2.1, u.2.2.2.2.2.2.2.2.2.2.2.2.2.1, u.2.2.2.2.2.2.2.2.2.2.2.2.2.2.1, u.2.2.2.2.2.2.2.2.2.2.2.2.2.2.2.1, u.2.2.2.2.2.2.2.2.2.2.2.2.2.2.2.2.1, u.2.2.2.2.2.2.2.2.2.2.2.2.2.2.2.2.2)) H := hP
    have hD : va_D A (wM kI mo m0 m1 m2 m3 m4 m5 m6 m7 (u.1, u.2.1, u.2.2.1, u.2.2.2.1, u.2.2.2.2.1, u.2.2.2.2.2.1, u.2.2.2.2.2.2.1, u.2.2.2.2.2.2.2.1, u.2.2.2.2.2.2.2.2.1, u.2.2.2.2.2.2.2.2.2.1, 0, u.2.2.2.2.2.2.2.2.2.2.2.1, u.2.2.2.2.2.2.2.2.2.2.2.2.1, u.2.2.2.2.2.2.2.2.2.2.2.2.2.1, u.2.2.2.2.2.2.2.2.2.2.2.2.2.2.1, u.2.2.2.2.2.2.2.2.2.2.2.2.2.2.2.1, u.2.2.2.2.2.2.2.2.2.2.2.2.2.2.2.2.1, u.2.2.2.2.2.2.2.2.2.2.2.2.2.2.2.2.2)) := hD
    refine lv_aload_n hx hb dX6_type_20 rfl (lv_at hl 0 rfl) ?_
    refine va_get (D := D) (ci := 5) (v := .ref m4) (C := RX6) (T := TX6) (N := 18) hx hb hts (fun _ h => List.mem_cons_of_mem _ (List.mem_append_right _ h)) hown hK hP 0 rfl rfl 7 (by decide) (hts (.fieldLink RX6 22 "HazelGiftModel" "text" "[I") (List.mem_of_getElem? (i := 3) rfl)) (fun _ h9 => h9) rfl dX6_type_21 ?_
    refine lv_aload_n hx hb dX6_type_24 rfl (lv_at hl 0 rfl) ?_
    refine va_get (D := D) (ci := 5) (v := .int u.2.2.2.2.2.2.2.2.2.2.2.1) (C := RX6) (T := TX6) (N := 18) hx hb hts (fun _ h => List.mem_cons_of_mem _ (List.mem_append_right _ h)) hown hK hP 0 rfl rfl 8 (by decide) (hts (.fieldLink RX6 107 "HazelGiftModel" "textLong" "I") (List.mem_of_getElem? (i := 1) rfl)) (fun _ h9 => h9) rfl dX6_type_25 ?_
    refine lv_iload_n hx hb dX6_type_28 rfl (lv_at hl 1 rfl) ?_
    obtain ⟨hi2, hw⟩ := hw
    refine gIast (k := (u.2.2.2.2.2.2.2.2.2.2.2.1).toNatClampNeg) hx hb hK hP hD hS 5 0 rfl rfl hi2 rfl dX6_type_29 (fun H locs hP hD hS => ?_)
    have hP : va_P D vwCl (wM kI mo m0 m1 m2 m3 m4 m5 m6 m7 (u.1, u.2.1, u.2.2.1, u.2.2.2.1, (upd u.2.2.2.2.1 (u.2.2.2.2.2.2.2.2.2.2.2.1).toNatClampNeg p0), u.2.2.2.2.2.1, u.2.2.2.2.2.2.1, u.2.2.2.2.2.2.2.1, u.2.2.2.2.2.2.2.2.1, u.2.2.2.2.2.2.2.2.2.1, 0, u.2.2.2.2.2.2.2.2.2.2.2.1, u.2.2.2.2.2.2.2.2.2.2.2.2.1, u.2.2.2.2.2.2.2.2.2.2.2.2.2.1, u.2.2.2.2.2.2.2.2.2.2.2.2.2.2.1, u.2.2.2.2.2.2.2.2.2.2.2.2.2.2.2.1, u.2.2.2.2.2.2.2.2.2.2.2.2.2.2.2.2.1, u.2.2.2.2.2.2.2.2.2.2.2.2.2.2.2.2.2)) H := hP
    have hD : va_D A (wM kI mo m0 m1 m2 m3 m4 m5 m6 m7 (u.1, u.2.1, u.2.2.1, u.2.2.2.1, (upd u.2.2.2.2.1 (u.2.2.2.2.2.2.2.2.2.2.2.1).toNatClampNeg p0), u.2.2.2.2.2.1, u.2.2.2.2.2.2.1, u.2.2.2.2.2.2.2.1, u.2.2.2.2.2.2.2.2.1, u.2.2.2.2.2.2.2.2.2.1, 0, u.2.2.2.2.2.2.2.2.2.2.2.1, u.2.2.2.2.2.2.2.2.2.2.2.2.1, u.2.2.2.2.2.2.2.2.2.2.2.2.2.1, u.2.2.2.2.2.2.2.2.2.2.2.2.2.2.1, u.2.2.2.2.2.2.2.2.2.2.2.2.2.2.2.1, u.2.2.2.2.2.2.2.2.2.2.2.2.2.2.2.2.1, u.2.2.2.2.2.2.2.2.2.2.2.2.2.2.2.2.2)) := hD
    refine lv_aload_n hx hb dX6_type_30 rfl (lv_at hl 0 rfl) ?_
    refine lv_dup hx hb dX6_type_31 rfl ?_
    refine va_get (D := D) (ci := 5) (v := .int u.2.2.2.2.2.2.2.2.2.2.2.1) (C := RX6) (T := TX6) (N := 18) hx hb hts (fun _ h => List.mem_cons_of_mem _ (List.mem_append_right _ h)) hown hK hP 0 rfl rfl 8 (by decide) (hts (.fieldLink RX6 107 "HazelGiftModel" "textLong" "I") (List.mem_of_getElem? (i := 1) rfl)) (fun _ h9 => h9) rfl dX6_type_32 ?_
    refine lv_iconst (v := 1) hx hb dX6_type_35 (by decide) ?_
    refine lv_iadd hx hb dX6_type_36 ?_
    refine lv_topi (fun x3 ex3 => ?_)
    replace hw := hw x3 ex3
    refine va_put (D := D) (ci := 5) (v := .int x3) (ty := tyX6 8) (C := RX6) (T := TX6) (N := 18) hx hb hts (fun _ h => List.mem_cons_of_mem _ (List.mem_append_right _ h)) tyX6 tyX6_ok nmX6 hown hK hP hD hS 0 rfl rfl 8 (by decide) (hts (.fieldLink RX6 107 "HazelGiftModel" "textLong" "I") (List.mem_of_getElem? (i := 1) rfl)) (fun _ h9 => h9) rfl (tyX6_ok 8 (by decide)) rfl rfl (Nat.le_of_ble_eq_true rfl) dX6_type_37 (fun H locs hP hD hS => ?_)
    have hP : va_P D vwCl (wM kI mo m0 m1 m2 m3 m4 m5 m6 m7 (u.1, u.2.1, u.2.2.1, u.2.2.2.1, (upd u.2.2.2.2.1 (u.2.2.2.2.2.2.2.2.2.2.2.1).toNatClampNeg p0), u.2.2.2.2.2.1, u.2.2.2.2.2.2.1, u.2.2.2.2.2.2.2.1, u.2.2.2.2.2.2.2.2.1, u.2.2.2.2.2.2.2.2.2.1, 0, x3, u.2.2.2.2.2.2.2.2.2.2.2.2.1, u.2.2.2.2.2.2.2.2.2.2.2.2.2.1, u.2.2.2.2.2.2.2.2.2.2.2.2.2.2.1, u.2.2.2.2.2.2.2.2.2.2.2.2.2.2.2.1, u.2.2.2.2.2.2.2.2.2.2.2.2.2.2.2.2.1, u.2.2.2.2.2.2.2.2.2.2.2.2.2.2.2.2.2)) H := hP
    have hD : va_D A (wM kI mo m0 m1 m2 m3 m4 m5 m6 m7 (u.1, u.2.1, u.2.2.1, u.2.2.2.1, (upd u.2.2.2.2.1 (u.2.2.2.2.2.2.2.2.2.2.2.1).toNatClampNeg p0), u.2.2.2.2.2.1, u.2.2.2.2.2.2.1, u.2.2.2.2.2.2.2.1, u.2.2.2.2.2.2.2.2.1, u.2.2.2.2.2.2.2.2.2.1, 0, x3, u.2.2.2.2.2.2.2.2.2.2.2.2.1, u.2.2.2.2.2.2.2.2.2.2.2.2.2.1, u.2.2.2.2.2.2.2.2.2.2.2.2.2.2.1, u.2.2.2.2.2.2.2.2.2.2.2.2.2.2.2.1, u.2.2.2.2.2.2.2.2.2.2.2.2.2.2.2.2.1, u.2.2.2.2.2.2.2.2.2.2.2.2.2.2.2.2.2)) := hD
    refine lv_aload_n hx hb dX6_type_40 rfl (lv_at hl 0 rfl) ?_
    refine va_get (D := D) (ci := 5) (v := .int x3) (C := RX6) (T := TX6) (N := 18) hx hb hts (fun _ h => List.mem_cons_of_mem _ (List.mem_append_right _ h)) hown hK hP 0 rfl rfl 8 (by decide) (hts (.fieldLink RX6 107 "HazelGiftModel" "textLong" "I") (List.mem_of_getElem? (i := 1) rfl)) (fun _ h9 => h9) rfl dX6_type_41 ?_
    exact W.iret (v := x3) hx hb hr (fun t ht hW => ⟨⟨x3, (u.1, u.2.1, u.2.2.1, u.2.2.2.1, (upd u.2.2.2.2.1 (u.2.2.2.2.2.2.2.2.2.2.2.1).toNatClampNeg p0), u.2.2.2.2.2.1, u.2.2.2.2.2.2.1, u.2.2.2.2.2.2.2.1, u.2.2.2.2.2.2.2.2.1, u.2.2.2.2.2.2.2.2.2.1, 0, x3, u.2.2.2.2.2.2.2.2.2.2.2.2.1, u.2.2.2.2.2.2.2.2.2.2.2.2.2.1, u.2.2.2.2.2.2.2.2.2.2.2.2.2.2.1, u.2.2.2.2.2.2.2.2.2.2.2.2.2.2.2.1, u.2.2.2.2.2.2.2.2.2.2.2.2.2.2.2.2.1, u.2.2.2.2.2.2.2.2.2.2.2.2.2.2.2.2.2), rfl, hw, by rw [ht]; exact hP, va_K.moved hW.alike hK, hD⟩, hS.F ht⟩) hS.2.2 dX6_type_44
  · replace hw := Eq.mp (if_pos c1) hw
    refine lv_aload_n hx hb dX6_type_9 rfl (lv_at hl 0 rfl) ?_
    refine lv_iconst (v := 1) hx hb dX6_type_10 (by decide) ?_
    refine gWVi (S := SM) (As := [.int 1]) (rest := []) (wc := wM kI mo m0 m1 m2 m3 m4 m5 m6 m7 u) (wr := []) (cs1 := (fun zz : SM => wM kI mo m0 m1 m2 m3 m4 m5 m6 m7 zz)) (ws2 := (fun zz : SM => wM kI mo m0 m1 m2 m3 m4 m5 m6 m7 zz)) ⟨hx, hb, hml, hown, hts⟩ (fun sz => kX6_fails l D kI kC kG kJ mo m0 m1 m2 m3 m4 m5 m6 m7 sz u 1 _ hw) (cwV 1 hts gX6_type_X6_fails rfl rfl rfl hdX6_fails ⟨Nat.le_of_ble_eq_true rfl, Nat.le_of_ble_eq_true rfl⟩) hK hP hD hE hS hA [0, 1, 2, 3, 4, 5, 6, 7, 8] [] rfl rfl rfl rfl (by decide) [0, 1, 2, 3, 4, 5, 6, 7, 8] rfl (fun _ => rfl) (ci := 5) (q0 := 0) rfl rfl rfl rfl hl.1 rfl (Nat.le_of_ble_eq_true rfl) dX6_type_11 ⟨Nat.le_of_ble_eq_true rfl, Nat.le_of_ble_eq_true rfl⟩ (fun r4 w4 H locs hw hP hD hS => ?_)
    have hP : va_P D vwCl (wM kI mo m0 m1 m2 m3 m4 m5 m6 m7 w4) H := hP
    have hD : va_D A (wM kI mo m0 m1 m2 m3 m4 m5 m6 m7 w4) := hD
    exact W.iret (v := r4) hx hb hr (fun t ht hW => ⟨⟨r4, w4, rfl, hw, by rw [ht]; exact hP, va_K.moved hW.alike hK, hD⟩, hS.F ht⟩) hS.2.2 dX6_type_14
set_option maxHeartbeats 4000000 in
set_option maxRecDepth 100000 in
theorem kX6_clearText (l : Launch) (D : va_G) (kI kC kG kJ : ClassId) (mo m0 m1 m2 m3 m4 m5 m6 m7 : Nat) (sz : Nat) (u : SM) (Z : Int32 → SM → Prop) (hw : pX6_clearText u Z) : Met l yX6_clearText wsX6_clearText ({ frames := 0, cells := 0, slots := 0, locals := 0 } : Room) (gPw D (gT kI kC kG kJ) [.ref mo] (wM kI mo m0 m1 m2 m3 m4 m5 m6 m7 u) sz) (va_Qi Z (gB D (gT kI kC kG kJ) (fun (zz : SM) => wM kI mo m0 m1 m2 m3 m4 m5 m6 m7 zz) (va_A (wM kI mo m0 m1 m2 m3 m4 m5 m6 m7 u) sz)) (va_A (wM kI mo m0 m1 m2 m3 m4 m5 m6 m7 u) sz)) 0 0 (va_A (wM kI mo m0 m1 m2 m3 m4 m5 m6 m7 u) sz) := by
  refine Met.ofW (cc := cX6_clearText) (maxL := 2) (ret := (some .int)) (by decide) rfl ?_
  intro p e s m args below meth c s₁ B hml hv
  obtain ⟨rfl, hsz, hP, hK, hD0, hE⟩ := hv
  have hx := B.exec
  have hb := B.bytes
  have hr := B.returns
  have hts := atoms_spec (ws := wsX6_clearText) B.pre
  have hown : s.vm.findClass RX6 = some m.cls := findClass_of_methodNamed B.named
  have hlocks := B.notSynchronized
  subst hsz
  have hD := hD0.self (sz := s.heap.size)
  generalize hAe : va_A (wM kI mo m0 m1 m2 m3 m4 m5 m6 m7 u) s.heap.size = A at hD hE ⊢
  have hA : ∀ q : Nat, s.heap.size ≤ q → A q := fun q h => by rw [← hAe]; exact Or.inr h
  have hS : va_S A s.heap s.heap [] := va_S.rf
  clear hAe hD0
  have hl := lv_entry ([.ref mo]) (n := 2) (Nat.le_of_ble_eq_true rfl)
  rw [lg_entry_eq]
  generalize (lg_sl ([.ref mo]) ++ List.replicate (2 - (lg_sl ([.ref mo])).length) Slot.unset).toArray = ls at hl ⊢
  have hl : lv_has ls 2 [(0, .ref mo)] := hl
  have hP : va_P D vwCl (wM kI mo m0 m1 m2 m3 m4 m5 m6 m7 u) s.heap := hP
  unfold pX6_clearText at hw
  refine lv_aload_n hx hb dX6_clearText_0 rfl (lv_at hl 0 rfl) ?_
  refine lv_iconst (v := 0) hx hb dX6_clearText_1 (by decide) ?_
  refine va_put (D := D) (ci := 5) (v := .int 0) (ty := tyX6 6) (C := RX6) (T := TX6) (N := 18) hx hb hts (fun _ h => List.mem_cons_of_mem _ (List.mem_append_right _ h)) tyX6 tyX6_ok nmX6 hown hK hP hD hS 0 rfl rfl 6 (by decide) (hts (.fieldLink RX6 34 "HazelGiftModel" "thrown" "I") (List.mem_of_getElem? (i := 1) rfl)) (fun _ h9 => h9) rfl (tyX6_ok 6 (by decide)) rfl rfl (Nat.le_of_ble_eq_true rfl) dX6_clearText_2 (fun H locs hP hD hS => ?_)
  have hP : va_P D vwCl (wM kI mo m0 m1 m2 m3 m4 m5 m6 m7 (u.1, u.2.1, u.2.2.1, u.2.2.2.1, u.2.2.2.2.1, u.2.2.2.2.2.1, u.2.2.2.2.2.2.1, u.2.2.2.2.2.2.2.1, u.2.2.2.2.2.2.2.2.1, u.2.2.2.2.2.2.2.2.2.1, 0, u.2.2.2.2.2.2.2.2.2.2.2.1, u.2.2.2.2.2.2.2.2.2.2.2.2.1, u.2.2.2.2.2.2.2.2.2.2.2.2.2.1, u.2.2.2.2.2.2.2.2.2.2.2.2.2.2.1, u.2.2.2.2.2.2.2.2.2.2.2.2.2.2.2.1, u.2.2.2.2.2.2.2.2.2.2.2.2.2.2.2.2.1, u.2.2.2.2.2.2.2.2.2.2.2.2.2.2.2.2.2)) H := hP
  have hD : va_D A (wM kI mo m0 m1 m2 m3 m4 m5 m6 m7 (u.1, u.2.1, u.2.2.1, u.2.2.2.1, u.2.2.2.2.1, u.2.2.2.2.2.1, u.2.2.2.2.2.2.1, u.2.2.2.2.2.2.2.1, u.2.2.2.2.2.2.2.2.1, u.2.2.2.2.2.2.2.2.2.1, 0, u.2.2.2.2.2.2.2.2.2.2.2.1, u.2.2.2.2.2.2.2.2.2.2.2.2.1, u.2.2.2.2.2.2.2.2.2.2.2.2.2.1, u.2.2.2.2.2.2.2.2.2.2.2.2.2.2.1, u.2.2.2.2.2.2.2.2.2.2.2.2.2.2.2.1, u.2.2.2.2.2.2.2.2.2.2.2.2.2.2.2.2.1, u.2.2.2.2.2.2.2.2.2.2.2.2.2.2.2.2.2)) := hD
  refine lv_aload_n hx hb dX6_clearText_5 rfl (lv_at hl 0 rfl) ?_
  refine va_get (D := D) (ci := 5) (v := .int u.2.2.2.2.2.2.2.2.2.2.2.1) (C := RX6) (T := TX6) (N := 18) hx hb hts (fun _ h => List.mem_cons_of_mem _ (List.mem_append_right _ h)) hown hK hP 0 rfl rfl 8 (by decide) (hts (.fieldLink RX6 107 "HazelGiftModel" "textLong" "I") (List.mem_of_getElem? (i := 2) rfl)) (fun _ h9 => h9) rfl dX6_clearText_6 ?_
  refine lv_istore_n (lv' := [(1, .int u.2.2.2.2.2.2.2.2.2.2.2.1), (0, .ref mo)]) hx hb dX6_clearText_9 rfl hl (by decide) rfl (fun ls hl => ?_)
  refine lv_aload_n hx hb dX6_clearText_10 rfl (lv_at hl 1 rfl) ?_
  refine lv_iconst (v := 0) hx hb dX6_clearText_11 (by decide) ?_
  refine va_put (D := D) (ci := 5) (v := .int 0) (ty := tyX6 8) (C := RX6) (T := TX6) (N := 18) hx hb hts (fun _ h => List.mem_cons_of_mem _ (List.mem_append_right _ h)) tyX6 tyX6_ok nmX6 hown hK hP hD hS 0 rfl rfl 8 (by decide) (hts (.fieldLink RX6 107 "HazelGiftModel" "textLong" "I") (List.mem_of_getElem? (i := 2) rfl)) (fun _ h9 => h9) rfl (tyX6_ok 8 (by decide)) rfl rfl (Nat.le_of_ble_eq_true rfl) dX6_clearText_12 (fun H locs hP hD hS => ?_)
  have hP : va_P D vwCl (wM kI mo m0 m1 m2 m3 m4 m5 m6 m7 (u.1, u.2.1, u.2.2.1, u.2.2.2.1, u.2.2.2.2.1, u.2.2.2.2.2.1, u.2.2.2.2.2.2.1, u.2.2.2.2.2.2.2.1, u.2.2.2.2.2.2.2.2.1, u.2.2.2.2.2.2.2.2.2.1, 0, 0, u.2.2.2.2.2.2.2.2.2.2.2.2.1, u.2.2.2.2.2.2.2.2.2.2.2.2.2.1, u.2.2.2.2.2.2.2.2.2.2.2.2.2.2.1, u.2.2.2.2.2.2.2.2.2.2.2.2.2.2.2.1, u.2.2.2.2.2.2.2.2.2.2.2.2.2.2.2.2.1, u.2.2.2.2.2.2.2.2.2.2.2.2.2.2.2.2.2)) H := hP
  have hD : va_D A (wM kI mo m0 m1 m2 m3 m4 m5 m6 m7 (u.1, u.2.1, u.2.2.1, u.2.2.2.1, u.2.2.2.2.1, u.2.2.2.2.2.1, u.2.2.2.2.2.2.1, u.2.2.2.2.2.2.2.1, u.2.2.2.2.2.2.2.2.1, u.2.2.2.2.2.2.2.2.2.1, 0, 0, u.2.2.2.2.2.2.2.2.2.2.2.2.1, u.2.2.2.2.2.2.2.2.2.2.2.2.2.1, u.2.2.2.2.2.2.2.2.2.2.2.2.2.2.1, u.2.2.2.2.2.2.2.2.2.2.2.2.2.2.2.1, u.2.2.2.2.2.2.2.2.2.2.2.2.2.2.2.2.1, u.2.2.2.2.2.2.2.2.2.2.2.2.2.2.2.2.2)) := hD
  refine lv_iload_n hx hb dX6_clearText_15 rfl (lv_at hl 0 rfl) ?_
  exact W.iret (v := u.2.2.2.2.2.2.2.2.2.2.2.1) hx hb hr (fun t ht hW => ⟨⟨u.2.2.2.2.2.2.2.2.2.2.2.1, (u.1, u.2.1, u.2.2.1, u.2.2.2.1, u.2.2.2.2.1, u.2.2.2.2.2.1, u.2.2.2.2.2.2.1, u.2.2.2.2.2.2.2.1, u.2.2.2.2.2.2.2.2.1, u.2.2.2.2.2.2.2.2.2.1, 0, 0, u.2.2.2.2.2.2.2.2.2.2.2.2.1, u.2.2.2.2.2.2.2.2.2.2.2.2.2.1, u.2.2.2.2.2.2.2.2.2.2.2.2.2.2.1, u.2.2.2.2.2.2.2.2.2.2.2.2.2.2.2.1, u.2.2.2.2.2.2.2.2.2.2.2.2.2.2.2.2.1, u.2.2.2.2.2.2.2.2.2.2.2.2.2.2.2.2.2), rfl, hw, by rw [ht]; exact hP, va_K.moved hW.alike hK, hD⟩, hS.F ht⟩) hS.2.2 dX6_clearText_16
