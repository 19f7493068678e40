set_option maxHeartbeats 4000000 in
set_option maxRecDepth 100000 in
theorem kX6_canMake (l : Launch) (D : va_G) (kI kC kG kJ : ClassId) (mo m0 m1 m2 m3 m4 m5 m6 m7 : Nat) (u : SM) (p0 : Int32) (Z : Int32 → Prop) (hw : pX6_canMake p0 u Z) : Met l yX6_canMake wsX6_canMake ({ frames := 1, cells := 0, slots := 0, locals := 22 } : Room) (gPr D (gT kI kC kG kJ) [.ref mo, .int p0] (wM kI mo m0 m1 m2 m3 m4 m5 m6 m7 u)) (vp_Si Z) 0 0 (fun _ => False) := by
  refine Met.ofW (cc := cX6_canMake) (maxL := 2) (ret := (some .boolean)) (by decide) rfl ?_
  intro p e s m args below meth c s₁ B hml hv
  obtain ⟨rfl, hP, hK, hE⟩ := hv
  have hx := B.exec
  have hb := B.bytes
  have hr := B.returns
  have hts := atoms_spec (ws := wsX6_canMake) B.pre
  have hown : s.vm.findClass RX6 = some m.cls := findClass_of_methodNamed B.named
  have hlocks := B.notSynchronized
  have hS : va_S (fun _ => False) s.heap s.heap [] := va_S.rf
  have hl := lv_entry ([.ref mo, .int p0]) (n := 2) (Nat.le_of_ble_eq_true rfl)
  rw [lg_entry_eq]
  generalize (lg_sl ([.ref mo, .int p0]) ++ List.replicate (2 - (lg_sl ([.ref mo, .int p0])).length) Slot.unset).toArray = ls at hl ⊢
  have hl : lv_has ls 2 [(0, .ref mo), (1, .int p0)] := hl
  unfold pX6_canMake at hw
  refine lv_aload_n hx hb dX6_canMake_0 rfl (lv_at hl 0 rfl) ?_
  refine va_get (D := D) (ci := 5) (v := .ref m0) (C := RX6) (T := TX6) (N := 18) hx hb hts (fun _ h => List.mem_cons_of_mem _ (List.mem_append_right _ h)) hown hK hP 0 rfl rfl 0 (by decide) (hts (.fieldLink RX6 7 "HazelGiftModel" "all" "[I") (List.mem_of_getElem? (i := 1) rfl)) (fun _ h9 => h9) rfl dX6_canMake_1 ?_
  refine lv_bipush (v := 16) hx hb dX6_canMake_4 (by decide) ?_
  refine gIald (k := 16) hx hb hK hP 1 0 rfl rfl (gin (by decide)) (by decide) dX6_canMake_6 ?_
  refine lv_if_le (tgt := 29) hx hb dX6_canMake_7 (by decide) (fun c1 => ?_) (fun c1 => ?_)
  · replace hw := Eq.mp (if_pos c1) hw
    refine lv_aload_n hx hb dX6_canMake_29 rfl (lv_at hl 0 rfl) ?_
    refine lv_iload_n hx hb dX6_canMake_30 rfl (lv_at hl 1 rfl) ?_
    refine gVi (As := [.int p0]) (rest := []) (cs' := wM kI mo m0 m1 m2 m3 m4 m5 m6 m7 u) ⟨hx, hb, hml, hown, hts⟩ (kX6_cell l D kI kC kG kJ mo m0 m1 m2 m3 m4 m5 m6 m7 u p0 _ hw) (cwV 1 hts gX6_canMake_X6_cell rfl rfl rfl hdX6_cell ⟨Nat.le_of_ble_eq_true rfl, Nat.le_of_ble_eq_true rfl⟩) hK hP hE hS [0, 1, 2, 3, 4, 5, 6, 7, 8] rfl (ci := 5) (q0 := 0) rfl rfl rfl rfl hl.1 rfl (Nat.le_of_ble_eq_true rfl) dX6_canMake_31 ⟨Nat.le_of_ble_eq_true rfl, Nat.le_of_ble_eq_true rfl⟩ (fun r2 hw => ?_)
    refine lv_iconst (v := (-1)) hx hb dX6_canMake_34 (by decide) ?_
    refine lv_icmp_ne (tgt := 42) hx hb dX6_canMake_35 (by decide) (fun c3 => ?_) (fun c3 => ?_)
    · replace hw := Eq.mp (if_neg c3) hw
      refine lv_iconst (v := 0) hx hb dX6_canMake_42 (by decide) ?_
      exact W.zret (v := 0) hx hb hr rfl (fun t ht hW => ⟨_, rfl, hw, ht⟩) (fun _ h => by cases h) dX6_canMake_43
    · replace hw := Eq.mp (if_pos c3) hw
      refine lv_iconst (v := 1) hx hb dX6_canMake_38 (by decide) ?_
      refine lv_goto (tgt := 43) hx hb dX6_canMake_39 (by decide) ?_
      exact W.zret (v := 1) hx hb hr rfl (fun t ht hW => ⟨_, rfl, hw, ht⟩) (fun _ h => by cases h) dX6_canMake_43
  · replace hw := Eq.mp (if_neg c1) hw
    refine lv_aload_n hx hb dX6_canMake_10 rfl (lv_at hl 0 rfl) ?_
    refine va_get (D := D) (ci := 5) (v := .ref m0) (C := RX6) (T := TX6) (N := 18) hx hb hts (fun _ h => List.mem_cons_of_mem _ (List.mem_append_right _ h)) hown hK hP 0 rfl rfl 0 (by decide) (hts (.fieldLink RX6 7 "HazelGiftModel" "all" "[I") (List.mem_of_getElem? (i := 1) rfl)) (fun _ h9 => h9) rfl dX6_canMake_11 ?_
    refine lv_iconst (v := 0) hx hb dX6_canMake_14 (by decide) ?_
    refine lv_iload_n hx hb dX6_canMake_15 rfl (lv_at hl 1 rfl) ?_
    refine lv_iadd hx hb dX6_canMake_16 ?_
    obtain ⟨hi4, hw⟩ := hw
    refine gIald (k := ((0 + p0)).toNatClampNeg) hx hb hK hP 1 0 rfl rfl hi4 rfl dX6_canMake_17 ?_
    refine lv_if_ne (tgt := 25) hx hb dX6_canMake_18 (by decide) (fun c5 => ?_) (fun c5 => ?_)
    · replace hw := Eq.mp (if_neg c5) hw
      refine lv_iconst (v := 0) hx hb dX6_canMake_25 (by decide) ?_
      refine lv_goto (tgt := 43) hx hb dX6_canMake_26 (by decide) ?_
      exact W.zret (v := 0) hx hb hr rfl (fun t ht hW => ⟨_, rfl, hw, ht⟩) (fun _ h => by cases h) dX6_canMake_43
    · replace hw := Eq.mp (if_pos c5) hw
      refine lv_iconst (v := 1) hx hb dX6_canMake_21 (by decide) ?_
      refine lv_goto (tgt := 43) hx hb dX6_canMake_22 (by decide) ?_
      exact W.zret (v := 1) hx hb hr rfl (fun t ht hW => ⟨_, rfl, hw, ht⟩) (fun _ h => by cases h) dX6_canMake_43
set_option maxHeartbeats 4000000 in
set_option maxRecDepth 100000 in
theorem kX6_keeps (l : Launch) (D : va_G) (kI kC kG kJ : ClassId) (mo m0 m1 m2 m3 m4 m5 m6 m7 : Nat) (sz : Nat) (u : SM) (p0 : Int32) (p1 : Int32) (Z : SM → Prop) (hw : pX6_keeps p0 p1 u Z) : Met l yX6_keeps wsX6_keeps ({ frames := 0, cells := 0, slots := 0, locals := 0 } : Room) (gPw D (gT kI kC kG kJ) [.ref mo, .int p0, .int p1] (wM kI mo m0 m1 m2 m3 m4 m5 m6 m7 u) sz) (va_Qv Z (gB D (gT kI kC kG kJ) (fun (zz : SM) => wM kI mo m0 m1 m2 m3 m4 m5 m6 m7 zz) (va_A (wM kI mo m0 m1 m2 m3 m4 m5 m6 m7 u) sz)) (va_A (wM kI mo m0 m1 m2 m3 m4 m5 m6 m7 u) sz)) 0 0 (va_A (wM kI mo m0 m1 m2 m3 m4 m5 m6 m7 u) sz) := by
  refine Met.ofW (cc := cX6_keeps) (maxL := 3) (ret := none) (by decide) rfl ?_
  intro p e s m args below meth c s₁ B hml hv
  obtain ⟨rfl, hsz, hP, hK, hD0, hE⟩ := hv
  have hx := B.exec
  have hb := B.bytes
  have hr := B.returns
  have hts := atoms_spec (ws := wsX6_keeps) B.pre
  have hown : s.vm.findClass RX6 = some m.cls := findClass_of_methodNamed B.named
  have hlocks := B.notSynchronized
  subst hsz
  have hD := hD0.self (sz := s.heap.size)
  generalize hAe : va_A (wM kI mo m0 m1 m2 m3 m4 m5 m6 m7 u) s.heap.size = A at hD hE ⊢
  have hA : ∀ q : Nat, s.heap.size ≤ q → A q := fun q h => by rw [← hAe]; exact Or.inr h
  have hS : va_S A s.heap s.heap [] := va_S.rf
  clear hAe hD0
  have hl := lv_entry ([.ref mo, .int p0, .int p1]) (n := 3) (Nat.le_of_ble_eq_true rfl)
  rw [lg_entry_eq]
  generalize (lg_sl ([.ref mo, .int p0, .int p1]) ++ List.replicate (3 - (lg_sl ([.ref mo, .int p0, .int p1])).length) Slot.unset).toArray = ls at hl ⊢
  have hl : lv_has ls 3 [(0, .ref mo), (1, .int p0), (2, .int p1)] := hl
  have hP : va_P D vwCl (wM kI mo m0 m1 m2 m3 m4 m5 m6 m7 u) s.heap := hP
  unfold pX6_keeps at hw
  refine lv_iload_n hx hb dX6_keeps_0 rfl (lv_at hl 2 rfl) ?_
  refine lv_aload_n hx hb dX6_keeps_1 rfl (lv_at hl 0 rfl) ?_
  refine va_get (D := D) (ci := 5) (v := .ref m6) (C := RX6) (T := TX6) (N := 18) hx hb hts (fun _ h => List.mem_cons_of_mem _ (List.mem_append_right _ h)) hown hK hP 0 rfl rfl 15 (by decide) (hts (.fieldLink RX6 28 "HazelGiftModel" "best" "[I") (List.mem_of_getElem? (i := 1) rfl)) (fun _ h9 => h9) rfl dX6_keeps_2 ?_
  refine lv_iload_n hx hb dX6_keeps_5 rfl (lv_at hl 1 rfl) ?_
  obtain ⟨hi1, hw⟩ := hw
  refine gIald (k := (p0).toNatClampNeg) hx hb hK hP 7 0 rfl rfl hi1 rfl dX6_keeps_6 ?_
  refine lv_icmp_le (tgt := 38) hx hb dX6_keeps_7 (by decide) (fun c2 => ?_) (fun c2 => ?_)
  · replace hw := Eq.mp (if_pos c2) hw
    exact W.vret hx hb hr (fun t ht hW => ⟨⟨u, rfl, hw, by rw [ht]; exact hP, va_K.moved hW.alike hK, hD⟩, hS.F ht⟩) hS.2.2 dX6_keeps_38
  · replace hw := Eq.mp (if_neg c2) hw
    refine lv_aload_n hx hb dX6_keeps_10 rfl (lv_at hl 0 rfl) ?_
    refine va_get (D := D) (ci := 5) (v := .ref m6) (C := RX6) (T := TX6) (N := 18) hx hb hts (fun _ h => List.mem_cons_of_mem _ (List.mem_append_right _ h)) hown hK hP 0 rfl rfl 15 (by decide) (hts (.fieldLink RX6 28 "HazelGiftModel" "best" "[I") (List.mem_of_getElem? (i := 1) rfl)) (fun _ h9 => h9) rfl dX6_keeps_11 ?_
    refine lv_iload_n hx hb dX6_keeps_14 rfl (lv_at hl 1 rfl) ?_
    refine lv_iload_n hx hb dX6_keeps_15 rfl (lv_at hl 2 rfl) ?_
    obtain ⟨hi3, hw⟩ := hw
    refine gIast (k := (p0).toNatClampNeg) hx hb hK hP hD hS 7 0 rfl rfl hi3 rfl dX6_keeps_16 (fun H locs hP hD hS => ?_)
    have hP : va_P D vwCl (wM kI mo m0 m1 m2 m3 m4 m5 m6 m7 (u.1, u.2.1, u.2.2.1, u.2.2.2.1, u.2.2.2.2.1, u.2.2.2.2.2.1, (upd u.2.2.2.2.2.2.1 (p0).toNatClampNeg p1), u.2.2.2.2.2.2.2.1, u.2.2.2.2.2.2.2.2.1, u.2.2.2.2.2.2.2.2.2.1, u.2.2.2.2.2.2.2.2.2.2.1, u.2.2.2.2.2.2.2.2.2.2.2.1, u.2.2.2.2.2.2.2.2.2.2.2.2.1, u.2.2.2.2.2.2.2.2.2.2.2.2.2.1, u.2.2.2.2.2.2.2.2.2.2.2.2.2.2.1, u.2.2.2.2.2.2.2.2.2.2.2.2.2.2.2.1, u.2.2.2.2.2.2.2.2.2.2.2.2.2.2.2.2.1, u.2.2.2.2.2.2.2.2.2.2.2.2.2.2.2.2.2)) H := hP
    have hD : va_D A (wM kI mo m0 m1 m2 m3 m4 m5 m6 m7 (u.1, u.2.1, u.2.2.1, u.2.2.2.1, u.2.2.2.2.1, u.2.2.2.2.2.1, (upd u.2.2.2.2.2.2.1 (p0).toNatClampNeg p1), u.2.2.2.2.2.2.2.1, u.2.2.2.2.2.2.2.2.1, u.2.2.2.2.2.2.2.2.2.1, u.2.2.2.2.2.2.2.2.2.2.1, u.2.2.2.2.2.2.2.2.2.2.2.1, u.2.2.2.2.2.2.2.2.2.2.2.2.1, u.2.2.2.2.2.2.2.2.2.2.2.2.2.1, u.2.2.2.2.2.2.2.2.2.2.2.2.2.2.1, u.2.2.2.2.2.2.2.2.2.2.2.2.2.2.2.1, u.2.2.2.2.2.2.2.2.2.2.2.2.2.2.2.2.1, u.2.2.2.2.2.2.2.2.2.2.2.2.2.2.2.2.2)) := hD
    refine lv_aload_n hx hb dX6_keeps_17 rfl (lv_at hl 0 rfl) ?_
    refine lv_iload_n hx hb dX6_keeps_18 rfl (lv_at hl 1 rfl) ?_
    refine lv_if_ne (tgt := 31) hx hb dX6_keeps_19 (by decide) (fun c4 => ?_) (fun c4 => ?_)
    · replace hw := Eq.mp (if_neg c4) hw
      refine lv_aload_n hx hb dX6_keeps_31 rfl (lv_at hl 0 rfl) ?_
      refine va_get (D := D) (ci := 5) (v := .int u.2.2.2.2.2.2.2.2.2.2.2.2.2.2.2.2.2) (C := RX6) (T := TX6) (N := 18) hx hb hts (fun _ h => List.mem_cons_of_mem _ (List.mem_append_right _ h)) hown hK hP 0 rfl rfl 17 (by decide) (hts (.fieldLink RX6 156 "HazelGiftModel" "firstBest" "I") (List.mem_of_getElem? (i := 3) rfl)) (fun _ h9 => h9) rfl dX6_keeps_32 ?_
      refine va_put (D := D) (ci := 5) (v := .int u.2.2.2.2.2.2.2.2.2.2.2.2.2.2.2.2.2) (ty := tyX6 17) (C := RX6) (T := TX6) (N := 18) hx hb hts (fun _ h => List.mem_cons_of_mem _ (List.mem_append_right _ h)) tyX6 tyX6_ok nmX6 hown hK hP hD hS 0 rfl rfl 17 (by decide) (hts (.fieldLink RX6 156 "HazelGiftModel" "firstBest" "I") (List.mem_of_getElem? (i := 3) rfl)) (fun _ h9 => h9) rfl (tyX6_ok 17 (by decide)) rfl rfl (Nat.le_of_ble_eq_true rfl) dX6_keeps_35 (fun H locs hP hD hS => ?_)
      have hP : va_P D vwCl (wM kI mo m0 m1 m2 m3 m4 m5 m6 m7 (u.1, u.2.1, u.2.2.1, u.2.2.2.1, u.2.2.2.2.1, u.2.2.2.2.2.1, (upd u.2.2.2.2.2.2.1 (p0).toNatClampNeg p1), u.2.2.2.2.2.2.2.1, u.2.2.2.2.2.2.2.2.1, u.2.2.2.2.2.2.2.2.2.1, u.2.2.2.2.2.2.2.2.2.2.1, u.2.2.2.2.2.2.2.2.2.2.2.1, u.2.2.2.2.2.2.2.2.2.2.2.2.1, u.2.2.2.2.2.2.2.2.2.2.2.2.2.1, u.2.2.2.2.2.2.2.2.2.2.2.2.2.2.1, u.2.2.2.2.2.2.2.2.2.2.2.2.2.2.2.1, u.2.2.2.2.2.2.2.2.2.2.2.2.2.2.2.2.1, u.2.2.2.2.2.2.2.2.2.2.2.2.2.2.2.2.2)) H := hP
      have hD : va_D A (wM kI mo m0 m1 m2 m3 m4 m5 m6 m7 (u.1, u.2.1, u.2.2.1, u.2.2.2.1, u.2.2.2.2.1, u.2.2.2.2.2.1, (upd u.2.2.2.2.2.2.1 (p0).toNatClampNeg p1), u.2.2.2.2.2.2.2.1, u.2.2.2.2.2.2.2.2.1, u.2.2.2.2.2.2.2.2.2.1, u.2.2.2.2.2.2.2.2.2.2.1, u.2.2.2.2.2.2.2.2.2.2.2.1, u.2.2.2.2.2.2.2.2.2.2.2.2.1, u.2.2.2.2.2.2.2.2.2.2.2.2.2.1, u.2.2.2.2.2.2.2.2.2.2.2.2.2.2.1, u.2.2.2.2.2.2.2.2.2.2.2.2.2.2.2.1, u.2.2.2.2.2.2.2.2.2.2.2.2.2.2.2.2.1, u.2.2.2.2.2.2.2.2.2.2.2.2.2.2.2.2.2)) := hD
      exact W.vret hx hb hr (fun t ht hW => ⟨⟨(u.1, u.2.1, u.2.2.1, u.2.2.2.1, u.2.2.2.2.1, u.2.2.2.2.2.1, (upd u.2.2.2.2.2.2.1 (p0).toNatClampNeg p1), u.2.2.2.2.2.2.2.1, u.2.2.2.2.2.2.2.2.1, u.2.2.2.2.2.2.2.2.2.1, u.2.2.2.2.2.2.2.2.2.2.1, u.2.2.2.2.2.2.2.2.2.2.2.1, u.2.2.2.2.2.2.2.2.2.2.2.2.1, u.2.2.2.2.2.2.2.2.2.2.2.2.2.1, u.2.2.2.2.2.2.2.2.2.2.2.2.2.2.1, u.2.2.2.2.2.2.2.2.2.2.2.2.2.2.2.1, u.2.2.2.2.2.2.2.2.2.2.2.2.2.2.2.2.1, u.2.2.2.2.2.2.2.2.2.2.2.2.2.2.2.2.2), rfl, hw, by rw [ht]; exact hP, va_K.moved hW.alike hK, hD⟩, hS.F ht⟩) hS.2.2 dX6_keeps_38
    · replace hw := Eq.mp (if_pos c4) hw
      refine lv_aload_n hx hb dX6_keeps_22 rfl (lv_at hl 0 rfl) ?_
      refine va_get (D := D) (ci := 5) (v := .ref m5) (C := RX6) (T := TX6) (N := 18) hx hb hts (fun _ h => List.mem_cons_of_mem _ (List.mem_append_right _ h)) hown hK hP 0 rfl rfl 14 (by decide) (hts (.fieldLink RX6 25 "HazelGiftModel" "option" "[I") (List.mem_of_getElem? (i := 2) rfl)) (fun _ h9 => h9) rfl dX6_keeps_23 ?_
      refine lv_iconst (v := 0) hx hb dX6_keeps_26 (by decide) ?_
      refine gIald (k := 0) hx hb hK hP 6 0 rfl rfl (gin (by decide)) (by decide) dX6_keeps_27 ?_
      refine lv_goto (tgt := 35) hx hb dX6_keeps_28 (by decide) ?_
      refine lv_topi (fun x5 ex5 => ?_)
      replace hw := hw x5 ex5
      refine va_put (D := D) (ci := 5) (v := .int x5) (ty := tyX6 17) (C := RX6) (T := TX6) (N := 18) hx hb hts (fun _ h => List.mem_cons_of_mem _ (List.mem_append_right _ h)) tyX6 tyX6_ok nmX6 hown hK hP hD hS 0 rfl rfl 17 (by decide) (hts (.fieldLink RX6 156 "HazelGiftModel" "firstBest" "I") (List.mem_of_getElem? (i := 3) rfl)) (fun _ h9 => h9) rfl (tyX6_ok 17 (by decide)) rfl rfl (Nat.le_of_ble_eq_true rfl) dX6_keeps_35 (fun H locs hP hD hS => ?_)
      have hP : va_P D vwCl (wM kI mo m0 m1 m2 m3 m4 m5 m6 m7 (u.1, u.2.1, u.2.2.1, u.2.2.2.1, u.2.2.2.2.1, u.2.2.2.2.2.1, (upd u.2.2.2.2.2.2.1 (p0).toNatClampNeg p1), u.2.2.2.2.2.2.2.1, u.2.2.2.2.2.2.2.2.1, u.2.2.2.2.2.2.2.2.2.1, u.2.2.2.2.2.2.2.2.2.2.1, u.2.2.2.2.2.2.2.2.2.2.2.1, u.2.2.2.2.2.2.2.2.2.2.2.2.1, u.2.2.2.2.2.2.2.2.2.2.2.2.2.1, u.2.2.2.2.2.2.2.2.2.2.2.2.2.2.1, u.2.2.2.2.2.2.2.2.2.2.2.2.2.2.2.1, u.2.2.2.2.2.2.2.2.2.2.2.2.2.2.2.2.1, x5)) H := hP
      have hD : va_D A (wM kI mo m0 m1 m2 m3 m4 m5 m6 m7 (u.1, u.2.1, u.2.2.1, u.2.2.2.1, u.2.2.2.2.1, u.2.2.2.2.2.1, (upd u.2.2.2.2.2.2.1 (p0).toNatClampNeg p1), u.2.2.2.2.2.2.2.1, u.2.2.2.2.2.2.2.2.1, u.2.2.2.2.2.2.2.2.2.1, u.2.2.2.2.2.2.2.2.2.2.1, u.2.2.2.2.2.2.2.2.2.2.2.1, u.2.2.2.2.2.2.2.2.2.2.2.2.1, u.2.2.2.2.2.2.2.2.2.2.2.2.2.1, u.2.2.2.2.2.2.2.2.2.2.2.2.2.2.1, u.2.2.2.2.2.2.2.2.2.2.2.2.2.2.2.1, u.2.2.2.2.2.2.2.2.2.2.2.2.2.2.2.2.1, x5)) := hD
      exact W.vret hx hb hr (fun t ht hW => ⟨⟨(u.1, u.2.1, u.2.2.1, u.2.2.2.1, u.2.2.2.2.1, u.2.2.2.2.2.1, (upd u.2.2.2.2.2.2.1 (p0).toNatClampNeg p1), u.2.2.2.2.2.2.2.1, u.2.2.2.2.2.2.2.2.1, u.2.2.2.2.2.2.2.2.2.1, u.2.2.2.2.2.2.2.2.2.2.1, u.2.2.2.2.2.2.2.2.2.2.2.1, u.2.2.2.2.2.2.2.2.2.2.2.2.1, u.2.2.2.2.2.2.2.2.2.2.2.2.2.1, u.2.2.2.2.2.2.2.2.2.2.2.2.2.2.1, u.2.2.2.2.2.2.2.2.2.2.2.2.2.2.2.1, u.2.2.2.2.2.2.2.2.2.2.2.2.2.2.2.2.1, x5), rfl, hw, by rw [ht]; exact hP, va_K.moved hW.alike hK, hD⟩, hS.F ht⟩) hS.2.2 dX6_keeps_38
set_option maxHeartbeats 4000000 in
set_option maxRecDepth 100000 in
theorem kX6_searches (l : Launch) (D : va_G) (kI kC kG kJ : ClassId) (mo m0 m1 m2 m3 m4 m5 m6 m7 : Nat) (sz : Nat) (u : SM) (Z : Int32 → SM → Prop) (hw : pX6_searches u Z) : Met l yX6_searches wsX6_searches ({ frames := 3, cells := 0, slots := 0, locals := 68 } : Room) (gPw D (gT kI kC kG kJ) [.ref mo] (wM kI mo m0 m1 m2 m3 m4 m5 m6 m7 u) sz) (va_Qi Z (gB D (gT kI kC kG kJ) (fun (zz : SM) => wM kI mo m0 m1 m2 m3 m4 m5 m6 m7 zz) (va_A (wM kI mo m0 m1 m2 m3 m4 m5 m6 m7 u) sz)) (va_A (wM kI mo m0 m1 m2 m3 m4 m5 m6 m7 u) sz)) 0 0 (va_A (wM kI mo m0 m1 m2 m3 m4 m5 m6 m7 u) sz) := by
  refine Met.ofW (cc := cX6_searches) (maxL := 5) (ret := (some .int)) (by decide) rfl ?_
  intro p e s m args below meth c s₁ B hml hv
  obtain ⟨rfl, hsz, hP, hK, hD0, hE⟩ := hv
  have hx := B.exec
  have hb := B.bytes
  have hr := B.returns
  have hts := atoms_spec (ws := wsX6_searches) B.pre
  have hown : s.vm.findClass RX6 = some m.cls := findClass_of_methodNamed B.named
  have hlocks := B.notSynchronized
  subst hsz
  have hD := hD0.self (sz := s.heap.size)
  generalize hAe : va_A (wM kI mo m0 m1 m2 m3 m4 m5 m6 m7 u) s.heap.size = A at hD hE ⊢
  have hA : ∀ q : Nat, s.heap.size ≤ q → A q := fun q h => by rw [← hAe]; exact Or.inr h
  have hS : va_S A s.heap s.heap [] := va_S.rf
  clear hAe hD0
  have hl := lv_entry ([.ref mo]) (n := 5) (Nat.le_of_ble_eq_true rfl)
  rw [lg_entry_eq]
  generalize (lg_sl ([.ref mo]) ++ List.replicate (5 - (lg_sl ([.ref mo])).length) Slot.unset).toArray = ls at hl ⊢
  have hl : lv_has ls 5 [(0, .ref mo)] := hl
  have hP : va_P D vwCl (wM kI mo m0 m1 m2 m3 m4 m5 m6 m7 u) s.heap := hP
  have L31 : ∀ (K17 : Int32 → SM → Prop) (hK17 : ∀ (v1 : Int32) (u : SM) (H : Heap) (locs : List Loc) (ls : Array Slot), va_P D vwCl (wM kI mo m0 m1 m2 m3 m4 m5 m6 m7 u) H → va_D A (wM kI mo m0 m1 m2 m3 m4 m5 m6 m7 u) → va_S A s.heap H locs → lv_has ls 5 [(0, .ref mo), (1, .int v1)] → K17 v1 u → W p l e (headSpec wsX6_searches ({ frames := 3, cells := 0, slots := 0, locals := 68 } : Room)).room s m ([.ref mo] : List Value).toArray below meth c H locs 0 0 (MQ below (va_Qi Z (gB D (gT kI kC kG kJ) (fun (zz : SM) => wM kI mo m0 m1 m2 m3 m4 m5 m6 m7 zz) A) A) ([.ref mo] : List Value).toArray s 0 0 A) (F0 m 17 ls [])) (v1 : Int32), ∀ (n : Nat), ∀ (u : SM) (H : Heap) (locs : List Loc) (ls : Array Slot), va_P D vwCl (wM kI mo m0 m1 m2 m3 m4 m5 m6 m7 u) H → va_D A (wM kI mo m0 m1 m2 m3 m4 m5 m6 m7 u) → va_S A s.heap H locs → lv_has ls 5 [(0, .ref mo), (1, .int v1)] → pX6_searches_31 Z K17 v1 n u → W p l e (headSpec wsX6_searches ({ frames := 3, cells := 0, slots := 0, locals := 68 } : Room)).room s m ([.ref mo] : List Value).toArray below meth c H locs 0 0 (MQ below (va_Qi Z (gB D (gT kI kC kG kJ) (fun (zz : SM) => wM kI mo m0 m1 m2 m3 m4 m5 m6 m7 zz) A) A) ([.ref mo] : List Value).toArray s 0 0 A) (F0 m 31 ls []) := by
    intro K17 hK17 v1 n
    induction n with
    | zero => intro u H locs ls hP hD hS hl hw; exact hw.elim
    | succ n ih =>
    intro u H locs ls hP hD hS hl hw
    rw [pX6_searches_31] at hw
    refine lv_aload_n hx hb dX6_searches_31 rfl (lv_at hl 0 rfl) ?_
    refine va_get (D := D) (ci := 5) (v := .ref m5) (C := RX6) (T := TX6) (N := 18) hx hb hts (fun _ h => List.mem_cons_of_mem _ (List.mem_append_right _ h)) hown hK hP 0 rfl rfl 14 (by decide) (hts (.fieldLink RX6 25 "HazelGiftModel" "option" "[I") (List.mem_of_getElem? (i := 1) rfl)) (fun _ h9 => h9) rfl dX6_searches_32 ?_
    refine lv_iload_n hx hb dX6_searches_35 rfl (lv_at hl 1 rfl) ?_
    obtain ⟨hi5, hw⟩ := hw
    refine gIald (k := (v1).toNatClampNeg) hx hb hK hP 6 0 rfl rfl hi5 rfl dX6_searches_36 ?_
    refine lv_bipush (v := 16) hx hb dX6_searches_37 (by decide) ?_
    refine lv_icmp_ge (tgt := 68) hx hb dX6_searches_39 (by decide) (fun c6 => ?_) (fun c6 => ?_)
    · replace hw := Eq.mp (if_pos c6) hw
      refine lv_aload_n hx hb dX6_searches_68 rfl (lv_at hl 0 rfl) ?_
      refine va_get (D := D) (ci := 5) (v := .ref m5) (C := RX6) (T := TX6) (N := 18) hx hb hts (fun _ h => List.mem_cons_of_mem _ (List.mem_append_right _ h)) hown hK hP 0 rfl rfl 14 (by decide) (hts (.fieldLink RX6 25 "HazelGiftModel" "option" "[I") (List.mem_of_getElem? (i := 1) rfl)) (fun _ h9 => h9) rfl dX6_searches_69 ?_
      refine lv_iload_n hx hb dX6_searches_72 rfl (lv_at hl 1 rfl) ?_
      obtain ⟨hi7, hw⟩ := hw
      refine gIald (k := (v1).toNatClampNeg) hx hb hK hP 6 0 rfl rfl hi7 rfl dX6_searches_73 ?_
      refine lv_bipush (v := 16) hx hb dX6_searches_74 (by decide) ?_
      refine lv_icmp_ge (tgt := 89) hx hb dX6_searches_76 (by decide) (fun c8 => ?_) (fun c8 => ?_)
      · replace hw := Eq.mp (if_pos c8) hw
        refine lv_aload_n hx hb dX6_searches_89 rfl (lv_at hl 0 rfl) ?_
        refine va_get (D := D) (ci := 5) (v := .ref m6) (C := RX6) (T := TX6) (N := 18) hx hb hts (fun _ h => List.mem_cons_of_mem _ (List.mem_append_right _ h)) hown hK hP 0 rfl rfl 15 (by decide) (hts (.fieldLink RX6 28 "HazelGiftModel" "best" "[I") (List.mem_of_getElem? (i := 2) rfl)) (fun _ h9 => h9) rfl dX6_searches_90 ?_
        refine lv_iload_n hx hb dX6_searches_93 rfl (lv_at hl 1 rfl) ?_
        obtain ⟨hi9, hw⟩ := hw
        refine gIald (k := (v1).toNatClampNeg) hx hb hK hP 7 0 rfl rfl hi9 rfl dX6_searches_94 ?_
        refine lv_topi (fun x10 ex10 => ?_)
        replace hw := hw x10 ex10
        refine lv_istore_n (lv' := [(2, .int x10), (0, .ref mo), (1, .int v1)]) hx hb dX6_searches_95 rfl hl (by decide) rfl (fun ls hl => ?_)
        obtain ⟨x11, ex11⟩ : ∃ y : Int32, y = (v1 + (-1)) := ⟨_, rfl⟩
        replace hw := hw x11 ex11
        refine lv_iinc (v := x11) (lv' := [(1, .int x11), (2, .int x10), (0, .ref mo)]) hx hb dX6_searches_96 hl (k := 2) rfl (by rw [ex11]; rfl) (by decide) rfl (fun ls hl => ?_)
        refine lv_iload_n hx hb dX6_searches_99 rfl (lv_at hl 0 rfl) ?_
        refine lv_if_lt (tgt := 180) hx hb dX6_searches_100 (by decide) (fun c12 => ?_) (fun c12 => ?_)
        · replace hw := Eq.mp (if_pos c12) hw
          refine lv_goto (tgt := 17) hx hb dX6_searches_180 (by decide) ?_
          exact hK17 x11 u H locs ls hP hD hS (lv_sub hl [2, 0] rfl) hw
        · replace hw := Eq.mp (if_neg c12) hw
          refine lv_aload_n hx hb dX6_searches_103 rfl (lv_at hl 2 rfl) ?_
          refine va_get (D := D) (ci := 5) (v := .ref m7) (C := RX6) (T := TX6) (N := 18) hx hb hts (fun _ h => List.mem_cons_of_mem _ (List.mem_append_right _ h)) hown hK hP 0 rfl rfl 16 (by decide) (hts (.fieldLink RX6 31 "HazelGiftModel" "held" "[I") (List.mem_of_getElem? (i := 3) rfl)) (fun _ h9 => h9) rfl dX6_searches_104 ?_
          refine lv_iload_n hx hb dX6_searches_107 rfl (lv_at hl 0 rfl) ?_
          obtain ⟨hi13, hw⟩ := hw
          refine gIald (k := (x11).toNatClampNeg) hx hb hK hP 8 0 rfl rfl hi13 rfl dX6_searches_108 ?_
          refine lv_if_ne (tgt := 116) hx hb dX6_searches_109 (by decide) (fun c14 => ?_) (fun c14 => ?_)
          · replace hw := Eq.mp (if_neg c14) hw
            refine lv_iconst (v := 0) hx hb dX6_searches_116 (by decide) ?_
            refine lv_istore_n (lv' := [(3, .int 0), (1, .int x11), (2, .int x10), (0, .ref mo)]) hx hb dX6_searches_117 rfl hl (by decide) rfl (fun ls hl => ?_)
            refine lv_aload_n hx hb dX6_searches_118 rfl (lv_at hl 3 rfl) ?_
            refine va_get (D := D) (ci := 5) (v := .ref m0) (C := RX6) (T := TX6) (N := 18) hx hb hts (fun _ h => List.mem_cons_of_mem _ (List.mem_append_right _ h)) hown hK hP 0 rfl rfl 0 (by decide) (hts (.fieldLink RX6 7 "HazelGiftModel" "all" "[I") (List.mem_of_getElem? (i := 4) rfl)) (fun _ h9 => h9) rfl dX6_searches_119 ?_
            refine lv_bipush (v := 16) hx hb dX6_searches_122 (by decide) ?_
            refine lv_aload_n hx hb dX6_searches_124 rfl (lv_at hl 3 rfl) ?_
            refine va_get (D := D) (ci := 5) (v := .ref m7) (C := RX6) (T := TX6) (N := 18) hx hb hts (fun _ h => List.mem_cons_of_mem _ (List.mem_append_right _ h)) hown hK hP 0 rfl rfl 16 (by decide) (hts (.fieldLink RX6 31 "HazelGiftModel" "held" "[I") (List.mem_of_getElem? (i := 3) rfl)) (fun _ h9 => h9) rfl dX6_searches_125 ?_
            refine lv_iload_n hx hb dX6_searches_128 rfl (lv_at hl 1 rfl) ?_
            obtain ⟨hi15, hw⟩ := hw
            refine gIald (k := (x11).toNatClampNeg) hx hb hK hP 8 0 rfl rfl hi15 rfl dX6_searches_129 ?_
            refine lv_topi (fun x16 ex16 => ?_)
            replace hw := hw x16 ex16
            refine gIast (k := 16) hx hb hK hP hD hS 1 0 rfl rfl (gin (by decide)) (by decide) dX6_searches_130 (fun H locs hP hD hS => ?_)
            have hP : va_P D vwCl (wM kI mo m0 m1 m2 m3 m4 m5 m6 m7 ((upd u.1 16 x16), u.2.1, u.2.2.1, u.2.2.2.1, u.2.2.2.2.1, u.2.2.2.2.2.1, u.2.2.2.2.2.2.1, u.2.2.2.2.2.2.2.1, u.2.2.2.2.2.2.2.2.1, u.2.2.2.2.2.2.2.2.2.1, u.2.2.2.2.2.2.2.2.2.2.1, u.2.2.2.2.2.2.2.2.2.2.2.1, u.2.2.2.2.2.2.2.2.2.2.2.2.1, u.2.2.2.2.2.2.2.2.2.2.2.2.2.1, u.2.2.2.2.2.2.2.2.2.2.2.2.2.2.1, u.2.2.2.2.2.2.2.2.2.2.2.2.2.2.2.1, u.2.2.2.2.2.2.2.2.2.2.2.2.2.2.2.2.1, u.2.2.2.2.2.2.2.2.2.2.2.2.2.2.2.2.2)) H := hP
            have hD : va_D A (wM kI mo m0 m1 m2 m3 m4 m5 m6 m7 ((upd u.1 16 x16), u.2.1, u.2.2.1, u.2.2.2.1, u.2.2.2.2.1, u.2.2.2.2.2.1, u.2.2.2.2.2.2.1, u.2.2.2.2.2.2.2.1, u.2.2.2.2.2.2.2.2.1, u.2.2.2.2.2.2.2.2.2.1, u.2.2.2.2.2.2.2.2.2.2.1, u.2.2.2.2.2.2.2.2.2.2.2.1, u.2.2.2.2.2.2.2.2.2.2.2.2.1, u.2.2.2.2.2.2.2.2.2.2.2.2.2.1, u.2.2.2.2.2.2.2.2.2.2.2.2.2.2.1, u.2.2.2.2.2.2.2.2.2.2.2.2.2.2.2.1, u.2.2.2.2.2.2.2.2.2.2.2.2.2.2.2.2.1, u.2.2.2.2.2.2.2.2.2.2.2.2.2.2.2.2.2)) := hD
            refine lv_aload_n hx hb dX6_searches_131 rfl (lv_at hl 3 rfl) ?_
            refine va_get (D := D) (ci := 5) (v := .ref m0) (C := RX6) (T := TX6) (N := 18) hx hb hts (fun _ h => List.mem_cons_of_mem _ (List.mem_append_right _ h)) hown hK hP 0 rfl rfl 0 (by decide) (hts (.fieldLink RX6 7 "HazelGiftModel" "all" "[I") (List.mem_of_getElem? (i := 4) rfl)) (fun _ h9 => h9) rfl dX6_searches_132 ?_
            refine lv_iconst (v := 0) hx hb dX6_searches_135 (by decide) ?_
            refine lv_aload_n hx hb dX6_searches_136 rfl (lv_at hl 3 rfl) ?_
            refine va_get (D := D) (ci := 5) (v := .ref m5) (C := RX6) (T := TX6) (N := 18) hx hb hts (fun _ h => List.mem_cons_of_mem _ (List.mem_append_right _ h)) hown hK hP 0 rfl rfl 14 (by decide) (hts (.fieldLink RX6 25 "HazelGiftModel" "option" "[I") (List.mem_of_getElem? (i := 1) rfl)) (fun _ h9 => h9) rfl dX6_searches_137 ?_
            refine lv_iload_n hx hb dX6_searches_140 rfl (lv_at hl 1 rfl) ?_
            obtain ⟨hi17, hw⟩ := hw
            refine gIald (k := (x11).toNatClampNeg) hx hb hK hP 6 0 rfl rfl hi17 rfl dX6_searches_141 ?_
            refine lv_iadd hx hb dX6_searches_142 ?_
            refine lv_iload_n hx hb dX6_searches_143 rfl (lv_at hl 0 rfl) ?_
            refine lv_if_eq (tgt := 163) hx hb dX6_searches_144 (by decide) (fun c18 => ?_) (fun c18 => ?_)
            · skip
              refine lv_iconst (v := 0) hx hb dX6_searches_163 (by decide) ?_
              obtain ⟨hi19, hw⟩ := hw
              refine gIast (k := ((0 + (u.2.2.2.2.2.1 (x11).toNatClampNeg))).toNatClampNeg) hx hb hK hP hD hS 1 0 rfl rfl hi19 rfl dX6_searches_164 (fun H locs hP hD hS => ?_)
              have hP : va_P D vwCl (wM kI mo m0 m1 m2 m3 m4 m5 m6 m7 ((upd (upd u.1 16 x16) ((0 + (u.2.2.2.2.2.1 (x11).toNatClampNeg))).toNatClampNeg 0), u.2.1, u.2.2.1, u.2.2.2.1, u.2.2.2.2.1, u.2.2.2.2.2.1, u.2.2.2.2.2.2.1, u.2.2.2.2.2.2.2.1, u.2.2.2.2.2.2.2.2.1, u.2.2.2.2.2.2.2.2.2.1, u.2.2.2.2.2.2.2.2.2.2.1, u.2.2.2.2.2.2.2.2.2.2.2.1, u.2.2.2.2.2.2.2.2.2.2.2.2.1, u.2.2.2.2.2.2.2.2.2.2.2.2.2.1, u.2.2.2.2.2.2.2.2.2.2.2.2.2.2.1, u.2.2.2.2.2.2.2.2.2.2.2.2.2.2.2.1, u.2.2.2.2.2.2.2.2.2.2.2.2.2.2.2.2.1, u.2.2.2.2.2.2.2.2.2.2.2.2.2.2.2.2.2)) H := hP
              have hD : va_D A (wM kI mo m0 m1 m2 m3 m4 m5 m6 m7 ((upd (upd u.1 16 x16) ((0 + (u.2.2.2.2.2.1 (x11).toNatClampNeg))).toNatClampNeg 0), u.2.1, u.2.2.1, u.2.2.2.1, u.2.2.2.2.1, u.2.2.2.2.2.1, u.2.2.2.2.2.2.1, u.2.2.2.2.2.2.2.1, u.2.2.2.2.2.2.2.2.1, u.2.2.2.2.2.2.2.2.2.1, u.2.2.2.2.2.2.2.2.2.2.1, u.2.2.2.2.2.2.2.2.2.2.2.1, u.2.2.2.2.2.2.2.2.2.2.2.2.1, u.2.2.2.2.2.2.2.2.2.2.2.2.2.1, u.2.2.2.2.2.2.2.2.2.2.2.2.2.2.1, u.2.2.2.2.2.2.2.2.2.2.2.2.2.2.2.1, u.2.2.2.2.2.2.2.2.2.2.2.2.2.2.2.2.1, u.2.2.2.2.2.2.2.2.2.2.2.2.2.2.2.2.2)) := hD
              refine lv_aload_n hx hb dX6_searches_165 rfl (lv_at hl 3 rfl) ?_
              refine lv_iload_n hx hb dX6_searches_166 rfl (lv_at hl 1 rfl) ?_
              refine lv_iload_n hx hb dX6_searches_167 rfl (lv_at hl 0 rfl) ?_
              refine lv_if_eq (tgt := 176) hx hb dX6_searches_168 (by decide) (fun c20 => ?_) (fun c20 => ?_)
              · skip
                refine lv_iload_n hx hb dX6_searches_176 rfl (lv_at hl 2 rfl) ?_
                refine gWVv (S := SM) (As := [.int x11, .int x10]) (rest := []) (wc := wM kI mo m0 m1 m2 m3 m4 m5 m6 m7 ((upd (upd u.1 16 x16) ((0 + (u.2.2.2.2.2.1 (x11).toNatClampNeg))).toNatClampNeg 0), u.2.1, u.2.2.1, u.2.2.2.1, u.2.2.2.2.1, u.2.2.2.2.2.1, u.2.2.2.2.2.2.1, u.2.2.2.2.2.2.2.1, u.2.2.2.2.2.2.2.2.1, u.2.2.2.2.2.2.2.2.2.1, u.2.2.2.2.2.2.2.2.2.2.1, u.2.2.2.2.2.2.2.2.2.2.2.1, u.2.2.2.2.2.2.2.2.2.2.2.2.1, u.2.2.2.2.2.2.2.2.2.2.2.2.2.1, u.2.2.2.2.2.2.2.2.2.2.2.2.2.2.1, u.2.2.2.2.2.2.2.2.2.2.2.2.2.2.2.1, u.2.2.2.2.2.2.2.2.2.2.2.2.2.2.2.2.1, u.2.2.2.2.2.2.2.2.2.2.2.2.2.2.2.2.2)) (wr := []) (cs1 := (fun zz : SM => wM kI mo m0 m1 m2 m3 m4 m5 m6 m7 zz)) (ws2 := (fun zz : SM => wM kI mo m0 m1 m2 m3 m4 m5 m6 m7 zz)) ⟨hx, hb, hml, hown, hts⟩ (fun sz => kX6_keeps l D kI kC kG kJ mo m0 m1 m2 m3 m4 m5 m6 m7 sz ((upd (upd u.1 16 x16) ((0 + (u.2.2.2.2.2.1 (x11).toNatClampNeg))).toNatClampNeg 0), u.2.1, u.2.2.1, u.2.2.2.1, u.2.2.2.2.1, u.2.2.2.2.2.1, u.2.2.2.2.2.2.1, u.2.2.2.2.2.2.2.1, u.2.2.2.2.2.2.2.2.1, u.2.2.2.2.2.2.2.2.2.1, u.2.2.2.2.2.2.2.2.2.2.1, u.2.2.2.2.2.2.2.2.2.2.2.1, u.2.2.2.2.2.2.2.2.2.2.2.2.1, u.2.2.2.2.2.2.2.2.2.2.2.2.2.1, u.2.2.2.2.2.2.2.2.2.2.2.2.2.2.1, u.2.2.2.2.2.2.2.2.2.2.2.2.2.2.2.1, u.2.2.2.2.2.2.2.2.2.2.2.2.2.2.2.2.1, u.2.2.2.2.2.2.2.2.2.2.2.2.2.2.2.2.2) x11 x10 _ hw) (cwV 2 hts gX6_searches_X6_keeps rfl rfl rfl hdX6_keeps ⟨Nat.le_of_ble_eq_true rfl, Nat.le_of_ble_eq_true rfl⟩) hK hP hD hE hS hA [0, 1, 2, 3, 4, 5, 6, 7, 8] [] rfl rfl rfl rfl (by decide) [0, 1, 2, 3, 4, 5, 6, 7, 8] rfl (fun _ => rfl) (ci := 5) (q0 := 0) rfl rfl rfl rfl hl.1 rfl (Nat.le_of_ble_eq_true rfl) dX6_searches_177 ⟨Nat.le_of_ble_eq_true rfl, Nat.le_of_ble_eq_true rfl⟩ (fun w21 H locs hw hP hD hS => ?_)
                have hP : va_P D vwCl (wM kI mo m0 m1 m2 m3 m4 m5 m6 m7 w21) H := hP
                have hD : va_D A (wM kI mo m0 m1 m2 m3 m4 m5 m6 m7 w21) := hD
                refine lv_goto (tgt := 17) hx hb dX6_searches_180 (by decide) ?_
                exact hK17 x11 w21 H locs ls hP hD hS (lv_sub hl [3, 1] rfl) hw
              · first | exact absurd (by decide) c20 | exact absurd c20 (by decide)
            · first | exact absurd (by decide) c18 | exact absurd c18 (by decide)
          · replace hw := Eq.mp (if_pos c14) hw
            refine lv_iconst (v := 1) hx hb dX6_searches_112 (by decide) ?_
            refine lv_goto (tgt := 117) hx hb dX6_searches_113 (by decide) ?_
            refine lv_istore_n (lv' := [(3, .int 1), (1, .int x11), (2, .int x10), (0, .ref mo)]) hx hb dX6_searches_117 rfl hl (by decide) rfl (fun ls hl => ?_)
            refine lv_aload_n hx hb dX6_searches_118 rfl (lv_at hl 3 rfl) ?_
            refine va_get (D := D) (ci := 5) (v := .ref m0) (C := RX6) (T := TX6) (N := 18) hx hb hts (fun _ h => List.mem_cons_of_mem _ (List.mem_append_right _ h)) hown hK hP 0 rfl rfl 0 (by decide) (hts (.fieldLink RX6 7 "HazelGiftModel" "all" "[I") (List.mem_of_getElem? (i := 4) rfl)) (fun _ h9 => h9) rfl dX6_searches_119 ?_
            refine lv_bipush (v := 16) hx hb dX6_searches_122 (by decide) ?_
            refine lv_aload_n hx hb dX6_searches_124 rfl (lv_at hl 3 rfl) ?_
            refine va_get (D := D) (ci := 5) (v := .ref m7) (C := RX6) (T := TX6) (N := 18) hx hb hts (fun _ h => List.mem_cons_of_mem _ (List.mem_append_right _ h)) hown hK hP 0 rfl rfl 16 (by decide) (hts (.fieldLink RX6 31 "HazelGiftModel" "held" "[I") (List.mem_of_getElem? (i := 3) rfl)) (fun _ h9 => h9) rfl dX6_searches_125 ?_
            refine lv_iload_n hx hb dX6_searches_128 rfl (lv_at hl 1 rfl) ?_
            obtain ⟨hi22, hw⟩ := hw
            refine gIald (k := (x11).toNatClampNeg) hx hb hK hP 8 0 rfl rfl hi22 rfl dX6_searches_129 ?_
            refine lv_topi (fun x23 ex23 => ?_)
            replace hw := hw x23 ex23
            refine gIast (k := 16) hx hb hK hP hD hS 1 0 rfl rfl (gin (by decide)) (by decide) dX6_searches_130 (fun H locs hP hD hS => ?_)
            have hP : va_P D vwCl (wM kI mo m0 m1 m2 m3 m4 m5 m6 m7 ((upd u.1 16 x23), u.2.1, u.2.2.1, u.2.2.2.1, u.2.2.2.2.1, u.2.2.2.2.2.1, u.2.2.2.2.2.2.1, u.2.2.2.2.2.2.2.1, u.2.2.2.2.2.2.2.2.1, u.2.2.2.2.2.2.2.2.2.1, u.2.2.2.2.2.2.2.2.2.2.1, u.2.2.2.2.2.2.2.2.2.2.2.1, u.2.2.2.2.2.2.2.2.2.2.2.2.1, u.2.2.2.2.2.2.2.2.2.2.2.2.2.1, u.2.2.2.2.2.2.2.2.2.2.2.2.2.2.1, u.2.2.2.2.2.2.2.2.2.2.2.2.2.2.2.1, u.2.2.2.2.2.2.2.2.2.2.2.2.2.2.2.2.1, u.2.2.2.2.2.2.2.2.2.2.2.2.2.2.2.2.2)) H := hP
            have hD : va_D A (wM kI mo m0 m1 m2 m3 m4 m5 m6 m7 ((upd u.1 16 x23), u.2.1, u.2.2.1, u.2.2.2.1, u.2.2.2.2.1, u.2.2.2.2.2.1, u.2.2.2.2.2.2.1, u.2.2.2.2.2.2.2.1, u.2.2.2.2.2.2.2.2.1, u.2.2.2.2.2.2.2.2.2.1, u.2.2.2.2.2.2.2.2.2.2.1, u.2.2.2.2.2.2.2.2.2.2.2.1, u.2.2.2.2.2.2.2.2.2.2.2.2.1, u.2.2.2.2.2.2.2.2.2.2.2.2.2.1, u.2.2.2.2.2.2.2.2.2.2.2.2.2.2.1, u.2.2.2.2.2.2.2.2.2.2.2.2.2.2.2.1, u.2.2.2.2.2.2.2.2.2.2.2.2.2.2.2.2.1, u.2.2.2.2.2.2.2.2.2.2.2.2.2.2.2.2.2)) := hD
            refine lv_aload_n hx hb dX6_searches_131 rfl (lv_at hl 3 rfl) ?_
            refine va_get (D := D) (ci := 5) (v := .ref m0) (C := RX6) (T := TX6) (N := 18) hx hb hts (fun _ h => List.mem_cons_of_mem _ (List.mem_append_right _ h)) hown hK hP 0 rfl rfl 0 (by decide) (hts (.fieldLink RX6 7 "HazelGiftModel" "all" "[I") (List.mem_of_getElem? (i := 4) rfl)) (fun _ h9 => h9) rfl dX6_searches_132 ?_
            refine lv_iconst (v := 0) hx hb dX6_searches_135 (by decide) ?_
            refine lv_aload_n hx hb dX6_searches_136 rfl (lv_at hl 3 rfl) ?_
            refine va_get (D := D) (ci := 5) (v := .ref m5) (C := RX6) (T := TX6) (N := 18) hx hb hts (fun _ h => List.mem_cons_of_mem _ (List.mem_append_right _ h)) hown hK hP 0 rfl rfl 14 (by decide) (hts (.fieldLink RX6 25 "HazelGiftModel" "option" "[I") (List.mem_of_getElem? (i := 1) rfl)) (fun _ h9 => h9) rfl dX6_searches_137 ?_
            refine lv_iload_n hx hb dX6_searches_140 rfl (lv_at hl 1 rfl) ?_
            obtain ⟨hi24, hw⟩ := hw
            refine gIald (k := (x11).toNatClampNeg) hx hb hK hP 6 0 rfl rfl hi24 rfl dX6_searches_141 ?_
            refine lv_iadd hx hb dX6_searches_142 ?_
            refine lv_iload_n hx hb dX6_searches_143 rfl (lv_at hl 0 rfl) ?_
            refine lv_if_eq (tgt := 163) hx hb dX6_searches_144 (by decide) (fun c25 => ?_) (fun c25 => ?_)
            · exact absurd c25 (by decide)
            refine lv_aload_n hx hb dX6_searches_147 rfl (lv_at hl 3 rfl) ?_
            refine va_get (D := D) (ci := 5) (v := .ref m0) (C := RX6) (T := TX6) (N := 18) hx hb hts (fun _ h => List.mem_cons_of_mem _ (List.mem_append_right _ h)) hown hK hP 0 rfl rfl 0 (by decide) (hts (.fieldLink RX6 7 "HazelGiftModel" "all" "[I") (List.mem_of_getElem? (i := 4) rfl)) (fun _ h9 => h9) rfl dX6_searches_148 ?_
            refine lv_iconst (v := 0) hx hb dX6_searches_151 (by decide) ?_
            refine lv_aload_n hx hb dX6_searches_152 rfl (lv_at hl 3 rfl) ?_
            refine va_get (D := D) (ci := 5) (v := .ref m5) (C := RX6) (T := TX6) (N := 18) hx hb hts (fun _ h => List.mem_cons_of_mem _ (List.mem_append_right _ h)) hown hK hP 0 rfl rfl 14 (by decide) (hts (.fieldLink RX6 25 "HazelGiftModel" "option" "[I") (List.mem_of_getElem? (i := 1) rfl)) (fun _ h9 => h9) rfl dX6_searches_153 ?_
            refine lv_iload_n hx hb dX6_searches_156 rfl (lv_at hl 1 rfl) ?_
            obtain ⟨hi26, hw⟩ := hw
            refine gIald (k := (x11).toNatClampNeg) hx hb hK hP 6 0 rfl rfl hi26 rfl dX6_searches_157 ?_
            refine lv_iadd hx hb dX6_searches_158 ?_
            obtain ⟨hi27, hw⟩ := hw
            refine gIald (k := ((0 + (u.2.2.2.2.2.1 (x11).toNatClampNeg))).toNatClampNeg) hx hb hK hP 1 0 rfl rfl hi27 rfl dX6_searches_159 ?_
            refine lv_goto (tgt := 164) hx hb dX6_searches_160 (by decide) ?_
            refine lv_topi (fun x28 ex28 => ?_)
            replace hw := hw x28 ex28
            obtain ⟨hi29, hw⟩ := hw
            refine gIast (k := ((0 + (u.2.2.2.2.2.1 (x11).toNatClampNeg))).toNatClampNeg) hx hb hK hP hD hS 1 0 rfl rfl hi29 rfl dX6_searches_164 (fun H locs hP hD hS => ?_)
            have hP : va_P D vwCl (wM kI mo m0 m1 m2 m3 m4 m5 m6 m7 ((upd (upd u.1 16 x23) ((0 + (u.2.2.2.2.2.1 (x11).toNatClampNeg))).toNatClampNeg x28), u.2.1, u.2.2.1, u.2.2.2.1, u.2.2.2.2.1, u.2.2.2.2.2.1, u.2.2.2.2.2.2.1, u.2.2.2.2.2.2.2.1, u.2.2.2.2.2.2.2.2.1, u.2.2.2.2.2.2.2.2.2.1, u.2.2.2.2.2.2.2.2.2.2.1, u.2.2.2.2.2.2.2.2.2.2.2.1, u.2.2.2.2.2.2.2.2.2.2.2.2.1, u.2.2.2.2.2.2.2.2.2.2.2.2.2.1, u.2.2.2.2.2.2.2.2.2.2.2.2.2.2.1, u.2.2.2.2.2.2.2.2.2.2.2.2.2.2.2.1, u.2.2.2.2.2.2.2.2.2.2.2.2.2.2.2.2.1, u.2.2.2.2.2.2.2.2.2.2.2.2.2.2.2.2.2)) H := hP
            have hD : va_D A (wM kI mo m0 m1 m2 m3 m4 m5 m6 m7 ((upd (upd u.1 16 x23) ((0 + (u.2.2.2.2.2.1 (x11).toNatClampNeg))).toNatClampNeg x28), u.2.1, u.2.2.1, u.2.2.2.1, u.2.2.2.2.1, u.2.2.2.2.2.1, u.2.2.2.2.2.2.1, u.2.2.2.2.2.2.2.1, u.2.2.2.2.2.2.2.2.1, u.2.2.2.2.2.2.2.2.2.1, u.2.2.2.2.2.2.2.2.2.2.1, u.2.2.2.2.2.2.2.2.2.2.2.1, u.2.2.2.2.2.2.2.2.2.2.2.2.1, u.2.2.2.2.2.2.2.2.2.2.2.2.2.1, u.2.2.2.2.2.2.2.2.2.2.2.2.2.2.1, u.2.2.2.2.2.2.2.2.2.2.2.2.2.2.2.1, u.2.2.2.2.2.2.2.2.2.2.2.2.2.2.2.2.1, u.2.2.2.2.2.2.2.2.2.2.2.2.2.2.2.2.2)) := hD
            refine lv_aload_n hx hb dX6_searches_165 rfl (lv_at hl 3 rfl) ?_
            refine lv_iload_n hx hb dX6_searches_166 rfl (lv_at hl 1 rfl) ?_
            refine lv_iload_n hx hb dX6_searches_167 rfl (lv_at hl 0 rfl) ?_
            refine lv_if_eq (tgt := 176) hx hb dX6_searches_168 (by decide) (fun c30 => ?_) (fun c30 => ?_)
            · exact absurd c30 (by decide)
            refine lv_iload_n hx hb dX6_searches_171 rfl (lv_at hl 2 rfl) ?_
            refine lv_ineg hx hb dX6_searches_172 ?_
            refine lv_goto (tgt := 177) hx hb dX6_searches_173 (by decide) ?_
            refine gWVv (S := SM) (As := [.int x11, .int (-x10)]) (rest := []) (wc := wM kI mo m0 m1 m2 m3 m4 m5 m6 m7 ((upd (upd u.1 16 x23) ((0 + (u.2.2.2.2.2.1 (x11).toNatClampNeg))).toNatClampNeg x28), u.2.1, u.2.2.1, u.2.2.2.1, u.2.2.2.2.1, u.2.2.2.2.2.1, u.2.2.2.2.2.2.1, u.2.2.2.2.2.2.2.1, u.2.2.2.2.2.2.2.2.1, u.2.2.2.2.2.2.2.2.2.1, u.2.2.2.2.2.2.2.2.2.2.1, u.2.2.2.2.2.2.2.2.2.2.2.1, u.2.2.2.2.2.2.2.2.2.2.2.2.1, u.2.2.2.2.2.2.2.2.2.2.2.2.2.1, u.2.2.2.2.2.2.2.2.2.2.2.2.2.2.1, u.2.2.2.2.2.2.2.2.2.2.2.2.2.2.2.1, u.2.2.2.2.2.2.2.2.2.2.2.2.2.2.2.2.1, u.2.2.2.2.2.2.2.2.2.2.2.2.2.2.2.2.2)) (wr := []) (cs1 := (fun zz : SM => wM kI mo m0 m1 m2 m3 m4 m5 m6 m7 zz)) (ws2 := (fun zz : SM => wM kI mo m0 m1 m2 m3 m4 m5 m6 m7 zz)) ⟨hx, hb, hml, hown, hts⟩ (fun sz => kX6_keeps l D kI kC kG kJ mo m0 m1 m2 m3 m4 m5 m6 m7 sz ((upd (upd u.1 16 x23) ((0 + (u.2.2.2.2.2.1 (x11).toNatClampNeg))).toNatClampNeg x28), u.2.1, u.2.2.1, u.2.2.2.1, u.2.2.2.2.1, u.2.2.2.2.2.1, u.2.2.2.2.2.2.1, u.2.2.2.2.2.2.2.1, u.2.2.2.2.2.2.2.2.1, u.2.2.2.2.2.2.2.2.2.1, u.2.2.2.2.2.2.2.2.2.2.1, u.2.2.2.2.2.2.2.2.2.2.2.1, u.2.2.2.2.2.2.2.2.2.2.2.2.1, u.2.2.2.2.2.2.2.2.2.2.2.2.2.1, u.2.2.2.2.2.2.2.2.2.2.2.2.2.2.1, u.2.2.2.2.2.2.2.2.2.2.2.2.2.2.2.1, u.2.2.2.2.2.2.2.2.2.2.2.2.2.2.2.2.1, u.2.2.2.2.2.2.2.2.2.2.2.2.2.2.2.2.2) x11 (-x10) _ hw) (cwV 2 hts gX6_searches_X6_keeps rfl rfl rfl hdX6_keeps ⟨Nat.le_of_ble_eq_true rfl, Nat.le_of_ble_eq_true rfl⟩) hK hP hD hE hS hA [0, 1, 2, 3, 4, 5, 6, 7, 8] [] rfl rfl rfl rfl (by decide) [0, 1, 2, 3, 4, 5, 6, 7, 8] rfl (fun _ => rfl) (ci := 5) (q0 := 0) rfl rfl rfl rfl hl.1 rfl (Nat.le_of_ble_eq_true rfl) dX6_searches_177 ⟨Nat.le_of_ble_eq_true rfl, Nat.le_of_ble_eq_true rfl⟩ (fun w31 H locs hw hP hD hS => ?_)
            have hP : va_P D vwCl (wM kI mo m0 m1 m2 m3 m4 m5 m6 m7 w31) H := hP
            have hD : va_D A (wM kI mo m0 m1 m2 m3 m4 m5 m6 m7 w31) := hD
            refine lv_goto (tgt := 17) hx hb dX6_searches_180 (by decide) ?_
            exact hK17 x11 w31 H locs ls hP hD hS (lv_sub hl [3, 1] rfl) hw
      · replace hw := Eq.mp (if_neg c8) hw
        refine lv_aload_n hx hb dX6_searches_79 rfl (lv_at hl 0 rfl) ?_
        refine va_get (D := D) (ci := 5) (v := .ref m6) (C := RX6) (T := TX6) (N := 18) hx hb hts (fun _ h => List.mem_cons_of_mem _ (List.mem_append_right _ h)) hown hK hP 0 rfl rfl 15 (by decide) (hts (.fieldLink RX6 28 "HazelGiftModel" "best" "[I") (List.mem_of_getElem? (i := 2) rfl)) (fun _ h9 => h9) rfl dX6_searches_80 ?_
        refine lv_iload_n hx hb dX6_searches_83 rfl (lv_at hl 1 rfl) ?_
        obtain ⟨hi32, hw⟩ := hw
        refine gIald (k := (v1).toNatClampNeg) hx hb hK hP 7 0 rfl rfl hi32 rfl dX6_searches_84 ?_
        refine lv_iconst (v := 1) hx hb dX6_searches_85 (by decide) ?_
        refine lv_icmp_ne (tgt := 183) hx hb dX6_searches_86 (by decide) (fun c33 => ?_) (fun c33 => ?_)
        · replace hw := Eq.mp (if_neg c33) hw
          refine lv_aload_n hx hb dX6_searches_183 rfl (lv_at hl 0 rfl) ?_
          refine va_get (D := D) (ci := 5) (v := .ref m5) (C := RX6) (T := TX6) (N := 18) hx hb hts (fun _ h => List.mem_cons_of_mem _ (List.mem_append_right _ h)) hown hK hP 0 rfl rfl 14 (by decide) (hts (.fieldLink RX6 25 "HazelGiftModel" "option" "[I") (List.mem_of_getElem? (i := 1) rfl)) (fun _ h9 => h9) rfl dX6_searches_184 ?_
          refine lv_iload_n hx hb dX6_searches_187 rfl (lv_at hl 1 rfl) ?_
          obtain ⟨hi34, hw⟩ := hw
          refine gIald (k := (v1).toNatClampNeg) hx hb hK hP 6 0 rfl rfl hi34 rfl dX6_searches_188 ?_
          refine lv_topi (fun x35 ex35 => ?_)
          replace hw := hw x35 ex35
          refine lv_istore_n (lv' := [(2, .int x35), (0, .ref mo), (1, .int v1)]) hx hb dX6_searches_189 rfl hl (by decide) rfl (fun ls hl => ?_)
          refine lv_aload_n hx hb dX6_searches_190 rfl (lv_at hl 1 rfl) ?_
          refine va_get (D := D) (ci := 5) (v := .ref m7) (C := RX6) (T := TX6) (N := 18) hx hb hts (fun _ h => List.mem_cons_of_mem _ (List.mem_append_right _ h)) hown hK hP 0 rfl rfl 16 (by decide) (hts (.fieldLink RX6 31 "HazelGiftModel" "held" "[I") (List.mem_of_getElem? (i := 3) rfl)) (fun _ h9 => h9) rfl dX6_searches_191 ?_
          refine lv_iload_n hx hb dX6_searches_194 rfl (lv_at hl 2 rfl) ?_
          refine lv_aload_n hx hb dX6_searches_195 rfl (lv_at hl 1 rfl) ?_
          refine va_get (D := D) (ci := 5) (v := .ref m0) (C := RX6) (T := TX6) (N := 18) hx hb hts (fun _ h => List.mem_cons_of_mem _ (List.mem_append_right _ h)) hown hK hP 0 rfl rfl 0 (by decide) (hts (.fieldLink RX6 7 "HazelGiftModel" "all" "[I") (List.mem_of_getElem? (i := 4) rfl)) (fun _ h9 => h9) rfl dX6_searches_196 ?_
          refine lv_bipush (v := 16) hx hb dX6_searches_199 (by decide) ?_
          refine gIald (k := 16) hx hb hK hP 1 0 rfl rfl (gin (by decide)) (by decide) dX6_searches_201 ?_
          refine lv_topi (fun x36 ex36 => ?_)
          replace hw := hw x36 ex36
          obtain ⟨hi37, hw⟩ := hw
          refine gIast (k := (v1).toNatClampNeg) hx hb hK hP hD hS 8 0 rfl rfl hi37 rfl dX6_searches_202 (fun H locs hP hD hS => ?_)
          have hP : va_P D vwCl (wM kI mo m0 m1 m2 m3 m4 m5 m6 m7 (u.1, u.2.1, u.2.2.1, u.2.2.2.1, u.2.2.2.2.1, u.2.2.2.2.2.1, u.2.2.2.2.2.2.1, (upd u.2.2.2.2.2.2.2.1 (v1).toNatClampNeg x36), u.2.2.2.2.2.2.2.2.1, u.2.2.2.2.2.2.2.2.2.1, u.2.2.2.2.2.2.2.2.2.2.1, u.2.2.2.2.2.2.2.2.2.2.2.1, u.2.2.2.2.2.2.2.2.2.2.2.2.1, u.2.2.2.2.2.2.2.2.2.2.2.2.2.1, u.2.2.2.2.2.2.2.2.2.2.2.2.2.2.1, u.2.2.2.2.2.2.2.2.2.2.2.2.2.2.2.1, u.2.2.2.2.2.2.2.2.2.2.2.2.2.2.2.2.1, u.2.2.2.2.2.2.2.2.2.2.2.2.2.2.2.2.2)) H := hP
          have hD : va_D A (wM kI mo m0 m1 m2 m3 m4 m5 m6 m7 (u.1, u.2.1, u.2.2.1, u.2.2.2.1, u.2.2.2.2.1, u.2.2.2.2.2.1, u.2.2.2.2.2.2.1, (upd u.2.2.2.2.2.2.2.1 (v1).toNatClampNeg x36), u.2.2.2.2.2.2.2.2.1, u.2.2.2.2.2.2.2.2.2.1, u.2.2.2.2.2.2.2.2.2.2.1, u.2.2.2.2.2.2.2.2.2.2.2.1, u.2.2.2.2.2.2.2.2.2.2.2.2.1, u.2.2.2.2.2.2.2.2.2.2.2.2.2.1, u.2.2.2.2.2.2.2.2.2.2.2.2.2.2.1, u.2.2.2.2.2.2.2.2.2.2.2.2.2.2.2.1, u.2.2.2.2.2.2.2.2.2.2.2.2.2.2.2.2.1, u.2.2.2.2.2.2.2.2.2.2.2.2.2.2.2.2.2)) := hD
          refine lv_iconst (v := 0) hx hb dX6_searches_203 (by decide) ?_
          refine lv_istore_n (lv' := [(3, .int 0), (2, .int x35), (0, .ref mo), (1, .int v1)]) hx hb dX6_searches_204 rfl hl (by decide) rfl (fun ls hl => ?_)
          refine lv_aload_n hx hb dX6_searches_205 rfl (lv_at hl 2 rfl) ?_
          refine va_get (D := D) (ci := 5) (v := .ref m0) (C := RX6) (T := TX6) (N := 18) hx hb hts (fun _ h => List.mem_cons_of_mem _ (List.mem_append_right _ h)) hown hK hP 0 rfl rfl 0 (by decide) (hts (.fieldLink RX6 7 "HazelGiftModel" "all" "[I") (List.mem_of_getElem? (i := 4) rfl)) (fun _ h9 => h9) rfl dX6_searches_206 ?_
          refine lv_bipush (v := 16) hx hb dX6_searches_209 (by decide) ?_
          refine gIald (k := 16) hx hb hK hP 1 0 rfl rfl (gin (by decide)) (by decide) dX6_searches_211 ?_
          refine lv_if_ne (tgt := 228) hx hb dX6_searches_212 (by decide) (fun c38 => ?_) (fun c38 => ?_)
          · replace hw := Eq.mp (if_neg c38) hw
            refine lv_aload_n hx hb dX6_searches_228 rfl (lv_at hl 2 rfl) ?_
            refine va_get (D := D) (ci := 5) (v := .ref m0) (C := RX6) (T := TX6) (N := 18) hx hb hts (fun _ h => List.mem_cons_of_mem _ (List.mem_append_right _ h)) hown hK hP 0 rfl rfl 0 (by decide) (hts (.fieldLink RX6 7 "HazelGiftModel" "all" "[I") (List.mem_of_getElem? (i := 4) rfl)) (fun _ h9 => h9) rfl dX6_searches_229 ?_
            refine lv_iconst (v := 0) hx hb dX6_searches_232 (by decide) ?_
            refine lv_iload_n hx hb dX6_searches_233 rfl (lv_at hl 1 rfl) ?_
            refine lv_iadd hx hb dX6_searches_234 ?_
            refine lv_aload_n hx hb dX6_searches_235 rfl (lv_at hl 2 rfl) ?_
            refine va_get (D := D) (ci := 5) (v := .ref m0) (C := RX6) (T := TX6) (N := 18) hx hb hts (fun _ h => List.mem_cons_of_mem _ (List.mem_append_right _ h)) hown hK hP 0 rfl rfl 0 (by decide) (hts (.fieldLink RX6 7 "HazelGiftModel" "all" "[I") (List.mem_of_getElem? (i := 4) rfl)) (fun _ h9 => h9) rfl dX6_searches_236 ?_
            refine lv_bipush (v := 16) hx hb dX6_searches_239 (by decide) ?_
            refine gIald (k := 16) hx hb hK hP 1 0 rfl rfl (gin (by decide)) (by decide) dX6_searches_241 ?_
            refine lv_topi (fun x39 ex39 => ?_)
            replace hw := hw x39 ex39
            obtain ⟨hi40, hw⟩ := hw
            refine gIast (k := ((0 + x35)).toNatClampNeg) hx hb hK hP hD hS 1 0 rfl rfl hi40 rfl dX6_searches_242 (fun H locs hP hD hS => ?_)
            have hP : va_P D vwCl (wM kI mo m0 m1 m2 m3 m4 m5 m6 m7 ((upd u.1 ((0 + x35)).toNatClampNeg x39), u.2.1, u.2.2.1, u.2.2.2.1, u.2.2.2.2.1, u.2.2.2.2.2.1, u.2.2.2.2.2.2.1, (upd u.2.2.2.2.2.2.2.1 (v1).toNatClampNeg x36), u.2.2.2.2.2.2.2.2.1, u.2.2.2.2.2.2.2.2.2.1, u.2.2.2.2.2.2.2.2.2.2.1, u.2.2.2.2.2.2.2.2.2.2.2.1, u.2.2.2.2.2.2.2.2.2.2.2.2.1, u.2.2.2.2.2.2.2.2.2.2.2.2.2.1, u.2.2.2.2.2.2.2.2.2.2.2.2.2.2.1, u.2.2.2.2.2.2.2.2.2.2.2.2.2.2.2.1, u.2.2.2.2.2.2.2.2.2.2.2.2.2.2.2.2.1, u.2.2.2.2.2.2.2.2.2.2.2.2.2.2.2.2.2)) H := hP
            have hD : va_D A (wM kI mo m0 m1 m2 m3 m4 m5 m6 m7 ((upd u.1 ((0 + x35)).toNatClampNeg x39), u.2.1, u.2.2.1, u.2.2.2.1, u.2.2.2.2.1, u.2.2.2.2.2.1, u.2.2.2.2.2.2.1, (upd u.2.2.2.2.2.2.2.1 (v1).toNatClampNeg x36), u.2.2.2.2.2.2.2.2.1, u.2.2.2.2.2.2.2.2.2.1, u.2.2.2.2.2.2.2.2.2.2.1, u.2.2.2.2.2.2.2.2.2.2.2.1, u.2.2.2.2.2.2.2.2.2.2.2.2.1, u.2.2.2.2.2.2.2.2.2.2.2.2.2.1, u.2.2.2.2.2.2.2.2.2.2.2.2.2.2.1, u.2.2.2.2.2.2.2.2.2.2.2.2.2.2.2.1, u.2.2.2.2.2.2.2.2.2.2.2.2.2.2.2.2.1, u.2.2.2.2.2.2.2.2.2.2.2.2.2.2.2.2.2)) := hD
            refine lv_aload_n hx hb dX6_searches_243 rfl (lv_at hl 2 rfl) ?_
            refine va_get (D := D) (ci := 5) (v := .ref m0) (C := RX6) (T := TX6) (N := 18) hx hb hts (fun _ h => List.mem_cons_of_mem _ (List.mem_append_right _ h)) hown hK hP 0 rfl rfl 0 (by decide) (hts (.fieldLink RX6 7 "HazelGiftModel" "all" "[I") (List.mem_of_getElem? (i := 4) rfl)) (fun _ h9 => h9) rfl dX6_searches_244 ?_
            refine lv_bipush (v := 16) hx hb dX6_searches_247 (by decide) ?_
            refine lv_iconst (v := 0) hx hb dX6_searches_249 (by decide) ?_
            refine gIast (k := 16) hx hb hK hP hD hS 1 0 rfl rfl (gin (by decide)) (by decide) dX6_searches_250 (fun H locs hP hD hS => ?_)
            have hP : va_P D vwCl (wM kI mo m0 m1 m2 m3 m4 m5 m6 m7 ((upd (upd u.1 ((0 + x35)).toNatClampNeg x39) 16 0), u.2.1, u.2.2.1, u.2.2.2.1, u.2.2.2.2.1, u.2.2.2.2.2.1, u.2.2.2.2.2.2.1, (upd u.2.2.2.2.2.2.2.1 (v1).toNatClampNeg x36), u.2.2.2.2.2.2.2.2.1, u.2.2.2.2.2.2.2.2.2.1, u.2.2.2.2.2.2.2.2.2.2.1, u.2.2.2.2.2.2.2.2.2.2.2.1, u.2.2.2.2.2.2.2.2.2.2.2.2.1, u.2.2.2.2.2.2.2.2.2.2.2.2.2.1, u.2.2.2.2.2.2.2.2.2.2.2.2.2.2.1, u.2.2.2.2.2.2.2.2.2.2.2.2.2.2.2.1, u.2.2.2.2.2.2.2.2.2.2.2.2.2.2.2.2.1, u.2.2.2.2.2.2.2.2.2.2.2.2.2.2.2.2.2)) H := hP
            have hD : va_D A (wM kI mo m0 m1 m2 m3 m4 m5 m6 m7 ((upd (upd u.1 ((0 + x35)).toNatClampNeg x39) 16 0), u.2.1, u.2.2.1, u.2.2.2.1, u.2.2.2.2.1, u.2.2.2.2.2.1, u.2.2.2.2.2.2.1, (upd u.2.2.2.2.2.2.2.1 (v1).toNatClampNeg x36), u.2.2.2.2.2.2.2.2.1, u.2.2.2.2.2.2.2.2.2.1, u.2.2.2.2.2.2.2.2.2.2.1, u.2.2.2.2.2.2.2.2.2.2.2.1, u.2.2.2.2.2.2.2.2.2.2.2.2.1, u.2.2.2.2.2.2.2.2.2.2.2.2.2.1, u.2.2.2.2.2.2.2.2.2.2.2.2.2.2.1, u.2.2.2.2.2.2.2.2.2.2.2.2.2.2.2.1, u.2.2.2.2.2.2.2.2.2.2.2.2.2.2.2.2.1, u.2.2.2.2.2.2.2.2.2.2.2.2.2.2.2.2.2)) := hD
            refine lv_aload_n hx hb dX6_searches_251 rfl (lv_at hl 2 rfl) ?_
            refine gVi (As := []) (rest := []) (cs' := wM kI mo m0 m1 m2 m3 m4 m5 m6 m7 ((upd (upd u.1 ((0 + x35)).toNatClampNeg x39) 16 0), u.2.1, u.2.2.1, u.2.2.2.1, u.2.2.2.2.1, u.2.2.2.2.2.1, u.2.2.2.2.2.2.1, (upd u.2.2.2.2.2.2.2.1 (v1).toNatClampNeg x36), u.2.2.2.2.2.2.2.2.1, u.2.2.2.2.2.2.2.2.2.1, u.2.2.2.2.2.2.2.2.2.2.1, u.2.2.2.2.2.2.2.2.2.2.2.1, u.2.2.2.2.2.2.2.2.2.2.2.2.1, u.2.2.2.2.2.2.2.2.2.2.2.2.2.1, u.2.2.2.2.2.2.2.2.2.2.2.2.2.2.1, u.2.2.2.2.2.2.2.2.2.2.2.2.2.2.2.1, u.2.2.2.2.2.2.2.2.2.2.2.2.2.2.2.2.1, u.2.2.2.2.2.2.2.2.2.2.2.2.2.2.2.2.2)) ⟨hx, hb, hml, hown, hts⟩ (kX6_won l D kI kC kG kJ mo m0 m1 m2 m3 m4 m5 m6 m7 ((upd (upd u.1 ((0 + x35)).toNatClampNeg x39) 16 0), u.2.1, u.2.2.1, u.2.2.2.1, u.2.2.2.2.1, u.2.2.2.2.2.1, u.2.2.2.2.2.2.1, (upd u.2.2.2.2.2.2.2.1 (v1).toNatClampNeg x36), u.2.2.2.2.2.2.2.2.1, u.2.2.2.2.2.2.2.2.2.1, u.2.2.2.2.2.2.2.2.2.2.1, u.2.2.2.2.2.2.2.2.2.2.2.1, u.2.2.2.2.2.2.2.2.2.2.2.2.1, u.2.2.2.2.2.2.2.2.2.2.2.2.2.1, u.2.2.2.2.2.2.2.2.2.2.2.2.2.2.1, u.2.2.2.2.2.2.2.2.2.2.2.2.2.2.2.1, u.2.2.2.2.2.2.2.2.2.2.2.2.2.2.2.2.1, u.2.2.2.2.2.2.2.2.2.2.2.2.2.2.2.2.2) _ hw) (cwV 0 hts gX6_searches_X6_won rfl rfl rfl hdX6_won ⟨Nat.le_of_ble_eq_true rfl, Nat.le_of_ble_eq_true rfl⟩) hK hP hE hS [0, 1, 2, 3, 4, 5, 6, 7, 8] rfl (ci := 5) (q0 := 0) rfl rfl rfl rfl hl.1 rfl (Nat.le_of_ble_eq_true rfl) dX6_searches_252 ⟨Nat.le_of_ble_eq_true rfl, Nat.le_of_ble_eq_true rfl⟩ (fun r41 hw => ?_)
            refine lv_if_le (tgt := 262) hx hb dX6_searches_255 (by decide) (fun c42 => ?_) (fun c42 => ?_)
            · replace hw := Eq.mp (if_pos c42) hw
              refine lv_iconst (v := 0) hx hb dX6_searches_262 (by decide) ?_
              refine lv_istore (lv' := [(4, .int 0), (3, .int 0), (2, .int x35), (0, .ref mo), (1, .int v1)]) hx hb dX6_searches_263 hl (by decide) rfl (fun ls hl => ?_)
              refine lv_iload hx hb dX6_searches_265 (lv_at hl 0 rfl) ?_
              refine lv_if_ne (tgt := 279) hx hb dX6_searches_267 (by decide) (fun c43 => ?_) (fun c43 => ?_)
              · exact absurd c43 (by decide)
              refine lv_aload_n hx hb dX6_searches_270 rfl (lv_at hl 3 rfl) ?_
              refine gVi (As := []) (rest := []) (cs' := wM kI mo m0 m1 m2 m3 m4 m5 m6 m7 ((upd (upd u.1 ((0 + x35)).toNatClampNeg x39) 16 0), u.2.1, u.2.2.1, u.2.2.2.1, u.2.2.2.2.1, u.2.2.2.2.2.1, u.2.2.2.2.2.2.1, (upd u.2.2.2.2.2.2.2.1 (v1).toNatClampNeg x36), u.2.2.2.2.2.2.2.2.1, u.2.2.2.2.2.2.2.2.2.1, u.2.2.2.2.2.2.2.2.2.2.1, u.2.2.2.2.2.2.2.2.2.2.2.1, u.2.2.2.2.2.2.2.2.2.2.2.2.1, u.2.2.2.2.2.2.2.2.2.2.2.2.2.1, u.2.2.2.2.2.2.2.2.2.2.2.2.2.2.1, u.2.2.2.2.2.2.2.2.2.2.2.2.2.2.2.1, u.2.2.2.2.2.2.2.2.2.2.2.2.2.2.2.2.1, u.2.2.2.2.2.2.2.2.2.2.2.2.2.2.2.2.2)) ⟨hx, hb, hml, hown, hts⟩ (kX6_count l D kI kC kG kJ mo m0 m1 m2 m3 m4 m5 m6 m7 ((upd (upd u.1 ((0 + x35)).toNatClampNeg x39) 16 0), u.2.1, u.2.2.1, u.2.2.2.1, u.2.2.2.2.1, u.2.2.2.2.2.1, u.2.2.2.2.2.2.1, (upd u.2.2.2.2.2.2.2.1 (v1).toNatClampNeg x36), u.2.2.2.2.2.2.2.2.1, u.2.2.2.2.2.2.2.2.2.1, u.2.2.2.2.2.2.2.2.2.2.1, u.2.2.2.2.2.2.2.2.2.2.2.1, u.2.2.2.2.2.2.2.2.2.2.2.2.1, u.2.2.2.2.2.2.2.2.2.2.2.2.2.1, u.2.2.2.2.2.2.2.2.2.2.2.2.2.2.1, u.2.2.2.2.2.2.2.2.2.2.2.2.2.2.2.1, u.2.2.2.2.2.2.2.2.2.2.2.2.2.2.2.2.1, u.2.2.2.2.2.2.2.2.2.2.2.2.2.2.2.2.2) _ hw) (cwV 0 hts gX6_searches_X6_count rfl rfl rfl hdX6_count ⟨Nat.le_of_ble_eq_true rfl, Nat.le_of_ble_eq_true rfl⟩) hK hP hE hS [0, 1, 2, 3, 4, 5, 6, 7, 8] rfl (ci := 5) (q0 := 0) rfl rfl rfl rfl hl.1 rfl (Nat.le_of_ble_eq_true rfl) dX6_searches_271 ⟨Nat.le_of_ble_eq_true rfl, Nat.le_of_ble_eq_true rfl⟩ (fun r44 hw => ?_)
              refine lv_bipush (v := 16) hx hb dX6_searches_274 (by decide) ?_
              refine lv_icmp_ne (tgt := 283) hx hb dX6_searches_276 (by decide) (fun c45 => ?_) (fun c45 => ?_)
              · replace hw := Eq.mp (if_neg c45) hw
                refine lv_iconst (v := 0) hx hb dX6_searches_283 (by decide) ?_
                refine lv_istore_n (lv' := [(3, .int 0), (4, .int 0), (2, .int x35), (0, .ref mo), (1, .int v1)]) hx hb dX6_searches_284 rfl hl (by decide) rfl (fun ls hl => ?_)
                refine lv_iload_n hx hb dX6_searches_285 rfl (lv_at hl 0 rfl) ?_
                refine lv_if_eq (tgt := 326) hx hb dX6_searches_286 (by decide) (fun c46 => ?_) (fun c46 => ?_)
                · skip
                  refine lv_iload_n hx hb dX6_searches_326 rfl (lv_at hl 0 rfl) ?_
                  refine lv_if_ne (tgt := 348) hx hb dX6_searches_327 (by decide) (fun c47 => ?_) (fun c47 => ?_)
                  · exact absurd c47 (by decide)
                  obtain ⟨x48, ex48⟩ : ∃ y : Int32, y = (v1 + 1) := ⟨_, rfl⟩
                  replace hw := hw x48 ex48
                  refine lv_iinc (v := x48) (lv' := [(1, .int x48), (3, .int 0), (4, .int 0), (2, .int x35), (0, .ref mo)]) hx hb dX6_searches_330 hl (k := 4) rfl (by rw [ex48]; rfl) (by decide) rfl (fun ls hl => ?_)
                  refine lv_aload_n hx hb dX6_searches_333 rfl (lv_at hl 4 rfl) ?_
                  refine va_get (D := D) (ci := 5) (v := .ref m5) (C := RX6) (T := TX6) (N := 18) hx hb hts (fun _ h => List.mem_cons_of_mem _ (List.mem_append_right _ h)) hown hK hP 0 rfl rfl 14 (by decide) (hts (.fieldLink RX6 25 "HazelGiftModel" "option" "[I") (List.mem_of_getElem? (i := 1) rfl)) (fun _ h9 => h9) rfl dX6_searches_334 ?_
                  refine lv_iload_n hx hb dX6_searches_337 rfl (lv_at hl 0 rfl) ?_
                  refine lv_iconst (v := (-1)) hx hb dX6_searches_338 (by decide) ?_
                  obtain ⟨hi49, hw⟩ := hw
                  refine gIast (k := (x48).toNatClampNeg) hx hb hK hP hD hS 6 0 rfl rfl hi49 rfl dX6_searches_339 (fun H locs hP hD hS => ?_)
                  have hP : va_P D vwCl (wM kI mo m0 m1 m2 m3 m4 m5 m6 m7 ((upd (upd u.1 ((0 + x35)).toNatClampNeg x39) 16 0), u.2.1, u.2.2.1, u.2.2.2.1, u.2.2.2.2.1, (upd u.2.2.2.2.2.1 (x48).toNatClampNeg (-1)), u.2.2.2.2.2.2.1, (upd u.2.2.2.2.2.2.2.1 (v1).toNatClampNeg x36), u.2.2.2.2.2.2.2.2.1, u.2.2.2.2.2.2.2.2.2.1, u.2.2.2.2.2.2.2.2.2.2.1, u.2.2.2.2.2.2.2.2.2.2.2.1, u.2.2.2.2.2.2.2.2.2.2.2.2.1, u.2.2.2.2.2.2.2.2.2.2.2.2.2.1, u.2.2.2.2.2.2.2.2.2.2.2.2.2.2.1, u.2.2.2.2.2.2.2.2.2.2.2.2.2.2.2.1, u.2.2.2.2.2.2.2.2.2.2.2.2.2.2.2.2.1, u.2.2.2.2.2.2.2.2.2.2.2.2.2.2.2.2.2)) H := hP
                  have hD : va_D A (wM kI mo m0 m1 m2 m3 m4 m5 m6 m7 ((upd (upd u.1 ((0 + x35)).toNatClampNeg x39) 16 0), u.2.1, u.2.2.1, u.2.2.2.1, u.2.2.2.2.1, (upd u.2.2.2.2.2.1 (x48).toNatClampNeg (-1)), u.2.2.2.2.2.2.1, (upd u.2.2.2.2.2.2.2.1 (v1).toNatClampNeg x36), u.2.2.2.2.2.2.2.2.1, u.2.2.2.2.2.2.2.2.2.1, u.2.2.2.2.2.2.2.2.2.2.1, u.2.2.2.2.2.2.2.2.2.2.2.1, u.2.2.2.2.2.2.2.2.2.2.2.2.1, u.2.2.2.2.2.2.2.2.2.2.2.2.2.1, u.2.2.2.2.2.2.2.2.2.2.2.2.2.2.1, u.2.2.2.2.2.2.2.2.2.2.2.2.2.2.2.1, u.2.2.2.2.2.2.2.2.2.2.2.2.2.2.2.2.1, u.2.2.2.2.2.2.2.2.2.2.2.2.2.2.2.2.2)) := hD
                  refine lv_aload_n hx hb dX6_searches_340 rfl (lv_at hl 4 rfl) ?_
                  refine va_get (D := D) (ci := 5) (v := .ref m6) (C := RX6) (T := TX6) (N := 18) hx hb hts (fun _ h => List.mem_cons_of_mem _ (List.mem_append_right _ h)) hown hK hP 0 rfl rfl 15 (by decide) (hts (.fieldLink RX6 28 "HazelGiftModel" "best" "[I") (List.mem_of_getElem? (i := 2) rfl)) (fun _ h9 => h9) rfl dX6_searches_341 ?_
                  refine lv_iload_n hx hb dX6_searches_344 rfl (lv_at hl 0 rfl) ?_
                  refine lv_bipush (v := (-2)) hx hb dX6_searches_345 (by decide) ?_
                  obtain ⟨hi50, hw⟩ := hw
                  refine gIast (k := (x48).toNatClampNeg) hx hb hK hP hD hS 7 0 rfl rfl hi50 rfl dX6_searches_347 (fun H locs hP hD hS => ?_)
                  have hP : va_P D vwCl (wM kI mo m0 m1 m2 m3 m4 m5 m6 m7 ((upd (upd u.1 ((0 + x35)).toNatClampNeg x39) 16 0), u.2.1, u.2.2.1, u.2.2.2.1, u.2.2.2.2.1, (upd u.2.2.2.2.2.1 (x48).toNatClampNeg (-1)), (upd u.2.2.2.2.2.2.1 (x48).toNatClampNeg (-2)), (upd u.2.2.2.2.2.2.2.1 (v1).toNatClampNeg x36), u.2.2.2.2.2.2.2.2.1, u.2.2.2.2.2.2.2.2.2.1, u.2.2.2.2.2.2.2.2.2.2.1, u.2.2.2.2.2.2.2.2.2.2.2.1, u.2.2.2.2.2.2.2.2.2.2.2.2.1, u.2.2.2.2.2.2.2.2.2.2.2.2.2.1, u.2.2.2.2.2.2.2.2.2.2.2.2.2.2.1, u.2.2.2.2.2.2.2.2.2.2.2.2.2.2.2.1, u.2.2.2.2.2.2.2.2.2.2.2.2.2.2.2.2.1, u.2.2.2.2.2.2.2.2.2.2.2.2.2.2.2.2.2)) H := hP
                  have hD : va_D A (wM kI mo m0 m1 m2 m3 m4 m5 m6 m7 ((upd (upd u.1 ((0 + x35)).toNatClampNeg x39) 16 0), u.2.1, u.2.2.1, u.2.2.2.1, u.2.2.2.2.1, (upd u.2.2.2.2.2.1 (x48).toNatClampNeg (-1)), (upd u.2.2.2.2.2.2.1 (x48).toNatClampNeg (-2)), (upd u.2.2.2.2.2.2.2.1 (v1).toNatClampNeg x36), u.2.2.2.2.2.2.2.2.1, u.2.2.2.2.2.2.2.2.2.1, u.2.2.2.2.2.2.2.2.2.2.1, u.2.2.2.2.2.2.2.2.2.2.2.1, u.2.2.2.2.2.2.2.2.2.2.2.2.1, u.2.2.2.2.2.2.2.2.2.2.2.2.2.1, u.2.2.2.2.2.2.2.2.2.2.2.2.2.2.1, u.2.2.2.2.2.2.2.2.2.2.2.2.2.2.2.1, u.2.2.2.2.2.2.2.2.2.2.2.2.2.2.2.2.1, u.2.2.2.2.2.2.2.2.2.2.2.2.2.2.2.2.2)) := hD
                  refine lv_goto (tgt := 17) hx hb dX6_searches_348 (by decide) ?_
                  exact hK17 x48 ((upd (upd u.1 ((0 + x35)).toNatClampNeg x39) 16 0), u.2.1, u.2.2.1, u.2.2.2.1, u.2.2.2.2.1, (upd u.2.2.2.2.2.1 (x48).toNatClampNeg (-1)), (upd u.2.2.2.2.2.2.1 (x48).toNatClampNeg (-2)), (upd u.2.2.2.2.2.2.2.1 (v1).toNatClampNeg x36), u.2.2.2.2.2.2.2.2.1, u.2.2.2.2.2.2.2.2.2.1, u.2.2.2.2.2.2.2.2.2.2.1, u.2.2.2.2.2.2.2.2.2.2.2.1, u.2.2.2.2.2.2.2.2.2.2.2.2.1, u.2.2.2.2.2.2.2.2.2.2.2.2.2.1, u.2.2.2.2.2.2.2.2.2.2.2.2.2.2.1, u.2.2.2.2.2.2.2.2.2.2.2.2.2.2.2.1, u.2.2.2.2.2.2.2.2.2.2.2.2.2.2.2.2.1, u.2.2.2.2.2.2.2.2.2.2.2.2.2.2.2.2.2) H locs ls hP hD hS (lv_sub hl [4, 0] rfl) hw
                · first | exact absurd (by decide) c46 | exact absurd c46 (by decide)
              · replace hw := Eq.mp (if_pos c45) hw
                refine lv_iconst (v := 1) hx hb dX6_searches_279 (by decide) ?_
                refine lv_goto (tgt := 284) hx hb dX6_searches_280 (by decide) ?_
                refine lv_istore_n (lv' := [(3, .int 1), (4, .int 0), (2, .int x35), (0, .ref mo), (1, .int v1)]) hx hb dX6_searches_284 rfl hl (by decide) rfl (fun ls hl => ?_)
                refine lv_iload_n hx hb dX6_searches_285 rfl (lv_at hl 0 rfl) ?_
                refine lv_if_eq (tgt := 326) hx hb dX6_searches_286 (by decide) (fun c51 => ?_) (fun c51 => ?_)
                · exact absurd c51 (by decide)
                refine lv_aload_n hx hb dX6_searches_289 rfl (lv_at hl 3 rfl) ?_
                refine va_get (D := D) (ci := 5) (v := .ref m0) (C := RX6) (T := TX6) (N := 18) hx hb hts (fun _ h => List.mem_cons_of_mem _ (List.mem_append_right _ h)) hown hK hP 0 rfl rfl 0 (by decide) (hts (.fieldLink RX6 7 "HazelGiftModel" "all" "[I") (List.mem_of_getElem? (i := 4) rfl)) (fun _ h9 => h9) rfl dX6_searches_290 ?_
                refine lv_iconst (v := 0) hx hb dX6_searches_293 (by decide) ?_
                refine lv_iload_n hx hb dX6_searches_294 rfl (lv_at hl 2 rfl) ?_
                refine lv_iadd hx hb dX6_searches_295 ?_
                refine lv_iconst (v := 0) hx hb dX6_searches_296 (by decide) ?_
                obtain ⟨hi52, hw⟩ := hw
                refine gIast (k := ((0 + x35)).toNatClampNeg) hx hb hK hP hD hS 1 0 rfl rfl hi52 rfl dX6_searches_297 (fun H locs hP hD hS => ?_)
                have hP : va_P D vwCl (wM kI mo m0 m1 m2 m3 m4 m5 m6 m7 ((upd (upd (upd u.1 ((0 + x35)).toNatClampNeg x39) 16 0) ((0 + x35)).toNatClampNeg 0), u.2.1, u.2.2.1, u.2.2.2.1, u.2.2.2.2.1, u.2.2.2.2.2.1, u.2.2.2.2.2.2.1, (upd u.2.2.2.2.2.2.2.1 (v1).toNatClampNeg x36), u.2.2.2.2.2.2.2.2.1, u.2.2.2.2.2.2.2.2.2.1, u.2.2.2.2.2.2.2.2.2.2.1, u.2.2.2.2.2.2.2.2.2.2.2.1, u.2.2.2.2.2.2.2.2.2.2.2.2.1, u.2.2.2.2.2.2.2.2.2.2.2.2.2.1, u.2.2.2.2.2.2.2.2.2.2.2.2.2.2.1, u.2.2.2.2.2.2.2.2.2.2.2.2.2.2.2.1, u.2.2.2.2.2.2.2.2.2.2.2.2.2.2.2.2.1, u.2.2.2.2.2.2.2.2.2.2.2.2.2.2.2.2.2)) H := hP
                have hD : va_D A (wM kI mo m0 m1 m2 m3 m4 m5 m6 m7 ((upd (upd (upd u.1 ((0 + x35)).toNatClampNeg x39) 16 0) ((0 + x35)).toNatClampNeg 0), u.2.1, u.2.2.1, u.2.2.2.1, u.2.2.2.2.1, u.2.2.2.2.2.1, u.2.2.2.2.2.2.1, (upd u.2.2.2.2.2.2.2.1 (v1).toNatClampNeg x36), u.2.2.2.2.2.2.2.2.1, u.2.2.2.2.2.2.2.2.2.1, u.2.2.2.2.2.2.2.2.2.2.1, u.2.2.2.2.2.2.2.2.2.2.2.1, u.2.2.2.2.2.2.2.2.2.2.2.2.1, u.2.2.2.2.2.2.2.2.2.2.2.2.2.1, u.2.2.2.2.2.2.2.2.2.2.2.2.2.2.1, u.2.2.2.2.2.2.2.2.2.2.2.2.2.2.2.1, u.2.2.2.2.2.2.2.2.2.2.2.2.2.2.2.2.1, u.2.2.2.2.2.2.2.2.2.2.2.2.2.2.2.2.2)) := hD
                refine lv_aload_n hx hb dX6_searches_298 rfl (lv_at hl 3 rfl) ?_
                refine va_get (D := D) (ci := 5) (v := .ref m0) (C := RX6) (T := TX6) (N := 18) hx hb hts (fun _ h => List.mem_cons_of_mem _ (List.mem_append_right _ h)) hown hK hP 0 rfl rfl 0 (by decide) (hts (.fieldLink RX6 7 "HazelGiftModel" "all" "[I") (List.mem_of_getElem? (i := 4) rfl)) (fun _ h9 => h9) rfl dX6_searches_299 ?_
                refine lv_bipush (v := 16) hx hb dX6_searches_302 (by decide) ?_
                refine lv_aload_n hx hb dX6_searches_304 rfl (lv_at hl 3 rfl) ?_
                refine va_get (D := D) (ci := 5) (v := .ref m7) (C := RX6) (T := TX6) (N := 18) hx hb hts (fun _ h => List.mem_cons_of_mem _ (List.mem_append_right _ h)) hown hK hP 0 rfl rfl 16 (by decide) (hts (.fieldLink RX6 31 "HazelGiftModel" "held" "[I") (List.mem_of_getElem? (i := 3) rfl)) (fun _ h9 => h9) rfl dX6_searches_305 ?_
                refine lv_iload_n hx hb dX6_searches_308 rfl (lv_at hl 4 rfl) ?_
                obtain ⟨hi53, hw⟩ := hw
                refine gIald (k := (v1).toNatClampNeg) hx hb hK hP 8 0 rfl rfl hi53 rfl dX6_searches_309 ?_
                refine lv_topi (fun x54 ex54 => ?_)
                replace hw := hw x54 ex54
                refine gIast (k := 16) hx hb hK hP hD hS 1 0 rfl rfl (gin (by decide)) (by decide) dX6_searches_310 (fun H locs hP hD hS => ?_)
                have hP : va_P D vwCl (wM kI mo m0 m1 m2 m3 m4 m5 m6 m7 ((upd (upd (upd (upd u.1 ((0 + x35)).toNatClampNeg x39) 16 0) ((0 + x35)).toNatClampNeg 0) 16 x54), u.2.1, u.2.2.1, u.2.2.2.1, u.2.2.2.2.1, u.2.2.2.2.2.1, u.2.2.2.2.2.2.1, (upd u.2.2.2.2.2.2.2.1 (v1).toNatClampNeg x36), u.2.2.2.2.2.2.2.2.1, u.2.2.2.2.2.2.2.2.2.1, u.2.2.2.2.2.2.2.2.2.2.1, u.2.2.2.2.2.2.2.2.2.2.2.1, u.2.2.2.2.2.2.2.2.2.2.2.2.1, u.2.2.2.2.2.2.2.2.2.2.2.2.2.1, u.2.2.2.2.2.2.2.2.2.2.2.2.2.2.1, u.2.2.2.2.2.2.2.2.2.2.2.2.2.2.2.1, u.2.2.2.2.2.2.2.2.2.2.2.2.2.2.2.2.1, u.2.2.2.2.2.2.2.2.2.2.2.2.2.2.2.2.2)) H := hP
                have hD : va_D A (wM kI mo m0 m1 m2 m3 m4 m5 m6 m7 ((upd (upd (upd (upd u.1 ((0 + x35)).toNatClampNeg x39) 16 0) ((0 + x35)).toNatClampNeg 0) 16 x54), u.2.1, u.2.2.1, u.2.2.2.1, u.2.2.2.2.1, u.2.2.2.2.2.1, u.2.2.2.2.2.2.1, (upd u.2.2.2.2.2.2.2.1 (v1).toNatClampNeg x36), u.2.2.2.2.2.2.2.2.1, u.2.2.2.2.2.2.2.2.2.1, u.2.2.2.2.2.2.2.2.2.2.1, u.2.2.2.2.2.2.2.2.2.2.2.1, u.2.2.2.2.2.2.2.2.2.2.2.2.1, u.2.2.2.2.2.2.2.2.2.2.2.2.2.1, u.2.2.2.2.2.2.2.2.2.2.2.2.2.2.1, u.2.2.2.2.2.2.2.2.2.2.2.2.2.2.2.1, u.2.2.2.2.2.2.2.2.2.2.2.2.2.2.2.2.1, u.2.2.2.2.2.2.2.2.2.2.2.2.2.2.2.2.2)) := hD
                refine lv_aload_n hx hb dX6_searches_311 rfl (lv_at hl 3 rfl) ?_
                refine lv_iload_n hx hb dX6_searches_312 rfl (lv_at hl 4 rfl) ?_
                refine lv_iload hx hb dX6_searches_313 (lv_at hl 1 rfl) ?_
                refine lv_if_eq (tgt := 322) hx hb dX6_searches_315 (by decide) (fun c55 => ?_) (fun c55 => ?_)
                · skip
                  refine lv_iconst (v := 0) hx hb dX6_searches_322 (by decide) ?_
                  refine gWVv (S := SM) (As := [.int v1, .int 0]) (rest := []) (wc := wM kI mo m0 m1 m2 m3 m4 m5 m6 m7 ((upd (upd (upd (upd u.1 ((0 + x35)).toNatClampNeg x39) 16 0) ((0 + x35)).toNatClampNeg 0) 16 x54), u.2.1, u.2.2.1, u.2.2.2.1, u.2.2.2.2.1, u.2.2.2.2.2.1, u.2.2.2.2.2.2.1, (upd u.2.2.2.2.2.2.2.1 (v1).toNatClampNeg x36), u.2.2.2.2.2.2.2.2.1, u.2.2.2.2.2.2.2.2.2.1, u.2.2.2.2.2.2.2.2.2.2.1, u.2.2.2.2.2.2.2.2.2.2.2.1, u.2.2.2.2.2.2.2.2.2.2.2.2.1, u.2.2.2.2.2.2.2.2.2.2.2.2.2.1, u.2.2.2.2.2.2.2.2.2.2.2.2.2.2.1, u.2.2.2.2.2.2.2.2.2.2.2.2.2.2.2.1, u.2.2.2.2.2.2.2.2.2.2.2.2.2.2.2.2.1, u.2.2.2.2.2.2.2.2.2.2.2.2.2.2.2.2.2)) (wr := []) (cs1 := (fun zz : SM => wM kI mo m0 m1 m2 m3 m4 m5 m6 m7 zz)) (ws2 := (fun zz : SM => wM kI mo m0 m1 m2 m3 m4 m5 m6 m7 zz)) ⟨hx, hb, hml, hown, hts⟩ (fun sz => kX6_keeps l D kI kC kG kJ mo m0 m1 m2 m3 m4 m5 m6 m7 sz ((upd (upd (upd (upd u.1 ((0 + x35)).toNatClampNeg x39) 16 0) ((0 + x35)).toNatClampNeg 0) 16 x54), u.2.1, u.2.2.1, u.2.2.2.1, u.2.2.2.2.1, u.2.2.2.2.2.1, u.2.2.2.2.2.2.1, (upd u.2.2.2.2.2.2.2.1 (v1).toNatClampNeg x36), u.2.2.2.2.2.2.2.2.1, u.2.2.2.2.2.2.2.2.2.1, u.2.2.2.2.2.2.2.2.2.2.1, u.2.2.2.2.2.2.2.2.2.2.2.1, u.2.2.2.2.2.2.2.2.2.2.2.2.1, u.2.2.2.2.2.2.2.2.2.2.2.2.2.1, u.2.2.2.2.2.2.2.2.2.2.2.2.2.2.1, u.2.2.2.2.2.2.2.2.2.2.2.2.2.2.2.1, u.2.2.2.2.2.2.2.2.2.2.2.2.2.2.2.2.1, u.2.2.2.2.2.2.2.2.2.2.2.2.2.2.2.2.2) v1 0 _ hw) (cwV 2 hts gX6_searches_X6_keeps rfl rfl rfl hdX6_keeps ⟨Nat.le_of_ble_eq_true rfl, Nat.le_of_ble_eq_true rfl⟩) hK hP hD hE hS hA [0, 1, 2, 3, 4, 5, 6, 7, 8] [] rfl rfl rfl rfl (by decide) [0, 1, 2, 3, 4, 5, 6, 7, 8] rfl (fun _ => rfl) (ci := 5) (q0 := 0) rfl rfl rfl rfl hl.1 rfl (Nat.le_of_ble_eq_true rfl) dX6_searches_323 ⟨Nat.le_of_ble_eq_true rfl, Nat.le_of_ble_eq_true rfl⟩ (fun w56 H locs hw hP hD hS => ?_)
                  have hP : va_P D vwCl (wM kI mo m0 m1 m2 m3 m4 m5 m6 m7 w56) H := hP
                  have hD : va_D A (wM kI mo m0 m1 m2 m3 m4 m5 m6 m7 w56) := hD
                  refine lv_iload_n hx hb dX6_searches_326 rfl (lv_at hl 0 rfl) ?_
                  refine lv_if_ne (tgt := 348) hx hb dX6_searches_327 (by decide) (fun c57 => ?_) (fun c57 => ?_)
                  · skip
                    refine lv_goto (tgt := 17) hx hb dX6_searches_348 (by decide) ?_
                    exact hK17 v1 w56 H locs ls hP hD hS (lv_sub hl [3, 4] rfl) hw
                  · first | exact absurd (by decide) c57 | exact absurd c57 (by decide)
                · first | exact absurd (by decide) c55 | exact absurd c55 (by decide)
            · replace hw := Eq.mp (if_neg c42) hw
              refine lv_iconst (v := 1) hx hb dX6_searches_258 (by decide) ?_
              refine lv_goto (tgt := 263) hx hb dX6_searches_259 (by decide) ?_
              refine lv_istore (lv' := [(4, .int 1), (3, .int 0), (2, .int x35), (0, .ref mo), (1, .int v1)]) hx hb dX6_searches_263 hl (by decide) rfl (fun ls hl => ?_)
              refine lv_iload hx hb dX6_searches_265 (lv_at hl 0 rfl) ?_
              refine lv_if_ne (tgt := 279) hx hb dX6_searches_267 (by decide) (fun c58 => ?_) (fun c58 => ?_)
              · skip
                refine lv_iconst (v := 1) hx hb dX6_searches_279 (by decide) ?_
                refine lv_goto (tgt := 284) hx hb dX6_searches_280 (by decide) ?_
                refine lv_istore_n (lv' := [(3, .int 1), (4, .int 1), (2, .int x35), (0, .ref mo), (1, .int v1)]) hx hb dX6_searches_284 rfl hl (by decide) rfl (fun ls hl => ?_)
                refine lv_iload_n hx hb dX6_searches_285 rfl (lv_at hl 0 rfl) ?_
                refine lv_if_eq (tgt := 326) hx hb dX6_searches_286 (by decide) (fun c59 => ?_) (fun c59 => ?_)
                · exact absurd c59 (by decide)
                refine lv_aload_n hx hb dX6_searches_289 rfl (lv_at hl 3 rfl) ?_
                refine va_get (D := D) (ci := 5) (v := .ref m0) (C := RX6) (T := TX6) (N := 18) hx hb hts (fun _ h => List.mem_cons_of_mem _ (List.mem_append_right _ h)) hown hK hP 0 rfl rfl 0 (by decide) (hts (.fieldLink RX6 7 "HazelGiftModel" "all" "[I") (List.mem_of_getElem? (i := 4) rfl)) (fun _ h9 => h9) rfl dX6_searches_290 ?_
                refine lv_iconst (v := 0) hx hb dX6_searches_293 (by decide) ?_
                refine lv_iload_n hx hb dX6_searches_294 rfl (lv_at hl 2 rfl) ?_
                refine lv_iadd hx hb dX6_searches_295 ?_
                refine lv_iconst (v := 0) hx hb dX6_searches_296 (by decide) ?_
                obtain ⟨hi60, hw⟩ := hw
                refine gIast (k := ((0 + x35)).toNatClampNeg) hx hb hK hP hD hS 1 0 rfl rfl hi60 rfl dX6_searches_297 (fun H locs hP hD hS => ?_)
                have hP : va_P D vwCl (wM kI mo m0 m1 m2 m3 m4 m5 m6 m7 ((upd (upd (upd u.1 ((0 + x35)).toNatClampNeg x39) 16 0) ((0 + x35)).toNatClampNeg 0), u.2.1, u.2.2.1, u.2.2.2.1, u.2.2.2.2.1, u.2.2.2.2.2.1, u.2.2.2.2.2.2.1, (upd u.2.2.2.2.2.2.2.1 (v1).toNatClampNeg x36), u.2.2.2.2.2.2.2.2.1, u.2.2.2.2.2.2.2.2.2.1, u.2.2.2.2.2.2.2.2.2.2.1, u.2.2.2.2.2.2.2.2.2.2.2.1, u.2.2.2.2.2.2.2.2.2.2.2.2.1, u.2.2.2.2.2.2.2.2.2.2.2.2.2.1, u.2.2.2.2.2.2.2.2.2.2.2.2.2.2.1, u.2.2.2.2.2.2.2.2.2.2.2.2.2.2.2.1, u.2.2.2.2.2.2.2.2.2.2.2.2.2.2.2.2.1, u.2.2.2.2.2.2.2.2.2.2.2.2.2.2.2.2.2)) H := hP
                have hD : va_D A (wM kI mo m0 m1 m2 m3 m4 m5 m6 m7 ((upd (upd (upd u.1 ((0 + x35)).toNatClampNeg x39) 16 0) ((0 + x35)).toNatClampNeg 0), u.2.1, u.2.2.1, u.2.2.2.1, u.2.2.2.2.1, u.2.2.2.2.2.1, u.2.2.2.2.2.2.1, (upd u.2.2.2.2.2.2.2.1 (v1).toNatClampNeg x36), u.2.2.2.2.2.2.2.2.1, u.2.2.2.2.2.2.2.2.2.1, u.2.2.2.2.2.2.2.2.2.2.1, u.2.2.2.2.2.2.2.2.2.2.2.1, u.2.2.2.2.2.2.2.2.2.2.2.2.1, u.2.2.2.2.2.2.2.2.2.2.2.2.2.1, u.2.2.2.2.2.2.2.2.2.2.2.2.2.2.1, u.2.2.2.2.2.2.2.2.2.2.2.2.2.2.2.1, u.2.2.2.2.2.2.2.2.2.2.2.2.2.2.2.2.1, u.2.2.2.2.2.2.2.2.2.2.2.2.2.2.2.2.2)) := hD
                refine lv_aload_n hx hb dX6_searches_298 rfl (lv_at hl 3 rfl) ?_
                refine va_get (D := D) (ci := 5) (v := .ref m0) (C := RX6) (T := TX6) (N := 18) hx hb hts (fun _ h => List.mem_cons_of_mem _ (List.mem_append_right _ h)) hown hK hP 0 rfl rfl 0 (by decide) (hts (.fieldLink RX6 7 "HazelGiftModel" "all" "[I") (List.mem_of_getElem? (i := 4) rfl)) (fun _ h9 => h9) rfl dX6_searches_299 ?_
                refine lv_bipush (v := 16) hx hb dX6_searches_302 (by decide) ?_
                refine lv_aload_n hx hb dX6_searches_304 rfl (lv_at hl 3 rfl) ?_
                refine va_get (D := D) (ci := 5) (v := .ref m7) (C := RX6) (T := TX6) (N := 18) hx hb hts (fun _ h => List.mem_cons_of_mem _ (List.mem_append_right _ h)) hown hK hP 0 rfl rfl 16 (by decide) (hts (.fieldLink RX6 31 "HazelGiftModel" "held" "[I") (List.mem_of_getElem? (i := 3) rfl)) (fun _ h9 => h9) rfl dX6_searches_305 ?_
                refine lv_iload_n hx hb dX6_searches_308 rfl (lv_at hl 4 rfl) ?_
                obtain ⟨hi61, hw⟩ := hw
                refine gIald (k := (v1).toNatClampNeg) hx hb hK hP 8 0 rfl rfl hi61 rfl dX6_searches_309 ?_
                refine lv_topi (fun x62 ex62 => ?_)
                replace hw := hw x62 ex62
                refine gIast (k := 16) hx hb hK hP hD hS 1 0 rfl rfl (gin (by decide)) (by decide) dX6_searches_310 (fun H locs hP hD hS => ?_)
                have hP : va_P D vwCl (wM kI mo m0 m1 m2 m3 m4 m5 m6 m7 ((upd (upd (upd (upd u.1 ((0 + x35)).toNatClampNeg x39) 16 0) ((0 + x35)).toNatClampNeg 0) 16 x62), u.2.1, u.2.2.1, u.2.2.2.1, u.2.2.2.2.1, u.2.2.2.2.2.1, u.2.2.2.2.2.2.1, (upd u.2.2.2.2.2.2.2.1 (v1).toNatClampNeg x36), u.2.2.2.2.2.2.2.2.1, u.2.2.2.2.2.2.2.2.2.1, u.2.2.2.2.2.2.2.2.2.2.1, u.2.2.2.2.2.2.2.2.2.2.2.1, u.2.2.2.2.2.2.2.2.2.2.2.2.1, u.2.2.2.2.2.2.2.2.2.2.2.2.2.1, u.2.2.2.2.2.2.2.2.2.2.2.2.2.2.1, u.2.2.2.2.2.2.2.2.2.2.2.2.2.2.2.1, u.2.2.2.2.2.2.2.2.2.2.2.2.2.2.2.2.1, u.2.2.2.2.2.2.2.2.2.2.2.2.2.2.2.2.2)) H := hP
                have hD : va_D A (wM kI mo m0 m1 m2 m3 m4 m5 m6 m7 ((upd (upd (upd (upd u.1 ((0 + x35)).toNatClampNeg x39) 16 0) ((0 + x35)).toNatClampNeg 0) 16 x62), u.2.1, u.2.2.1, u.2.2.2.1, u.2.2.2.2.1, u.2.2.2.2.2.1, u.2.2.2.2.2.2.1, (upd u.2.2.2.2.2.2.2.1 (v1).toNatClampNeg x36), u.2.2.2.2.2.2.2.2.1, u.2.2.2.2.2.2.2.2.2.1, u.2.2.2.2.2.2.2.2.2.2.1, u.2.2.2.2.2.2.2.2.2.2.2.1, u.2.2.2.2.2.2.2.2.2.2.2.2.1, u.2.2.2.2.2.2.2.2.2.2.2.2.2.1, u.2.2.2.2.2.2.2.2.2.2.2.2.2.2.1, u.2.2.2.2.2.2.2.2.2.2.2.2.2.2.2.1, u.2.2.2.2.2.2.2.2.2.2.2.2.2.2.2.2.1, u.2.2.2.2.2.2.2.2.2.2.2.2.2.2.2.2.2)) := hD
                refine lv_aload_n hx hb dX6_searches_311 rfl (lv_at hl 3 rfl) ?_
                refine lv_iload_n hx hb dX6_searches_312 rfl (lv_at hl 4 rfl) ?_
                refine lv_iload hx hb dX6_searches_313 (lv_at hl 1 rfl) ?_
                refine lv_if_eq (tgt := 322) hx hb dX6_searches_315 (by decide) (fun c63 => ?_) (fun c63 => ?_)
                · exact absurd c63 (by decide)
                refine lv_iconst (v := 1) hx hb dX6_searches_318 (by decide) ?_
                refine lv_goto (tgt := 323) hx hb dX6_searches_319 (by decide) ?_
                refine gWVv (S := SM) (As := [.int v1, .int 1]) (rest := []) (wc := wM kI mo m0 m1 m2 m3 m4 m5 m6 m7 ((upd (upd (upd (upd u.1 ((0 + x35)).toNatClampNeg x39) 16 0) ((0 + x35)).toNatClampNeg 0) 16 x62), u.2.1, u.2.2.1, u.2.2.2.1, u.2.2.2.2.1, u.2.2.2.2.2.1, u.2.2.2.2.2.2.1, (upd u.2.2.2.2.2.2.2.1 (v1).toNatClampNeg x36), u.2.2.2.2.2.2.2.2.1, u.2.2.2.2.2.2.2.2.2.1, u.2.2.2.2.2.2.2.2.2.2.1, u.2.2.2.2.2.2.2.2.2.2.2.1, u.2.2.2.2.2.2.2.2.2.2.2.2.1, u.2.2.2.2.2.2.2.2.2.2.2.2.2.1, u.2.2.2.2.2.2.2.2.2.2.2.2.2.2.1, u.2.2.2.2.2.2.2.2.2.2.2.2.2.2.2.1, u.2.2.2.2.2.2.2.2.2.2.2.2.2.2.2.2.1, u.2.2.2.2.2.2.2.2.2.2.2.2.2.2.2.2.2)) (wr := []) (cs1 := (fun zz : SM => wM kI mo m0 m1 m2 m3 m4 m5 m6 m7 zz)) (ws2 := (fun zz : SM => wM kI mo m0 m1 m2 m3 m4 m5 m6 m7 zz)) ⟨hx, hb, hml, hown, hts⟩ (fun sz => kX6_keeps l D kI kC kG kJ mo m0 m1 m2 m3 m4 m5 m6 m7 sz ((upd (upd (upd (upd u.1 ((0 + x35)).toNatClampNeg x39) 16 0) ((0 + x35)).toNatClampNeg 0) 16 x62), u.2.1, u.2.2.1, u.2.2.2.1, u.2.2.2.2.1, u.2.2.2.2.2.1, u.2.2.2.2.2.2.1, (upd u.2.2.2.2.2.2.2.1 (v1).toNatClampNeg x36), u.2.2.2.2.2.2.2.2.1, u.2.2.2.2.2.2.2.2.2.1, u.2.2.2.2.2.2.2.2.2.2.1, u.2.2.2.2.2.2.2.2.2.2.2.1, u.2.2.2.2.2.2.2.2.2.2.2.2.1, u.2.2.2.2.2.2.2.2.2.2.2.2.2.1, u.2.2.2.2.2.2.2.2.2.2.2.2.2.2.1, u.2.2.2.2.2.2.2.2.2.2.2.2.2.2.2.1, u.2.2.2.2.2.2.2.2.2.2.2.2.2.2.2.2.1, u.2.2.2.2.2.2.2.2.2.2.2.2.2.2.2.2.2) v1 1 _ hw) (cwV 2 hts gX6_searches_X6_keeps rfl rfl rfl hdX6_keeps ⟨Nat.le_of_ble_eq_true rfl, Nat.le_of_ble_eq_true rfl⟩) hK hP hD hE hS hA [0, 1, 2, 3, 4, 5, 6, 7, 8] [] rfl rfl rfl rfl (by decide) [0, 1, 2, 3, 4, 5, 6, 7, 8] rfl (fun _ => rfl) (ci := 5) (q0 := 0) rfl rfl rfl rfl hl.1 rfl (Nat.le_of_ble_eq_true rfl) dX6_searches_323 ⟨Nat.le_of_ble_eq_true rfl, Nat.le_of_ble_eq_true rfl⟩ (fun w64 H locs hw hP hD hS => ?_)
                have hP : va_P D vwCl (wM kI mo m0 m1 m2 m3 m4 m5 m6 m7 w64) H := hP
                have hD : va_D A (wM kI mo m0 m1 m2 m3 m4 m5 m6 m7 w64) := hD
                refine lv_iload_n hx hb dX6_searches_326 rfl (lv_at hl 0 rfl) ?_
                refine lv_if_ne (tgt := 348) hx hb dX6_searches_327 (by decide) (fun c65 => ?_) (fun c65 => ?_)
                · skip
                  refine lv_goto (tgt := 17) hx hb dX6_searches_348 (by decide) ?_
                  exact hK17 v1 w64 H locs ls hP hD hS (lv_sub hl [3, 4] rfl) hw
                · first | exact absurd (by decide) c65 | exact absurd c65 (by decide)
              · first | exact absurd (by decide) c58 | exact absurd c58 (by decide)
          · replace hw := Eq.mp (if_pos c38) hw
            refine lv_aload_n hx hb dX6_searches_215 rfl (lv_at hl 2 rfl) ?_
            refine va_get (D := D) (ci := 5) (v := .ref m0) (C := RX6) (T := TX6) (N := 18) hx hb hts (fun _ h => List.mem_cons_of_mem _ (List.mem_append_right _ h)) hown hK hP 0 rfl rfl 0 (by decide) (hts (.fieldLink RX6 7 "HazelGiftModel" "all" "[I") (List.mem_of_getElem? (i := 4) rfl)) (fun _ h9 => h9) rfl dX6_searches_216 ?_
            refine lv_bipush (v := 16) hx hb dX6_searches_219 (by decide) ?_
            refine lv_iload_n hx hb dX6_searches_221 rfl (lv_at hl 1 rfl) ?_
            refine lv_iconst (v := 1) hx hb dX6_searches_222 (by decide) ?_
            refine lv_iadd hx hb dX6_searches_223 ?_
            refine lv_topi (fun x66 ex66 => ?_)
            replace hw := hw x66 ex66
            refine gIast (k := 16) hx hb hK hP hD hS 1 0 rfl rfl (gin (by decide)) (by decide) dX6_searches_224 (fun H locs hP hD hS => ?_)
            have hP : va_P D vwCl (wM kI mo m0 m1 m2 m3 m4 m5 m6 m7 ((upd u.1 16 x66), u.2.1, u.2.2.1, u.2.2.2.1, u.2.2.2.2.1, u.2.2.2.2.2.1, u.2.2.2.2.2.2.1, (upd u.2.2.2.2.2.2.2.1 (v1).toNatClampNeg x36), u.2.2.2.2.2.2.2.2.1, u.2.2.2.2.2.2.2.2.2.1, u.2.2.2.2.2.2.2.2.2.2.1, u.2.2.2.2.2.2.2.2.2.2.2.1, u.2.2.2.2.2.2.2.2.2.2.2.2.1, u.2.2.2.2.2.2.2.2.2.2.2.2.2.1, u.2.2.2.2.2.2.2.2.2.2.2.2.2.2.1, u.2.2.2.2.2.2.2.2.2.2.2.2.2.2.2.1, u.2.2.2.2.2.2.2.2.2.2.2.2.2.2.2.2.1, u.2.2.2.2.2.2.2.2.2.2.2.2.2.2.2.2.2)) H := hP
            have hD : va_D A (wM kI mo m0 m1 m2 m3 m4 m5 m6 m7 ((upd u.1 16 x66), u.2.1, u.2.2.1, u.2.2.2.1, u.2.2.2.2.1, u.2.2.2.2.2.1, u.2.2.2.2.2.2.1, (upd u.2.2.2.2.2.2.2.1 (v1).toNatClampNeg x36), u.2.2.2.2.2.2.2.2.1, u.2.2.2.2.2.2.2.2.2.1, u.2.2.2.2.2.2.2.2.2.2.1, u.2.2.2.2.2.2.2.2.2.2.2.1, u.2.2.2.2.2.2.2.2.2.2.2.2.1, u.2.2.2.2.2.2.2.2.2.2.2.2.2.1, u.2.2.2.2.2.2.2.2.2.2.2.2.2.2.1, u.2.2.2.2.2.2.2.2.2.2.2.2.2.2.2.1, u.2.2.2.2.2.2.2.2.2.2.2.2.2.2.2.2.1, u.2.2.2.2.2.2.2.2.2.2.2.2.2.2.2.2.2)) := hD
            refine lv_goto (tgt := 326) hx hb dX6_searches_225 (by decide) ?_
            refine lv_iload_n hx hb dX6_searches_326 rfl (lv_at hl 0 rfl) ?_
            refine lv_if_ne (tgt := 348) hx hb dX6_searches_327 (by decide) (fun c67 => ?_) (fun c67 => ?_)
            · exact absurd c67 (by decide)
            obtain ⟨x68, ex68⟩ : ∃ y : Int32, y = (v1 + 1) := ⟨_, rfl⟩
            replace hw := hw x68 ex68
            refine lv_iinc (v := x68) (lv' := [(1, .int x68), (3, .int 0), (2, .int x35), (0, .ref mo)]) hx hb dX6_searches_330 hl (k := 3) rfl (by rw [ex68]; rfl) (by decide) rfl (fun ls hl => ?_)
            refine lv_aload_n hx hb dX6_searches_333 rfl (lv_at hl 3 rfl) ?_
            refine va_get (D := D) (ci := 5) (v := .ref m5) (C := RX6) (T := TX6) (N := 18) hx hb hts (fun _ h => List.mem_cons_of_mem _ (List.mem_append_right _ h)) hown hK hP 0 rfl rfl 14 (by decide) (hts (.fieldLink RX6 25 "HazelGiftModel" "option" "[I") (List.mem_of_getElem? (i := 1) rfl)) (fun _ h9 => h9) rfl dX6_searches_334 ?_
            refine lv_iload_n hx hb dX6_searches_337 rfl (lv_at hl 0 rfl) ?_
            refine lv_iconst (v := (-1)) hx hb dX6_searches_338 (by decide) ?_
            obtain ⟨hi69, hw⟩ := hw
            refine gIast (k := (x68).toNatClampNeg) hx hb hK hP hD hS 6 0 rfl rfl hi69 rfl dX6_searches_339 (fun H locs hP hD hS => ?_)
            have hP : va_P D vwCl (wM kI mo m0 m1 m2 m3 m4 m5 m6 m7 ((upd u.1 16 x66), u.2.1, u.2.2.1, u.2.2.2.1, u.2.2.2.2.1, (upd u.2.2.2.2.2.1 (x68).toNatClampNeg (-1)), u.2.2.2.2.2.2.1, (upd u.2.2.2.2.2.2.2.1 (v1).toNatClampNeg x36), u.2.2.2.2.2.2.2.2.1, u.2.2.2.2.2.2.2.2.2.1, u.2.2.2.2.2.2.2.2.2.2.1, u.2.2.2.2.2.2.2.2.2.2.2.1, u.2.2.2.2.2.2.2.2.2.2.2.2.1, u.2.2.2.2.2.2.2.2.2.2.2.2.2.1, u.2.2.2.2.2.2.2.2.2.2.2.2.2.2.1, u.2.2.2.2.2.2.2.2.2.2.2.2.2.2.2.1, u.2.2.2.2.2.2.2.2.2.2.2.2.2.2.2.2.1, u.2.2.2.2.2.2.2.2.2.2.2.2.2.2.2.2.2)) H := hP
            have hD : va_D A (wM kI mo m0 m1 m2 m3 m4 m5 m6 m7 ((upd u.1 16 x66), u.2.1, u.2.2.1, u.2.2.2.1, u.2.2.2.2.1, (upd u.2.2.2.2.2.1 (x68).toNatClampNeg (-1)), u.2.2.2.2.2.2.1, (upd u.2.2.2.2.2.2.2.1 (v1).toNatClampNeg x36), u.2.2.2.2.2.2.2.2.1, u.2.2.2.2.2.2.2.2.2.1, u.2.2.2.2.2.2.2.2.2.2.1, u.2.2.2.2.2.2.2.2.2.2.2.1, u.2.2.2.2.2.2.2.2.2.2.2.2.1, u.2.2.2.2.2.2.2.2.2.2.2.2.2.1, u.2.2.2.2.2.2.2.2.2.2.2.2.2.2.1, u.2.2.2.2.2.2.2.2.2.2.2.2.2.2.2.1, u.2.2.2.2.2.2.2.2.2.2.2.2.2.2.2.2.1, u.2.2.2.2.2.2.2.2.2.2.2.2.2.2.2.2.2)) := hD
            refine lv_aload_n hx hb dX6_searches_340 rfl (lv_at hl 3 rfl) ?_
            refine va_get (D := D) (ci := 5) (v := .ref m6) (C := RX6) (T := TX6) (N := 18) hx hb hts (fun _ h => List.mem_cons_of_mem _ (List.mem_append_right _ h)) hown hK hP 0 rfl rfl 15 (by decide) (hts (.fieldLink RX6 28 "HazelGiftModel" "best" "[I") (List.mem_of_getElem? (i := 2) rfl)) (fun _ h9 => h9) rfl dX6_searches_341 ?_
            refine lv_iload_n hx hb dX6_searches_344 rfl (lv_at hl 0 rfl) ?_
            refine lv_bipush (v := (-2)) hx hb dX6_searches_345 (by decide) ?_
            obtain ⟨hi70, hw⟩ := hw
            refine gIast (k := (x68).toNatClampNeg) hx hb hK hP hD hS 7 0 rfl rfl hi70 rfl dX6_searches_347 (fun H locs hP hD hS => ?_)
            have hP : va_P D vwCl (wM kI mo m0 m1 m2 m3 m4 m5 m6 m7 ((upd u.1 16 x66), u.2.1, u.2.2.1, u.2.2.2.1, u.2.2.2.2.1, (upd u.2.2.2.2.2.1 (x68).toNatClampNeg (-1)), (upd u.2.2.2.2.2.2.1 (x68).toNatClampNeg (-2)), (upd u.2.2.2.2.2.2.2.1 (v1).toNatClampNeg x36), u.2.2.2.2.2.2.2.2.1, u.2.2.2.2.2.2.2.2.2.1, u.2.2.2.2.2.2.2.2.2.2.1, u.2.2.2.2.2.2.2.2.2.2.2.1, u.2.2.2.2.2.2.2.2.2.2.2.2.1, u.2.2.2.2.2.2.2.2.2.2.2.2.2.1, u.2.2.2.2.2.2.2.2.2.2.2.2.2.2.1, u.2.2.2.2.2.2.2.2.2.2.2.2.2.2.2.1, u.2.2.2.2.2.2.2.2.2.2.2.2.2.2.2.2.1, u.2.2.2.2.2.2.2.2.2.2.2.2.2.2.2.2.2)) H := hP
            have hD : va_D A (wM kI mo m0 m1 m2 m3 m4 m5 m6 m7 ((upd u.1 16 x66), u.2.1, u.2.2.1, u.2.2.2.1, u.2.2.2.2.1, (upd u.2.2.2.2.2.1 (x68).toNatClampNeg (-1)), (upd u.2.2.2.2.2.2.1 (x68).toNatClampNeg (-2)), (upd u.2.2.2.2.2.2.2.1 (v1).toNatClampNeg x36), u.2.2.2.2.2.2.2.2.1, u.2.2.2.2.2.2.2.2.2.1, u.2.2.2.2.2.2.2.2.2.2.1, u.2.2.2.2.2.2.2.2.2.2.2.1, u.2.2.2.2.2.2.2.2.2.2.2.2.1, u.2.2.2.2.2.2.2.2.2.2.2.2.2.1, u.2.2.2.2.2.2.2.2.2.2.2.2.2.2.1, u.2.2.2.2.2.2.2.2.2.2.2.2.2.2.2.1, u.2.2.2.2.2.2.2.2.2.2.2.2.2.2.2.2.1, u.2.2.2.2.2.2.2.2.2.2.2.2.2.2.2.2.2)) := hD
            refine lv_goto (tgt := 17) hx hb dX6_searches_348 (by decide) ?_
            exact hK17 x68 ((upd u.1 16 x66), u.2.1, u.2.2.1, u.2.2.2.1, u.2.2.2.2.1, (upd u.2.2.2.2.2.1 (x68).toNatClampNeg (-1)), (upd u.2.2.2.2.2.2.1 (x68).toNatClampNeg (-2)), (upd u.2.2.2.2.2.2.2.1 (v1).toNatClampNeg x36), u.2.2.2.2.2.2.2.2.1, u.2.2.2.2.2.2.2.2.2.1, u.2.2.2.2.2.2.2.2.2.2.1, u.2.2.2.2.2.2.2.2.2.2.2.1, u.2.2.2.2.2.2.2.2.2.2.2.2.1, u.2.2.2.2.2.2.2.2.2.2.2.2.2.1, u.2.2.2.2.2.2.2.2.2.2.2.2.2.2.1, u.2.2.2.2.2.2.2.2.2.2.2.2.2.2.2.1, u.2.2.2.2.2.2.2.2.2.2.2.2.2.2.2.2.1, u.2.2.2.2.2.2.2.2.2.2.2.2.2.2.2.2.2) H locs ls hP hD hS (lv_sub hl [3, 0] rfl) hw
        · replace hw := Eq.mp (if_pos c33) hw
          refine lv_aload_n hx hb dX6_searches_89 rfl (lv_at hl 0 rfl) ?_
          refine va_get (D := D) (ci := 5) (v := .ref m6) (C := RX6) (T := TX6) (N := 18) hx hb hts (fun _ h => List.mem_cons_of_mem _ (List.mem_append_right _ h)) hown hK hP 0 rfl rfl 15 (by decide) (hts (.fieldLink RX6 28 "HazelGiftModel" "best" "[I") (List.mem_of_getElem? (i := 2) rfl)) (fun _ h9 => h9) rfl dX6_searches_90 ?_
          refine lv_iload_n hx hb dX6_searches_93 rfl (lv_at hl 1 rfl) ?_
          obtain ⟨hi71, hw⟩ := hw
          refine gIald (k := (v1).toNatClampNeg) hx hb hK hP 7 0 rfl rfl hi71 rfl dX6_searches_94 ?_
          refine lv_topi (fun x72 ex72 => ?_)
          replace hw := hw x72 ex72
          refine lv_istore_n (lv' := [(2, .int x72), (0, .ref mo), (1, .int v1)]) hx hb dX6_searches_95 rfl hl (by decide) rfl (fun ls hl => ?_)
          obtain ⟨x73, ex73⟩ : ∃ y : Int32, y = (v1 + (-1)) := ⟨_, rfl⟩
          replace hw := hw x73 ex73
          refine lv_iinc (v := x73) (lv' := [(1, .int x73), (2, .int x72), (0, .ref mo)]) hx hb dX6_searches_96 hl (k := 2) rfl (by rw [ex73]; rfl) (by decide) rfl (fun ls hl => ?_)
          refine lv_iload_n hx hb dX6_searches_99 rfl (lv_at hl 0 rfl) ?_
          refine lv_if_lt (tgt := 180) hx hb dX6_searches_100 (by decide) (fun c74 => ?_) (fun c74 => ?_)
          · replace hw := Eq.mp (if_pos c74) hw
            refine lv_goto (tgt := 17) hx hb dX6_searches_180 (by decide) ?_
            exact hK17 x73 u H locs ls hP hD hS (lv_sub hl [2, 0] rfl) hw
          · replace hw := Eq.mp (if_neg c74) hw
            refine lv_aload_n hx hb dX6_searches_103 rfl (lv_at hl 2 rfl) ?_
            refine va_get (D := D) (ci := 5) (v := .ref m7) (C := RX6) (T := TX6) (N := 18) hx hb hts (fun _ h => List.mem_cons_of_mem _ (List.mem_append_right _ h)) hown hK hP 0 rfl rfl 16 (by decide) (hts (.fieldLink RX6 31 "HazelGiftModel" "held" "[I") (List.mem_of_getElem? (i := 3) rfl)) (fun _ h9 => h9) rfl dX6_searches_104 ?_
            refine lv_iload_n hx hb dX6_searches_107 rfl (lv_at hl 0 rfl) ?_
            obtain ⟨hi75, hw⟩ := hw
            refine gIald (k := (x73).toNatClampNeg) hx hb hK hP 8 0 rfl rfl hi75 rfl dX6_searches_108 ?_
            refine lv_if_ne (tgt := 116) hx hb dX6_searches_109 (by decide) (fun c76 => ?_) (fun c76 => ?_)
            · replace hw := Eq.mp (if_neg c76) hw
              refine lv_iconst (v := 0) hx hb dX6_searches_116 (by decide) ?_
              refine lv_istore_n (lv' := [(3, .int 0), (1, .int x73), (2, .int x72), (0, .ref mo)]) hx hb dX6_searches_117 rfl hl (by decide) rfl (fun ls hl => ?_)
              refine lv_aload_n hx hb dX6_searches_118 rfl (lv_at hl 3 rfl) ?_
              refine va_get (D := D) (ci := 5) (v := .ref m0) (C := RX6) (T := TX6) (N := 18) hx hb hts (fun _ h => List.mem_cons_of_mem _ (List.mem_append_right _ h)) hown hK hP 0 rfl rfl 0 (by decide) (hts (.fieldLink RX6 7 "HazelGiftModel" "all" "[I") (List.mem_of_getElem? (i := 4) rfl)) (fun _ h9 => h9) rfl dX6_searches_119 ?_
              refine lv_bipush (v := 16) hx hb dX6_searches_122 (by decide) ?_
              refine lv_aload_n hx hb dX6_searches_124 rfl (lv_at hl 3 rfl) ?_
              refine va_get (D := D) (ci := 5) (v := .ref m7) (C := RX6) (T := TX6) (N := 18) hx hb hts (fun _ h => List.mem_cons_of_mem _ (List.mem_append_right _ h)) hown hK hP 0 rfl rfl 16 (by decide) (hts (.fieldLink RX6 31 "HazelGiftModel" "held" "[I") (List.mem_of_getElem? (i := 3) rfl)) (fun _ h9 => h9) rfl dX6_searches_125 ?_
              refine lv_iload_n hx hb dX6_searches_128 rfl (lv_at hl 1 rfl) ?_
              obtain ⟨hi77, hw⟩ := hw
              refine gIald (k := (x73).toNatClampNeg) hx hb hK hP 8 0 rfl rfl hi77 rfl dX6_searches_129 ?_
              refine lv_topi (fun x78 ex78 => ?_)
              replace hw := hw x78 ex78
              refine gIast (k := 16) hx hb hK hP hD hS 1 0 rfl rfl (gin (by decide)) (by decide) dX6_searches_130 (fun H locs hP hD hS => ?_)
              have hP : va_P D vwCl (wM kI mo m0 m1 m2 m3 m4 m5 m6 m7 ((upd u.1 16 x78), u.2.1, u.2.2.1, u.2.2.2.1, u.2.2.2.2.1, u.2.2.2.2.2.1, u.2.2.2.2.2.2.1, u.2.2.2.2.2.2.2.1, u.2.2.2.2.2.2.2.2.1, u.2.2.2.2.2.2.2.2.2.1, u.2.2.2.2.2.2.2.2.2.2.1, u.2.2.2.2.2.2.2.2.2.2.2.1, u.2.2.2.2.2.2.2.2.2.2.2.2.1, u.2.2.2.2.2.2.2.2.2.2.2.2.2.1, u.2.2.2.2.2.2.2.2.2.2.2.2.2.2.1, u.2.2.2.2.2.2.2.2.2.2.2.2.2.2.2.1, u.2.2.2.2.2.2.2.2.2.2.2.2.2.2.2.2.1, u.2.2.2.2.2.2.2.2.2.2.2.2.2.2.2.2.2)) H := hP
              have hD : va_D A (wM kI mo m0 m1 m2 m3 m4 m5 m6 m7 ((upd u.1 16 x78), u.2.1, u.2.2.1, u.2.2.2.1, u.2.2.2.2.1, u.2.2.2.2.2.1, u.2.2.2.2.2.2.1, u.2.2.2.2.2.2.2.1, u.2.2.2.2.2.2.2.2.1, u.2.2.2.2.2.2.2.2.2.1, u.2.2.2.2.2.2.2.2.2.2.1, u.2.2.2.2.2.2.2.2.2.2.2.1, u.2.2.2.2.2.2.2.2.2.2.2.2.1, u.2.2.2.2.2.2.2.2.2.2.2.2.2.1, u.2.2.2.2.2.2.2.2.2.2.2.2.2.2.1, u.2.2.2.2.2.2.2.2.2.2.2.2.2.2.2.1, u.2.2.2.2.2.2.2.2.2.2.2.2.2.2.2.2.1, u.2.2.2.2.2.2.2.2.2.2.2.2.2.2.2.2.2)) := hD
              refine lv_aload_n hx hb dX6_searches_131 rfl (lv_at hl 3 rfl) ?_
              refine va_get (D := D) (ci := 5) (v := .ref m0) (C := RX6) (T := TX6) (N := 18) hx hb hts (fun _ h => List.mem_cons_of_mem _ (List.mem_append_right _ h)) hown hK hP 0 rfl rfl 0 (by decide) (hts (.fieldLink RX6 7 "HazelGiftModel" "all" "[I") (List.mem_of_getElem? (i := 4) rfl)) (fun _ h9 => h9) rfl dX6_searches_132 ?_
              refine lv_iconst (v := 0) hx hb dX6_searches_135 (by decide) ?_
              refine lv_aload_n hx hb dX6_searches_136 rfl (lv_at hl 3 rfl) ?_
              refine va_get (D := D) (ci := 5) (v := .ref m5) (C := RX6) (T := TX6) (N := 18) hx hb hts (fun _ h => List.mem_cons_of_mem _ (List.mem_append_right _ h)) hown hK hP 0 rfl rfl 14 (by decide) (hts (.fieldLink RX6 25 "HazelGiftModel" "option" "[I") (List.mem_of_getElem? (i := 1) rfl)) (fun _ h9 => h9) rfl dX6_searches_137 ?_
              refine lv_iload_n hx hb dX6_searches_140 rfl (lv_at hl 1 rfl) ?_
              obtain ⟨hi79, hw⟩ := hw
              refine gIald (k := (x73).toNatClampNeg) hx hb hK hP 6 0 rfl rfl hi79 rfl dX6_searches_141 ?_
              refine lv_iadd hx hb dX6_searches_142 ?_
              refine lv_iload_n hx hb dX6_searches_143 rfl (lv_at hl 0 rfl) ?_
              refine lv_if_eq (tgt := 163) hx hb dX6_searches_144 (by decide) (fun c80 => ?_) (fun c80 => ?_)
              · skip
                refine lv_iconst (v := 0) hx hb dX6_searches_163 (by decide) ?_
                obtain ⟨hi81, hw⟩ := hw
                refine gIast (k := ((0 + (u.2.2.2.2.2.1 (x73).toNatClampNeg))).toNatClampNeg) hx hb hK hP hD hS 1 0 rfl rfl hi81 rfl dX6_searches_164 (fun H locs hP hD hS => ?_)
                have hP : va_P D vwCl (wM kI mo m0 m1 m2 m3 m4 m5 m6 m7 ((upd (upd u.1 16 x78) ((0 + (u.2.2.2.2.2.1 (x73).toNatClampNeg))).toNatClampNeg 0), u.2.1, u.2.2.1, u.2.2.2.1, u.2.2.2.2.1, u.2.2.2.2.2.1, u.2.2.2.2.2.2.1, u.2.2.2.2.2.2.2.1, u.2.2.2.2.2.2.2.2.1, u.2.2.2.2.2.2.2.2.2.1, u.2.2.2.2.2.2.2.2.2.2.1, u.2.2.2.2.2.2.2.2.2.2.2.1, u.2.2.2.2.2.2.2.2.2.2.2.2.1, u.2.2.2.2.2.2.2.2.2.2.2.2.2.1, u.2.2.2.2.2.2.2.2.2.2.2.2.2.2.1, u.2.2.2.2.2.2.2.2.2.2.2.2.2.2.2.1, u.2.2.2.2.2.2.2.2.2.2.2.2.2.2.2.2.1, u.2.2.2.2.2.2.2.2.2.2.2.2.2.2.2.2.2)) H := hP
                have hD : va_D A (wM kI mo m0 m1 m2 m3 m4 m5 m6 m7 ((upd (upd u.1 16 x78) ((0 + (u.2.2.2.2.2.1 (x73).toNatClampNeg))).toNatClampNeg 0), u.2.1, u.2.2.1, u.2.2.2.1, u.2.2.2.2.1, u.2.2.2.2.2.1, u.2.2.2.2.2.2.1, u.2.2.2.2.2.2.2.1, u.2.2.2.2.2.2.2.2.1, u.2.2.2.2.2.2.2.2.2.1, u.2.2.2.2.2.2.2.2.2.2.1, u.2.2.2.2.2.2.2.2.2.2.2.1, u.2.2.2.2.2.2.2.2.2.2.2.2.1, u.2.2.2.2.2.2.2.2.2.2.2.2.2.1, u.2.2.2.2.2.2.2.2.2.2.2.2.2.2.1, u.2.2.2.2.2.2.2.2.2.2.2.2.2.2.2.1, u.2.2.2.2.2.2.2.2.2.2.2.2.2.2.2.2.1, u.2.2.2.2.2.2.2.2.2.2.2.2.2.2.2.2.2)) := hD
                refine lv_aload_n hx hb dX6_searches_165 rfl (lv_at hl 3 rfl) ?_
                refine lv_iload_n hx hb dX6_searches_166 rfl (lv_at hl 1 rfl) ?_
                refine lv_iload_n hx hb dX6_searches_167 rfl (lv_at hl 0 rfl) ?_
                refine lv_if_eq (tgt := 176) hx hb dX6_searches_168 (by decide) (fun c82 => ?_) (fun c82 => ?_)
                · skip
                  refine lv_iload_n hx hb dX6_searches_176 rfl (lv_at hl 2 rfl) ?_
                  refine gWVv (S := SM) (As := [.int x73, .int x72]) (rest := []) (wc := wM kI mo m0 m1 m2 m3 m4 m5 m6 m7 ((upd (upd u.1 16 x78) ((0 + (u.2.2.2.2.2.1 (x73).toNatClampNeg))).toNatClampNeg 0), u.2.1, u.2.2.1, u.2.2.2.1, u.2.2.2.2.1, u.2.2.2.2.2.1, u.2.2.2.2.2.2.1, u.2.2.2.2.2.2.2.1, u.2.2.2.2.2.2.2.2.1, u.2.2.2.2.2.2.2.2.2.1, u.2.2.2.2.2.2.2.2.2.2.1, u.2.2.2.2.2.2.2.2.2.2.2.1, u.2.2.2.2.2.2.2.2.2.2.2.2.1, u.2.2.2.2.2.2.2.2.2.2.2.2.2.1, u.2.2.2.2.2.2.2.2.2.2.2.2.2.2.1, u.2.2.2.2.2.2.2.2.2.2.2.2.2.2.2.1, u.2.2.2.2.2.2.2.2.2.2.2.2.2.2.2.2.1, u.2.2.2.2.2.2.2.2.2.2.2.2.2.2.2.2.2)) (wr := []) (cs1 := (fun zz : SM => wM kI mo m0 m1 m2 m3 m4 m5 m6 m7 zz)) (ws2 := (fun zz : SM => wM kI mo m0 m1 m2 m3 m4 m5 m6 m7 zz)) ⟨hx, hb, hml, hown, hts⟩ (fun sz => kX6_keeps l D kI kC kG kJ mo m0 m1 m2 m3 m4 m5 m6 m7 sz ((upd (upd u.1 16 x78) ((0 + (u.2.2.2.2.2.1 (x73).toNatClampNeg))).toNatClampNeg 0), u.2.1, u.2.2.1, u.2.2.2.1, u.2.2.2.2.1, u.2.2.2.2.2.1, u.2.2.2.2.2.2.1, u.2.2.2.2.2.2.2.1, u.2.2.2.2.2.2.2.2.1, u.2.2.2.2.2.2.2.2.2.1, u.2.2.2.2.2.2.2.2.2.2.1, u.2.2.2.2.2.2.2.2.2.2.2.1, u.2.2.2.2.2.2.2.2.2.2.2.2.1, u.2.2.2.2.2.2.2.2.2.2.2.2.2.1, u.2.2.2.2.2.2.2.2.2.2.2.2.2.2.1, u.2.2.2.2.2.2.2.2.2.2.2.2.2.2.2.1, u.2.2.2.2.2.2.2.2.2.2.2.2.2.2.2.2.1, u.2.2.2.2.2.2.2.2.2.2.2.2.2.2.2.2.2) x73 x72 _ hw) (cwV 2 hts gX6_searches_X6_keeps rfl rfl rfl hdX6_keeps ⟨Nat.le_of_ble_eq_true rfl, Nat.le_of_ble_eq_true rfl⟩) hK hP hD hE hS hA [0, 1, 2, 3, 4, 5, 6, 7, 8] [] rfl rfl rfl rfl (by decide) [0, 1, 2, 3, 4, 5, 6, 7, 8] rfl (fun _ => rfl) (ci := 5) (q0 := 0) rfl rfl rfl rfl hl.1 rfl (Nat.le_of_ble_eq_true rfl) dX6_searches_177 ⟨Nat.le_of_ble_eq_true rfl, Nat.le_of_ble_eq_true rfl⟩ (fun w83 H locs hw hP hD hS => ?_)
                  have hP : va_P D vwCl (wM kI mo m0 m1 m2 m3 m4 m5 m6 m7 w83) H := hP
                  have hD : va_D A (wM kI mo m0 m1 m2 m3 m4 m5 m6 m7 w83) := hD
                  refine lv_goto (tgt := 17) hx hb dX6_searches_180 (by decide) ?_
                  exact hK17 x73 w83 H locs ls hP hD hS (lv_sub hl [3, 1] rfl) hw
                · first | exact absurd (by decide) c82 | exact absurd c82 (by decide)
              · first | exact absurd (by decide) c80 | exact absurd c80 (by decide)
            · replace hw := Eq.mp (if_pos c76) hw
              refine lv_iconst (v := 1) hx hb dX6_searches_112 (by decide) ?_
              refine lv_goto (tgt := 117) hx hb dX6_searches_113 (by decide) ?_
              refine lv_istore_n (lv' := [(3, .int 1), (1, .int x73), (2, .int x72), (0, .ref mo)]) hx hb dX6_searches_117 rfl hl (by decide) rfl (fun ls hl => ?_)
              refine lv_aload_n hx hb dX6_searches_118 rfl (lv_at hl 3 rfl) ?_
              refine va_get (D := D) (ci := 5) (v := .ref m0) (C := RX6) (T := TX6) (N := 18) hx hb hts (fun _ h => List.mem_cons_of_mem _ (List.mem_append_right _ h)) hown hK hP 0 rfl rfl 0 (by decide) (hts (.fieldLink RX6 7 "HazelGiftModel" "all" "[I") (List.mem_of_getElem? (i := 4) rfl)) (fun _ h9 => h9) rfl dX6_searches_119 ?_
              refine lv_bipush (v := 16) hx hb dX6_searches_122 (by decide) ?_
              refine lv_aload_n hx hb dX6_searches_124 rfl (lv_at hl 3 rfl) ?_
              refine va_get (D := D) (ci := 5) (v := .ref m7) (C := RX6) (T := TX6) (N := 18) hx hb hts (fun _ h => List.mem_cons_of_mem _ (List.mem_append_right _ h)) hown hK hP 0 rfl rfl 16 (by decide) (hts (.fieldLink RX6 31 "HazelGiftModel" "held" "[I") (List.mem_of_getElem? (i := 3) rfl)) (fun _ h9 => h9) rfl dX6_searches_125 ?_
              refine lv_iload_n hx hb dX6_searches_128 rfl (lv_at hl 1 rfl) ?_
              obtain ⟨hi84, hw⟩ := hw
              refine gIald (k := (x73).toNatClampNeg) hx hb hK hP 8 0 rfl rfl hi84 rfl dX6_searches_129 ?_
              refine lv_topi (fun x85 ex85 => ?_)
              replace hw := hw x85 ex85
              refine gIast (k := 16) hx hb hK hP hD hS 1 0 rfl rfl (gin (by decide)) (by decide) dX6_searches_130 (fun H locs hP hD hS => ?_)
              have hP : va_P D vwCl (wM kI mo m0 m1 m2 m3 m4 m5 m6 m7 ((upd u.1 16 x85), u.2.1, u.2.2.1, u.2.2.2.1, u.2.2.2.2.1, u.2.2.2.2.2.1, u.2.2.2.2.2.2.1, u.2.2.2.2.2.2.2.1, u.2.2.2.2.2.2.2.2.1, u.2.2.2.2.2.2.2.2.2.1, u.2.2.2.2.2.2.2.2.2.2.1, u.2.2.2.2.2.2.2.2.2.2.2.1, u.2.2.2.2.2.2.2.2.2.2.2.2.1, u.2.2.2.2.2.2.2.2.2.2.2.2.2.1, u.2.2.2.2.2.2.2.2.2.2.2.2.2.2.1, u.2.2.2.2.2.2.2.2.2.2.2.2.2.2.2.1, u.2.2.2.2.2.2.2.2.2.2.2.2.2.2.2.2.1, u.2.2.2.2.2.2.2.2.2.2.2.2.2.2.2.2.2)) H := hP
              have hD : va_D A (wM kI mo m0 m1 m2 m3 m4 m5 m6 m7 ((upd u.1 16 x85), u.2.1, u.2.2.1, u.2.2.2.1, u.2.2.2.2.1, u.2.2.2.2.2.1, u.2.2.2.2.2.2.1, u.2.2.2.2.2.2.2.1, u.2.2.2.2.2.2.2.2.1, u.2.2.2.2.2.2.2.2.2.1, u.2.2.2.2.2.2.2.2.2.2.1, u.2.2.2.2.2.2.2.2.2.2.2.1, u.2.2.2.2.2.2.2.2.2.2.2.2.1, u.2.2.2.2.2.2.2.2.2.2.2.2.2.1, u.2.2.2.2.2.2.2.2.2.2.2.2.2.2.1, u.2.2.2.2.2.2.2.2.2.2.2.2.2.2.2.1, u.2.2.2.2.2.2.2.2.2.2.2.2.2.2.2.2.1, u.2.2.2.2.2.2.2.2.2.2.2.2.2.2.2.2.2)) := hD
              refine lv_aload_n hx hb dX6_searches_131 rfl (lv_at hl 3 rfl) ?_
              refine va_get (D := D) (ci := 5) (v := .ref m0) (C := RX6) (T := TX6) (N := 18) hx hb hts (fun _ h => List.mem_cons_of_mem _ (List.mem_append_right _ h)) hown hK hP 0 rfl rfl 0 (by decide) (hts (.fieldLink RX6 7 "HazelGiftModel" "all" "[I") (List.mem_of_getElem? (i := 4) rfl)) (fun _ h9 => h9) rfl dX6_searches_132 ?_
              refine lv_iconst (v := 0) hx hb dX6_searches_135 (by decide) ?_
              refine lv_aload_n hx hb dX6_searches_136 rfl (lv_at hl 3 rfl) ?_
              refine va_get (D := D) (ci := 5) (v := .ref m5) (C := RX6) (T := TX6) (N := 18) hx hb hts (fun _ h => List.mem_cons_of_mem _ (List.mem_append_right _ h)) hown hK hP 0 rfl rfl 14 (by decide) (hts (.fieldLink RX6 25 "HazelGiftModel" "option" "[I") (List.mem_of_getElem? (i := 1) rfl)) (fun _ h9 => h9) rfl dX6_searches_137 ?_
              refine lv_iload_n hx hb dX6_searches_140 rfl (lv_at hl 1 rfl) ?_
              obtain ⟨hi86, hw⟩ := hw
              refine gIald (k := (x73).toNatClampNeg) hx hb hK hP 6 0 rfl rfl hi86 rfl dX6_searches_141 ?_
              refine lv_iadd hx hb dX6_searches_142 ?_
              refine lv_iload_n hx hb dX6_searches_143 rfl (lv_at hl 0 rfl) ?_
              refine lv_if_eq (tgt := 163) hx hb dX6_searches_144 (by decide) (fun c87 => ?_) (fun c87 => ?_)
              · exact absurd c87 (by decide)
              refine lv_aload_n hx hb dX6_searches_147 rfl (lv_at hl 3 rfl) ?_
              refine va_get (D := D) (ci := 5) (v := .ref m0) (C := RX6) (T := TX6) (N := 18) hx hb hts (fun _ h => List.mem_cons_of_mem _ (List.mem_append_right _ h)) hown hK hP 0 rfl rfl 0 (by decide) (hts (.fieldLink RX6 7 "HazelGiftModel" "all" "[I") (List.mem_of_getElem? (i := 4) rfl)) (fun _ h9 => h9) rfl dX6_searches_148 ?_
              refine lv_iconst (v := 0) hx hb dX6_searches_151 (by decide) ?_
              refine lv_aload_n hx hb dX6_searches_152 rfl (lv_at hl 3 rfl) ?_
              refine va_get (D := D) (ci := 5) (v := .ref m5) (C := RX6) (T := TX6) (N := 18) hx hb hts (fun _ h => List.mem_cons_of_mem _ (List.mem_append_right _ h)) hown hK hP 0 rfl rfl 14 (by decide) (hts (.fieldLink RX6 25 "HazelGiftModel" "option" "[I") (List.mem_of_getElem? (i := 1) rfl)) (fun _ h9 => h9) rfl dX6_searches_153 ?_
              refine lv_iload_n hx hb dX6_searches_156 rfl (lv_at hl 1 rfl) ?_
              obtain ⟨hi88, hw⟩ := hw
              refine gIald (k := (x73).toNatClampNeg) hx hb hK hP 6 0 rfl rfl hi88 rfl dX6_searches_157 ?_
              refine lv_iadd hx hb dX6_searches_158 ?_
              obtain ⟨hi89, hw⟩ := hw
              refine gIald (k := ((0 + (u.2.2.2.2.2.1 (x73).toNatClampNeg))).toNatClampNeg) hx hb hK hP 1 0 rfl rfl hi89 rfl dX6_searches_159 ?_
              refine lv_goto (tgt := 164) hx hb dX6_searches_160 (by decide) ?_
              refine lv_topi (fun x90 ex90 => ?_)
              replace hw := hw x90 ex90
              obtain ⟨hi91, hw⟩ := hw
              refine gIast (k := ((0 + (u.2.2.2.2.2.1 (x73).toNatClampNeg))).toNatClampNeg) hx hb hK hP hD hS 1 0 rfl rfl hi91 rfl dX6_searches_164 (fun H locs hP hD hS => ?_)
              have hP : va_P D vwCl (wM kI mo m0 m1 m2 m3 m4 m5 m6 m7 ((upd (upd u.1 16 x85) ((0 + (u.2.2.2.2.2.1 (x73).toNatClampNeg))).toNatClampNeg x90), u.2.1, u.2.2.1, u.2.2.2.1, u.2.2.2.2.1, u.2.2.2.2.2.1, u.2.2.2.2.2.2.1, u.2.2.2.2.2.2.2.1, u.2.2.2.2.2.2.2.2.1, u.2.2.2.2.2.2.2.2.2.1, u.2.2.2.2.2.2.2.2.2.2.1, u.2.2.2.2.2.2.2.2.2.2.2.1, u.2.2.2.2.2.2.2.2.2.2.2.2.1, u.2.2.2.2.2.2.2.2.2.2.2.2.2.1, u.2.2.2.2.2.2.2.2.2.2.2.2.2.2.1, u.2.2.2.2.2.2.2.2.2.2.2.2.2.2.2.1, u.2.2.2.2.2.2.2.2.2.2.2.2.2.2.2.2.1, u.2.2.2.2.2.2.2.2.2.2.2.2.2.2.2.2.2)) H := hP
              have hD : va_D A (wM kI mo m0 m1 m2 m3 m4 m5 m6 m7 ((upd (upd u.1 16 x85) ((0 + (u.2.2.2.2.2.1 (x73).toNatClampNeg))).toNatClampNeg x90), u.2.1, u.2.2.1, u.2.2.2.1, u.2.2.2.2.1, u.2.2.2.2.2.1, u.2.2.2.2.2.2.1, u.2.2.2.2.2.2.2.1, u.2.2.2.2.2.2.2.2.1, u.2.2.2.2.2.2.2.2.2.1, u.2.2.2.2.2.2.2.2.2.2.1, u.2.2.2.2.2.2.2.2.2.2.2.1, u.2.2.2.2.2.2.2.2.2.2.2.2.1, u.2.2.2.2.2.2.2.2.2.2.2.2.2.1, u.2.2.2.2.2.2.2.2.2.2.2.2.2.2.1, u.2.2.2.2.2.2.2.2.2.2.2.2.2.2.2.1, u.2.2.2.2.2.2.2.2.2.2.2.2.2.2.2.2.1, u.2.2.2.2.2.2.2.2.2.2.2.2.2.2.2.2.2)) := hD
              refine lv_aload_n hx hb dX6_searches_165 rfl (lv_at hl 3 rfl) ?_
              refine lv_iload_n hx hb dX6_searches_166 rfl (lv_at hl 1 rfl) ?_
              refine lv_iload_n hx hb dX6_searches_167 rfl (lv_at hl 0 rfl) ?_
              refine lv_if_eq (tgt := 176) hx hb dX6_searches_168 (by decide) (fun c92 => ?_) (fun c92 => ?_)
              · exact absurd c92 (by decide)
              refine lv_iload_n hx hb dX6_searches_171 rfl (lv_at hl 2 rfl) ?_
              refine lv_ineg hx hb dX6_searches_172 ?_
              refine lv_goto (tgt := 177) hx hb dX6_searches_173 (by decide) ?_
              refine gWVv (S := SM) (As := [.int x73, .int (-x72)]) (rest := []) (wc := wM kI mo m0 m1 m2 m3 m4 m5 m6 m7 ((upd (upd u.1 16 x85) ((0 + (u.2.2.2.2.2.1 (x73).toNatClampNeg))).toNatClampNeg x90), u.2.1, u.2.2.1, u.2.2.2.1, u.2.2.2.2.1, u.2.2.2.2.2.1, u.2.2.2.2.2.2.1, u.2.2.2.2.2.2.2.1, u.2.2.2.2.2.2.2.2.1, u.2.2.2.2.2.2.2.2.2.1, u.2.2.2.2.2.2.2.2.2.2.1, u.2.2.2.2.2.2.2.2.2.2.2.1, u.2.2.2.2.2.2.2.2.2.2.2.2.1, u.2.2.2.2.2.2.2.2.2.2.2.2.2.1, u.2.2.2.2.2.2.2.2.2.2.2.2.2.2.1, u.2.2.2.2.2.2.2.2.2.2.2.2.2.2.2.1, u.2.2.2.2.2.2.2.2.2.2.2.2.2.2.2.2.1, u.2.2.2.2.2.2.2.2.2.2.2.2.2.2.2.2.2)) (wr := []) (cs1 := (fun zz : SM => wM kI mo m0 m1 m2 m3 m4 m5 m6 m7 zz)) (ws2 := (fun zz : SM => wM kI mo m0 m1 m2 m3 m4 m5 m6 m7 zz)) ⟨hx, hb, hml, hown, hts⟩ (fun sz => kX6_keeps l D kI kC kG kJ mo m0 m1 m2 m3 m4 m5 m6 m7 sz ((upd (upd u.1 16 x85) ((0 + (u.2.2.2.2.2.1 (x73).toNatClampNeg))).toNatClampNeg x90), u.2.1, u.2.2.1, u.2.2.2.1, u.2.2.2.2.1, u.2.2.2.2.2.1, u.2.2.2.2.2.2.1, u.2.2.2.2.2.2.2.1, u.2.2.2.2.2.2.2.2.1, u.2.2.2.2.2.2.2.2.2.1, u.2.2.2.2.2.2.2.2.2.2.1, u.2.2.2.2.2.2.2.2.2.2.2.1, u.2.2.2.2.2.2.2.2.2.2.2.2.1, u.2.2.2.2.2.2.2.2.2.2.2.2.2.1, u.2.2.2.2.2.2.2.2.2.2.2.2.2.2.1, u.2.2.2.2.2.2.2.2.2.2.2.2.2.2.2.1, u.2.2.2.2.2.2.2.2.2.2.2.2.2.2.2.2.1, u.2.2.2.2.2.2.2.2.2.2.2.2.2.2.2.2.2) x73 (-x72) _ hw) (cwV 2 hts gX6_searches_X6_keeps rfl rfl rfl hdX6_keeps ⟨Nat.le_of_ble_eq_true rfl, Nat.le_of_ble_eq_true rfl⟩) hK hP hD hE hS hA [0, 1, 2, 3, 4, 5, 6, 7, 8] [] rfl rfl rfl rfl (by decide) [0, 1, 2, 3, 4, 5, 6, 7, 8] rfl (fun _ => rfl) (ci := 5) (q0 := 0) rfl rfl rfl rfl hl.1 rfl (Nat.le_of_ble_eq_true rfl) dX6_searches_177 ⟨Nat.le_of_ble_eq_true rfl, Nat.le_of_ble_eq_true rfl⟩ (fun w93 H locs hw hP hD hS => ?_)
              have hP : va_P D vwCl (wM kI mo m0 m1 m2 m3 m4 m5 m6 m7 w93) H := hP
              have hD : va_D A (wM kI mo m0 m1 m2 m3 m4 m5 m6 m7 w93) := hD
              refine lv_goto (tgt := 17) hx hb dX6_searches_180 (by decide) ?_
              exact hK17 x73 w93 H locs ls hP hD hS (lv_sub hl [3, 1] rfl) hw
    · replace hw := Eq.mp (if_neg c6) hw
      refine lv_aload_n hx hb dX6_searches_42 rfl (lv_at hl 0 rfl) ?_
      refine lv_aload_n hx hb dX6_searches_43 rfl (lv_at hl 0 rfl) ?_
      refine va_get (D := D) (ci := 5) (v := .ref m5) (C := RX6) (T := TX6) (N := 18) hx hb hts (fun _ h => List.mem_cons_of_mem _ (List.mem_append_right _ h)) hown hK hP 0 rfl rfl 14 (by decide) (hts (.fieldLink RX6 25 "HazelGiftModel" "option" "[I") (List.mem_of_getElem? (i := 1) rfl)) (fun _ h9 => h9) rfl dX6_searches_44 ?_
      refine lv_iload_n hx hb dX6_searches_47 rfl (lv_at hl 1 rfl) ?_
      obtain ⟨hi94, hw⟩ := hw
      refine gIald (k := (v1).toNatClampNeg) hx hb hK hP 6 0 rfl rfl hi94 rfl dX6_searches_48 ?_
      refine gVi (As := [.int (u.2.2.2.2.2.1 (v1).toNatClampNeg)]) (rest := []) (cs' := wM kI mo m0 m1 m2 m3 m4 m5 m6 m7 u) ⟨hx, hb, hml, hown, hts⟩ (kX6_canMake l D kI kC kG kJ mo m0 m1 m2 m3 m4 m5 m6 m7 u (u.2.2.2.2.2.1 (v1).toNatClampNeg) _ hw) (cwV 1 hts gX6_searches_X6_canMake rfl rfl rfl hdX6_canMake ⟨Nat.le_of_ble_eq_true rfl, Nat.le_of_ble_eq_true rfl⟩) hK hP hE hS [0, 1, 2, 3, 4, 5, 6, 7, 8] rfl (ci := 5) (q0 := 0) rfl rfl rfl rfl hl.1 rfl (Nat.le_of_ble_eq_true rfl) dX6_searches_49 ⟨Nat.le_of_ble_eq_true rfl, Nat.le_of_ble_eq_true rfl⟩ (fun r95 hw => ?_)
      refine lv_if_ne (tgt := 68) hx hb dX6_searches_52 (by decide) (fun c96 => ?_) (fun c96 => ?_)
      · replace hw := Eq.mp (if_neg c96) hw
        refine lv_aload_n hx hb dX6_searches_68 rfl (lv_at hl 0 rfl) ?_
        refine va_get (D := D) (ci := 5) (v := .ref m5) (C := RX6) (T := TX6) (N := 18) hx hb hts (fun _ h => List.mem_cons_of_mem _ (List.mem_append_right _ h)) hown hK hP 0 rfl rfl 14 (by decide) (hts (.fieldLink RX6 25 "HazelGiftModel" "option" "[I") (List.mem_of_getElem? (i := 1) rfl)) (fun _ h9 => h9) rfl dX6_searches_69 ?_
        refine lv_iload_n hx hb dX6_searches_72 rfl (lv_at hl 1 rfl) ?_
        obtain ⟨hi97, hw⟩ := hw
        refine gIald (k := (v1).toNatClampNeg) hx hb hK hP 6 0 rfl rfl hi97 rfl dX6_searches_73 ?_
        refine lv_bipush (v := 16) hx hb dX6_searches_74 (by decide) ?_
        refine lv_icmp_ge (tgt := 89) hx hb dX6_searches_76 (by decide) (fun c98 => ?_) (fun c98 => ?_)
        · replace hw := Eq.mp (if_pos c98) hw
          refine lv_aload_n hx hb dX6_searches_89 rfl (lv_at hl 0 rfl) ?_
          refine va_get (D := D) (ci := 5) (v := .ref m6) (C := RX6) (T := TX6) (N := 18) hx hb hts (fun _ h => List.mem_cons_of_mem _ (List.mem_append_right _ h)) hown hK hP 0 rfl rfl 15 (by decide) (hts (.fieldLink RX6 28 "HazelGiftModel" "best" "[I") (List.mem_of_getElem? (i := 2) rfl)) (fun _ h9 => h9) rfl dX6_searches_90 ?_
          refine lv_iload_n hx hb dX6_searches_93 rfl (lv_at hl 1 rfl) ?_
          obtain ⟨hi99, hw⟩ := hw
          refine gIald (k := (v1).toNatClampNeg) hx hb hK hP 7 0 rfl rfl hi99 rfl dX6_searches_94 ?_
          refine lv_topi (fun x100 ex100 => ?_)
          replace hw := hw x100 ex100
          refine lv_istore_n (lv' := [(2, .int x100), (0, .ref mo), (1, .int v1)]) hx hb dX6_searches_95 rfl hl (by decide) rfl (fun ls hl => ?_)
          obtain ⟨x101, ex101⟩ : ∃ y : Int32, y = (v1 + (-1)) := ⟨_, rfl⟩
          replace hw := hw x101 ex101
          refine lv_iinc (v := x101) (lv' := [(1, .int x101), (2, .int x100), (0, .ref mo)]) hx hb dX6_searches_96 hl (k := 2) rfl (by rw [ex101]; rfl) (by decide) rfl (fun ls hl => ?_)
          refine lv_iload_n hx hb dX6_searches_99 rfl (lv_at hl 0 rfl) ?_
          refine lv_if_lt (tgt := 180) hx hb dX6_searches_100 (by decide) (fun c102 => ?_) (fun c102 => ?_)
          · replace hw := Eq.mp (if_pos c102) hw
            refine lv_goto (tgt := 17) hx hb dX6_searches_180 (by decide) ?_
            exact hK17 x101 u H locs ls hP hD hS (lv_sub hl [2, 0] rfl) hw
          · replace hw := Eq.mp (if_neg c102) hw
            refine lv_aload_n hx hb dX6_searches_103 rfl (lv_at hl 2 rfl) ?_
            refine va_get (D := D) (ci := 5) (v := .ref m7) (C := RX6) (T := TX6) (N := 18) hx hb hts (fun _ h => List.mem_cons_of_mem _ (List.mem_append_right _ h)) hown hK hP 0 rfl rfl 16 (by decide) (hts (.fieldLink RX6 31 "HazelGiftModel" "held" "[I") (List.mem_of_getElem? (i := 3) rfl)) (fun _ h9 => h9) rfl dX6_searches_104 ?_
            refine lv_iload_n hx hb dX6_searches_107 rfl (lv_at hl 0 rfl) ?_
            obtain ⟨hi103, hw⟩ := hw
            refine gIald (k := (x101).toNatClampNeg) hx hb hK hP 8 0 rfl rfl hi103 rfl dX6_searches_108 ?_
            refine lv_if_ne (tgt := 116) hx hb dX6_searches_109 (by decide) (fun c104 => ?_) (fun c104 => ?_)
            · replace hw := Eq.mp (if_neg c104) hw
              refine lv_iconst (v := 0) hx hb dX6_searches_116 (by decide) ?_
              refine lv_istore_n (lv' := [(3, .int 0), (1, .int x101), (2, .int x100), (0, .ref mo)]) hx hb dX6_searches_117 rfl hl (by decide) rfl (fun ls hl => ?_)
              refine lv_aload_n hx hb dX6_searches_118 rfl (lv_at hl 3 rfl) ?_
              refine va_get (D := D) (ci := 5) (v := .ref m0) (C := RX6) (T := TX6) (N := 18) hx hb hts (fun _ h => List.mem_cons_of_mem _ (List.mem_append_right _ h)) hown hK hP 0 rfl rfl 0 (by decide) (hts (.fieldLink RX6 7 "HazelGiftModel" "all" "[I") (List.mem_of_getElem? (i := 4) rfl)) (fun _ h9 => h9) rfl dX6_searches_119 ?_
              refine lv_bipush (v := 16) hx hb dX6_searches_122 (by decide) ?_
              refine lv_aload_n hx hb dX6_searches_124 rfl (lv_at hl 3 rfl) ?_
              refine va_get (D := D) (ci := 5) (v := .ref m7) (C := RX6) (T := TX6) (N := 18) hx hb hts (fun _ h => List.mem_cons_of_mem _ (List.mem_append_right _ h)) hown hK hP 0 rfl rfl 16 (by decide) (hts (.fieldLink RX6 31 "HazelGiftModel" "held" "[I") (List.mem_of_getElem? (i := 3) rfl)) (fun _ h9 => h9) rfl dX6_searches_125 ?_
              refine lv_iload_n hx hb dX6_searches_128 rfl (lv_at hl 1 rfl) ?_
              obtain ⟨hi105, hw⟩ := hw
              refine gIald (k := (x101).toNatClampNeg) hx hb hK hP 8 0 rfl rfl hi105 rfl dX6_searches_129 ?_
              refine lv_topi (fun x106 ex106 => ?_)
              replace hw := hw x106 ex106
              refine gIast (k := 16) hx hb hK hP hD hS 1 0 rfl rfl (gin (by decide)) (by decide) dX6_searches_130 (fun H locs hP hD hS => ?_)
              have hP : va_P D vwCl (wM kI mo m0 m1 m2 m3 m4 m5 m6 m7 ((upd u.1 16 x106), u.2.1, u.2.2.1, u.2.2.2.1, u.2.2.2.2.1, u.2.2.2.2.2.1, u.2.2.2.2.2.2.1, u.2.2.2.2.2.2.2.1, u.2.2.2.2.2.2.2.2.1, u.2.2.2.2.2.2.2.2.2.1, u.2.2.2.2.2.2.2.2.2.2.1, u.2.2.2.2.2.2.2.2.2.2.2.1, u.2.2.2.2.2.2.2.2.2.2.2.2.1, u.2.2.2.2.2.2.2.2.2.2.2.2.2.1, u.2.2.2.2.2.2.2.2.2.2.2.2.2.2.1, u.2.2.2.2.2.2.2.2.2.2.2.2.2.2.2.1, u.2.2.2.2.2.2.2.2.2.2.2.2.2.2.2.2.1, u.2.2.2.2.2.2.2.2.2.2.2.2.2.2.2.2.2)) H := hP
              have hD : va_D A (wM kI mo m0 m1 m2 m3 m4 m5 m6 m7 ((upd u.1 16 x106), u.2.1, u.2.2.1, u.2.2.2.1, u.2.2.2.2.1, u.2.2.2.2.2.1, u.2.2.2.2.2.2.1, u.2.2.2.2.2.2.2.1, u.2.2.2.2.2.2.2.2.1, u.2.2.2.2.2.2.2.2.2.1, u.2.2.2.2.2.2.2.2.2.2.1, u.2.2.2.2.2.2.2.2.2.2.2.1, u.2.2.2.2.2.2.2.2.2.2.2.2.1, u.2.2.2.2.2.2.2.2.2.2.2.2.2.1, u.2.2.2.2.2.2.2.2.2.2.2.2.2.2.1, u.2.2.2.2.2.2.2.2.2.2.2.2.2.2.2.1, u.2.2.2.2.2.2.2.2.2.2.2.2.2.2.2.2.1, u.2.2.2.2.2.2.2.2.2.2.2.2.2.2.2.2.2)) := hD
              refine lv_aload_n hx hb dX6_searches_131 rfl (lv_at hl 3 rfl) ?_
              refine va_get (D := D) (ci := 5) (v := .ref m0) (C := RX6) (T := TX6) (N := 18) hx hb hts (fun _ h => List.mem_cons_of_mem _ (List.mem_append_right _ h)) hown hK hP 0 rfl rfl 0 (by decide) (hts (.fieldLink RX6 7 "HazelGiftModel" "all" "[I") (List.mem_of_getElem? (i := 4) rfl)) (fun _ h9 => h9) rfl dX6_searches_132 ?_
              refine lv_iconst (v := 0) hx hb dX6_searches_135 (by decide) ?_
              refine lv_aload_n hx hb dX6_searches_136 rfl (lv_at hl 3 rfl) ?_
              refine va_get (D := D) (ci := 5) (v := .ref m5) (C := RX6) (T := TX6) (N := 18) hx hb hts (fun _ h => List.mem_cons_of_mem _ (List.mem_append_right _ h)) hown hK hP 0 rfl rfl 14 (by decide) (hts (.fieldLink RX6 25 "HazelGiftModel" "option" "[I") (List.mem_of_getElem? (i := 1) rfl)) (fun _ h9 => h9) rfl dX6_searches_137 ?_
              refine lv_iload_n hx hb dX6_searches_140 rfl (lv_at hl 1 rfl) ?_
              obtain ⟨hi107, hw⟩ := hw
              refine gIald (k := (x101).toNatClampNeg) hx hb hK hP 6 0 rfl rfl hi107 rfl dX6_searches_141 ?_
              refine lv_iadd hx hb dX6_searches_142 ?_
              refine lv_iload_n hx hb dX6_searches_143 rfl (lv_at hl 0 rfl) ?_
              refine lv_if_eq (tgt := 163) hx hb dX6_searches_144 (by decide) (fun c108 => ?_) (fun c108 => ?_)
              · skip
                refine lv_iconst (v := 0) hx hb dX6_searches_163 (by decide) ?_
                obtain ⟨hi109, hw⟩ := hw
                refine gIast (k := ((0 + (u.2.2.2.2.2.1 (x101).toNatClampNeg))).toNatClampNeg) hx hb hK hP hD hS 1 0 rfl rfl hi109 rfl dX6_searches_164 (fun H locs hP hD hS => ?_)
                have hP : va_P D vwCl (wM kI mo m0 m1 m2 m3 m4 m5 m6 m7 ((upd (upd u.1 16 x106) ((0 + (u.2.2.2.2.2.1 (x101).toNatClampNeg))).toNatClampNeg 0), u.2.1, u.2.2.1, u.2.2.2.1, u.2.2.2.2.1, u.2.2.2.2.2.1, u.2.2.2.2.2.2.1, u.2.2.2.2.2.2.2.1, u.2.2.2.2.2.2.2.2.1, u.2.2.2.2.2.2.2.2.2.1, u.2.2.2.2.2.2.2.2.2.2.1, u.2.2.2.2.2.2.2.2.2.2.2.1, u.2.2.2.2.2.2.2.2.2.2.2.2.1, u.2.2.2.2.2.2.2.2.2.2.2.2.2.1, u.2.2.2.2.2.2.2.2.2.2.2.2.2.2.1, u.2.2.2.2.2.2.2.2.2.2.2.2.2.2.2.1, u.2.2.2.2.2.2.2.2.2.2.2.2.2.2.2.2.1, u.2.2.2.2.2.2.2.2.2.2.2.2.2.2.2.2.2)) H := hP
                have hD : va_D A (wM kI mo m0 m1 m2 m3 m4 m5 m6 m7 ((upd (upd u.1 16 x106) ((0 + (u.2.2.2.2.2.1 (x101).toNatClampNeg))).toNatClampNeg 0), u.2.1, u.2.2.1, u.2.2.2.1, u.2.2.2.2.1, u.2.2.2.2.2.1, u.2.2.2.2.2.2.1, u.2.2.2.2.2.2.2.1, u.2.2.2.2.2.2.2.2.1, u.2.2.2.2.2.2.2.2.2.1, u.2.2.2.2.2.2.2.2.2.2.1, u.2.2.2.2.2.2.2.2.2.2.2.1, u.2.2.2.2.2.2.2.2.2.2.2.2.1, u.2.2.2.2.2.2.2.2.2.2.2.2.2.1, u.2.2.2.2.2.2.2.2.2.2.2.2.2.2.1, u.2.2.2.2.2.2.2.2.2.2.2.2.2.2.2.1, u.2.2.2.2.2.2.2.2.2.2.2.2.2.2.2.2.1, u.2.2.2.2.2.2.2.2.2.2.2.2.2.2.2.2.2)) := hD
                refine lv_aload_n hx hb dX6_searches_165 rfl (lv_at hl 3 rfl) ?_
                refine lv_iload_n hx hb dX6_searches_166 rfl (lv_at hl 1 rfl) ?_
                refine lv_iload_n hx hb dX6_searches_167 rfl (lv_at hl 0 rfl) ?_
                refine lv_if_eq (tgt := 176) hx hb dX6_searches_168 (by decide) (fun c110 => ?_) (fun c110 => ?_)
                · skip
                  refine lv_iload_n hx hb dX6_searches_176 rfl (lv_at hl 2 rfl) ?_
                  refine gWVv (S := SM) (As := [.int x101, .int x100]) (rest := []) (wc := wM kI mo m0 m1 m2 m3 m4 m5 m6 m7 ((upd (upd u.1 16 x106) ((0 + (u.2.2.2.2.2.1 (x101).toNatClampNeg))).toNatClampNeg 0), u.2.1, u.2.2.1, u.2.2.2.1, u.2.2.2.2.1, u.2.2.2.2.2.1, u.2.2.2.2.2.2.1, u.2.2.2.2.2.2.2.1, u.2.2.2.2.2.2.2.2.1, u.2.2.2.2.2.2.2.2.2.1, u.2.2.2.2.2.2.2.2.2.2.1, u.2.2.2.2.2.2.2.2.2.2.2.1, u.2.2.2.2.2.2.2.2.2.2.2.2.1, u.2.2.2.2.2.2.2.2.2.2.2.2.2.1, u.2.2.2.2.2.2.2.2.2.2.2.2.2.2.1, u.2.2.2.2.2.2.2.2.2.2.2.2.2.2.2.1, u.2.2.2.2.2.2.2.2.2.2.2.2.2.2.2.2.1, u.2.2.2.2.2.2.2.2.2.2.2.2.2.2.2.2.2)) (wr := []) (cs1 := (fun zz : SM => wM kI mo m0 m1 m2 m3 m4 m5 m6 m7 zz)) (ws2 := (fun zz : SM => wM kI mo m0 m1 m2 m3 m4 m5 m6 m7 zz)) ⟨hx, hb, hml, hown, hts⟩ (fun sz => kX6_keeps l D kI kC kG kJ mo m0 m1 m2 m3 m4 m5 m6 m7 sz ((upd (upd u.1 16 x106) ((0 + (u.2.2.2.2.2.1 (x101).toNatClampNeg))).toNatClampNeg 0), u.2.1, u.2.2.1, u.2.2.2.1, u.2.2.2.2.1, u.2.2.2.2.2.1, u.2.2.2.2.2.2.1, u.2.2.2.2.2.2.2.1, u.2.2.2.2.2.2.2.2.1, u.2.2.2.2.2.2.2.2.2.1, u.2.2.2.2.2.2.2.2.2.2.1, u.2.2.2.2.2.2.2.2.2.2.2.1, u.2.2.2.2.2.2.2.2.2.2.2.2.1, u.2.2.2.2.2.2.2.2.2.2.2.2.2.1, u.2.2.2.2.2.2.2.2.2.2.2.2.2.2.1, u.2.2.2.2.2.2.2.2.2.2.2.2.2.2.2.1, u.2.2.2.2.2.2.2.2.2.2.2.2.2.2.2.2.1, u.2.2.2.2.2.2.2.2.2.2.2.2.2.2.2.2.2) x101 x100 _ hw) (cwV 2 hts gX6_searches_X6_keeps rfl rfl rfl hdX6_keeps ⟨Nat.le_of_ble_eq_true rfl, Nat.le_of_ble_eq_true rfl⟩) hK hP hD hE hS hA [0, 1, 2, 3, 4, 5, 6, 7, 8] [] rfl rfl rfl rfl (by decide) [0, 1, 2, 3, 4, 5, 6, 7, 8] rfl (fun _ => rfl) (ci := 5) (q0 := 0) rfl rfl rfl rfl hl.1 rfl (Nat.le_of_ble_eq_true rfl) dX6_searches_177 ⟨Nat.le_of_ble_eq_true rfl, Nat.le_of_ble_eq_true rfl⟩ (fun w111 H locs hw hP hD hS => ?_)
                  have hP : va_P D vwCl (wM kI mo m0 m1 m2 m3 m4 m5 m6 m7 w111) H := hP
                  have hD : va_D A (wM kI mo m0 m1 m2 m3 m4 m5 m6 m7 w111) := hD
                  refine lv_goto (tgt := 17) hx hb dX6_searches_180 (by decide) ?_
                  exact hK17 x101 w111 H locs ls hP hD hS (lv_sub hl [3, 1] rfl) hw
                · first | exact absurd (by decide) c110 | exact absurd c110 (by decide)
              · first | exact absurd (by decide) c108 | exact absurd c108 (by decide)
            · replace hw := Eq.mp (if_pos c104) hw
              refine lv_iconst (v := 1) hx hb dX6_searches_112 (by decide) ?_
              refine lv_goto (tgt := 117) hx hb dX6_searches_113 (by decide) ?_
              refine lv_istore_n (lv' := [(3, .int 1), (1, .int x101), (2, .int x100), (0, .ref mo)]) hx hb dX6_searches_117 rfl hl (by decide) rfl (fun ls hl => ?_)
              refine lv_aload_n hx hb dX6_searches_118 rfl (lv_at hl 3 rfl) ?_
              refine va_get (D := D) (ci := 5) (v := .ref m0) (C := RX6) (T := TX6) (N := 18) hx hb hts (fun _ h => List.mem_cons_of_mem _ (List.mem_append_right _ h)) hown hK hP 0 rfl rfl 0 (by decide) (hts (.fieldLink RX6 7 "HazelGiftModel" "all" "[I") (List.mem_of_getElem? (i := 4) rfl)) (fun _ h9 => h9) rfl dX6_searches_119 ?_
              refine lv_bipush (v := 16) hx hb dX6_searches_122 (by decide) ?_
              refine lv_aload_n hx hb dX6_searches_124 rfl (lv_at hl 3 rfl) ?_
              refine va_get (D := D) (ci := 5) (v := .ref m7) (C := RX6) (T := TX6) (N := 18) hx hb hts (fun _ h => List.mem_cons_of_mem _ (List.mem_append_right _ h)) hown hK hP 0 rfl rfl 16 (by decide) (hts (.fieldLink RX6 31 "HazelGiftModel" "held" "[I") (List.mem_of_getElem? (i := 3) rfl)) (fun _ h9 => h9) rfl dX6_searches_125 ?_
              refine lv_iload_n hx hb dX6_searches_128 rfl (lv_at hl 1 rfl) ?_
              obtain ⟨hi112, hw⟩ := hw
              refine gIald (k := (x101).toNatClampNeg) hx hb hK hP 8 0 rfl rfl hi112 rfl dX6_searches_129 ?_
              refine lv_topi (fun x113 ex113 => ?_)
              replace hw := hw x113 ex113
              refine gIast (k := 16) hx hb hK hP hD hS 1 0 rfl rfl (gin (by decide)) (by decide) dX6_searches_130 (fun H locs hP hD hS => ?_)
              have hP : va_P D vwCl (wM kI mo m0 m1 m2 m3 m4 m5 m6 m7 ((upd u.1 16 x113), u.2.1, u.2.2.1, u.2.2.2.1, u.2.2.2.2.1, u.2.2.2.2.2.1, u.2.2.2.2.2.2.1, u.2.2.2.2.2.2.2.1, u.2.2.2.2.2.2.2.2.1, u.2.2.2.2.2.2.2.2.2.1, u.2.2.2.2.2.2.2.2.2.2.1, u.2.2.2.2.2.2.2.2.2.2.2.1, u.2.2.2.2.2.2.2.2.2.2.2.2.1, u.2.2.2.2.2.2.2.2.2.2.2.2.2.1, u.2.2.2.2.2.2.2.2.2.2.2.2.2.2.1, u.2.2.2.2.2.2.2.2.2.2.2.2.2.2.2.1, u.2.2.2.2.2.2.2.2.2.2.2.2.2.2.2.2.1, u.2.2.2.2.2.2.2.2.2.2.2.2.2.2.2.2.2)) H := hP
              have hD : va_D A (wM kI mo m0 m1 m2 m3 m4 m5 m6 m7 ((upd u.1 16 x113), u.2.1, u.2.2.1, u.2.2.2.1, u.2.2.2.2.1, u.2.2.2.2.2.1, u.2.2.2.2.2.2.1, u.2.2.2.2.2.2.2.1, u.2.2.2.2.2.2.2.2.1, u.2.2.2.2.2.2.2.2.2.1, u.2.2.2.2.2.2.2.2.2.2.1, u.2.2.2.2.2.2.2.2.2.2.2.1, u.2.2.2.2.2.2.2.2.2.2.2.2.1, u.2.2.2.2.2.2.2.2.2.2.2.2.2.1, u.2.2.2.2.2.2.2.2.2.2.2.2.2.2.1, u.2.2.2.2.2.2.2.2.2.2.2.2.2.2.2.1, u.2.2.2.2.2.2.2.2.2.2.2.2.2.2.2.2.1, u.2.2.2.2.2.2.2.2.2.2.2.2.2.2.2.2.2)) := hD
              refine lv_aload_n hx hb dX6_searches_131 rfl (lv_at hl 3 rfl) ?_
              refine va_get (D := D) (ci := 5) (v := .ref m0) (C := RX6) (T := TX6) (N := 18) hx hb hts (fun _ h => List.mem_cons_of_mem _ (List.mem_append_right _ h)) hown hK hP 0 rfl rfl 0 (by decide) (hts (.fieldLink RX6 7 "HazelGiftModel" "all" "[I") (List.mem_of_getElem? (i := 4) rfl)) (fun _ h9 => h9) rfl dX6_searches_132 ?_
              refine lv_iconst (v := 0) hx hb dX6_searches_135 (by decide) ?_
              refine lv_aload_n hx hb dX6_searches_136 rfl (lv_at hl 3 rfl) ?_
              refine va_get (D := D) (ci := 5) (v := .ref m5) (C := RX6) (T := TX6) (N := 18) hx hb hts (fun _ h => List.mem_cons_of_mem _ (List.mem_append_right _ h)) hown hK hP 0 rfl rfl 14 (by decide) (hts (.fieldLink RX6 25 "HazelGiftModel" "option" "[I") (List.mem_of_getElem? (i := 1) rfl)) (fun _ h9 => h9) rfl dX6_searches_137 ?_
              refine lv_iload_n hx hb dX6_searches_140 rfl (lv_at hl 1 rfl) ?_
              obtain ⟨hi114, hw⟩ := hw
              refine gIald (k := (x101).toNatClampNeg) hx hb hK hP 6 0 rfl rfl hi114 rfl dX6_searches_141 ?_
              refine lv_iadd hx hb dX6_searches_142 ?_
              refine lv_iload_n hx hb dX6_searches_143 rfl (lv_at hl 0 rfl) ?_
              refine lv_if_eq (tgt := 163) hx hb dX6_searches_144 (by decide) (fun c115 => ?_) (fun c115 => ?_)
              · exact absurd c115 (by decide)
              refine lv_aload_n hx hb dX6_searches_147 rfl (lv_at hl 3 rfl) ?_
              refine va_get (D := D) (ci := 5) (v := .ref m0) (C := RX6) (T := TX6) (N := 18) hx hb hts (fun _ h => List.mem_cons_of_mem _ (List.mem_append_right _ h)) hown hK hP 0 rfl rfl 0 (by decide) (hts (.fieldLink RX6 7 "HazelGiftModel" "all" "[I") (List.mem_of_getElem? (i := 4) rfl)) (fun _ h9 => h9) rfl dX6_searches_148 ?_
              refine lv_iconst (v := 0) hx hb dX6_searches_151 (by decide) ?_
              refine lv_aload_n hx hb dX6_searches_152 rfl (lv_at hl 3 rfl) ?_
              refine va_get (D := D) (ci := 5) (v := .ref m5) (C := RX6) (T := TX6) (N := 18) hx hb hts (fun _ h => List.mem_cons_of_mem _ (List.mem_append_right _ h)) hown hK hP 0 rfl rfl 14 (by decide) (hts (.fieldLink RX6 25 "HazelGiftModel" "option" "[I") (List.mem_of_getElem? (i := 1) rfl)) (fun _ h9 => h9) rfl dX6_searches_153 ?_
              refine lv_iload_n hx hb dX6_searches_156 rfl (lv_at hl 1 rfl) ?_
              obtain ⟨hi116, hw⟩ := hw
              refine gIald (k := (x101).toNatClampNeg) hx hb hK hP 6 0 rfl rfl hi116 rfl dX6_searches_157 ?_
              refine lv_iadd hx hb dX6_searches_158 ?_
              obtain ⟨hi117, hw⟩ := hw
              refine gIald (k := ((0 + (u.2.2.2.2.2.1 (x101).toNatClampNeg))).toNatClampNeg) hx hb hK hP 1 0 rfl rfl hi117 rfl dX6_searches_159 ?_
              refine lv_goto (tgt := 164) hx hb dX6_searches_160 (by decide) ?_
              refine lv_topi (fun x118 ex118 => ?_)
              replace hw := hw x118 ex118
              obtain ⟨hi119, hw⟩ := hw
              refine gIast (k := ((0 + (u.2.2.2.2.2.1 (x101).toNatClampNeg))).toNatClampNeg) hx hb hK hP hD hS 1 0 rfl rfl hi119 rfl dX6_searches_164 (fun H locs hP hD hS => ?_)
              have hP : va_P D vwCl (wM kI mo m0 m1 m2 m3 m4 m5 m6 m7 ((upd (upd u.1 16 x113) ((0 + (u.2.2.2.2.2.1 (x101).toNatClampNeg))).toNatClampNeg x118), u.2.1, u.2.2.1, u.2.2.2.1, u.2.2.2.2.1, u.2.2.2.2.2.1, u.2.2.2.2.2.2.1, u.2.2.2.2.2.2.2.1, u.2.2.2.2.2.2.2.2.1, u.2.2.2.2.2.2.2.2.2.1, u.2.2.2.2.2.2.2.2.2.2.1, u.2.2.2.2.2.2.2.2.2.2.2.1, u.2.2.2.2.2.2.2.2.2.2.2.2.1, u.2.2.2.2.2.2.2.2.2.2.2.2.2.1, u.2.2.2.2.2.2.2.2.2.2.2.2.2.2.1, u.2.2.2.2.2.2.2.2.2.2.2.2.2.2.2.1, u.2.2.2.2.2.2.2.2.2.2.2.2.2.2.2.2.1, u.2.2.2.2.2.2.2.2.2.2.2.2.2.2.2.2.2)) H := hP
              have hD : va_D A (wM kI mo m0 m1 m2 m3 m4 m5 m6 m7 ((upd (upd u.1 16 x113) ((0 + (u.2.2.2.2.2.1 (x101).toNatClampNeg))).toNatClampNeg x118), u.2.1, u.2.2.1, u.2.2.2.1, u.2.2.2.2.1, u.2.2.2.2.2.1, u.2.2.2.2.2.2.1, u.2.2.2.2.2.2.2.1, u.2.2.2.2.2.2.2.2.1, u.2.2.2.2.2.2.2.2.2.1, u.2.2.2.2.2.2.2.2.2.2.1, u.2.2.2.2.2.2.2.2.2.2.2.1, u.2.2.2.2.2.2.2.2.2.2.2.2.1, u.2.2.2.2.2.2.2.2.2.2.2.2.2.1, u.2.2.2.2.2.2.2.2.2.2.2.2.2.2.1, u.2.2.2.2.2.2.2.2.2.2.2.2.2.2.2.1, u.2.2.2.2.2.2.2.2.2.2.2.2.2.2.2.2.1, u.2.2.2.2.2.2.2.2.2.2.2.2.2.2.2.2.2)) := hD
              refine lv_aload_n hx hb dX6_searches_165 rfl (lv_at hl 3 rfl) ?_
              refine lv_iload_n hx hb dX6_searches_166 rfl (lv_at hl 1 rfl) ?_
              refine lv_iload_n hx hb dX6_searches_167 rfl (lv_at hl 0 rfl) ?_
              refine lv_if_eq (tgt := 176) hx hb dX6_searches_168 (by decide) (fun c120 => ?_) (fun c120 => ?_)
              · exact absurd c120 (by decide)
              refine lv_iload_n hx hb dX6_searches_171 rfl (lv_at hl 2 rfl) ?_
              refine lv_ineg hx hb dX6_searches_172 ?_
              refine lv_goto (tgt := 177) hx hb dX6_searches_173 (by decide) ?_
              refine gWVv (S := SM) (As := [.int x101, .int (-x100)]) (rest := []) (wc := wM kI mo m0 m1 m2 m3 m4 m5 m6 m7 ((upd (upd u.1 16 x113) ((0 + (u.2.2.2.2.2.1 (x101).toNatClampNeg))).toNatClampNeg x118), u.2.1, u.2.2.1, u.2.2.2.1, u.2.2.2.2.1, u.2.2.2.2.2.1, u.2.2.2.2.2.2.1, u.2.2.2.2.2.2.2.1, u.2.2.2.2.2.2.2.2.1, u.2.2.2.2.2.2.2.2.2.1, u.2.2.2.2.2.2.2.2.2.2.1, u.2.2.2.2.2.2.2.2.2.2.2.1, u.2.2.2.2.2.2.2.2.2.2.2.2.1, u.2.2.2.2.2.2.2.2.2.2.2.2.2.1, u.2.2.2.2.2.2.2.2.2.2.2.2.2.2.1, u.2.2.2.2.2.2.2.2.2.2.2.2.2.2.2.1, u.2.2.2.2.2.2.2.2.2.2.2.2.2.2.2.2.1, u.2.2.2.2.2.2.2.2.2.2.2.2.2.2.2.2.2)) (wr := []) (cs1 := (fun zz : SM => wM kI mo m0 m1 m2 m3 m4 m5 m6 m7 zz)) (ws2 := (fun zz : SM => wM kI mo m0 m1 m2 m3 m4 m5 m6 m7 zz)) ⟨hx, hb, hml, hown, hts⟩ (fun sz => kX6_keeps l D kI kC kG kJ mo m0 m1 m2 m3 m4 m5 m6 m7 sz ((upd (upd u.1 16 x113) ((0 + (u.2.2.2.2.2.1 (x101).toNatClampNeg))).toNatClampNeg x118), u.2.1, u.2.2.1, u.2.2.2.1, u.2.2.2.2.1, u.2.2.2.2.2.1, u.2.2.2.2.2.2.1, u.2.2.2.2.2.2.2.1, u.2.2.2.2.2.2.2.2.1, u.2.2.2.2.2.2.2.2.2.1, u.2.2.2.2.2.2.2.2.2.2.1, u.2.2.2.2.2.2.2.2.2.2.2.1, u.2.2.2.2.2.2.2.2.2.2.2.2.1, u.2.2.2.2.2.2.2.2.2.2.2.2.2.1, u.2.2.2.2.2.2.2.2.2.2.2.2.2.2.1, u.2.2.2.2.2.2.2.2.2.2.2.2.2.2.2.1, u.2.2.2.2.2.2.2.2.2.2.2.2.2.2.2.2.1, u.2.2.2.2.2.2.2.2.2.2.2.2.2.2.2.2.2) x101 (-x100) _ hw) (cwV 2 hts gX6_searches_X6_keeps rfl rfl rfl hdX6_keeps ⟨Nat.le_of_ble_eq_true rfl, Nat.le_of_ble_eq_true rfl⟩) hK hP hD hE hS hA [0, 1, 2, 3, 4, 5, 6, 7, 8] [] rfl rfl rfl rfl (by decide) [0, 1, 2, 3, 4, 5, 6, 7, 8] rfl (fun _ => rfl) (ci := 5) (q0 := 0) rfl rfl rfl rfl hl.1 rfl (Nat.le_of_ble_eq_true rfl) dX6_searches_177 ⟨Nat.le_of_ble_eq_true rfl, Nat.le_of_ble_eq_true rfl⟩ (fun w121 H locs hw hP hD hS => ?_)
              have hP : va_P D vwCl (wM kI mo m0 m1 m2 m3 m4 m5 m6 m7 w121) H := hP
              have hD : va_D A (wM kI mo m0 m1 m2 m3 m4 m5 m6 m7 w121) := hD
              refine lv_goto (tgt := 17) hx hb dX6_searches_180 (by decide) ?_
              exact hK17 x101 w121 H locs ls hP hD hS (lv_sub hl [3, 1] rfl) hw
        · replace hw := Eq.mp (if_neg c98) hw
          refine lv_aload_n hx hb dX6_searches_79 rfl (lv_at hl 0 rfl) ?_
          refine va_get (D := D) (ci := 5) (v := .ref m6) (C := RX6) (T := TX6) (N := 18) hx hb hts (fun _ h => List.mem_cons_of_mem _ (List.mem_append_right _ h)) hown hK hP 0 rfl rfl 15 (by decide) (hts (.fieldLink RX6 28 "HazelGiftModel" "best" "[I") (List.mem_of_getElem? (i := 2) rfl)) (fun _ h9 => h9) rfl dX6_searches_80 ?_
          refine lv_iload_n hx hb dX6_searches_83 rfl (lv_at hl 1 rfl) ?_
          obtain ⟨hi122, hw⟩ := hw
          refine gIald (k := (v1).toNatClampNeg) hx hb hK hP 7 0 rfl rfl hi122 rfl dX6_searches_84 ?_
          refine lv_iconst (v := 1) hx hb dX6_searches_85 (by decide) ?_
          refine lv_icmp_ne (tgt := 183) hx hb dX6_searches_86 (by decide) (fun c123 => ?_) (fun c123 => ?_)
          · replace hw := Eq.mp (if_neg c123) hw
            refine lv_aload_n hx hb dX6_searches_183 rfl (lv_at hl 0 rfl) ?_
            refine va_get (D := D) (ci := 5) (v := .ref m5) (C := RX6) (T := TX6) (N := 18) hx hb hts (fun _ h => List.mem_cons_of_mem _ (List.mem_append_right _ h)) hown hK hP 0 rfl rfl 14 (by decide) (hts (.fieldLink RX6 25 "HazelGiftModel" "option" "[I") (List.mem_of_getElem? (i := 1) rfl)) (fun _ h9 => h9) rfl dX6_searches_184 ?_
            refine lv_iload_n hx hb dX6_searches_187 rfl (lv_at hl 1 rfl) ?_
            obtain ⟨hi124, hw⟩ := hw
            refine gIald (k := (v1).toNatClampNeg) hx hb hK hP 6 0 rfl rfl hi124 rfl dX6_searches_188 ?_
            refine lv_topi (fun x125 ex125 => ?_)
            replace hw := hw x125 ex125
            refine lv_istore_n (lv' := [(2, .int x125), (0, .ref mo), (1, .int v1)]) hx hb dX6_searches_189 rfl hl (by decide) rfl (fun ls hl => ?_)
            refine lv_aload_n hx hb dX6_searches_190 rfl (lv_at hl 1 rfl) ?_
            refine va_get (D := D) (ci := 5) (v := .ref m7) (C := RX6) (T := TX6) (N := 18) hx hb hts (fun _ h => List.mem_cons_of_mem _ (List.mem_append_right _ h)) hown hK hP 0 rfl rfl 16 (by decide) (hts (.fieldLink RX6 31 "HazelGiftModel" "held" "[I") (List.mem_of_getElem? (i := 3) rfl)) (fun _ h9 => h9) rfl dX6_searches_191 ?_
            refine lv_iload_n hx hb dX6_searches_194 rfl (lv_at hl 2 rfl) ?_
            refine lv_aload_n hx hb dX6_searches_195 rfl (lv_at hl 1 rfl) ?_
            refine va_get (D := D) (ci := 5) (v := .ref m0) (C := RX6) (T := TX6) (N := 18) hx hb hts (fun _ h => List.mem_cons_of_mem _ (List.mem_append_right _ h)) hown hK hP 0 rfl rfl 0 (by decide) (hts (.fieldLink RX6 7 "HazelGiftModel" "all" "[I") (List.mem_of_getElem? (i := 4) rfl)) (fun _ h9 => h9) rfl dX6_searches_196 ?_
            refine lv_bipush (v := 16) hx hb dX6_searches_199 (by decide) ?_
            refine gIald (k := 16) hx hb hK hP 1 0 rfl rfl (gin (by decide)) (by decide) dX6_searches_201 ?_
            refine lv_topi (fun x126 ex126 => ?_)
            replace hw := hw x126 ex126
            obtain ⟨hi127, hw⟩ := hw
            refine gIast (k := (v1).toNatClampNeg) hx hb hK hP hD hS 8 0 rfl rfl hi127 rfl dX6_searches_202 (fun H locs hP hD hS => ?_)
            have hP : va_P D vwCl (wM kI mo m0 m1 m2 m3 m4 m5 m6 m7 (u.1, u.2.1, u.2.2.1, u.2.2.2.1, u.2.2.2.2.1, u.2.2.2.2.2.1, u.2.2.2.2.2.2.1, (upd u.2.2.2.2.2.2.2.1 (v1).toNatClampNeg x126), u.2.2.2.2.2.2.2.2.1, u.2.2.2.2.2.2.2.2.2.1, u.2.2.2.2.2.2.2.2.2.2.1, u.2.2.2.2.2.2.2.2.2.2.2.1, u.2.2.2.2.2.2.2.2.2.2.2.2.1, u.2.2.2.2.2.2.2.2.2.2.2.2.2.1, u.2.2.2.2.2.2.2.2.2.2.2.2.2.2.1, u.2.2.2.2.2.2.2.2.2.2.2.2.2.2.2.1, u.2.2.2.2.2.2.2.2.2.2.2.2.2.2.2.2.1, u.2.2.2.2.2.2.2.2.2.2.2.2.2.2.2.2.2)) H := hP
            have hD : va_D A (wM kI mo m0 m1 m2 m3 m4 m5 m6 m7 (u.1, u.2.1, u.2.2.1, u.2.2.2.1, u.2.2.2.2.1, u.2.2.2.2.2.1, u.2.2.2.2.2.2.1, (upd u.2.2.2.2.2.2.2.1 (v1).toNatClampNeg x126), u.2.2.2.2.2.2.2.2.1, u.2.2.2.2.2.2.2.2.2.1, u.2.2.2.2.2.2.2.2.2.2.1, u.2.2.2.2.2.2.2.2.2.2.2.1, u.2.2.2.2.2.2.2.2.2.2.2.2.1, u.2.2.2.2.2.2.2.2.2.2.2.2.2.1, u.2.2.2.2.2.2.2.2.2.2.2.2.2.2.1, u.2.2.2.2.2.2.2.2.2.2.2.2.2.2.2.1, u.2.2.2.2.2.2.2.2.2.2.2.2.2.2.2.2.1, u.2.2.2.2.2.2.2.2.2.2.2.2.2.2.2.2.2)) := hD
            refine lv_iconst (v := 0) hx hb dX6_searches_203 (by decide) ?_
            refine lv_istore_n (lv' := [(3, .int 0), (2, .int x125), (0, .ref mo), (1, .int v1)]) hx hb dX6_searches_204 rfl hl (by decide) rfl (fun ls hl => ?_)
            refine lv_aload_n hx hb dX6_searches_205 rfl (lv_at hl 2 rfl) ?_
            refine va_get (D := D) (ci := 5) (v := .ref m0) (C := RX6) (T := TX6) (N := 18) hx hb hts (fun _ h => List.mem_cons_of_mem _ (List.mem_append_right _ h)) hown hK hP 0 rfl rfl 0 (by decide) (hts (.fieldLink RX6 7 "HazelGiftModel" "all" "[I") (List.mem_of_getElem? (i := 4) rfl)) (fun _ h9 => h9) rfl dX6_searches_206 ?_
            refine lv_bipush (v := 16) hx hb dX6_searches_209 (by decide) ?_
            refine gIald (k := 16) hx hb hK hP 1 0 rfl rfl (gin (by decide)) (by decide) dX6_searches_211 ?_
            refine lv_if_ne (tgt := 228) hx hb dX6_searches_212 (by decide) (fun c128 => ?_) (fun c128 => ?_)
            · replace hw := Eq.mp (if_neg c128) hw
              refine lv_aload_n hx hb dX6_searches_228 rfl (lv_at hl 2 rfl) ?_
              refine va_get (D := D) (ci := 5) (v := .ref m0) (C := RX6) (T := TX6) (N := 18) hx hb hts (fun _ h => List.mem_cons_of_mem _ (List.mem_append_right _ h)) hown hK hP 0 rfl rfl 0 (by decide) (hts (.fieldLink RX6 7 "HazelGiftModel" "all" "[I") (List.mem_of_getElem? (i := 4) rfl)) (fun _ h9 => h9) rfl dX6_searches_229 ?_
              refine lv_iconst (v := 0) hx hb dX6_searches_232 (by decide) ?_
              refine lv_iload_n hx hb dX6_searches_233 rfl (lv_at hl 1 rfl) ?_
              refine lv_iadd hx hb dX6_searches_234 ?_
              refine lv_aload_n hx hb dX6_searches_235 rfl (lv_at hl 2 rfl) ?_
              refine va_get (D := D) (ci := 5) (v := .ref m0) (C := RX6) (T := TX6) (N := 18) hx hb hts (fun _ h => List.mem_cons_of_mem _ (List.mem_append_right _ h)) hown hK hP 0 rfl rfl 0 (by decide) (hts (.fieldLink RX6 7 "HazelGiftModel" "all" "[I") (List.mem_of_getElem? (i := 4) rfl)) (fun _ h9 => h9) rfl dX6_searches_236 ?_
              refine lv_bipush (v := 16) hx hb dX6_searches_239 (by decide) ?_
              refine gIald (k := 16) hx hb hK hP 1 0 rfl rfl (gin (by decide)) (by decide) dX6_searches_241 ?_
              refine lv_topi (fun x129 ex129 => ?_)
              replace hw := hw x129 ex129
              obtain ⟨hi130, hw⟩ := hw
              refine gIast (k := ((0 + x125)).toNatClampNeg) hx hb hK hP hD hS 1 0 rfl rfl hi130 rfl dX6_searches_242 (fun H locs hP hD hS => ?_)
              have hP : va_P D vwCl (wM kI mo m0 m1 m2 m3 m4 m5 m6 m7 ((upd u.1 ((0 + x125)).toNatClampNeg x129), u.2.1, u.2.2.1, u.2.2.2.1, u.2.2.2.2.1, u.2.2.2.2.2.1, u.2.2.2.2.2.2.1, (upd u.2.2.2.2.2.2.2.1 (v1).toNatClampNeg x126), u.2.2.2.2.2.2.2.2.1, u.2.2.2.2.2.2.2.2.2.1, u.2.2.2.2.2.2.2.2.2.2.1, u.2.2.2.2.2.2.2.2.2.2.2.1, u.2.2.2.2.2.2.2.2.2.2.2.2.1, u.2.2.2.2.2.2.2.2.2.2.2.2.2.1, u.2.2.2.2.2.2.2.2.2.2.2.2.2.2.1, u.2.2.2.2.2.2.2.2.2.2.2.2.2.2.2.1, u.2.2.2.2.2.2.2.2.2.2.2.2.2.2.2.2.1, u.2.2.2.2.2.2.2.2.2.2.2.2.2.2.2.2.2)) H := hP
              have hD : va_D A (wM kI mo m0 m1 m2 m3 m4 m5 m6 m7 ((upd u.1 ((0 + x125)).toNatClampNeg x129), u.2.1, u.2.2.1, u.2.2.2.1, u.2.2.2.2.1, u.2.2.2.2.2.1, u.2.2.2.2.2.2.1, (upd u.2.2.2.2.2.2.2.1 (v1).toNatClampNeg x126), u.2.2.2.2.2.2.2.2.1, u.2.2.2.2.2.2.2.2.2.1, u.2.2.2.2.2.2.2.2.2.2.1, u.2.2.2.2.2.2.2.2.2.2.2.1, u.2.2.2.2.2.2.2.2.2.2.2.2.1, u.2.2.2.2.2.2.2.2.2.2.2.2.2.1, u.2.2.2.2.2.2.2.2.2.2.2.2.2.2.1, u.2.2.2.2.2.2.2.2.2.2.2.2.2.2.2.1, u.2.2.2.2.2.2.2.2.2.2.2.2.2.2.2.2.1, u.2.2.2.2.2.2.2.2.2.2.2.2.2.2.2.2.2)) := hD
              refine lv_aload_n hx hb dX6_searches_243 rfl (lv_at hl 2 rfl) ?_
              refine va_get (D := D) (ci := 5) (v := .ref m0) (C := RX6) (T := TX6) (N := 18) hx hb hts (fun _ h => List.mem_cons_of_mem _ (List.mem_append_right _ h)) hown hK hP 0 rfl rfl 0 (by decide) (hts (.fieldLink RX6 7 "HazelGiftModel" "all" "[I") (List.mem_of_getElem? (i := 4) rfl)) (fun _ h9 => h9) rfl dX6_searches_244 ?_
              refine lv_bipush (v := 16) hx hb dX6_searches_247 (by decide) ?_
              refine lv_iconst (v := 0) hx hb dX6_searches_249 (by decide) ?_
              refine gIast (k := 16) hx hb hK hP hD hS 1 0 rfl rfl (gin (by decide)) (by decide) dX6_searches_250 (fun H locs hP hD hS => ?_)
              have hP : va_P D vwCl (wM kI mo m0 m1 m2 m3 m4 m5 m6 m7 ((upd (upd u.1 ((0 + x125)).toNatClampNeg x129) 16 0), u.2.1, u.2.2.1, u.2.2.2.1, u.2.2.2.2.1, u.2.2.2.2.2.1, u.2.2.2.2.2.2.1, (upd u.2.2.2.2.2.2.2.1 (v1).toNatClampNeg x126), u.2.2.2.2.2.2.2.2.1, u.2.2.2.2.2.2.2.2.2.1, u.2.2.2.2.2.2.2.2.2.2.1, u.2.2.2.2.2.2.2.2.2.2.2.1, u.2.2.2.2.2.2.2.2.2.2.2.2.1, u.2.2.2.2.2.2.2.2.2.2.2.2.2.1, u.2.2.2.2.2.2.2.2.2.2.2.2.2.2.1, u.2.2.2.2.2.2.2.2.2.2.2.2.2.2.2.1, u.2.2.2.2.2.2.2.2.2.2.2.2.2.2.2.2.1, u.2.2.2.2.2.2.2.2.2.2.2.2.2.2.2.2.2)) H := hP
              have hD : va_D A (wM kI mo m0 m1 m2 m3 m4 m5 m6 m7 ((upd (upd u.1 ((0 + x125)).toNatClampNeg x129) 16 0), u.2.1, u.2.2.1, u.2.2.2.1, u.2.2.2.2.1, u.2.2.2.2.2.1, u.2.2.2.2.2.2.1, (upd u.2.2.2.2.2.2.2.1 (v1).toNatClampNeg x126), u.2.2.2.2.2.2.2.2.1, u.2.2.2.2.2.2.2.2.2.1, u.2.2.2.2.2.2.2.2.2.2.1, u.2.2.2.2.2.2.2.2.2.2.2.1, u.2.2.2.2.2.2.2.2.2.2.2.2.1, u.2.2.2.2.2.2.2.2.2.2.2.2.2.1, u.2.2.2.2.2.2.2.2.2.2.2.2.2.2.1, u.2.2.2.2.2.2.2.2.2.2.2.2.2.2.2.1, u.2.2.2.2.2.2.2.2.2.2.2.2.2.2.2.2.1, u.2.2.2.2.2.2.2.2.2.2.2.2.2.2.2.2.2)) := hD
              refine lv_aload_n hx hb dX6_searches_251 rfl (lv_at hl 2 rfl) ?_
              refine gVi (As := []) (rest := []) (cs' := wM kI mo m0 m1 m2 m3 m4 m5 m6 m7 ((upd (upd u.1 ((0 + x125)).toNatClampNeg x129) 16 0), u.2.1, u.2.2.1, u.2.2.2.1, u.2.2.2.2.1, u.2.2.2.2.2.1, u.2.2.2.2.2.2.1, (upd u.2.2.2.2.2.2.2.1 (v1).toNatClampNeg x126), u.2.2.2.2.2.2.2.2.1, u.2.2.2.2.2.2.2.2.2.1, u.2.2.2.2.2.2.2.2.2.2.1, u.2.2.2.2.2.2.2.2.2.2.2.1, u.2.2.2.2.2.2.2.2.2.2.2.2.1, u.2.2.2.2.2.2.2.2.2.2.2.2.2.1, u.2.2.2.2.2.2.2.2.2.2.2.2.2.2.1, u.2.2.2.2.2.2.2.2.2.2.2.2.2.2.2.1, u.2.2.2.2.2.2.2.2.2.2.2.2.2.2.2.2.1, u.2.2.2.2.2.2.2.2.2.2.2.2.2.2.2.2.2)) ⟨hx, hb, hml, hown, hts⟩ (kX6_won l D kI kC kG kJ mo m0 m1 m2 m3 m4 m5 m6 m7 ((upd (upd u.1 ((0 + x125)).toNatClampNeg x129) 16 0), u.2.1, u.2.2.1, u.2.2.2.1, u.2.2.2.2.1, u.2.2.2.2.2.1, u.2.2.2.2.2.2.1, (upd u.2.2.2.2.2.2.2.1 (v1).toNatClampNeg x126), u.2.2.2.2.2.2.2.2.1, u.2.2.2.2.2.2.2.2.2.1, u.2.2.2.2.2.2.2.2.2.2.1, u.2.2.2.2.2.2.2.2.2.2.2.1, u.2.2.2.2.2.2.2.2.2.2.2.2.1, u.2.2.2.2.2.2.2.2.2.2.2.2.2.1, u.2.2.2.2.2.2.2.2.2.2.2.2.2.2.1, u.2.2.2.2.2.2.2.2.2.2.2.2.2.2.2.1, u.2.2.2.2.2.2.2.2.2.2.2.2.2.2.2.2.1, u.2.2.2.2.2.2.2.2.2.2.2.2.2.2.2.2.2) _ hw) (cwV 0 hts gX6_searches_X6_won rfl rfl rfl hdX6_won ⟨Nat.le_of_ble_eq_true rfl, Nat.le_of_ble_eq_true rfl⟩) hK hP hE hS [0, 1, 2, 3, 4, 5, 6, 7, 8] rfl (ci := 5) (q0 := 0) rfl rfl rfl rfl hl.1 rfl (Nat.le_of_ble_eq_true rfl) dX6_searches_252 ⟨Nat.le_of_ble_eq_true rfl, Nat.le_of_ble_eq_true rfl⟩ (fun r131 hw => ?_)
              refine lv_if_le (tgt := 262) hx hb dX6_searches_255 (by decide) (fun c132 => ?_) (fun c132 => ?_)
              · replace hw := Eq.mp (if_pos c132) hw
                refine lv_iconst (v := 0) hx hb dX6_searches_262 (by decide) ?_
                refine lv_istore (lv' := [(4, .int 0), (3, .int 0), (2, .int x125), (0, .ref mo), (1, .int v1)]) hx hb dX6_searches_263 hl (by decide) rfl (fun ls hl => ?_)
                refine lv_iload hx hb dX6_searches_265 (lv_at hl 0 rfl) ?_
                refine lv_if_ne (tgt := 279) hx hb dX6_searches_267 (by decide) (fun c133 => ?_) (fun c133 => ?_)
                · exact absurd c133 (by decide)
                refine lv_aload_n hx hb dX6_searches_270 rfl (lv_at hl 3 rfl) ?_
                refine gVi (As := []) (rest := []) (cs' := wM kI mo m0 m1 m2 m3 m4 m5 m6 m7 ((upd (upd u.1 ((0 + x125)).toNatClampNeg x129) 16 0), u.2.1, u.2.2.1, u.2.2.2.1, u.2.2.2.2.1, u.2.2.2.2.2.1, u.2.2.2.2.2.2.1, (upd u.2.2.2.2.2.2.2.1 (v1).toNatClampNeg x126), u.2.2.2.2.2.2.2.2.1, u.2.2.2.2.2.2.2.2.2.1, u.2.2.2.2.2.2.2.2.2.2.1, u.2.2.2.2.2.2.2.2.2.2.2.1, u.2.2.2.2.2.2.2.2.2.2.2.2.1, u.2.2.2.2.2.2.2.2.2.2.2.2.2.1, u.2.2.2.2.2.2.2.2.2.2.2.2.2.2.1, u.2.2.2.2.2.2.2.2.2.2.2.2.2.2.2.1, u.2.2.2.2.2.2.2.2.2.2.2.2.2.2.2.2.1, u.2.2.2.2.2.2.2.2.2.2.2.2.2.2.2.2.2)) ⟨hx, hb, hml, hown, hts⟩ (kX6_count l D kI kC kG kJ mo m0 m1 m2 m3 m4 m5 m6 m7 ((upd (upd u.1 ((0 + x125)).toNatClampNeg x129) 16 0), u.2.1, u.2.2.1, u.2.2.2.1, u.2.2.2.2.1, u.2.2.2.2.2.1, u.2.2.2.2.2.2.1, (upd u.2.2.2.2.2.2.2.1 (v1).toNatClampNeg x126), u.2.2.2.2.2.2.2.2.1, u.2.2.2.2.2.2.2.2.2.1, u.2.2.2.2.2.2.2.2.2.2.1, u.2.2.2.2.2.2.2.2.2.2.2.1, u.2.2.2.2.2.2.2.2.2.2.2.2.1, u.2.2.2.2.2.2.2.2.2.2.2.2.2.1, u.2.2.2.2.2.2.2.2.2.2.2.2.2.2.1, u.2.2.2.2.2.2.2.2.2.2.2.2.2.2.2.1, u.2.2.2.2.2.2.2.2.2.2.2.2.2.2.2.2.1, u.2.2.2.2.2.2.2.2.2.2.2.2.2.2.2.2.2) _ hw) (cwV 0 hts gX6_searches_X6_count rfl rfl rfl hdX6_count ⟨Nat.le_of_ble_eq_true rfl, Nat.le_of_ble_eq_true rfl⟩) hK hP hE hS [0, 1, 2, 3, 4, 5, 6, 7, 8] rfl (ci := 5) (q0 := 0) rfl rfl rfl rfl hl.1 rfl (Nat.le_of_ble_eq_true rfl) dX6_searches_271 ⟨Nat.le_of_ble_eq_true rfl, Nat.le_of_ble_eq_true rfl⟩ (fun r134 hw => ?_)
                refine lv_bipush (v := 16) hx hb dX6_searches_274 (by decide) ?_
                refine lv_icmp_ne (tgt := 283) hx hb dX6_searches_276 (by decide) (fun c135 => ?_) (fun c135 => ?_)
                · replace hw := Eq.mp (if_neg c135) hw
                  refine lv_iconst (v := 0) hx hb dX6_searches_283 (by decide) ?_
                  refine lv_istore_n (lv' := [(3, .int 0), (4, .int 0), (2, .int x125), (0, .ref mo), (1, .int v1)]) hx hb dX6_searches_284 rfl hl (by decide) rfl (fun ls hl => ?_)
                  refine lv_iload_n hx hb dX6_searches_285 rfl (lv_at hl 0 rfl) ?_
                  refine lv_if_eq (tgt := 326) hx hb dX6_searches_286 (by decide) (fun c136 => ?_) (fun c136 => ?_)
                  · skip
                    refine lv_iload_n hx hb dX6_searches_326 rfl (lv_at hl 0 rfl) ?_
                    refine lv_if_ne (tgt := 348) hx hb dX6_searches_327 (by decide) (fun c137 => ?_) (fun c137 => ?_)
                    · exact absurd c137 (by decide)
                    obtain ⟨x138, ex138⟩ : ∃ y : Int32, y = (v1 + 1) := ⟨_, rfl⟩
                    replace hw := hw x138 ex138
                    refine lv_iinc (v := x138) (lv' := [(1, .int x138), (3, .int 0), (4, .int 0), (2, .int x125), (0, .ref mo)]) hx hb dX6_searches_330 hl (k := 4) rfl (by rw [ex138]; rfl) (by decide) rfl (fun ls hl => ?_)
                    refine lv_aload_n hx hb dX6_searches_333 rfl (lv_at hl 4 rfl) ?_
                    refine va_get (D := D) (ci := 5) (v := .ref m5) (C := RX6) (T := TX6) (N := 18) hx hb hts (fun _ h => List.mem_cons_of_mem _ (List.mem_append_right _ h)) hown hK hP 0 rfl rfl 14 (by decide) (hts (.fieldLink RX6 25 "HazelGiftModel" "option" "[I") (List.mem_of_getElem? (i := 1) rfl)) (fun _ h9 => h9) rfl dX6_searches_334 ?_
                    refine lv_iload_n hx hb dX6_searches_337 rfl (lv_at hl 0 rfl) ?_
                    refine lv_iconst (v := (-1)) hx hb dX6_searches_338 (by decide) ?_
                    obtain ⟨hi139, hw⟩ := hw
                    refine gIast (k := (x138).toNatClampNeg) hx hb hK hP hD hS 6 0 rfl rfl hi139 rfl dX6_searches_339 (fun H locs hP hD hS => ?_)
                    have hP : va_P D vwCl (wM kI mo m0 m1 m2 m3 m4 m5 m6 m7 ((upd (upd u.1 ((0 + x125)).toNatClampNeg x129) 16 0), u.2.1, u.2.2.1, u.2.2.2.1, u.2.2.2.2.1, (upd u.2.2.2.2.2.1 (x138).toNatClampNeg (-1)), u.2.2.2.2.2.2.1, (upd u.2.2.2.2.2.2.2.1 (v1).toNatClampNeg x126), u.2.2.2.2.2.2.2.2.1, u.2.2.2.2.2.2.2.2.2.1, u.2.2.2.2.2.2.2.2.2.2.1, u.2.2.2.2.2.2.2.2.2.2.2.1, u.2.2.2.2.2.2.2.2.2.2.2.2.1, u.2.2.2.2.2.2.2.2.2.2.2.2.2.1, u.2.2.2.2.2.2.2.2.2.2.2.2.2.2.1, u.2.2.2.2.2.2.2.2.2.2.2.2.2.2.2.1, u.2.2.2.2.2.2.2.2.2.2.2.2.2.2.2.2.1, u.2.2.2.2.2.2.2.2.2.2.2.2.2.2.2.2.2)) H := hP
                    have hD : va_D A (wM kI mo m0 m1 m2 m3 m4 m5 m6 m7 ((upd (upd u.1 ((0 + x125)).toNatClampNeg x129) 16 0), u.2.1, u.2.2.1, u.2.2.2.1, u.2.2.2.2.1, (upd u.2.2.2.2.2.1 (x138).toNatClampNeg (-1)), u.2.2.2.2.2.2.1, (upd u.2.2.2.2.2.2.2.1 (v1).toNatClampNeg x126), u.2.2.2.2.2.2.2.2.1, u.2.2.2.2.2.2.2.2.2.1, u.2.2.2.2.2.2.2.2.2.2.1, u.2.2.2.2.2.2.2.2.2.2.2.1, u.2.2.2.2.2.2.2.2.2.2.2.2.1, u.2.2.2.2.2.2.2.2.2.2.2.2.2.1, u.2.2.2.2.2.2.2.2.2.2.2.2.2.2.1, u.2.2.2.2.2.2.2.2.2.2.2.2.2.2.2.1, u.2.2.2.2.2.2.2.2.2.2.2.2.2.2.2.2.1, u.2.2.2.2.2.2.2.2.2.2.2.2.2.2.2.2.2)) := hD
                    refine lv_aload_n hx hb dX6_searches_340 rfl (lv_at hl 4 rfl) ?_
                    refine va_get (D := D) (ci := 5) (v := .ref m6) (C := RX6) (T := TX6) (N := 18) hx hb hts (fun _ h => List.mem_cons_of_mem _ (List.mem_append_right _ h)) hown hK hP 0 rfl rfl 15 (by decide) (hts (.fieldLink RX6 28 "HazelGiftModel" "best" "[I") (List.mem_of_getElem? (i := 2) rfl)) (fun _ h9 => h9) rfl dX6_searches_341 ?_
                    refine lv_iload_n hx hb dX6_searches_344 rfl (lv_at hl 0 rfl) ?_
                    refine lv_bipush (v := (-2)) hx hb dX6_searches_345 (by decide) ?_
                    obtain ⟨hi140, hw⟩ := hw
                    refine gIast (k := (x138).toNatClampNeg) hx hb hK hP hD hS 7 0 rfl rfl hi140 rfl dX6_searches_347 (fun H locs hP hD hS => ?_)
                    have hP : va_P D vwCl (wM kI mo m0 m1 m2 m3 m4 m5 m6 m7 ((upd (upd u.1 ((0 + x125)).toNatClampNeg x129) 16 0), u.2.1, u.2.2.1, u.2.2.2.1, u.2.2.2.2.1, (upd u.2.2.2.2.2.1 (x138).toNatClampNeg (-1)), (upd u.2.2.2.2.2.2.1 (x138).toNatClampNeg (-2)), (upd u.2.2.2.2.2.2.2.1 (v1).toNatClampNeg x126), u.2.2.2.2.2.2.2.2.1, u.2.2.2.2.2.2.2.2.2.1, u.2.2.2.2.2.2.2.2.2.2.1, u.2.2.2.2.2.2.2.2.2.2.2.1, u.2.2.2.2.2.2.2.2.2.2.2.2.1, u.2.2.2.2.2.2.2.2.2.2.2.2.2.1, u.2.2.2.2.2.2.2.2.2.2.2.2.2.2.1, u.2.2.2.2.2.2.2.2.2.2.2.2.2.2.2.1, u.2.2.2.2.2.2.2.2.2.2.2.2.2.2.2.2.1, u.2.2.2.2.2.2.2.2.2.2.2.2.2.2.2.2.2)) H := hP
                    have hD : va_D A (wM kI mo m0 m1 m2 m3 m4 m5 m6 m7 ((upd (upd u.1 ((0 + x125)).toNatClampNeg x129) 16 0), u.2.1, u.2.2.1, u.2.2.2.1, u.2.2.2.2.1, (upd u.2.2.2.2.2.1 (x138).toNatClampNeg (-1)), (upd u.2.2.2.2.2.2.1 (x138).toNatClampNeg (-2)), (upd u.2.2.2.2.2.2.2.1 (v1).toNatClampNeg x126), u.2.2.2.2.2.2.2.2.1, u.2.2.2.2.2.2.2.2.2.1, u.2.2.2.2.2.2.2.2.2.2.1, u.2.2.2.2.2.2.2.2.2.2.2.1, u.2.2.2.2.2.2.2.2.2.2.2.2.1, u.2.2.2.2.2.2.2.2.2.2.2.2.2.1, u.2.2.2.2.2.2.2.2.2.2.2.2.2.2.1, u.2.2.2.2.2.2.2.2.2.2.2.2.2.2.2.1, u.2.2.2.2.2.2.2.2.2.2.2.2.2.2.2.2.1, u.2.2.2.2.2.2.2.2.2.2.2.2.2.2.2.2.2)) := hD
                    refine lv_goto (tgt := 17) hx hb dX6_searches_348 (by decide) ?_
                    exact hK17 x138 ((upd (upd u.1 ((0 + x125)).toNatClampNeg x129) 16 0), u.2.1, u.2.2.1, u.2.2.2.1, u.2.2.2.2.1, (upd u.2.2.2.2.2.1 (x138).toNatClampNeg (-1)), (upd u.2.2.2.2.2.2.1 (x138).toNatClampNeg (-2)), (upd u.2.2.2.2.2.2.2.1 (v1).toNatClampNeg x126), u.2.2.2.2.2.2.2.2.1, u.2.2.2.2.2.2.2.2.2.1, u.2.2.2.2.2.2.2.2.2.2.1, u.2.2.2.2.2.2.2.2.2.2.2.1, u.2.2.2.2.2.2.2.2.2.2.2.2.1, u.2.2.2.2.2.2.2.2.2.2.2.2.2.1, u.2.2.2.2.2.2.2.2.2.2.2.2.2.2.1, u.2.2.2.2.2.2.2.2.2.2.2.2.2.2.2.1, u.2.2.2.2.2.2.2.2.2.2.2.2.2.2.2.2.1, u.2.2.2.2.2.2.2.2.2.2.2.2.2.2.2.2.2) H locs ls hP hD hS (lv_sub hl [4, 0] rfl) hw
                  · first | exact absurd (by decide) c136 | exact absurd c136 (by decide)
                · replace hw := Eq.mp (if_pos c135) hw
                  refine lv_iconst (v := 1) hx hb dX6_searches_279 (by decide) ?_
                  refine lv_goto (tgt := 284) hx hb dX6_searches_280 (by decide) ?_
                  refine lv_istore_n (lv' := [(3, .int 1), (4, .int 0), (2, .int x125), (0, .ref mo), (1, .int v1)]) hx hb dX6_searches_284 rfl hl (by decide) rfl (fun ls hl => ?_)
                  refine lv_iload_n hx hb dX6_searches_285 rfl (lv_at hl 0 rfl) ?_
                  refine lv_if_eq (tgt := 326) hx hb dX6_searches_286 (by decide) (fun c141 => ?_) (fun c141 => ?_)
                  · exact absurd c141 (by decide)
                  refine lv_aload_n hx hb dX6_searches_289 rfl (lv_at hl 3 rfl) ?_
                  refine va_get (D := D) (ci := 5) (v := .ref m0) (C := RX6) (T := TX6) (N := 18) hx hb hts (fun _ h => List.mem_cons_of_mem _ (List.mem_append_right _ h)) hown hK hP 0 rfl rfl 0 (by decide) (hts (.fieldLink RX6 7 "HazelGiftModel" "all" "[I") (List.mem_of_getElem? (i := 4) rfl)) (fun _ h9 => h9) rfl dX6_searches_290 ?_
                  refine lv_iconst (v := 0) hx hb dX6_searches_293 (by decide) ?_
                  refine lv_iload_n hx hb dX6_searches_294 rfl (lv_at hl 2 rfl) ?_
                  refine lv_iadd hx hb dX6_searches_295 ?_
                  refine lv_iconst (v := 0) hx hb dX6_searches_296 (by decide) ?_
                  obtain ⟨hi142, hw⟩ := hw
                  refine gIast (k := ((0 + x125)).toNatClampNeg) hx hb hK hP hD hS 1 0 rfl rfl hi142 rfl dX6_searches_297 (fun H locs hP hD hS => ?_)
                  have hP : va_P D vwCl (wM kI mo m0 m1 m2 m3 m4 m5 m6 m7 ((upd (upd (upd u.1 ((0 + x125)).toNatClampNeg x129) 16 0) ((0 + x125)).toNatClampNeg 0), u.2.1, u.2.2.1, u.2.2.2.1, u.2.2.2.2.1, u.2.2.2.2.2.1, u.2.2.2.2.2.2.1, (upd u.2.2.2.2.2.2.2.1 (v1).toNatClampNeg x126), u.2.2.2.2.2.2.2.2.1, u.2.2.2.2.2.2.2.2.2.1, u.2.2.2.2.2.2.2.2.2.2.1, u.2.2.2.2.2.2.2.2.2.2.2.1, u.2.2.2.2.2.2.2.2.2.2.2.2.1, u.2.2.2.2.2.2.2.2.2.2.2.2.2.1, u.2.2.2.2.2.2.2.2.2.2.2.2.2.2.1, u.2.2.2.2.2.2.2.2.2.2.2.2.2.2.2.1, u.2.2.2.2.2.2.2.2.2.2.2.2.2.2.2.2.1, u.2.2.2.2.2.2.2.2.2.2.2.2.2.2.2.2.2)) H := hP
                  have hD : va_D A (wM kI mo m0 m1 m2 m3 m4 m5 m6 m7 ((upd (upd (upd u.1 ((0 + x125)).toNatClampNeg x129) 16 0) ((0 + x125)).toNatClampNeg 0), u.2.1, u.2.2.1, u.2.2.2.1, u.2.2.2.2.1, u.2.2.2.2.2.1, u.2.2.2.2.2.2.1, (upd u.2.2.2.2.2.2.2.1 (v1).toNatClampNeg x126), u.2.2.2.2.2.2.2.2.1, u.2.2.2.2.2.2.2.2.2.1, u.2.2.2.2.2.2.2.2.2.2.1, u.2.2.2.2.2.2.2.2.2.2.2.1, u.2.2.2.2.2.2.2.2.2.2.2.2.1, u.2.2.2.2.2.2.2.2.2.2.2.2.2.1, u.2.2.2.2.2.2.2.2.2.2.2.2.2.2.1, u.2.2.2.2.2.2.2.2.2.2.2.2.2.2.2.1, u.2.2.2.2.2.2.2.2.2.2.2.2.2.2.2.2.1, u.2.2.2.2.2.2.2.2.2.2.2.2.2.2.2.2.2)) := hD
                  refine lv_aload_n hx hb dX6_searches_298 rfl (lv_at hl 3 rfl) ?_
                  refine va_get (D := D) (ci := 5) (v := .ref m0) (C := RX6) (T := TX6) (N := 18) hx hb hts (fun _ h => List.mem_cons_of_mem _ (List.mem_append_right _ h)) hown hK hP 0 rfl rfl 0 (by decide) (hts (.fieldLink RX6 7 "HazelGiftModel" "all" "[I") (List.mem_of_getElem? (i := 4) rfl)) (fun _ h9 => h9) rfl dX6_searches_299 ?_
                  refine lv_bipush (v := 16) hx hb dX6_searches_302 (by decide) ?_
                  refine lv_aload_n hx hb dX6_searches_304 rfl (lv_at hl 3 rfl) ?_
                  refine va_get (D := D) (ci := 5) (v := .ref m7) (C := RX6) (T := TX6) (N := 18) hx hb hts (fun _ h => List.mem_cons_of_mem _ (List.mem_append_right _ h)) hown hK hP 0 rfl rfl 16 (by decide) (hts (.fieldLink RX6 31 "HazelGiftModel" "held" "[I") (List.mem_of_getElem? (i := 3) rfl)) (fun _ h9 => h9) rfl dX6_searches_305 ?_
                  refine lv_iload_n hx hb dX6_searches_308 rfl (lv_at hl 4 rfl) ?_
                  obtain ⟨hi143, hw⟩ := hw
                  refine gIald (k := (v1).toNatClampNeg) hx hb hK hP 8 0 rfl rfl hi143 rfl dX6_searches_309 ?_
                  refine lv_topi (fun x144 ex144 => ?_)
                  replace hw := hw x144 ex144
                  refine gIast (k := 16) hx hb hK hP hD hS 1 0 rfl rfl (gin (by decide)) (by decide) dX6_searches_310 (fun H locs hP hD hS => ?_)
                  have hP : va_P D vwCl (wM kI mo m0 m1 m2 m3 m4 m5 m6 m7 ((upd (upd (upd (upd u.1 ((0 + x125)).toNatClampNeg x129) 16 0) ((0 + x125)).toNatClampNeg 0) 16 x144), u.2.1, u.2.2.1, u.2.2.2.1, u.2.2.2.2.1, u.2.2.2.2.2.1, u.2.2.2.2.2.2.1, (upd u.2.2.2.2.2.2.2.1 (v1).toNatClampNeg x126), u.2.2.2.2.2.2.2.2.1, u.2.2.2.2.2.2.2.2.2.1, u.2.2.2.2.2.2.2.2.2.2.1, u.2.2.2.2.2.2.2.2.2.2.2.1, u.2.2.2.2.2.2.2.2.2.2.2.2.1, u.2.2.2.2.2.2.2.2.2.2.2.2.2.1, u.2.2.2.2.2.2.2.2.2.2.2.2.2.2.1, u.2.2.2.2.2.2.2.2.2.2.2.2.2.2.2.1, u.2.2.2.2.2.2.2.2.2.2.2.2.2.2.2.2.1, u.2.2.2.2.2.2.2.2.2.2.2.2.2.2.2.2.2)) H := hP
                  have hD : va_D A (wM kI mo m0 m1 m2 m3 m4 m5 m6 m7 ((upd (upd (upd (upd u.1 ((0 + x125)).toNatClampNeg x129) 16 0) ((0 + x125)).toNatClampNeg 0) 16 x144), u.2.1, u.2.2.1, u.2.2.2.1, u.2.2.2.2.1, u.2.2.2.2.2.1, u.2.2.2.2.2.2.1, (upd u.2.2.2.2.2.2.2.1 (v1).toNatClampNeg x126), u.2.2.2.2.2.2.2.2.1, u.2.2.2.2.2.2.2.2.2.1, u.2.2.2.2.2.2.2.2.2.2.1, u.2.2.2.2.2.2.2.2.2.2.2.1, u.2.2.2.2.2.2.2.2.2.2.2.2.1, u.2.2.2.2.2.2.2.2.2.2.2.2.2.1, u.2.2.2.2.2.2.2.2.2.2.2.2.2.2.1, u.2.2.2.2.2.2.2.2.2.2.2.2.2.2.2.1, u.2.2.2.2.2.2.2.2.2.2.2.2.2.2.2.2.1, u.2.2.2.2.2.2.2.2.2.2.2.2.2.2.2.2.2)) := hD
                  refine lv_aload_n hx hb dX6_searches_311 rfl (lv_at hl 3 rfl) ?_
                  refine lv_iload_n hx hb dX6_searches_312 rfl (lv_at hl 4 rfl) ?_
                  refine lv_iload hx hb dX6_searches_313 (lv_at hl 1 rfl) ?_
                  refine lv_if_eq (tgt := 322) hx hb dX6_searches_315 (by decide) (fun c145 => ?_) (fun c145 => ?_)
                  · skip
                    refine lv_iconst (v := 0) hx hb dX6_searches_322 (by decide) ?_
                    refine gWVv (S := SM) (As := [.int v1, .int 0]) (rest := []) (wc := wM kI mo m0 m1 m2 m3 m4 m5 m6 m7 ((upd (upd (upd (upd u.1 ((0 + x125)).toNatClampNeg x129) 16 0) ((0 + x125)).toNatClampNeg 0) 16 x144), u.2.1, u.2.2.1, u.2.2.2.1, u.2.2.2.2.1, u.2.2.2.2.2.1, u.2.2.2.2.2.2.1, (upd u.2.2.2.2.2.2.2.1 (v1).toNatClampNeg x126), u.2.2.2.2.2.2.2.2.1, u.2.2.2.2.2.2.2.2.2.1, u.2.2.2.2.2.2.2.2.2.2.1, u.2.2.2.2.2.2.2.2.2.2.2.1, u.2.2.2.2.2.2.2.2.2.2.2.2.1, u.2.2.2.2.2.2.2.2.2.2.2.2.2.1, u.2.2.2.2.2.2.2.2.2.2.2.2.2.2.1, u.2.2.2.2.2.2.2.2.2.2.2.2.2.2.2.1, u.2.2.2.2.2.2.2.2.2.2.2.2.2.2.2.2.1, u.2.2.2.2.2.2.2.2.2.2.2.2.2.2.2.2.2)) (wr := []) (cs1 := (fun zz : SM => wM kI mo m0 m1 m2 m3 m4 m5 m6 m7 zz)) (ws2 := (fun zz : SM => wM kI mo m0 m1 m2 m3 m4 m5 m6 m7 zz)) ⟨hx, hb, hml, hown, hts⟩ (fun sz => kX6_keeps l D kI kC kG kJ mo m0 m1 m2 m3 m4 m5 m6 m7 sz ((upd (upd (upd (upd u.1 ((0 + x125)).toNatClampNeg x129) 16 0) ((0 + x125)).toNatClampNeg 0) 16 x144), u.2.1, u.2.2.1, u.2.2.2.1, u.2.2.2.2.1, u.2.2.2.2.2.1, u.2.2.2.2.2.2.1, (upd u.2.2.2.2.2.2.2.1 (v1).toNatClampNeg x126), u.2.2.2.2.2.2.2.2.1, u.2.2.2.2.2.2.2.2.2.1, u.2.2.2.2.2.2.2.2.2.2.1, u.2.2.2.2.2.2.2.2.2.2.2.1, u.2.2.2.2.2.2.2.2.2.2.2.2.1, u.2.2.2.2.2.2.2.2.2.2.2.2.2.1, u.2.2.2.2.2.2.2.2.2.2.2.2.2.2.1, u.2.2.2.2.2.2.2.2.2.2.2.2.2.2.2.1, u.2.2.2.2.2.2.2.2.2.2.2.2.2.2.2.2.1, u.2.2.2.2.2.2.2.2.2.2.2.2.2.2.2.2.2) v1 0 _ hw) (cwV 2 hts gX6_searches_X6_keeps rfl rfl rfl hdX6_keeps ⟨Nat.le_of_ble_eq_true rfl, Nat.le_of_ble_eq_true rfl⟩) hK hP hD hE hS hA [0, 1, 2, 3, 4, 5, 6, 7, 8] [] rfl rfl rfl rfl (by decide) [0, 1, 2, 3, 4, 5, 6, 7, 8] rfl (fun _ => rfl) (ci := 5) (q0 := 0) rfl rfl rfl rfl hl.1 rfl (Nat.le_of_ble_eq_true rfl) dX6_searches_323 ⟨Nat.le_of_ble_eq_true rfl, Nat.le_of_ble_eq_true rfl⟩ (fun w146 H locs hw hP hD hS => ?_)
                    have hP : va_P D vwCl (wM kI mo m0 m1 m2 m3 m4 m5 m6 m7 w146) H := hP
                    have hD : va_D A (wM kI mo m0 m1 m2 m3 m4 m5 m6 m7 w146) := hD
                    refine lv_iload_n hx hb dX6_searches_326 rfl (lv_at hl 0 rfl) ?_
                    refine lv_if_ne (tgt := 348) hx hb dX6_searches_327 (by decide) (fun c147 => ?_) (fun c147 => ?_)
                    · skip
                      refine lv_goto (tgt := 17) hx hb dX6_searches_348 (by decide) ?_
                      exact hK17 v1 w146 H locs ls hP hD hS (lv_sub hl [3, 4] rfl) hw
                    · first | exact absurd (by decide) c147 | exact absurd c147 (by decide)
                  · first | exact absurd (by decide) c145 | exact absurd c145 (by decide)
              · replace hw := Eq.mp (if_neg c132) hw
                refine lv_iconst (v := 1) hx hb dX6_searches_258 (by decide) ?_
                refine lv_goto (tgt := 263) hx hb dX6_searches_259 (by decide) ?_
                refine lv_istore (lv' := [(4, .int 1), (3, .int 0), (2, .int x125), (0, .ref mo), (1, .int v1)]) hx hb dX6_searches_263 hl (by decide) rfl (fun ls hl => ?_)
                refine lv_iload hx hb dX6_searches_265 (lv_at hl 0 rfl) ?_
                refine lv_if_ne (tgt := 279) hx hb dX6_searches_267 (by decide) (fun c148 => ?_) (fun c148 => ?_)
                · skip
                  refine lv_iconst (v := 1) hx hb dX6_searches_279 (by decide) ?_
                  refine lv_goto (tgt := 284) hx hb dX6_searches_280 (by decide) ?_
                  refine lv_istore_n (lv' := [(3, .int 1), (4, .int 1), (2, .int x125), (0, .ref mo), (1, .int v1)]) hx hb dX6_searches_284 rfl hl (by decide) rfl (fun ls hl => ?_)
                  refine lv_iload_n hx hb dX6_searches_285 rfl (lv_at hl 0 rfl) ?_
                  refine lv_if_eq (tgt := 326) hx hb dX6_searches_286 (by decide) (fun c149 => ?_) (fun c149 => ?_)
                  · exact absurd c149 (by decide)
                  refine lv_aload_n hx hb dX6_searches_289 rfl (lv_at hl 3 rfl) ?_
                  refine va_get (D := D) (ci := 5) (v := .ref m0) (C := RX6) (T := TX6) (N := 18) hx hb hts (fun _ h => List.mem_cons_of_mem _ (List.mem_append_right _ h)) hown hK hP 0 rfl rfl 0 (by decide) (hts (.fieldLink RX6 7 "HazelGiftModel" "all" "[I") (List.mem_of_getElem? (i := 4) rfl)) (fun _ h9 => h9) rfl dX6_searches_290 ?_
                  refine lv_iconst (v := 0) hx hb dX6_searches_293 (by decide) ?_
                  refine lv_iload_n hx hb dX6_searches_294 rfl (lv_at hl 2 rfl) ?_
                  refine lv_iadd hx hb dX6_searches_295 ?_
                  refine lv_iconst (v := 0) hx hb dX6_searches_296 (by decide) ?_
                  obtain ⟨hi150, hw⟩ := hw
                  refine gIast (k := ((0 + x125)).toNatClampNeg) hx hb hK hP hD hS 1 0 rfl rfl hi150 rfl dX6_searches_297 (fun H locs hP hD hS => ?_)
                  have hP : va_P D vwCl (wM kI mo m0 m1 m2 m3 m4 m5 m6 m7 ((upd (upd (upd u.1 ((0 + x125)).toNatClampNeg x129) 16 0) ((0 + x125)).toNatClampNeg 0), u.2.1, u.2.2.1, u.2.2.2.1, u.2.2.2.2.1, u.2.2.2.2.2.1, u.2.2.2.2.2.2.1, (upd u.2.2.2.2.2.2.2.1 (v1).toNatClampNeg x126), u.2.2.2.2.2.2.2.2.1, u.2.2.2.2.2.2.2.2.2.1, u.2.2.2.2.2.2.2.2.2.2.1, u.2.2.2.2.2.2.2.2.2.2.2.1, u.2.2.2.2.2.2.2.2.2.2.2.2.1, u.2.2.2.2.2.2.2.2.2.2.2.2.2.1, u.2.2.2.2.2.2.2.2.2.2.2.2.2.2.1, u.2.2.2.2.2.2.2.2.2.2.2.2.2.2.2.1, u.2.2.2.2.2.2.2.2.2.2.2.2.2.2.2.2.1, u.2.2.2.2.2.2.2.2.2.2.2.2.2.2.2.2.2)) H := hP
                  have hD : va_D A (wM kI mo m0 m1 m2 m3 m4 m5 m6 m7 ((upd (upd (upd u.1 ((0 + x125)).toNatClampNeg x129) 16 0) ((0 + x125)).toNatClampNeg 0), u.2.1, u.2.2.1, u.2.2.2.1, u.2.2.2.2.1, u.2.2.2.2.2.1, u.2.2.2.2.2.2.1, (upd u.2.2.2.2.2.2.2.1 (v1).toNatClampNeg x126), u.2.2.2.2.2.2.2.2.1, u.2.2.2.2.2.2.2.2.2.1, u.2.2.2.2.2.2.2.2.2.2.1, u.2.2.2.2.2.2.2.2.2.2.2.1, u.2.2.2.2.2.2.2.2.2.2.2.2.1, u.2.2.2.2.2.2.2.2.2.2.2.2.2.1, u.2.2.2.2.2.2.2.2.2.2.2.2.2.2.1, u.2.2.2.2.2.2.2.2.2.2.2.2.2.2.2.1, u.2.2.2.2.2.2.2.2.2.2.2.2.2.2.2.2.1, u.2.2.2.2.2.2.2.2.2.2.2.2.2.2.2.2.2)) := hD
                  refine lv_aload_n hx hb dX6_searches_298 rfl (lv_at hl 3 rfl) ?_
                  refine va_get (D := D) (ci := 5) (v := .ref m0) (C := RX6) (T := TX6) (N := 18) hx hb hts (fun _ h => List.mem_cons_of_mem _ (List.mem_append_right _ h)) hown hK hP 0 rfl rfl 0 (by decide) (hts (.fieldLink RX6 7 "HazelGiftModel" "all" "[I") (List.mem_of_getElem? (i := 4) rfl)) (fun _ h9 => h9) rfl dX6_searches_299 ?_
                  refine lv_bipush (v := 16) hx hb dX6_searches_302 (by decide) ?_
                  refine lv_aload_n hx hb dX6_searches_304 rfl (lv_at hl 3 rfl) ?_
                  refine va_get (D := D) (ci := 5) (v := .ref m7) (C := RX6) (T := TX6) (N := 18) hx hb hts (fun _ h => List.mem_cons_of_mem _ (List.mem_append_right _ h)) hown hK hP 0 rfl rfl 16 (by decide) (hts (.fieldLink RX6 31 "HazelGiftModel" "held" "[I") (List.mem_of_getElem? (i := 3) rfl)) (fun _ h9 => h9) rfl dX6_searches_305 ?_
                  refine lv_iload_n hx hb dX6_searches_308 rfl (lv_at hl 4 rfl) ?_
                  obtain ⟨hi151, hw⟩ := hw
                  refine gIald (k := (v1).toNatClampNeg) hx hb hK hP 8 0 rfl rfl hi151 rfl dX6_searches_309 ?_
                  refine lv_topi (fun x152 ex152 => ?_)
                  replace hw := hw x152 ex152
                  refine gIast (k := 16) hx hb hK hP hD hS 1 0 rfl rfl (gin (by decide)) (by decide) dX6_searches_310 (fun H locs hP hD hS => ?_)
                  have hP : va_P D vwCl (wM kI mo m0 m1 m2 m3 m4 m5 m6 m7 ((upd (upd (upd (upd u.1 ((0 + x125)).toNatClampNeg x129) 16 0) ((0 + x125)).toNatClampNeg 0) 16 x152), u.2.1, u.2.2.1, u.2.2.2.1, u.2.2.2.2.1, u.2.2.2.2.2.1, u.2.2.2.2.2.2.1, (upd u.2.2.2.2.2.2.2.1 (v1).toNatClampNeg x126), u.2.2.2.2.2.2.2.2.1, u.2.2.2.2.2.2.2.2.2.1, u.2.2.2.2.2.2.2.2.2.2.1, u.2.2.2.2.2.2.2.2.2.2.2.1, u.2.2.2.2.2.2.2.2.2.2.2.2.1, u.2.2.2.2.2.2.2.2.2.2.2.2.2.1, u.2.2.2.2.2.2.2.2.2.2.2.2.2.2.1, u.2.2.2.2.2.2.2.2.2.2.2.2.2.2.2.1, u.2.2.2.2.2.2.2.2.2.2.2.2.2.2.2.2.1, u.2.2.2.2.2.2.2.2.2.2.2.2.2.2.2.2.2)) H := hP
                  have hD : va_D A (wM kI mo m0 m1 m2 m3 m4 m5 m6 m7 ((upd (upd (upd (upd u.1 ((0 + x125)).toNatClampNeg x129) 16 0) ((0 + x125)).toNatClampNeg 0) 16 x152), u.2.1, u.2.2.1, u.2.2.2.1, u.2.2.2.2.1, u.2.2.2.2.2.1, u.2.2.2.2.2.2.1, (upd u.2.2.2.2.2.2.2.1 (v1).toNatClampNeg x126), u.2.2.2.2.2.2.2.2.1, u.2.2.2.2.2.2.2.2.2.1, u.2.2.2.2.2.2.2.2.2.2.1, u.2.2.2.2.2.2.2.2.2.2.2.1, u.2.2.2.2.2.2.2.2.2.2.2.2.1, u.2.2.2.2.2.2.2.2.2.2.2.2.2.1, u.2.2.2.2.2.2.2.2.2.2.2.2.2.2.1, u.2.2.2.2.2.2.2.2.2.2.2.2.2.2.2.1, u.2.2.2.2.2.2.2.2.2.2.2.2.2.2.2.2.1, u.2.2.2.2.2.2.2.2.2.2.2.2.2.2.2.2.2)) := hD
                  refine lv_aload_n hx hb dX6_searches_311 rfl (lv_at hl 3 rfl) ?_
                  refine lv_iload_n hx hb dX6_searches_312 rfl (lv_at hl 4 rfl) ?_
                  refine lv_iload hx hb dX6_searches_313 (lv_at hl 1 rfl) ?_
                  refine lv_if_eq (tgt := 322) hx hb dX6_searches_315 (by decide) (fun c153 => ?_) (fun c153 => ?_)
                  · exact absurd c153 (by decide)
                  refine lv_iconst (v := 1) hx hb dX6_searches_318 (by decide) ?_
                  refine lv_goto (tgt := 323) hx hb dX6_searches_319 (by decide) ?_
                  refine gWVv (S := SM) (As := [.int v1, .int 1]) (rest := []) (wc := wM kI mo m0 m1 m2 m3 m4 m5 m6 m7 ((upd (upd (upd (upd u.1 ((0 + x125)).toNatClampNeg x129) 16 0) ((0 + x125)).toNatClampNeg 0) 16 x152), u.2.1, u.2.2.1, u.2.2.2.1, u.2.2.2.2.1, u.2.2.2.2.2.1, u.2.2.2.2.2.2.1, (upd u.2.2.2.2.2.2.2.1 (v1).toNatClampNeg x126), u.2.2.2.2.2.2.2.2.1, u.2.2.2.2.2.2.2.2.2.1, u.2.2.2.2.2.2.2.2.2.2.1, u.2.2.2.2.2.2.2.2.2.2.2.1, u.2.2.2.2.2.2.2.2.2.2.2.2.1, u.2.2.2.2.2.2.2.2.2.2.2.2.2.1, u.2.2.2.2.2.2.2.2.2.2.2.2.2.2.1, u.2.2.2.2.2.2.2.2.2.2.2.2.2.2.2.1, u.2.2.2.2.2.2.2.2.2.2.2.2.2.2.2.2.1, u.2.2.2.2.2.2.2.2.2.2.2.2.2.2.2.2.2)) (wr := []) (cs1 := (fun zz : SM => wM kI mo m0 m1 m2 m3 m4 m5 m6 m7 zz)) (ws2 := (fun zz : SM => wM kI mo m0 m1 m2 m3 m4 m5 m6 m7 zz)) ⟨hx, hb, hml, hown, hts⟩ (fun sz => kX6_keeps l D kI kC kG kJ mo m0 m1 m2 m3 m4 m5 m6 m7 sz ((upd (upd (upd (upd u.1 ((0 + x125)).toNatClampNeg x129) 16 0) ((0 + x125)).toNatClampNeg 0) 16 x152), u.2.1, u.2.2.1, u.2.2.2.1, u.2.2.2.2.1, u.2.2.2.2.2.1, u.2.2.2.2.2.2.1, (upd u.2.2.2.2.2.2.2.1 (v1).toNatClampNeg x126), u.2.2.2.2.2.2.2.2.1, u.2.2.2.2.2.2.2.2.2.1, u.2.2.2.2.2.2.2.2.2.2.1, u.2.2.2.2.2.2.2.2.2.2.2.1, u.2.2.2.2.2.2.2.2.2.2.2.2.1, u.2.2.2.2.2.2.2.2.2.2.2.2.2.1, u.2.2.2.2.2.2.2.2.2.2.2.2.2.2.1, u.2.2.2.2.2.2.2.2.2.2.2.2.2.2.2.1, u.2.2.2.2.2.2.2.2.2.2.2.2.2.2.2.2.1, u.2.2.2.2.2.2.2.2.2.2.2.2.2.2.2.2.2) v1 1 _ hw) (cwV 2 hts gX6_searches_X6_keeps rfl rfl rfl hdX6_keeps ⟨Nat.le_of_ble_eq_true rfl, Nat.le_of_ble_eq_true rfl⟩) hK hP hD hE hS hA [0, 1, 2, 3, 4, 5, 6, 7, 8] [] rfl rfl rfl rfl (by decide) [0, 1, 2, 3, 4, 5, 6, 7, 8] rfl (fun _ => rfl) (ci := 5) (q0 := 0) rfl rfl rfl rfl hl.1 rfl (Nat.le_of_ble_eq_true rfl) dX6_searches_323 ⟨Nat.le_of_ble_eq_true rfl, Nat.le_of_ble_eq_true rfl⟩ (fun w154 H locs hw hP hD hS => ?_)
                  have hP : va_P D vwCl (wM kI mo m0 m1 m2 m3 m4 m5 m6 m7 w154) H := hP
                  have hD : va_D A (wM kI mo m0 m1 m2 m3 m4 m5 m6 m7 w154) := hD
                  refine lv_iload_n hx hb dX6_searches_326 rfl (lv_at hl 0 rfl) ?_
                  refine lv_if_ne (tgt := 348) hx hb dX6_searches_327 (by decide) (fun c155 => ?_) (fun c155 => ?_)
                  · skip
                    refine lv_goto (tgt := 17) hx hb dX6_searches_348 (by decide) ?_
                    exact hK17 v1 w154 H locs ls hP hD hS (lv_sub hl [3, 4] rfl) hw
                  · first | exact absurd (by decide) c155 | exact absurd c155 (by decide)
                · first | exact absurd (by decide) c148 | exact absurd c148 (by decide)
            · replace hw := Eq.mp (if_pos c128) hw
              refine lv_aload_n hx hb dX6_searches_215 rfl (lv_at hl 2 rfl) ?_
              refine va_get (D := D) (ci := 5) (v := .ref m0) (C := RX6) (T := TX6) (N := 18) hx hb hts (fun _ h => List.mem_cons_of_mem _ (List.mem_append_right _ h)) hown hK hP 0 rfl rfl 0 (by decide) (hts (.fieldLink RX6 7 "HazelGiftModel" "all" "[I") (List.mem_of_getElem? (i := 4) rfl)) (fun _ h9 => h9) rfl dX6_searches_216 ?_
              refine lv_bipush (v := 16) hx hb dX6_searches_219 (by decide) ?_
              refine lv_iload_n hx hb dX6_searches_221 rfl (lv_at hl 1 rfl) ?_
              refine lv_iconst (v := 1) hx hb dX6_searches_222 (by decide) ?_
              refine lv_iadd hx hb dX6_searches_223 ?_
              refine lv_topi (fun x156 ex156 => ?_)
              replace hw := hw x156 ex156
              refine gIast (k := 16) hx hb hK hP hD hS 1 0 rfl rfl (gin (by decide)) (by decide) dX6_searches_224 (fun H locs hP hD hS => ?_)
              have hP : va_P D vwCl (wM kI mo m0 m1 m2 m3 m4 m5 m6 m7 ((upd u.1 16 x156), u.2.1, u.2.2.1, u.2.2.2.1, u.2.2.2.2.1, u.2.2.2.2.2.1, u.2.2.2.2.2.2.1, (upd u.2.2.2.2.2.2.2.1 (v1).toNatClampNeg x126), u.2.2.2.2.2.2.2.2.1, u.2.2.2.2.2.2.2.2.2.1, u.2.2.2.2.2.2.2.2.2.2.1, u.2.2.2.2.2.2.2.2.2.2.2.1, u.2.2.2.2.2.2.2.2.2.2.2.2.1, u.2.2.2.2.2.2.2.2.2.2.2.2.2.1, u.2.2.2.2.2.2.2.2.2.2.2.2.2.2.1, u.2.2.2.2.2.2.2.2.2.2.2.2.2.2.2.1, u.2.2.2.2.2.2.2.2.2.2.2.2.2.2.2.2.1, u.2.2.2.2.2.2.2.2.2.2.2.2.2.2.2.2.2)) H := hP
              have hD : va_D A (wM kI mo m0 m1 m2 m3 m4 m5 m6 m7 ((upd u.1 16 x156), u.2.1, u.2.2.1, u.2.2.2.1, u.2.2.2.2.1, u.2.2.2.2.2.1, u.2.2.2.2.2.2.1, (upd u.2.2.2.2.2.2.2.1 (v1).toNatClampNeg x126), u.2.2.2.2.2.2.2.2.1, u.2.2.2.2.2.2.2.2.2.1, u.2.2.2.2.2.2.2.2.2.2.1, u.2.2.2.2.2.2.2.2.2.2.2.1, u.2.2.2.2.2.2.2.2.2.2.2.2.1, u.2.2.2.2.2.2.2.2.2.2.2.2.2.1, u.2.2.2.2.2.2.2.2.2.2.2.2.2.2.1, u.2.2.2.2.2.2.2.2.2.2.2.2.2.2.2.1, u.2.2.2.2.2.2.2.2.2.2.2.2.2.2.2.2.1, u.2.2.2.2.2.2.2.2.2.2.2.2.2.2.2.2.2)) := hD
              refine lv_goto (tgt := 326) hx hb dX6_searches_225 (by decide) ?_
              refine lv_iload_n hx hb dX6_searches_326 rfl (lv_at hl 0 rfl) ?_
              refine lv_if_ne (tgt := 348) hx hb dX6_searches_327 (by decide) (fun c157 => ?_) (fun c157 => ?_)
              · exact absurd c157 (by decide)
              obtain ⟨x158, ex158⟩ : ∃ y : Int32, y = (v1 + 1) := ⟨_, rfl⟩
              replace hw := hw x158 ex158
              refine lv_iinc (v := x158) (lv' := [(1, .int x158), (3, .int 0), (2, .int x125), (0, .ref mo)]) hx hb dX6_searches_330 hl (k := 3) rfl (by rw [ex158]; rfl) (by decide) rfl (fun ls hl => ?_)
              refine lv_aload_n hx hb dX6_searches_333 rfl (lv_at hl 3 rfl) ?_
              refine va_get (D := D) (ci := 5) (v := .ref m5) (C := RX6) (T := TX6) (N := 18) hx hb hts (fun _ h => List.mem_cons_of_mem _ (List.mem_append_right _ h)) hown hK hP 0 rfl rfl 14 (by decide) (hts (.fieldLink RX6 25 "HazelGiftModel" "option" "[I") (List.mem_of_getElem? (i := 1) rfl)) (fun _ h9 => h9) rfl dX6_searches_334 ?_
              refine lv_iload_n hx hb dX6_searches_337 rfl (lv_at hl 0 rfl) ?_
              refine lv_iconst (v := (-1)) hx hb dX6_searches_338 (by decide) ?_
              obtain ⟨hi159, hw⟩ := hw
              refine gIast (k := (x158).toNatClampNeg) hx hb hK hP hD hS 6 0 rfl rfl hi159 rfl dX6_searches_339 (fun H locs hP hD hS => ?_)
              have hP : va_P D vwCl (wM kI mo m0 m1 m2 m3 m4 m5 m6 m7 ((upd u.1 16 x156), u.2.1, u.2.2.1, u.2.2.2.1, u.2.2.2.2.1, (upd u.2.2.2.2.2.1 (x158).toNatClampNeg (-1)), u.2.2.2.2.2.2.1, (upd u.2.2.2.2.2.2.2.1 (v1).toNatClampNeg x126), u.2.2.2.2.2.2.2.2.1, u.2.2.2.2.2.2.2.2.2.1, u.2.2.2.2.2.2.2.2.2.2.1, u.2.2.2.2.2.2.2.2.2.2.2.1, u.2.2.2.2.2.2.2.2.2.2.2.2.1, u.2.2.2.2.2.2.2.2.2.2.2.2.2.1, u.2.2.2.2.2.2.2.2.2.2.2.2.2.2.1, u.2.2.2.2.2.2.2.2.2.2.2.2.2.2.2.1, u.2.2.2.2.2.2.2.2.2.2.2.2.2.2.2.2.1, u.2.2.2.2.2.2.2.2.2.2.2.2.2.2.2.2.2)) H := hP
              have hD : va_D A (wM kI mo m0 m1 m2 m3 m4 m5 m6 m7 ((upd u.1 16 x156), u.2.1, u.2.2.1, u.2.2.2.1, u.2.2.2.2.1, (upd u.2.2.2.2.2.1 (x158).toNatClampNeg (-1)), u.2.2.2.2.2.2.1, (upd u.2.2.2.2.2.2.2.1 (v1).toNatClampNeg x126), u.2.2.2.2.2.2.2.2.1, u.2.2.2.2.2.2.2.2.2.1, u.2.2.2.2.2.2.2.2.2.2.1, u.2.2.2.2.2.2.2.2.2.2.2.1, u.2.2.2.2.2.2.2.2.2.2.2.2.1, u.2.2.2.2.2.2.2.2.2.2.2.2.2.1, u.2.2.2.2.2.2.2.2.2.2.2.2.2.2.1, u.2.2.2.2.2.2.2.2.2.2.2.2.2.2.2.1, u.2.2.2.2.2.2.2.2.2.2.2.2.2.2.2.2.1, u.2.2.2.2.2.2.2.2.2.2.2.2.2.2.2.2.2)) := hD
              refine lv_aload_n hx hb dX6_searches_340 rfl (lv_at hl 3 rfl) ?_
              refine va_get (D := D) (ci := 5) (v := .ref m6) (C := RX6) (T := TX6) (N := 18) hx hb hts (fun _ h => List.mem_cons_of_mem _ (List.mem_append_right _ h)) hown hK hP 0 rfl rfl 15 (by decide) (hts (.fieldLink RX6 28 "HazelGiftModel" "best" "[I") (List.mem_of_getElem? (i := 2) rfl)) (fun _ h9 => h9) rfl dX6_searches_341 ?_
              refine lv_iload_n hx hb dX6_searches_344 rfl (lv_at hl 0 rfl) ?_
              refine lv_bipush (v := (-2)) hx hb dX6_searches_345 (by decide) ?_
              obtain ⟨hi160, hw⟩ := hw
              refine gIast (k := (x158).toNatClampNeg) hx hb hK hP hD hS 7 0 rfl rfl hi160 rfl dX6_searches_347 (fun H locs hP hD hS => ?_)
              have hP : va_P D vwCl (wM kI mo m0 m1 m2 m3 m4 m5 m6 m7 ((upd u.1 16 x156), u.2.1, u.2.2.1, u.2.2.2.1, u.2.2.2.2.1, (upd u.2.2.2.2.2.1 (x158).toNatClampNeg (-1)), (upd u.2.2.2.2.2.2.1 (x158).toNatClampNeg (-2)), (upd u.2.2.2.2.2.2.2.1 (v1).toNatClampNeg x126), u.2.2.2.2.2.2.2.2.1, u.2.2.2.2.2.2.2.2.2.1, u.2.2.2.2.2.2.2.2.2.2.1, u.2.2.2.2.2.2.2.2.2.2.2.1, u.2.2.2.2.2.2.2.2.2.2.2.2.1, u.2.2.2.2.2.2.2.2.2.2.2.2.2.1, u.2.2.2.2.2.2.2.2.2.2.2.2.2.2.1, u.2.2.2.2.2.2.2.2.2.2.2.2.2.2.2.1, u.2.2.2.2.2.2.2.2.2.2.2.2.2.2.2.2.1, u.2.2.2.2.2.2.2.2.2.2.2.2.2.2.2.2.2)) H := hP
              have hD : va_D A (wM kI mo m0 m1 m2 m3 m4 m5 m6 m7 ((upd u.1 16 x156), u.2.1, u.2.2.1, u.2.2.2.1, u.2.2.2.2.1, (upd u.2.2.2.2.2.1 (x158).toNatClampNeg (-1)), (upd u.2.2.2.2.2.2.1 (x158).toNatClampNeg (-2)), (upd u.2.2.2.2.2.2.2.1 (v1).toNatClampNeg x126), u.2.2.2.2.2.2.2.2.1, u.2.2.2.2.2.2.2.2.2.1, u.2.2.2.2.2.2.2.2.2.2.1, u.2.2.2.2.2.2.2.2.2.2.2.1, u.2.2.2.2.2.2.2.2.2.2.2.2.1, u.2.2.2.2.2.2.2.2.2.2.2.2.2.1, u.2.2.2.2.2.2.2.2.2.2.2.2.2.2.1, u.2.2.2.2.2.2.2.2.2.2.2.2.2.2.2.1, u.2.2.2.2.2.2.2.2.2.2.2.2.2.2.2.2.1, u.2.2.2.2.2.2.2.2.2.2.2.2.2.2.2.2.2)) := hD
              refine lv_goto (tgt := 17) hx hb dX6_searches_348 (by decide) ?_
              exact hK17 x158 ((upd u.1 16 x156), u.2.1, u.2.2.1, u.2.2.2.1, u.2.2.2.2.1, (upd u.2.2.2.2.2.1 (x158).toNatClampNeg (-1)), (upd u.2.2.2.2.2.2.1 (x158).toNatClampNeg (-2)), (upd u.2.2.2.2.2.2.2.1 (v1).toNatClampNeg x126), u.2.2.2.2.2.2.2.2.1, u.2.2.2.2.2.2.2.2.2.1, u.2.2.2.2.2.2.2.2.2.2.1, u.2.2.2.2.2.2.2.2.2.2.2.1, u.2.2.2.2.2.2.2.2.2.2.2.2.1, u.2.2.2.2.2.2.2.2.2.2.2.2.2.1, u.2.2.2.2.2.2.2.2.2.2.2.2.2.2.1, u.2.2.2.2.2.2.2.2.2.2.2.2.2.2.2.1, u.2.2.2.2.2.2.2.2.2.2.2.2.2.2.2.2.1, u.2.2.2.2.2.2.2.2.2.2.2.2.2.2.2.2.2) H locs ls hP hD hS (lv_sub hl [3, 0] rfl) hw
          · replace hw := Eq.mp (if_pos c123) hw
            refine lv_aload_n hx hb dX6_searches_89 rfl (lv_at hl 0 rfl) ?_
            refine va_get (D := D) (ci := 5) (v := .ref m6) (C := RX6) (T := TX6) (N := 18) hx hb hts (fun _ h => List.mem_cons_of_mem _ (List.mem_append_right _ h)) hown hK hP 0 rfl rfl 15 (by decide) (hts (.fieldLink RX6 28 "HazelGiftModel" "best" "[I") (List.mem_of_getElem? (i := 2) rfl)) (fun _ h9 => h9) rfl dX6_searches_90 ?_
            refine lv_iload_n hx hb dX6_searches_93 rfl (lv_at hl 1 rfl) ?_
            obtain ⟨hi161, hw⟩ := hw
            refine gIald (k := (v1).toNatClampNeg) hx hb hK hP 7 0 rfl rfl hi161 rfl dX6_searches_94 ?_
            refine lv_topi (fun x162 ex162 => ?_)
            replace hw := hw x162 ex162
            refine lv_istore_n (lv' := [(2, .int x162), (0, .ref mo), (1, .int v1)]) hx hb dX6_searches_95 rfl hl (by decide) rfl (fun ls hl => ?_)
            obtain ⟨x163, ex163⟩ : ∃ y : Int32, y = (v1 + (-1)) := ⟨_, rfl⟩
            replace hw := hw x163 ex163
            refine lv_iinc (v := x163) (lv' := [(1, .int x163), (2, .int x162), (0, .ref mo)]) hx hb dX6_searches_96 hl (k := 2) rfl (by rw [ex163]; rfl) (by decide) rfl (fun ls hl => ?_)
            refine lv_iload_n hx hb dX6_searches_99 rfl (lv_at hl 0 rfl) ?_
            refine lv_if_lt (tgt := 180) hx hb dX6_searches_100 (by decide) (fun c164 => ?_) (fun c164 => ?_)
            · replace hw := Eq.mp (if_pos c164) hw
              refine lv_goto (tgt := 17) hx hb dX6_searches_180 (by decide) ?_
              exact hK17 x163 u H locs ls hP hD hS (lv_sub hl [2, 0] rfl) hw
            · replace hw := Eq.mp (if_neg c164) hw
              refine lv_aload_n hx hb dX6_searches_103 rfl (lv_at hl 2 rfl) ?_
              refine va_get (D := D) (ci := 5) (v := .ref m7) (C := RX6) (T := TX6) (N := 18) hx hb hts (fun _ h => List.mem_cons_of_mem _ (List.mem_append_right _ h)) hown hK hP 0 rfl rfl 16 (by decide) (hts (.fieldLink RX6 31 "HazelGiftModel" "held" "[I") (List.mem_of_getElem? (i := 3) rfl)) (fun _ h9 => h9) rfl dX6_searches_104 ?_
              refine lv_iload_n hx hb dX6_searches_107 rfl (lv_at hl 0 rfl) ?_
              obtain ⟨hi165, hw⟩ := hw
              refine gIald (k := (x163).toNatClampNeg) hx hb hK hP 8 0 rfl rfl hi165 rfl dX6_searches_108 ?_
              refine lv_if_ne (tgt := 116) hx hb dX6_searches_109 (by decide) (fun c166 => ?_) (fun c166 => ?_)
              · replace hw := Eq.mp (if_neg c166) hw
                refine lv_iconst (v := 0) hx hb dX6_searches_116 (by decide) ?_
                refine lv_istore_n (lv' := [(3, .int 0), (1, .int x163), (2, .int x162), (0, .ref mo)]) hx hb dX6_searches_117 rfl hl (by decide) rfl (fun ls hl => ?_)
                refine lv_aload_n hx hb dX6_searches_118 rfl (lv_at hl 3 rfl) ?_
                refine va_get (D := D) (ci := 5) (v := .ref m0) (C := RX6) (T := TX6) (N := 18) hx hb hts (fun _ h => List.mem_cons_of_mem _ (List.mem_append_right _ h)) hown hK hP 0 rfl rfl 0 (by decide) (hts (.fieldLink RX6 7 "HazelGiftModel" "all" "[I") (List.mem_of_getElem? (i := 4) rfl)) (fun _ h9 => h9) rfl dX6_searches_119 ?_
                refine lv_bipush (v := 16) hx hb dX6_searches_122 (by decide) ?_
                refine lv_aload_n hx hb dX6_searches_124 rfl (lv_at hl 3 rfl) ?_
                refine va_get (D := D) (ci := 5) (v := .ref m7) (C := RX6) (T := TX6) (N := 18) hx hb hts (fun _ h => List.mem_cons_of_mem _ (List.mem_append_right _ h)) hown hK hP 0 rfl rfl 16 (by decide) (hts (.fieldLink RX6 31 "HazelGiftModel" "held" "[I") (List.mem_of_getElem? (i := 3) rfl)) (fun _ h9 => h9) rfl dX6_searches_125 ?_
                refine lv_iload_n hx hb dX6_searches_128 rfl (lv_at hl 1 rfl) ?_
                obtain ⟨hi167, hw⟩ := hw
                refine gIald (k := (x163).toNatClampNeg) hx hb hK hP 8 0 rfl rfl hi167 rfl dX6_searches_129 ?_
                refine lv_topi (fun x168 ex168 => ?_)
                replace hw := hw x168 ex168
                refine gIast (k := 16) hx hb hK hP hD hS 1 0 rfl rfl (gin (by decide)) (by decide) dX6_searches_130 (fun H locs hP hD hS => ?_)
                have hP : va_P D vwCl (wM kI mo m0 m1 m2 m3 m4 m5 m6 m7 ((upd u.1 16 x168), u.2.1, u.2.2.1, u.2.2.2.1, u.2.2.2.2.1, u.2.2.2.2.2.1, u.2.2.2.2.2.2.1, u.2.2.2.2.2.2.2.1, u.2.2.2.2.2.2.2.2.1, u.2.2.2.2.2.2.2.2.2.1, u.2.2.2.2.2.2.2.2.2.2.1, u.2.2.2.2.2.2.2.2.2.2.2.1, u.2.2.2.2.2.2.2.2.2.2.2.2.1, u.2.2.2.2.2.2.2.2.2.2.2.2.2.1, u.2.2.2.2.2.2.2.2.2.2.2.2.2.2.1, u.2.2.2.2.2.2.2.2.2.2.2.2.2.2.2.1, u.2.2.2.2.2.2.2.2.2.2.2.2.2.2.2.2.1, u.2.2.2.2.2.2.2.2.2.2.2.2.2.2.2.2.2)) H := hP
                have hD : va_D A (wM kI mo m0 m1 m2 m3 m4 m5 m6 m7 ((upd u.1 16 x168), u.2.1, u.2.2.1, u.2.2.2.1, u.2.2.2.2.1, u.2.2.2.2.2.1, u.2.2.2.2.2.2.1, u.2.2.2.2.2.2.2.1, u.2.2.2.2.2.2.2.2.1, u.2.2.2.2.2.2.2.2.2.1, u.2.2.2.2.2.2.2.2.2.2.1, u.2.2.2.2.2.2.2.2.2.2.2.1, u.2.2.2.2.2.2.2.2.2.2.2.2.1, u.2.2.2.2.2.2.2.2.2.2.2.2.2.1, u.2.2.2.2.2.2.2.2.2.2.2.2.2.2.1, u.2.2.2.2.2.2.2.2.2.2.2.2.2.2.2.1, u.2.2.2.2.2.2.2.2.2.2.2.2.2.2.2.2.1, u.2.2.2.2.2.2.2.2.2.2.2.2.2.2.2.2.2)) := hD
                refine lv_aload_n hx hb dX6_searches_131 rfl (lv_at hl 3 rfl) ?_
                refine va_get (D := D) (ci := 5) (v := .ref m0) (C := RX6) (T := TX6) (N := 18) hx hb hts (fun _ h => List.mem_cons_of_mem _ (List.mem_append_right _ h)) hown hK hP 0 rfl rfl 0 (by decide) (hts (.fieldLink RX6 7 "HazelGiftModel" "all" "[I") (List.mem_of_getElem? (i := 4) rfl)) (fun _ h9 => h9) rfl dX6_searches_132 ?_
                refine lv_iconst (v := 0) hx hb dX6_searches_135 (by decide) ?_
                refine lv_aload_n hx hb dX6_searches_136 rfl (lv_at hl 3 rfl) ?_
                refine va_get (D := D) (ci := 5) (v := .ref m5) (C := RX6) (T := TX6) (N := 18) hx hb hts (fun _ h => List.mem_cons_of_mem _ (List.mem_append_right _ h)) hown hK hP 0 rfl rfl 14 (by decide) (hts (.fieldLink RX6 25 "HazelGiftModel" "option" "[I") (List.mem_of_getElem? (i := 1) rfl)) (fun _ h9 => h9) rfl dX6_searches_137 ?_
                refine lv_iload_n hx hb dX6_searches_140 rfl (lv_at hl 1 rfl) ?_
                obtain ⟨hi169, hw⟩ := hw
                refine gIald (k := (x163).toNatClampNeg) hx hb hK hP 6 0 rfl rfl hi169 rfl dX6_searches_141 ?_
                refine lv_iadd hx hb dX6_searches_142 ?_
                refine lv_iload_n hx hb dX6_searches_143 rfl (lv_at hl 0 rfl) ?_
                refine lv_if_eq (tgt := 163) hx hb dX6_searches_144 (by decide) (fun c170 => ?_) (fun c170 => ?_)
                · skip
                  refine lv_iconst (v := 0) hx hb dX6_searches_163 (by decide) ?_
                  obtain ⟨hi171, hw⟩ := hw
                  refine gIast (k := ((0 + (u.2.2.2.2.2.1 (x163).toNatClampNeg))).toNatClampNeg) hx hb hK hP hD hS 1 0 rfl rfl hi171 rfl dX6_searches_164 (fun H locs hP hD hS => ?_)
                  have hP : va_P D vwCl (wM kI mo m0 m1 m2 m3 m4 m5 m6 m7 ((upd (upd u.1 16 x168) ((0 + (u.2.2.2.2.2.1 (x163).toNatClampNeg))).toNatClampNeg 0), u.2.1, u.2.2.1, u.2.2.2.1, u.2.2.2.2.1, u.2.2.2.2.2.1, u.2.2.2.2.2.2.1, u.2.2.2.2.2.2.2.1, u.2.2.2.2.2.2.2.2.1, u.2.2.2.2.2.2.2.2.2.1, u.2.2.2.2.2.2.2.2.2.2.1, u.2.2.2.2.2.2.2.2.2.2.2.1, u.2.2.2.2.2.2.2.2.2.2.2.2.1, u.2.2.2.2.2.2.2.2.2.2.2.2.2.1, u.2.2.2.2.2.2.2.2.2.2.2.2.2.2.1, u.2.2.2.2.2.2.2.2.2.2.2.2.2.2.2.1, u.2.2.2.2.2.2.2.2.2.2.2.2.2.2.2.2.1, u.2.2.2.2.2.2.2.2.2.2.2.2.2.2.2.2.2)) H := hP
                  have hD : va_D A (wM kI mo m0 m1 m2 m3 m4 m5 m6 m7 ((upd (upd u.1 16 x168) ((0 + (u.2.2.2.2.2.1 (x163).toNatClampNeg))).toNatClampNeg 0), u.2.1, u.2.2.1, u.2.2.2.1, u.2.2.2.2.1, u.2.2.2.2.2.1, u.2.2.2.2.2.2.1, u.2.2.2.2.2.2.2.1, u.2.2.2.2.2.2.2.2.1, u.2.2.2.2.2.2.2.2.2.1, u.2.2.2.2.2.2.2.2.2.2.1, u.2.2.2.2.2.2.2.2.2.2.2.1, u.2.2.2.2.2.2.2.2.2.2.2.2.1, u.2.2.2.2.2.2.2.2.2.2.2.2.2.1, u.2.2.2.2.2.2.2.2.2.2.2.2.2.2.1, u.2.2.2.2.2.2.2.2.2.2.2.2.2.2.2.1, u.2.2.2.2.2.2.2.2.2.2.2.2.2.2.2.2.1, u.2.2.2.2.2.2.2.2.2.2.2.2.2.2.2.2.2)) := hD
                  refine lv_aload_n hx hb dX6_searches_165 rfl (lv_at hl 3 rfl) ?_
                  refine lv_iload_n hx hb dX6_searches_166 rfl (lv_at hl 1 rfl) ?_
                  refine lv_iload_n hx hb dX6_searches_167 rfl (lv_at hl 0 rfl) ?_
                  refine lv_if_eq (tgt := 176) hx hb dX6_searches_168 (by decide) (fun c172 => ?_) (fun c172 => ?_)
                  · skip
                    refine lv_iload_n hx hb dX6_searches_176 rfl (lv_at hl 2 rfl) ?_
                    refine gWVv (S := SM) (As := [.int x163, .int x162]) (rest := []) (wc := wM kI mo m0 m1 m2 m3 m4 m5 m6 m7 ((upd (upd u.1 16 x168) ((0 + (u.2.2.2.2.2.1 (x163).toNatClampNeg))).toNatClampNeg 0), u.2.1, u.2.2.1, u.2.2.2.1, u.2.2.2.2.1, u.2.2.2.2.2.1, u.2.2.2.2.2.2.1, u.2.2.2.2.2.2.2.1, u.2.2.2.2.2.2.2.2.1, u.2.2.2.2.2.2.2.2.2.1, u.2.2.2.2.2.2.2.2.2.2.1, u.2.2.2.2.2.2.2.2.2.2.2.1, u.2.2.2.2.2.2.2.2.2.2.2.2.1, u.2.2.2.2.2.2.2.2.2.2.2.2.2.1, u.2.2.2.2.2.2.2.2.2.2.2.2.2.2.1, u.2.2.2.2.2.2.2.2.2.2.2.2.2.2.2.1, u.2.2.2.2.2.2.2.2.2.2.2.2.2.2.2.2.1, u.2.2.2.2.2.2.2.2.2.2.2.2.2.2.2.2.2)) (wr := []) (cs1 := (fun zz : SM => wM kI mo m0 m1 m2 m3 m4 m5 m6 m7 zz)) (ws2 := (fun zz : SM => wM kI mo m0 m1 m2 m3 m4 m5 m6 m7 zz)) ⟨hx, hb, hml, hown, hts⟩ (fun sz => kX6_keeps l D kI kC kG kJ mo m0 m1 m2 m3 m4 m5 m6 m7 sz ((upd (upd u.1 16 x168) ((0 + (u.2.2.2.2.2.1 (x163).toNatClampNeg))).toNatClampNeg 0), u.2.1, u.2.2.1, u.2.2.2.1, u.2.2.2.2.1, u.2.2.2.2.2.1, u.2.2.2.2.2.2.1, u.2.2.2.2.2.2.2.1, u.2.2.2.2.2.2.2.2.1, u.2.2.2.2.2.2.2.2.2.1, u.2.2.2.2.2.2.2.2.2.2.1, u.2.2.2.2.2.2.2.2.2.2.2.1, u.2.2.2.2.2.2.2.2.2.2.2.2.1, u.2.2.2.2.2.2.2.2.2.2.2.2.2.1, u.2.2.2.2.2.2.2.2.2.2.2.2.2.2.1, u.2.2.2.2.2.2.2.2.2.2.2.2.2.2.2.1, u.2.2.2.2.2.2.2.2.2.2.2.2.2.2.2.2.1, u.2.2.2.2.2.2.2.2.2.2.2.2.2.2.2.2.2) x163 x162 _ hw) (cwV 2 hts gX6_searches_X6_keeps rfl rfl rfl hdX6_keeps ⟨Nat.le_of_ble_eq_true rfl, Nat.le_of_ble_eq_true rfl⟩) hK hP hD hE hS hA [0, 1, 2, 3, 4, 5, 6, 7, 8] [] rfl rfl rfl rfl (by decide) [0, 1, 2, 3, 4, 5, 6, 7, 8] rfl (fun _ => rfl) (ci := 5) (q0 := 0) rfl rfl rfl rfl hl.1 rfl (Nat.le_of_ble_eq_true rfl) dX6_searches_177 ⟨Nat.le_of_ble_eq_true rfl, Nat.le_of_ble_eq_true rfl⟩ (fun w173 H locs hw hP hD hS => ?_)
                    have hP : va_P D vwCl (wM kI mo m0 m1 m2 m3 m4 m5 m6 m7 w173) H := hP
                    have hD : va_D A (wM kI mo m0 m1 m2 m3 m4 m5 m6 m7 w173) := hD
                    refine lv_goto (tgt := 17) hx hb dX6_searches_180 (by decide) ?_
                    exact hK17 x163 w173 H locs ls hP hD hS (lv_sub hl [3, 1] rfl) hw
                  · first | exact absurd (by decide) c172 | exact absurd c172 (by decide)
                · first | exact absurd (by decide) c170 | exact absurd c170 (by decide)
              · replace hw := Eq.mp (if_pos c166) hw
                refine lv_iconst (v := 1) hx hb dX6_searches_112 (by decide) ?_
                refine lv_goto (tgt := 117) hx hb dX6_searches_113 (by decide) ?_
                refine lv_istore_n (lv' := [(3, .int 1), (1, .int x163), (2, .int x162), (0, .ref mo)]) hx hb dX6_searches_117 rfl hl (by decide) rfl (fun ls hl => ?_)
                refine lv_aload_n hx hb dX6_searches_118 rfl (lv_at hl 3 rfl) ?_
                refine va_get (D := D) (ci := 5) (v := .ref m0) (C := RX6) (T := TX6) (N := 18) hx hb hts (fun _ h => List.mem_cons_of_mem _ (List.mem_append_right _ h)) hown hK hP 0 rfl rfl 0 (by decide) (hts (.fieldLink RX6 7 "HazelGiftModel" "all" "[I") (List.mem_of_getElem? (i := 4) rfl)) (fun _ h9 => h9) rfl dX6_searches_119 ?_
                refine lv_bipush (v := 16) hx hb dX6_searches_122 (by decide) ?_
                refine lv_aload_n hx hb dX6_searches_124 rfl (lv_at hl 3 rfl) ?_
                refine va_get (D := D) (ci := 5) (v := .ref m7) (C := RX6) (T := TX6) (N := 18) hx hb hts (fun _ h => List.mem_cons_of_mem _ (List.mem_append_right _ h)) hown hK hP 0 rfl rfl 16 (by decide) (hts (.fieldLink RX6 31 "HazelGiftModel" "held" "[I") (List.mem_of_getElem? (i := 3) rfl)) (fun _ h9 => h9) rfl dX6_searches_125 ?_
                refine lv_iload_n hx hb dX6_searches_128 rfl (lv_at hl 1 rfl) ?_
                obtain ⟨hi174, hw⟩ := hw
                refine gIald (k := (x163).toNatClampNeg) hx hb hK hP 8 0 rfl rfl hi174 rfl dX6_searches_129 ?_
                refine lv_topi (fun x175 ex175 => ?_)
                replace hw := hw x175 ex175
                refine gIast (k := 16) hx hb hK hP hD hS 1 0 rfl rfl (gin (by decide)) (by decide) dX6_searches_130 (fun H locs hP hD hS => ?_)
                have hP : va_P D vwCl (wM kI mo m0 m1 m2 m3 m4 m5 m6 m7 ((upd u.1 16 x175), u.2.1, u.2.2.1, u.2.2.2.1, u.2.2.2.2.1, u.2.2.2.2.2.1, u.2.2.2.2.2.2.1, u.2.2.2.2.2.2.2.1, u.2.2.2.2.2.2.2.2.1, u.2.2.2.2.2.2.2.2.2.1, u.2.2.2.2.2.2.2.2.2.2.1, u.2.2.2.2.2.2.2.2.2.2.2.1, u.2.2.2.2.2.2.2.2.2.2.2.2.1, u.2.2.2.2.2.2.2.2.2.2.2.2.2.1, u.2.2.2.2.2.2.2.2.2.2.2.2.2.2.1, u.2.2.2.2.2.2.2.2.2.2.2.2.2.2.2.1, u.2.2.2.2.2.2.2.2.2.2.2.2.2.2.2.2.1, u.2.2.2.2.2.2.2.2.2.2.2.2.2.2.2.2.2)) H := hP
                have hD : va_D A (wM kI mo m0 m1 m2 m3 m4 m5 m6 m7 ((upd u.1 16 x175), u.2.1, u.2.2.1, u.2.2.2.1, u.2.2.2.2.1, u.2.2.2.2.2.1, u.2.2.2.2.2.2.1, u.2.2.2.2.2.2.2.1, u.2.2.2.2.2.2.2.2.1, u.2.2.2.2.2.2.2.2.2.1, u.2.2.2.2.2.2.2.2.2.2.1, u.2.2.2.2.2.2.2.2.2.2.2.1, u.2.2.2.2.2.2.2.2.2.2.2.2.1, u.2.2.2.2.2.2.2.2.2.2.2.2.2.1, u.2.2.2.2.2.2.2.2.2.2.2.2.2.2.1, u.2.2.2.2.2.2.2.2.2.2.2.2.2.2.2.1, u.2.2.2.2.2.2.2.2.2.2.2.2.2.2.2.2.1, u.2.2.2.2.2.2.2.2.2.2.2.2.2.2.2.2.2)) := hD
                refine lv_aload_n hx hb dX6_searches_131 rfl (lv_at hl 3 rfl) ?_
                refine va_get (D := D) (ci := 5) (v := .ref m0) (C := RX6) (T := TX6) (N := 18) hx hb hts (fun _ h => List.mem_cons_of_mem _ (List.mem_append_right _ h)) hown hK hP 0 rfl rfl 0 (by decide) (hts (.fieldLink RX6 7 "HazelGiftModel" "all" "[I") (List.mem_of_getElem? (i := 4) rfl)) (fun _ h9 => h9) rfl dX6_searches_132 ?_
                refine lv_iconst (v := 0) hx hb dX6_searches_135 (by decide) ?_
                refine lv_aload_n hx hb dX6_searches_136 rfl (lv_at hl 3 rfl) ?_
                refine va_get (D := D) (ci := 5) (v := .ref m5) (C := RX6) (T := TX6) (N := 18) hx hb hts (fun _ h => List.mem_cons_of_mem _ (List.mem_append_right _ h)) hown hK hP 0 rfl rfl 14 (by decide) (hts (.fieldLink RX6 25 "HazelGiftModel" "option" "[I") (List.mem_of_getElem? (i := 1) rfl)) (fun _ h9 => h9) rfl dX6_searches_137 ?_
                refine lv_iload_n hx hb dX6_searches_140 rfl (lv_at hl 1 rfl) ?_
                obtain ⟨hi176, hw⟩ := hw
                refine gIald (k := (x163).toNatClampNeg) hx hb hK hP 6 0 rfl rfl hi176 rfl dX6_searches_141 ?_
                refine lv_iadd hx hb dX6_searches_142 ?_
                refine lv_iload_n hx hb dX6_searches_143 rfl (lv_at hl 0 rfl) ?_
                refine lv_if_eq (tgt := 163) hx hb dX6_searches_144 (by decide) (fun c177 => ?_) (fun c177 => ?_)
                · exact absurd c177 (by decide)
                refine lv_aload_n hx hb dX6_searches_147 rfl (lv_at hl 3 rfl) ?_
                refine va_get (D := D) (ci := 5) (v := .ref m0) (C := RX6) (T := TX6) (N := 18) hx hb hts (fun _ h => List.mem_cons_of_mem _ (List.mem_append_right _ h)) hown hK hP 0 rfl rfl 0 (by decide) (hts (.fieldLink RX6 7 "HazelGiftModel" "all" "[I") (List.mem_of_getElem? (i := 4) rfl)) (fun _ h9 => h9) rfl dX6_searches_148 ?_
                refine lv_iconst (v := 0) hx hb dX6_searches_151 (by decide) ?_
                refine lv_aload_n hx hb dX6_searches_152 rfl (lv_at hl 3 rfl) ?_
                refine va_get (D := D) (ci := 5) (v := .ref m5) (C := RX6) (T := TX6) (N := 18) hx hb hts (fun _ h => List.mem_cons_of_mem _ (List.mem_append_right _ h)) hown hK hP 0 rfl rfl 14 (by decide) (hts (.fieldLink RX6 25 "HazelGiftModel" "option" "[I") (List.mem_of_getElem? (i := 1) rfl)) (fun _ h9 => h9) rfl dX6_searches_153 ?_
                refine lv_iload_n hx hb dX6_searches_156 rfl (lv_at hl 1 rfl) ?_
                obtain ⟨hi178, hw⟩ := hw
                refine gIald (k := (x163).toNatClampNeg) hx hb hK hP 6 0 rfl rfl hi178 rfl dX6_searches_157 ?_
                refine lv_iadd hx hb dX6_searches_158 ?_
                obtain ⟨hi179, hw⟩ := hw
                refine gIald (k := ((0 + (u.2.2.2.2.2.1 (x163).toNatClampNeg))).toNatClampNeg) hx hb hK hP 1 0 rfl rfl hi179 rfl dX6_searches_159 ?_
                refine lv_goto (tgt := 164) hx hb dX6_searches_160 (by decide) ?_
                refine lv_topi (fun x180 ex180 => ?_)
                replace hw := hw x180 ex180
                obtain ⟨hi181, hw⟩ := hw
                refine gIast (k := ((0 + (u.2.2.2.2.2.1 (x163).toNatClampNeg))).toNatClampNeg) hx hb hK hP hD hS 1 0 rfl rfl hi181 rfl dX6_searches_164 (fun H locs hP hD hS => ?_)
                have hP : va_P D vwCl (wM kI mo m0 m1 m2 m3 m4 m5 m6 m7 ((upd (upd u.1 16 x175) ((0 + (u.2.2.2.2.2.1 (x163).toNatClampNeg))).toNatClampNeg x180), u.2.1, u.2.2.1, u.2.2.2.1, u.2.2.2.2.1, u.2.2.2.2.2.1, u.2.2.2.2.2.2.1, u.2.2.2.2.2.2.2.1, u.2.2.2.2.2.2.2.2.1, u.2.2.2.2.2.2.2.2.2.1, u.2.2.2.2.2.2.2.2.2.2.1, u.2.2.2.2.2.2.2.2.2.2.2.1, u.2.2.2.2.2.2.2.2.2.2.2.2.1, u.2.2.2.2.2.2.2.2.2.2.2.2.2.1, u.2.2.2.2.2.2.2.2.2.2.2.2.2.2.1, u.2.2.2.2.2.2.2.2.2.2.2.2.2.2.2.1, u.2.2.2.2.2.2.2.2.2.2.2.2.2.2.2.2.1, u.2.2.2.2.2.2.2.2.2.2.2.2.2.2.2.2.2)) H := hP
                have hD : va_D A (wM kI mo m0 m1 m2 m3 m4 m5 m6 m7 ((upd (upd u.1 16 x175) ((0 + (u.2.2.2.2.2.1 (x163).toNatClampNeg))).toNatClampNeg x180), u.2.1, u.2.2.1, u.2.2.2.1, u.2.2.2.2.1, u.2.2.2.2.2.1, u.2.2.2.2.2.2.1, u.2.2.2.2.2.2.2.1, u.2.2.2.2.2.2.2.2.1, u.2.2.2.2.2.2.2.2.2.1, u.2.2.2.2.2.2.2.2.2.2.1, u.2.2.2.2.2.2.2.2.2.2.2.1, u.2.2.2.2.2.2.2.2.2.2.2.2.1, u.2.2.2.2.2.2.2.2.2.2.2.2.2.1, u.2.2.2.2.2.2.2.2.2.2.2.2.2.2.1, u.2.2.2.2.2.2.2.2.2.2.2.2.2.2.2.1, u.2.2.2.2.2.2.2.2.2.2.2.2.2.2.2.2.1, u.2.2.2.2.2.2.2.2.2.2.2.2.2.2.2.2.2)) := hD
                refine lv_aload_n hx hb dX6_searches_165 rfl (lv_at hl 3 rfl) ?_
                refine lv_iload_n hx hb dX6_searches_166 rfl (lv_at hl 1 rfl) ?_
                refine lv_iload_n hx hb dX6_searches_167 rfl (lv_at hl 0 rfl) ?_
                refine lv_if_eq (tgt := 176) hx hb dX6_searches_168 (by decide) (fun c182 => ?_) (fun c182 => ?_)
                · exact absurd c182 (by decide)
                refine lv_iload_n hx hb dX6_searches_171 rfl (lv_at hl 2 rfl) ?_
                refine lv_ineg hx hb dX6_searches_172 ?_
                refine lv_goto (tgt := 177) hx hb dX6_searches_173 (by decide) ?_
                refine gWVv (S := SM) (As := [.int x163, .int (-x162)]) (rest := []) (wc := wM kI mo m0 m1 m2 m3 m4 m5 m6 m7 ((upd (upd u.1 16 x175) ((0 + (u.2.2.2.2.2.1 (x163).toNatClampNeg))).toNatClampNeg x180), u.2.1, u.2.2.1, u.2.2.2.1, u.2.2.2.2.1, u.2.2.2.2.2.1, u.2.2.2.2.2.2.1, u.2.2.2.2.2.2.2.1, u.2.2.2.2.2.2.2.2.1, u.2.2.2.2.2.2.2.2.2.1, u.2.2.2.2.2.2.2.2.2.2.1, u.2.2.2.2.2.2.2.2.2.2.2.1, u.2.2.2.2.2.2.2.2.2.2.2.2.1, u.2.2.2.2.2.2.2.2.2.2.2.2.2.1, u.2.2.2.2.2.2.2.2.2.2.2.2.2.2.1, u.2.2.2.2.2.2.2.2.2.2.2.2.2.2.2.1, u.2.2.2.2.2.2.2.2.2.2.2.2.2.2.2.2.1, u.2.2.2.2.2.2.2.2.2.2.2.2.2.2.2.2.2)) (wr := []) (cs1 := (fun zz : SM => wM kI mo m0 m1 m2 m3 m4 m5 m6 m7 zz)) (ws2 := (fun zz : SM => wM kI mo m0 m1 m2 m3 m4 m5 m6 m7 zz)) ⟨hx, hb, hml, hown, hts⟩ (fun sz => kX6_keeps l D kI kC kG kJ mo m0 m1 m2 m3 m4 m5 m6 m7 sz ((upd (upd u.1 16 x175) ((0 + (u.2.2.2.2.2.1 (x163).toNatClampNeg))).toNatClampNeg x180), u.2.1, u.2.2.1, u.2.2.2.1, u.2.2.2.2.1, u.2.2.2.2.2.1, u.2.2.2.2.2.2.1, u.2.2.2.2.2.2.2.1, u.2.2.2.2.2.2.2.2.1, u.2.2.2.2.2.2.2.2.2.1, u.2.2.2.2.2.2.2.2.2.2.1, u.2.2.2.2.2.2.2.2.2.2.2.1, u.2.2.2.2.2.2.2.2.2.2.2.2.1, u.2.2.2.2.2.2.2.2.2.2.2.2.2.1, u.2.2.2.2.2.2.2.2.2.2.2.2.2.2.1, u.2.2.2.2.2.2.2.2.2.2.2.2.2.2.2.1, u.2.2.2.2.2.2.2.2.2.2.2.2.2.2.2.2.1, u.2.2.2.2.2.2.2.2.2.2.2.2.2.2.2.2.2) x163 (-x162) _ hw) (cwV 2 hts gX6_searches_X6_keeps rfl rfl rfl hdX6_keeps ⟨Nat.le_of_ble_eq_true rfl, Nat.le_of_ble_eq_true rfl⟩) hK hP hD hE hS hA [0, 1, 2, 3, 4, 5, 6, 7, 8] [] rfl rfl rfl rfl (by decide) [0, 1, 2, 3, 4, 5, 6, 7, 8] rfl (fun _ => rfl) (ci := 5) (q0 := 0) rfl rfl rfl rfl hl.1 rfl (Nat.le_of_ble_eq_true rfl) dX6_searches_177 ⟨Nat.le_of_ble_eq_true rfl, Nat.le_of_ble_eq_true rfl⟩ (fun w183 H locs hw hP hD hS => ?_)
                have hP : va_P D vwCl (wM kI mo m0 m1 m2 m3 m4 m5 m6 m7 w183) H := hP
                have hD : va_D A (wM kI mo m0 m1 m2 m3 m4 m5 m6 m7 w183) := hD
                refine lv_goto (tgt := 17) hx hb dX6_searches_180 (by decide) ?_
                exact hK17 x163 w183 H locs ls hP hD hS (lv_sub hl [3, 1] rfl) hw
      · replace hw := Eq.mp (if_pos c96) hw
        refine lv_aload_n hx hb dX6_searches_55 rfl (lv_at hl 0 rfl) ?_
        refine va_get (D := D) (ci := 5) (v := .ref m5) (C := RX6) (T := TX6) (N := 18) hx hb hts (fun _ h => List.mem_cons_of_mem _ (List.mem_append_right _ h)) hown hK hP 0 rfl rfl 14 (by decide) (hts (.fieldLink RX6 25 "HazelGiftModel" "option" "[I") (List.mem_of_getElem? (i := 1) rfl)) (fun _ h9 => h9) rfl dX6_searches_56 ?_
        refine lv_iload_n hx hb dX6_searches_59 rfl (lv_at hl 1 rfl) ?_
        refine lv_dup2_11 hx hb dX6_searches_60 rfl rfl ?_
        obtain ⟨hi184, hw⟩ := hw
        refine gIald (k := (v1).toNatClampNeg) hx hb hK hP 6 0 rfl rfl hi184 rfl dX6_searches_61 ?_
        refine lv_iconst (v := 1) hx hb dX6_searches_62 (by decide) ?_
        refine lv_iadd hx hb dX6_searches_63 ?_
        refine lv_topi (fun x185 ex185 => ?_)
        replace hw := hw x185 ex185
        obtain ⟨hi186, hw⟩ := hw
        refine gIast (k := (v1).toNatClampNeg) hx hb hK hP hD hS 6 0 rfl rfl hi186 rfl dX6_searches_64 (fun H locs hP hD hS => ?_)
        have hP : va_P D vwCl (wM kI mo m0 m1 m2 m3 m4 m5 m6 m7 (u.1, u.2.1, u.2.2.1, u.2.2.2.1, u.2.2.2.2.1, (upd u.2.2.2.2.2.1 (v1).toNatClampNeg x185), u.2.2.2.2.2.2.1, u.2.2.2.2.2.2.2.1, u.2.2.2.2.2.2.2.2.1, u.2.2.2.2.2.2.2.2.2.1, u.2.2.2.2.2.2.2.2.2.2.1, u.2.2.2.2.2.2.2.2.2.2.2.1, u.2.2.2.2.2.2.2.2.2.2.2.2.1, u.2.2.2.2.2.2.2.2.2.2.2.2.2.1, u.2.2.2.2.2.2.2.2.2.2.2.2.2.2.1, u.2.2.2.2.2.2.2.2.2.2.2.2.2.2.2.1, u.2.2.2.2.2.2.2.2.2.2.2.2.2.2.2.2.1, u.2.2.2.2.2.2.2.2.2.2.2.2.2.2.2.2.2)) H := hP
        have hD : va_D A (wM kI mo m0 m1 m2 m3 m4 m5 m6 m7 (u.1, u.2.1, u.2.2.1, u.2.2.2.1, u.2.2.2.2.1, (upd u.2.2.2.2.2.1 (v1).toNatClampNeg x185), u.2.2.2.2.2.2.1, u.2.2.2.2.2.2.2.1, u.2.2.2.2.2.2.2.2.1, u.2.2.2.2.2.2.2.2.2.1, u.2.2.2.2.2.2.2.2.2.2.1, u.2.2.2.2.2.2.2.2.2.2.2.1, u.2.2.2.2.2.2.2.2.2.2.2.2.1, u.2.2.2.2.2.2.2.2.2.2.2.2.2.1, u.2.2.2.2.2.2.2.2.2.2.2.2.2.2.1, u.2.2.2.2.2.2.2.2.2.2.2.2.2.2.2.1, u.2.2.2.2.2.2.2.2.2.2.2.2.2.2.2.2.1, u.2.2.2.2.2.2.2.2.2.2.2.2.2.2.2.2.2)) := hD
        refine lv_goto (tgt := 31) hx hb dX6_searches_65 (by decide) ?_
        exact ih (u.1, u.2.1, u.2.2.1, u.2.2.2.1, u.2.2.2.2.1, (upd u.2.2.2.2.2.1 (v1).toNatClampNeg x185), u.2.2.2.2.2.2.1, u.2.2.2.2.2.2.2.1, u.2.2.2.2.2.2.2.2.1, u.2.2.2.2.2.2.2.2.2.1, u.2.2.2.2.2.2.2.2.2.2.1, u.2.2.2.2.2.2.2.2.2.2.2.1, u.2.2.2.2.2.2.2.2.2.2.2.2.1, u.2.2.2.2.2.2.2.2.2.2.2.2.2.1, u.2.2.2.2.2.2.2.2.2.2.2.2.2.2.1, u.2.2.2.2.2.2.2.2.2.2.2.2.2.2.2.1, u.2.2.2.2.2.2.2.2.2.2.2.2.2.2.2.2.1, u.2.2.2.2.2.2.2.2.2.2.2.2.2.2.2.2.2) H locs ls hP hD hS (lv_sub hl [0, 1] rfl) hw
  have L17 : ∀ (_ : Unit), ∀ (n : Nat), ∀ (v1 : Int32) (u : SM) (H : Heap) (locs : List Loc) (ls : Array Slot), va_P D vwCl (wM kI mo m0 m1 m2 m3 m4 m5 m6 m7 u) H → va_D A (wM kI mo m0 m1 m2 m3 m4 m5 m6 m7 u) → va_S A s.heap H locs → lv_has ls 5 [(0, .ref mo), (1, .int v1)] → pX6_searches_17 Z n v1 u → W p l e (headSpec wsX6_searches ({ frames := 3, cells := 0, slots := 0, locals := 68 } : Room)).room s m ([.ref mo] : List Value).toArray below meth c H locs 0 0 (MQ below (va_Qi Z (gB D (gT kI kC kG kJ) (fun (zz : SM) => wM kI mo m0 m1 m2 m3 m4 m5 m6 m7 zz) A) A) ([.ref mo] : List Value).toArray s 0 0 A) (F0 m 17 ls []) := by
    intro _ n
    induction n with
    | zero => intro v1 u H locs ls hP hD hS hl hw; exact hw.elim
    | succ n ih =>
    intro v1 u H locs ls hP hD hS hl hw
    rw [pX6_searches_17] at hw
    refine lv_iload_n hx hb dX6_searches_17 rfl (lv_at hl 1 rfl) ?_
    refine lv_if_lt (tgt := 351) hx hb dX6_searches_18 (by decide) (fun c1 => ?_) (fun c1 => ?_)
    · replace hw := Eq.mp (if_pos c1) hw
      refine lv_aload_n hx hb dX6_searches_351 rfl (lv_at hl 0 rfl) ?_
      refine va_get (D := D) (ci := 5) (v := .ref m6) (C := RX6) (T := TX6) (N := 18) hx hb hts (fun _ h => List.mem_cons_of_mem _ (List.mem_append_right _ h)) hown hK hP 0 rfl rfl 15 (by decide) (hts (.fieldLink RX6 28 "HazelGiftModel" "best" "[I") (List.mem_of_getElem? (i := 2) rfl)) (fun _ h9 => h9) rfl dX6_searches_352 ?_
      refine lv_iconst (v := 0) hx hb dX6_searches_355 (by decide) ?_
      refine gIald (k := 0) hx hb hK hP 7 0 rfl rfl (gin (by decide)) (by decide) dX6_searches_356 ?_
      exact W.iret (v := (u.2.2.2.2.2.2.1 0)) hx hb hr (fun t ht hW => ⟨⟨(u.2.2.2.2.2.2.1 0), u, rfl, hw, by rw [ht]; exact hP, va_K.moved hW.alike hK, hD⟩, hS.F ht⟩) hS.2.2 dX6_searches_357
    · replace hw := Eq.mp (if_neg c1) hw
      refine lv_aload_n hx hb dX6_searches_21 rfl (lv_at hl 0 rfl) ?_
      refine va_get (D := D) (ci := 5) (v := .ref m5) (C := RX6) (T := TX6) (N := 18) hx hb hts (fun _ h => List.mem_cons_of_mem _ (List.mem_append_right _ h)) hown hK hP 0 rfl rfl 14 (by decide) (hts (.fieldLink RX6 25 "HazelGiftModel" "option" "[I") (List.mem_of_getElem? (i := 1) rfl)) (fun _ h9 => h9) rfl dX6_searches_22 ?_
      refine lv_iload_n hx hb dX6_searches_25 rfl (lv_at hl 1 rfl) ?_
      refine lv_dup2_11 hx hb dX6_searches_26 rfl rfl ?_
      obtain ⟨hi2, hw⟩ := hw
      refine gIald (k := (v1).toNatClampNeg) hx hb hK hP 6 0 rfl rfl hi2 rfl dX6_searches_27 ?_
      refine lv_iconst (v := 1) hx hb dX6_searches_28 (by decide) ?_
      refine lv_iadd hx hb dX6_searches_29 ?_
      refine lv_topi (fun x3 ex3 => ?_)
      replace hw := hw x3 ex3
      obtain ⟨hi4, hw⟩ := hw
      refine gIast (k := (v1).toNatClampNeg) hx hb hK hP hD hS 6 0 rfl rfl hi4 rfl dX6_searches_30 (fun H locs hP hD hS => ?_)
      have hP : va_P D vwCl (wM kI mo m0 m1 m2 m3 m4 m5 m6 m7 (u.1, u.2.1, u.2.2.1, u.2.2.2.1, u.2.2.2.2.1, (upd u.2.2.2.2.2.1 (v1).toNatClampNeg x3), u.2.2.2.2.2.2.1, u.2.2.2.2.2.2.2.1, u.2.2.2.2.2.2.2.2.1, u.2.2.2.2.2.2.2.2.2.1, u.2.2.2.2.2.2.2.2.2.2.1, u.2.2.2.2.2.2.2.2.2.2.2.1, u.2.2.2.2.2.2.2.2.2.2.2.2.1, u.2.2.2.2.2.2.2.2.2.2.2.2.2.1, u.2.2.2.2.2.2.2.2.2.2.2.2.2.2.1, u.2.2.2.2.2.2.2.2.2.2.2.2.2.2.2.1, u.2.2.2.2.2.2.2.2.2.2.2.2.2.2.2.2.1, u.2.2.2.2.2.2.2.2.2.2.2.2.2.2.2.2.2)) H := hP
      have hD : va_D A (wM kI mo m0 m1 m2 m3 m4 m5 m6 m7 (u.1, u.2.1, u.2.2.1, u.2.2.2.1, u.2.2.2.2.1, (upd u.2.2.2.2.2.1 (v1).toNatClampNeg x3), u.2.2.2.2.2.2.1, u.2.2.2.2.2.2.2.1, u.2.2.2.2.2.2.2.2.1, u.2.2.2.2.2.2.2.2.2.1, u.2.2.2.2.2.2.2.2.2.2.1, u.2.2.2.2.2.2.2.2.2.2.2.1, u.2.2.2.2.2.2.2.2.2.2.2.2.1, u.2.2.2.2.2.2.2.2.2.2.2.2.2.1, u.2.2.2.2.2.2.2.2.2.2.2.2.2.2.1, u.2.2.2.2.2.2.2.2.2.2.2.2.2.2.2.1, u.2.2.2.2.2.2.2.2.2.2.2.2.2.2.2.2.1, u.2.2.2.2.2.2.2.2.2.2.2.2.2.2.2.2.2)) := hD
      obtain ⟨n9, hw⟩ := hw
      exact L31 (pX6_searches_17 Z n) ih v1 n9 (u.1, u.2.1, u.2.2.1, u.2.2.2.1, u.2.2.2.2.1, (upd u.2.2.2.2.2.1 (v1).toNatClampNeg x3), u.2.2.2.2.2.2.1, u.2.2.2.2.2.2.2.1, u.2.2.2.2.2.2.2.2.1, u.2.2.2.2.2.2.2.2.2.1, u.2.2.2.2.2.2.2.2.2.2.1, u.2.2.2.2.2.2.2.2.2.2.2.1, u.2.2.2.2.2.2.2.2.2.2.2.2.1, u.2.2.2.2.2.2.2.2.2.2.2.2.2.1, u.2.2.2.2.2.2.2.2.2.2.2.2.2.2.1, u.2.2.2.2.2.2.2.2.2.2.2.2.2.2.2.1, u.2.2.2.2.2.2.2.2.2.2.2.2.2.2.2.2.1, u.2.2.2.2.2.2.2.2.2.2.2.2.2.2.2.2.2) H locs ls hP hD hS (lv_sub hl [0, 1] rfl) hw
  unfold pX6_searches at hw
  refine lv_iconst (v := 0) hx hb dX6_searches_0 (by decide) ?_
  refine lv_istore_n (lv' := [(1, .int 0), (0, .ref mo)]) hx hb dX6_searches_1 rfl hl (by decide) rfl (fun ls hl => ?_)
  refine lv_aload_n hx hb dX6_searches_2 rfl (lv_at hl 1 rfl) ?_
  refine va_get (D := D) (ci := 5) (v := .ref m5) (C := RX6) (T := TX6) (N := 18) hx hb hts (fun _ h => List.mem_cons_of_mem _ (List.mem_append_right _ h)) hown hK hP 0 rfl rfl 14 (by decide) (hts (.fieldLink RX6 25 "HazelGiftModel" "option" "[I") (List.mem_of_getElem? (i := 1) rfl)) (fun _ h9 => h9) rfl dX6_searches_3 ?_
  refine lv_iconst (v := 0) hx hb dX6_searches_6 (by decide) ?_
  refine lv_iconst (v := (-1)) hx hb dX6_searches_7 (by decide) ?_
  refine gIast (k := 0) hx hb hK hP hD hS 6 0 rfl rfl (gin (by decide)) (by decide) dX6_searches_8 (fun H locs hP hD hS => ?_)
  have hP : va_P D vwCl (wM kI mo m0 m1 m2 m3 m4 m5 m6 m7 (u.1, u.2.1, u.2.2.1, u.2.2.2.1, u.2.2.2.2.1, (upd u.2.2.2.2.2.1 0 (-1)), u.2.2.2.2.2.2.1, u.2.2.2.2.2.2.2.1, u.2.2.2.2.2.2.2.2.1, u.2.2.2.2.2.2.2.2.2.1, u.2.2.2.2.2.2.2.2.2.2.1, u.2.2.2.2.2.2.2.2.2.2.2.1, u.2.2.2.2.2.2.2.2.2.2.2.2.1, u.2.2.2.2.2.2.2.2.2.2.2.2.2.1, u.2.2.2.2.2.2.2.2.2.2.2.2.2.2.1, u.2.2.2.2.2.2.2.2.2.2.2.2.2.2.2.1, u.2.2.2.2.2.2.2.2.2.2.2.2.2.2.2.2.1, u.2.2.2.2.2.2.2.2.2.2.2.2.2.2.2.2.2)) H := hP
  have hD : va_D A (wM kI mo m0 m1 m2 m3 m4 m5 m6 m7 (u.1, u.2.1, u.2.2.1, u.2.2.2.1, u.2.2.2.2.1, (upd u.2.2.2.2.2.1 0 (-1)), u.2.2.2.2.2.2.1, u.2.2.2.2.2.2.2.1, u.2.2.2.2.2.2.2.2.1, u.2.2.2.2.2.2.2.2.2.1, u.2.2.2.2.2.2.2.2.2.2.1, u.2.2.2.2.2.2.2.2.2.2.2.1, u.2.2.2.2.2.2.2.2.2.2.2.2.1, u.2.2.2.2.2.2.2.2.2.2.2.2.2.1, u.2.2.2.2.2.2.2.2.2.2.2.2.2.2.1, u.2.2.2.2.2.2.2.2.2.2.2.2.2.2.2.1, u.2.2.2.2.2.2.2.2.2.2.2.2.2.2.2.2.1, u.2.2.2.2.2.2.2.2.2.2.2.2.2.2.2.2.2)) := hD
  refine lv_aload_n hx hb dX6_searches_9 rfl (lv_at hl 1 rfl) ?_
  refine va_get (D := D) (ci := 5) (v := .ref m6) (C := RX6) (T := TX6) (N := 18) hx hb hts (fun _ h => List.mem_cons_of_mem _ (List.mem_append_right _ h)) hown hK hP 0 rfl rfl 15 (by decide) (hts (.fieldLink RX6 28 "HazelGiftModel" "best" "[I") (List.mem_of_getElem? (i := 2) rfl)) (fun _ h9 => h9) rfl dX6_searches_10 ?_
  refine lv_iconst (v := 0) hx hb dX6_searches_13 (by decide) ?_
  refine lv_bipush (v := (-2)) hx hb dX6_searches_14 (by decide) ?_
  refine gIast (k := 0) hx hb hK hP hD hS 7 0 rfl rfl (gin (by decide)) (by decide) dX6_searches_16 (fun H locs hP hD hS => ?_)
  have hP : va_P D vwCl (wM kI mo m0 m1 m2 m3 m4 m5 m6 m7 (u.1, u.2.1, u.2.2.1, u.2.2.2.1, u.2.2.2.2.1, (upd u.2.2.2.2.2.1 0 (-1)), (upd u.2.2.2.2.2.2.1 0 (-2)), u.2.2.2.2.2.2.2.1, u.2.2.2.2.2.2.2.2.1, u.2.2.2.2.2.2.2.2.2.1, u.2.2.2.2.2.2.2.2.2.2.1, u.2.2.2.2.2.2.2.2.2.2.2.1, u.2.2.2.2.2.2.2.2.2.2.2.2.1, u.2.2.2.2.2.2.2.2.2.2.2.2.2.1, u.2.2.2.2.2.2.2.2.2.2.2.2.2.2.1, u.2.2.2.2.2.2.2.2.2.2.2.2.2.2.2.1, u.2.2.2.2.2.2.2.2.2.2.2.2.2.2.2.2.1, u.2.2.2.2.2.2.2.2.2.2.2.2.2.2.2.2.2)) H := hP
  have hD : va_D A (wM kI mo m0 m1 m2 m3 m4 m5 m6 m7 (u.1, u.2.1, u.2.2.1, u.2.2.2.1, u.2.2.2.2.1, (upd u.2.2.2.2.2.1 0 (-1)), (upd u.2.2.2.2.2.2.1 0 (-2)), u.2.2.2.2.2.2.2.1, u.2.2.2.2.2.2.2.2.1, u.2.2.2.2.2.2.2.2.2.1, u.2.2.2.2.2.2.2.2.2.2.1, u.2.2.2.2.2.2.2.2.2.2.2.1, u.2.2.2.2.2.2.2.2.2.2.2.2.1, u.2.2.2.2.2.2.2.2.2.2.2.2.2.1, u.2.2.2.2.2.2.2.2.2.2.2.2.2.2.1, u.2.2.2.2.2.2.2.2.2.2.2.2.2.2.2.1, u.2.2.2.2.2.2.2.2.2.2.2.2.2.2.2.2.1, u.2.2.2.2.2.2.2.2.2.2.2.2.2.2.2.2.2)) := hD
  obtain ⟨n9, hw⟩ := hw
  exact L17 () n9 0 (u.1, u.2.1, u.2.2.1, u.2.2.2.1, u.2.2.2.2.1, (upd u.2.2.2.2.2.1 0 (-1)), (upd u.2.2.2.2.2.2.1 0 (-2)), u.2.2.2.2.2.2.2.1, u.2.2.2.2.2.2.2.2.1, u.2.2.2.2.2.2.2.2.2.1, u.2.2.2.2.2.2.2.2.2.2.1, u.2.2.2.2.2.2.2.2.2.2.2.1, u.2.2.2.2.2.2.2.2.2.2.2.2.1, u.2.2.2.2.2.2.2.2.2.2.2.2.2.1, u.2.2.2.2.2.2.2.2.2.2.2.2.2.2.1, u.2.2.2.2.2.2.2.2.2.2.2.2.2.2.2.1, u.2.2.2.2.2.2.2.2.2.2.2.2.2.2.2.2.1, u.2.2.2.2.2.2.2.2.2.2.2.2.2.2.2.2.2) H locs ls hP hD hS (lv_sub hl [1, 0] rfl) hw
set_option maxHeartbeats 4000000 in
set_option maxRecDepth 100000 in
theorem kX6_canSearch (l : Launch) (D : va_G) (kI kC kG kJ : ClassId) (mo m0 m1 m2 m3 m4 m5 m6 m7 : Nat) (u : SM) (Z : Int32 → Prop) (hw : pX6_canSearch u Z) : Met l yX6_canSearch wsX6_canSearch ({ frames := 2, cells := 0, slots := 0, locals := 42 } : Room) (gPr D (gT kI kC kG kJ) [.ref mo] (wM kI mo m0 m1 m2 m3 m4 m5 m6 m7 u)) (vp_Si Z) 0 0 (fun _ => False) := by
  refine Met.ofW (cc := cX6_canSearch) (maxL := 1) (ret := (some .boolean)) (by decide) rfl ?_
  intro p e s m args below meth c s₁ B hml hv
  obtain ⟨rfl, hP, hK, hE⟩ := hv
  have hx := B.exec
  have hb := B.bytes
  have hr := B.returns
  have hts := atoms_spec (ws := wsX6_canSearch) B.pre
  have hown : s.vm.findClass RX6 = some m.cls := findClass_of_methodNamed B.named
  have hlocks := B.notSynchronized
  have hS : va_S (fun _ => False) s.heap s.heap [] := va_S.rf
  have hl := lv_entry ([.ref mo]) (n := 1) (Nat.le_of_ble_eq_true rfl)
  rw [lg_entry_eq]
  generalize (lg_sl ([.ref mo]) ++ List.replicate (1 - (lg_sl ([.ref mo])).length) Slot.unset).toArray = ls at hl ⊢
  have hl : lv_has ls 1 [(0, .ref mo)] := hl
  unfold pX6_canSearch at hw
  refine lv_aload_n hx hb dX6_canSearch_0 rfl (lv_at hl 0 rfl) ?_
  refine gVi (As := []) (rest := []) (cs' := wM kI mo m0 m1 m2 m3 m4 m5 m6 m7 u) ⟨hx, hb, hml, hown, hts⟩ (kX6_isOverNow l D kI kC kG kJ mo m0 m1 m2 m3 m4 m5 m6 m7 u _ hw) (cwV 0 hts gX6_canSearch_X6_isOverNow rfl rfl rfl hdX6_isOverNow ⟨Nat.le_of_ble_eq_true rfl, Nat.le_of_ble_eq_true rfl⟩) hK hP hE hS [0, 1, 2, 3, 4, 5, 6, 7, 8] rfl (ci := 5) (q0 := 0) rfl rfl rfl rfl hl.1 rfl (Nat.le_of_ble_eq_true rfl) dX6_canSearch_1 ⟨Nat.le_of_ble_eq_true rfl, Nat.le_of_ble_eq_true rfl⟩ (fun r1 hw => ?_)
  refine lv_if_ne (tgt := 22) hx hb dX6_canSearch_4 (by decide) (fun c2 => ?_) (fun c2 => ?_)
  · replace hw := Eq.mp (if_neg c2) hw
    refine lv_iconst (v := 0) hx hb dX6_canSearch_22 (by decide) ?_
    exact W.zret (v := 0) hx hb hr rfl (fun t ht hW => ⟨_, rfl, hw, ht⟩) (fun _ h => by cases h) dX6_canSearch_23
  · replace hw := Eq.mp (if_pos c2) hw
    refine lv_bipush (v := 16) hx hb dX6_canSearch_7 (by decide) ?_
    refine lv_aload_n hx hb dX6_canSearch_9 rfl (lv_at hl 0 rfl) ?_
    refine gVi (As := []) (rest := [.int 16]) (cs' := wM kI mo m0 m1 m2 m3 m4 m5 m6 m7 u) ⟨hx, hb, hml, hown, hts⟩ (kX6_count l D kI kC kG kJ mo m0 m1 m2 m3 m4 m5 m6 m7 u _ hw) (cwV 0 hts gX6_canSearch_X6_count rfl rfl rfl hdX6_count ⟨Nat.le_of_ble_eq_true rfl, Nat.le_of_ble_eq_true rfl⟩) hK hP hE hS [0, 1, 2, 3, 4, 5, 6, 7, 8] rfl (ci := 5) (q0 := 0) rfl rfl rfl rfl hl.1 rfl (Nat.le_of_ble_eq_true rfl) dX6_canSearch_10 ⟨Nat.le_of_ble_eq_true rfl, Nat.le_of_ble_eq_true rfl⟩ (fun r3 hw => ?_)
    refine lv_isub hx hb dX6_canSearch_13 ?_
    refine lv_iconst (v := 4) hx hb dX6_canSearch_14 (by decide) ?_
    refine lv_icmp_gt (tgt := 22) hx hb dX6_canSearch_15 (by decide) (fun c4 => ?_) (fun c4 => ?_)
    · replace hw := Eq.mp (if_pos c4) hw
      refine lv_iconst (v := 0) hx hb dX6_canSearch_22 (by decide) ?_
      exact W.zret (v := 0) hx hb hr rfl (fun t ht hW => ⟨_, rfl, hw, ht⟩) (fun _ h => by cases h) dX6_canSearch_23
    · replace hw := Eq.mp (if_neg c4) hw
      refine lv_iconst (v := 1) hx hb dX6_canSearch_18 (by decide) ?_
      refine lv_goto (tgt := 23) hx hb dX6_canSearch_19 (by decide) ?_
      exact W.zret (v := 1) hx hb hr rfl (fun t ht hW => ⟨_, rfl, hw, ht⟩) (fun _ h => by cases h) dX6_canSearch_23
set_option maxHeartbeats 4000000 in
set_option maxRecDepth 100000 in
theorem kX6_outcome (l : Launch) (D : va_G) (kI kC kG kJ : ClassId) (mo m0 m1 m2 m3 m4 m5 m6 m7 : Nat) (sz : Nat) (u : SM) (Z : Int32 → SM → Prop) (hw : pX6_outcome u Z) : Met l yX6_outcome wsX6_outcome ({ frames := 4, cells := 0, slots := 0, locals := 92 } : Room) (gPw D (gT kI kC kG kJ) [.ref mo] (wM kI mo m0 m1 m2 m3 m4 m5 m6 m7 u) sz) (va_Qi Z (gB D (gT kI kC kG kJ) (fun (zz : SM) => wM kI mo m0 m1 m2 m3 m4 m5 m6 m7 zz) (va_A (wM kI mo m0 m1 m2 m3 m4 m5 m6 m7 u) sz)) (va_A (wM kI mo m0 m1 m2 m3 m4 m5 m6 m7 u) sz)) 0 0 (va_A (wM kI mo m0 m1 m2 m3 m4 m5 m6 m7 u) sz) := by
  refine Met.ofW (cc := cX6_outcome) (maxL := 1) (ret := (some .int)) (by decide) rfl ?_
  intro p e s m args below meth c s₁ B hml hv
  obtain ⟨rfl, hsz, hP, hK, hD0, hE⟩ := hv
  have hx := B.exec
  have hb := B.bytes
  have hr := B.returns
  have hts := atoms_spec (ws := wsX6_outcome) B.pre
  have hown : s.vm.findClass RX6 = some m.cls := findClass_of_methodNamed B.named
  have hlocks := B.notSynchronized
  subst hsz
  have hD := hD0.self (sz := s.heap.size)
  generalize hAe : va_A (wM kI mo m0 m1 m2 m3 m4 m5 m6 m7 u) s.heap.size = A at hD hE ⊢
  have hA : ∀ q : Nat, s.heap.size ≤ q → A q := fun q h => by rw [← hAe]; exact Or.inr h
  have hS : va_S A s.heap s.heap [] := va_S.rf
  clear hAe hD0
  have hl := lv_entry ([.ref mo]) (n := 1) (Nat.le_of_ble_eq_true rfl)
  rw [lg_entry_eq]
  generalize (lg_sl ([.ref mo]) ++ List.replicate (1 - (lg_sl ([.ref mo])).length) Slot.unset).toArray = ls at hl ⊢
  have hl : lv_has ls 1 [(0, .ref mo)] := hl
  have hP : va_P D vwCl (wM kI mo m0 m1 m2 m3 m4 m5 m6 m7 u) s.heap := hP
  unfold pX6_outcome at hw
  refine lv_aload_n hx hb dX6_outcome_0 rfl (lv_at hl 0 rfl) ?_
  refine gVi (As := []) (rest := []) (cs' := wM kI mo m0 m1 m2 m3 m4 m5 m6 m7 u) ⟨hx, hb, hml, hown, hts⟩ (kX6_canSearch l D kI kC kG kJ mo m0 m1 m2 m3 m4 m5 m6 m7 u _ hw) (cwV 0 hts gX6_outcome_X6_canSearch rfl rfl rfl hdX6_canSearch ⟨Nat.le_of_ble_eq_true rfl, Nat.le_of_ble_eq_true rfl⟩) hK hP hE hS [0, 1, 2, 3, 4, 5, 6, 7, 8] rfl (ci := 5) (q0 := 0) rfl rfl rfl rfl hl.1 rfl (Nat.le_of_ble_eq_true rfl) dX6_outcome_1 ⟨Nat.le_of_ble_eq_true rfl, Nat.le_of_ble_eq_true rfl⟩ (fun r1 hw => ?_)
  refine lv_if_eq (tgt := 18) hx hb dX6_outcome_4 (by decide) (fun c2 => ?_) (fun c2 => ?_)
  · replace hw := Eq.mp (if_pos c2) hw
    refine lv_aload_n hx hb dX6_outcome_18 rfl (lv_at hl 0 rfl) ?_
    refine lv_iconst (v := 1) hx hb dX6_outcome_19 (by decide) ?_
    refine gWVi (S := SM) (As := [.int 1]) (rest := []) (wc := wM kI mo m0 m1 m2 m3 m4 m5 m6 m7 u) (wr := []) (cs1 := (fun zz : SM => wM kI mo m0 m1 m2 m3 m4 m5 m6 m7 zz)) (ws2 := (fun zz : SM => wM kI mo m0 m1 m2 m3 m4 m5 m6 m7 zz)) ⟨hx, hb, hml, hown, hts⟩ (fun sz => kX6_fails l D kI kC kG kJ mo m0 m1 m2 m3 m4 m5 m6 m7 sz u 1 _ hw) (cwV 1 hts gX6_outcome_X6_fails rfl rfl rfl hdX6_fails ⟨Nat.le_of_ble_eq_true rfl, Nat.le_of_ble_eq_true rfl⟩) hK hP hD hE hS hA [0, 1, 2, 3, 4, 5, 6, 7, 8] [] rfl rfl rfl rfl (by decide) [0, 1, 2, 3, 4, 5, 6, 7, 8] rfl (fun _ => rfl) (ci := 5) (q0 := 0) rfl rfl rfl rfl hl.1 rfl (Nat.le_of_ble_eq_true rfl) dX6_outcome_20 ⟨Nat.le_of_ble_eq_true rfl, Nat.le_of_ble_eq_true rfl⟩ (fun r3 w3 H locs hw hP hD hS => ?_)
    have hP : va_P D vwCl (wM kI mo m0 m1 m2 m3 m4 m5 m6 m7 w3) H := hP
    have hD : va_D A (wM kI mo m0 m1 m2 m3 m4 m5 m6 m7 w3) := hD
    exact W.iret (v := r3) hx hb hr (fun t ht hW => ⟨⟨r3, w3, rfl, hw, by rw [ht]; exact hP, va_K.moved hW.alike hK, hD⟩, hS.F ht⟩) hS.2.2 dX6_outcome_23
  · replace hw := Eq.mp (if_neg c2) hw
    refine lv_aload_n hx hb dX6_outcome_7 rfl (lv_at hl 0 rfl) ?_
    refine lv_aload_n hx hb dX6_outcome_8 rfl (lv_at hl 0 rfl) ?_
    refine gWVi (S := SM) (As := []) (rest := [.ref mo]) (wc := wM kI mo m0 m1 m2 m3 m4 m5 m6 m7 u) (wr := []) (cs1 := (fun zz : SM => wM kI mo m0 m1 m2 m3 m4 m5 m6 m7 zz)) (ws2 := (fun zz : SM => wM kI mo m0 m1 m2 m3 m4 m5 m6 m7 zz)) ⟨hx, hb, hml, hown, hts⟩ (fun sz => kX6_searches l D kI kC kG kJ mo m0 m1 m2 m3 m4 m5 m6 m7 sz u _ hw) (cwV 0 hts gX6_outcome_X6_searches rfl rfl rfl hdX6_searches ⟨Nat.le_of_ble_eq_true rfl, Nat.le_of_ble_eq_true rfl⟩) hK hP hD hE hS hA [0, 1, 2, 3, 4, 5, 6, 7, 8] [] rfl rfl rfl rfl (by decide) [0, 1, 2, 3, 4, 5, 6, 7, 8] rfl (fun _ => rfl) (ci := 5) (q0 := 0) rfl rfl rfl rfl hl.1 rfl (Nat.le_of_ble_eq_true rfl) dX6_outcome_9 ⟨Nat.le_of_ble_eq_true rfl, Nat.le_of_ble_eq_true rfl⟩ (fun r4 w4 H locs hw hP hD hS => ?_)
    have hP : va_P D vwCl (wM kI mo m0 m1 m2 m3 m4 m5 m6 m7 w4) H := hP
    have hD : va_D A (wM kI mo m0 m1 m2 m3 m4 m5 m6 m7 w4) := hD
    refine gWVi (S := SM) (As := [.int r4]) (rest := []) (wc := wM kI mo m0 m1 m2 m3 m4 m5 m6 m7 w4) (wr := []) (cs1 := (fun zz : SM => wM kI mo m0 m1 m2 m3 m4 m5 m6 m7 zz)) (ws2 := (fun zz : SM => wM kI mo m0 m1 m2 m3 m4 m5 m6 m7 zz)) ⟨hx, hb, hml, hown, hts⟩ (fun sz => kX6_told l D kI kC kG kJ mo m0 m1 m2 m3 m4 m5 m6 m7 sz w4 r4 _ hw) (cwV 1 hts gX6_outcome_X6_told rfl rfl rfl hdX6_told ⟨Nat.le_of_ble_eq_true rfl, Nat.le_of_ble_eq_true rfl⟩) hK hP hD hE hS hA [0, 1, 2, 3, 4, 5, 6, 7, 8] [] rfl rfl rfl rfl (by decide) [0, 1, 2, 3, 4, 5, 6, 7, 8] rfl (fun _ => rfl) (ci := 5) (q0 := 0) rfl rfl rfl rfl hl.1 rfl (Nat.le_of_ble_eq_true rfl) dX6_outcome_12 ⟨Nat.le_of_ble_eq_true rfl, Nat.le_of_ble_eq_true rfl⟩ (fun r5 w5 H locs hw hP hD hS => ?_)
    have hP : va_P D vwCl (wM kI mo m0 m1 m2 m3 m4 m5 m6 m7 w5) H := hP
    have hD : va_D A (wM kI mo m0 m1 m2 m3 m4 m5 m6 m7 w5) := hD
    refine lv_goto (tgt := 23) hx hb dX6_outcome_15 (by decide) ?_
    exact W.iret (v := r5) hx hb hr (fun t ht hW => ⟨⟨r5, w5, rfl, hw, by rw [ht]; exact hP, va_K.moved hW.alike hK, hD⟩, hS.F ht⟩) hS.2.2 dX6_outcome_23
set_option maxHeartbeats 4000000 in
set_option maxRecDepth 100000 in
theorem kX6_bestMove (l : Launch) (D : va_G) (kI kC kG kJ : ClassId) (mo m0 m1 m2 m3 m4 m5 m6 m7 : Nat) (sz : Nat) (u : SM) (Z : Int32 → SM → Prop) (hw : pX6_bestMove u Z) : Met l yX6_bestMove wsX6_bestMove ({ frames := 4, cells := 0, slots := 0, locals := 92 } : Room) (gPw D (gT kI kC kG kJ) [.ref mo] (wM kI mo m0 m1 m2 m3 m4 m5 m6 m7 u) sz) (va_Qi Z (gB D (gT kI kC kG kJ) (fun (zz : SM) => wM kI mo m0 m1 m2 m3 m4 m5 m6 m7 zz) (va_A (wM kI mo m0 m1 m2 m3 m4 m5 m6 m7 u) sz)) (va_A (wM kI mo m0 m1 m2 m3 m4 m5 m6 m7 u) sz)) 0 0 (va_A (wM kI mo m0 m1 m2 m3 m4 m5 m6 m7 u) sz) := by
  refine Met.ofW (cc := cX6_bestMove) (maxL := 2) (ret := (some .int)) (by decide) rfl ?_
  intro p e s m args below meth c s₁ B hml hv
  obtain ⟨rfl, hsz, hP, hK, hD0, hE⟩ := hv
  have hx := B.exec
  have hb := B.bytes
  have hr := B.returns
  have hts := atoms_spec (ws := wsX6_bestMove) B.pre
  have hown : s.vm.findClass RX6 = some m.cls := findClass_of_methodNamed B.named
  have hlocks := B.notSynchronized
  subst hsz
  have hD := hD0.self (sz := s.heap.size)
  generalize hAe : va_A (wM kI mo m0 m1 m2 m3 m4 m5 m6 m7 u) s.heap.size = A at hD hE ⊢
  have hA : ∀ q : Nat, s.heap.size ≤ q → A q := fun q h => by rw [← hAe]; exact Or.inr h
  have hS : va_S A s.heap s.heap [] := va_S.rf
  clear hAe hD0
  have hl := lv_entry ([.ref mo]) (n := 2) (Nat.le_of_ble_eq_true rfl)
  rw [lg_entry_eq]
  generalize (lg_sl ([.ref mo]) ++ List.replicate (2 - (lg_sl ([.ref mo])).length) Slot.unset).toArray = ls at hl ⊢
  have hl : lv_has ls 2 [(0, .ref mo)] := hl
  have hP : va_P D vwCl (wM kI mo m0 m1 m2 m3 m4 m5 m6 m7 u) s.heap := hP
  unfold pX6_bestMove at hw
  refine lv_aload_n hx hb dX6_bestMove_0 rfl (lv_at hl 0 rfl) ?_
  refine gVi (As := []) (rest := []) (cs' := wM kI mo m0 m1 m2 m3 m4 m5 m6 m7 u) ⟨hx, hb, hml, hown, hts⟩ (kX6_canSearch l D kI kC kG kJ mo m0 m1 m2 m3 m4 m5 m6 m7 u _ hw) (cwV 0 hts gX6_bestMove_X6_canSearch rfl rfl rfl hdX6_canSearch ⟨Nat.le_of_ble_eq_true rfl, Nat.le_of_ble_eq_true rfl⟩) hK hP hE hS [0, 1, 2, 3, 4, 5, 6, 7, 8] rfl (ci := 5) (q0 := 0) rfl rfl rfl rfl hl.1 rfl (Nat.le_of_ble_eq_true rfl) dX6_bestMove_1 ⟨Nat.le_of_ble_eq_true rfl, Nat.le_of_ble_eq_true rfl⟩ (fun r1 hw => ?_)
  refine lv_if_ne (tgt := 13) hx hb dX6_bestMove_4 (by decide) (fun c2 => ?_) (fun c2 => ?_)
  · replace hw := Eq.mp (if_neg c2) hw
    refine lv_aload_n hx hb dX6_bestMove_13 rfl (lv_at hl 0 rfl) ?_
    refine gWVi (S := SM) (As := []) (rest := []) (wc := wM kI mo m0 m1 m2 m3 m4 m5 m6 m7 u) (wr := []) (cs1 := (fun zz : SM => wM kI mo m0 m1 m2 m3 m4 m5 m6 m7 zz)) (ws2 := (fun zz : SM => wM kI mo m0 m1 m2 m3 m4 m5 m6 m7 zz)) ⟨hx, hb, hml, hown, hts⟩ (fun sz => kX6_searches l D kI kC kG kJ mo m0 m1 m2 m3 m4 m5 m6 m7 sz u _ hw) (cwV 0 hts gX6_bestMove_X6_searches rfl rfl rfl hdX6_searches ⟨Nat.le_of_ble_eq_true rfl, Nat.le_of_ble_eq_true rfl⟩) hK hP hD hE hS hA [0, 1, 2, 3, 4, 5, 6, 7, 8] [] rfl rfl rfl rfl (by decide) [0, 1, 2, 3, 4, 5, 6, 7, 8] rfl (fun _ => rfl) (ci := 5) (q0 := 0) rfl rfl rfl rfl hl.1 rfl (Nat.le_of_ble_eq_true rfl) dX6_bestMove_14 ⟨Nat.le_of_ble_eq_true rfl, Nat.le_of_ble_eq_true rfl⟩ (fun r3 w3 H locs hw hP hD hS => ?_)
    have hP : va_P D vwCl (wM kI mo m0 m1 m2 m3 m4 m5 m6 m7 w3) H := hP
    have hD : va_D A (wM kI mo m0 m1 m2 m3 m4 m5 m6 m7 w3) := hD
    refine lv_istore_n (lv' := [(1, .int r3), (0, .ref mo)]) hx hb dX6_bestMove_17 rfl hl (by decide) rfl (fun ls hl => ?_)
    refine lv_aload_n hx hb dX6_bestMove_18 rfl (lv_at hl 1 rfl) ?_
    refine lv_aload_n hx hb dX6_bestMove_19 rfl (lv_at hl 1 rfl) ?_
    refine va_get (D := D) (ci := 5) (v := .int w3.2.2.2.2.2.2.2.2.2.2.2.2.2.2.2.2.2) (C := RX6) (T := TX6) (N := 18) hx hb hts (fun _ h => List.mem_cons_of_mem _ (List.mem_append_right _ h)) hown hK hP 0 rfl rfl 17 (by decide) (hts (.fieldLink RX6 156 "HazelGiftModel" "firstBest" "I") (List.mem_of_getElem? (i := 1) rfl)) (fun _ h9 => h9) rfl dX6_bestMove_20 ?_
    refine gWVi (S := SM) (As := [.int w3.2.2.2.2.2.2.2.2.2.2.2.2.2.2.2.2.2]) (rest := []) (wc := wM kI mo m0 m1 m2 m3 m4 m5 m6 m7 w3) (wr := []) (cs1 := (fun zz : SM => wM kI mo m0 m1 m2 m3 m4 m5 m6 m7 zz)) (ws2 := (fun zz : SM => wM kI mo m0 m1 m2 m3 m4 m5 m6 m7 zz)) ⟨hx, hb, hml, hown, hts⟩ (fun sz => kX6_told l D kI kC kG kJ mo m0 m1 m2 m3 m4 m5 m6 m7 sz w3 w3.2.2.2.2.2.2.2.2.2.2.2.2.2.2.2.2.2 _ hw) (cwV 1 hts gX6_bestMove_X6_told rfl rfl rfl hdX6_told ⟨Nat.le_of_ble_eq_true rfl, Nat.le_of_ble_eq_true rfl⟩) hK hP hD hE hS hA [0, 1, 2, 3, 4, 5, 6, 7, 8] [] rfl rfl rfl rfl (by decide) [0, 1, 2, 3, 4, 5, 6, 7, 8] rfl (fun _ => rfl) (ci := 5) (q0 := 0) rfl rfl rfl rfl hl.1 rfl (Nat.le_of_ble_eq_true rfl) dX6_bestMove_23 ⟨Nat.le_of_ble_eq_true rfl, Nat.le_of_ble_eq_true rfl⟩ (fun r4 w4 H locs hw hP hD hS => ?_)
    have hP : va_P D vwCl (wM kI mo m0 m1 m2 m3 m4 m5 m6 m7 w4) H := hP
    have hD : va_D A (wM kI mo m0 m1 m2 m3 m4 m5 m6 m7 w4) := hD
    exact W.iret (v := r4) hx hb hr (fun t ht hW => ⟨⟨r4, w4, rfl, hw, by rw [ht]; exact hP, va_K.moved hW.alike hK, hD⟩, hS.F ht⟩) hS.2.2 dX6_bestMove_26
  · replace hw := Eq.mp (if_pos c2) hw
    refine lv_aload_n hx hb dX6_bestMove_7 rfl (lv_at hl 0 rfl) ?_
    refine lv_iconst (v := 1) hx hb dX6_bestMove_8 (by decide) ?_
    refine gWVi (S := SM) (As := [.int 1]) (rest := []) (wc := wM kI mo m0 m1 m2 m3 m4 m5 m6 m7 u) (wr := []) (cs1 := (fun zz : SM => wM kI mo m0 m1 m2 m3 m4 m5 m6 m7 zz)) (ws2 := (fun zz : SM => wM kI mo m0 m1 m2 m3 m4 m5 m6 m7 zz)) ⟨hx, hb, hml, hown, hts⟩ (fun sz => kX6_fails l D kI kC kG kJ mo m0 m1 m2 m3 m4 m5 m6 m7 sz u 1 _ hw) (cwV 1 hts gX6_bestMove_X6_fails rfl rfl rfl hdX6_fails ⟨Nat.le_of_ble_eq_true rfl, Nat.le_of_ble_eq_true rfl⟩) hK hP hD hE hS hA [0, 1, 2, 3, 4, 5, 6, 7, 8] [] rfl rfl rfl rfl (by decide) [0, 1, 2, 3, 4, 5, 6, 7, 8] rfl (fun _ => rfl) (ci := 5) (q0 := 0) rfl rfl rfl rfl hl.1 rfl (Nat.le_of_ble_eq_true rfl) dX6_bestMove_9 ⟨Nat.le_of_ble_eq_true rfl, Nat.le_of_ble_eq_true rfl⟩ (fun r5 w5 H locs hw hP hD hS => ?_)
    have hP : va_P D vwCl (wM kI mo m0 m1 m2 m3 m4 m5 m6 m7 w5) H := hP
    have hD : va_D A (wM kI mo m0 m1 m2 m3 m4 m5 m6 m7 w5) := hD
    exact W.iret (v := r5) hx hb hr (fun t ht hW => ⟨⟨r5, w5, rfl, hw, by rw [ht]; exact hP, va_K.moved hW.alike hK, hD⟩, hS.F ht⟩) hS.2.2 dX6_bestMove_12
set_option maxHeartbeats 4000000 in
set_option maxRecDepth 100000 in
theorem kX6_rule (l : Launch) (D : va_G) (kI kC kG kJ : ClassId) (mo m0 m1 m2 m3 m4 m5 m6 m7 : Nat) (sz : Nat) (u : SM) (Z : Int32 → SM → Prop) (hw : pX6_rule u Z) : Met l yX6_rule wsX6_rule ({ frames := 1, cells := 0, slots := 0, locals := 21 } : Room) (gPw D (gT kI kC kG kJ) [.ref mo] (wM kI mo m0 m1 m2 m3 m4 m5 m6 m7 u) sz) (va_Qi Z (gB D (gT kI kC kG kJ) (fun (zz : SM) => wM kI mo m0 m1 m2 m3 m4 m5 m6 m7 zz) (va_A (wM kI mo m0 m1 m2 m3 m4 m5 m6 m7 u) sz)) (va_A (wM kI mo m0 m1 m2 m3 m4 m5 m6 m7 u) sz)) 0 0 (va_A (wM kI mo m0 m1 m2 m3 m4 m5 m6 m7 u) sz) := by
  refine Met.ofW (cc := cX6_rule) (maxL := 1) (ret := (some .int)) (by decide) rfl ?_
  intro p e s m args below meth c s₁ B hml hv
  obtain ⟨rfl, hsz, hP, hK, hD0, hE⟩ := hv
  have hx := B.exec
  have hb := B.bytes
  have hr := B.returns
  have hts := atoms_spec (ws := wsX6_rule) B.pre
  have hown : s.vm.findClass RX6 = some m.cls := findClass_of_methodNamed B.named
  have hlocks := B.notSynchronized
  subst hsz
  have hD := hD0.self (sz := s.heap.size)
  generalize hAe : va_A (wM kI mo m0 m1 m2 m3 m4 m5 m6 m7 u) s.heap.size = A at hD hE ⊢
  have hA : ∀ q : Nat, s.heap.size ≤ q → A q := fun q h => by rw [← hAe]; exact Or.inr h
  have hS : va_S A s.heap s.heap [] := va_S.rf
  clear hAe hD0
  have hl := lv_entry ([.ref mo]) (n := 1) (Nat.le_of_ble_eq_true rfl)
  rw [lg_entry_eq]
  generalize (lg_sl ([.ref mo]) ++ List.replicate (1 - (lg_sl ([.ref mo])).length) Slot.unset).toArray = ls at hl ⊢
  have hl : lv_has ls 1 [(0, .ref mo)] := hl
  have hP : va_P D vwCl (wM kI mo m0 m1 m2 m3 m4 m5 m6 m7 u) s.heap := hP
  unfold pX6_rule at hw
  refine lv_aload_n hx hb dX6_rule_0 rfl (lv_at hl 0 rfl) ?_
  refine lv_aload_n hx hb dX6_rule_1 rfl (lv_at hl 0 rfl) ?_
  refine va_get (D := D) (ci := 5) (v := .ref m0) (C := RX6) (T := TX6) (N := 18) hx hb hts (fun _ h => List.mem_cons_of_mem _ (List.mem_append_right _ h)) hown hK hP 0 rfl rfl 0 (by decide) (hts (.fieldLink RX6 7 "HazelGiftModel" "all" "[I") (List.mem_of_getElem? (i := 1) rfl)) (fun _ h9 => h9) rfl dX6_rule_2 ?_
  refine lv_bipush (v := 17) hx hb dX6_rule_5 (by decide) ?_
  refine gIald (k := 17) hx hb hK hP 1 0 rfl rfl (gin (by decide)) (by decide) dX6_rule_7 ?_
  refine gWVi (S := SM) (As := [.int (u.1 17)]) (rest := []) (wc := wM kI mo m0 m1 m2 m3 m4 m5 m6 m7 u) (wr := []) (cs1 := (fun zz : SM => wM kI mo m0 m1 m2 m3 m4 m5 m6 m7 zz)) (ws2 := (fun zz : SM => wM kI mo m0 m1 m2 m3 m4 m5 m6 m7 zz)) ⟨hx, hb, hml, hown, hts⟩ (fun sz => kX6_told l D kI kC kG kJ mo m0 m1 m2 m3 m4 m5 m6 m7 sz u (u.1 17) _ hw) (cwV 1 hts gX6_rule_X6_told rfl rfl rfl hdX6_told ⟨Nat.le_of_ble_eq_true rfl, Nat.le_of_ble_eq_true rfl⟩) hK hP hD hE hS hA [0, 1, 2, 3, 4, 5, 6, 7, 8] [] rfl rfl rfl rfl (by decide) [0, 1, 2, 3, 4, 5, 6, 7, 8] rfl (fun _ => rfl) (ci := 5) (q0 := 0) rfl rfl rfl rfl hl.1 rfl (Nat.le_of_ble_eq_true rfl) dX6_rule_8 ⟨Nat.le_of_ble_eq_true rfl, Nat.le_of_ble_eq_true rfl⟩ (fun r1 w1 H locs hw hP hD hS => ?_)
  have hP : va_P D vwCl (wM kI mo m0 m1 m2 m3 m4 m5 m6 m7 w1) H := hP
  have hD : va_D A (wM kI mo m0 m1 m2 m3 m4 m5 m6 m7 w1) := hD
  exact W.iret (v := r1) hx hb hr (fun t ht hW => ⟨⟨r1, w1, rfl, hw, by rw [ht]; exact hP, va_K.moved hW.alike hK, hD⟩, hS.F ht⟩) hS.2.2 dX6_rule_11
set_option maxHeartbeats 4000000 in
set_option maxRecDepth 100000 in
theorem kX6_recordedStates (l : Launch) (D : va_G) (kI kC kG kJ : ClassId) (mo m0 m1 m2 m3 m4 m5 m6 m7 : Nat) (sz : Nat) (u : SM) (Z : Int32 → SM → Prop) (hw : pX6_recordedStates u Z) : Met l yX6_recordedStates wsX6_recordedStates ({ frames := 1, cells := 0, slots := 0, locals := 21 } : Room) (gPw D (gT kI kC kG kJ) [.ref mo] (wM kI mo m0 m1 m2 m3 m4 m5 m6 m7 u) sz) (va_Qi Z (gB D (gT kI kC kG kJ) (fun (zz : SM) => wM kI mo m0 m1 m2 m3 m4 m5 m6 m7 zz) (va_A (wM kI mo m0 m1 m2 m3 m4 m5 m6 m7 u) sz)) (va_A (wM kI mo m0 m1 m2 m3 m4 m5 m6 m7 u) sz)) 0 0 (va_A (wM kI mo m0 m1 m2 m3 m4 m5 m6 m7 u) sz) := by
  refine Met.ofW (cc := cX6_recordedStates) (maxL := 1) (ret := (some .int)) (by decide) rfl ?_
  intro p e s m args below meth c s₁ B hml hv
  obtain ⟨rfl, hsz, hP, hK, hD0, hE⟩ := hv
  have hx := B.exec
  have hb := B.bytes
  have hr := B.returns
  have hts := atoms_spec (ws := wsX6_recordedStates) B.pre
  have hown : s.vm.findClass RX6 = some m.cls := findClass_of_methodNamed B.named
  have hlocks := B.notSynchronized
  subst hsz
  have hD := hD0.self (sz := s.heap.size)
  generalize hAe : va_A (wM kI mo m0 m1 m2 m3 m4 m5 m6 m7 u) s.heap.size = A at hD hE ⊢
  have hA : ∀ q : Nat, s.heap.size ≤ q → A q := fun q h => by rw [← hAe]; exact Or.inr h
  have hS : va_S A s.heap s.heap [] := va_S.rf
  clear hAe hD0
  have hl := lv_entry ([.ref mo]) (n := 1) (Nat.le_of_ble_eq_true rfl)
  rw [lg_entry_eq]
  generalize (lg_sl ([.ref mo]) ++ List.replicate (1 - (lg_sl ([.ref mo])).length) Slot.unset).toArray = ls at hl ⊢
  have hl : lv_has ls 1 [(0, .ref mo)] := hl
  have hP : va_P D vwCl (wM kI mo m0 m1 m2 m3 m4 m5 m6 m7 u) s.heap := hP
  unfold pX6_recordedStates at hw
  refine lv_aload_n hx hb dX6_recordedStates_0 rfl (lv_at hl 0 rfl) ?_
  refine lv_aload_n hx hb dX6_recordedStates_1 rfl (lv_at hl 0 rfl) ?_
  refine va_get (D := D) (ci := 5) (v := .int u.2.2.2.2.2.2.2.2.1) (C := RX6) (T := TX6) (N := 18) hx hb hts (fun _ h => List.mem_cons_of_mem _ (List.mem_append_right _ h)) hown hK hP 0 rfl rfl 3 (by decide) (hts (.fieldLink RX6 38 "HazelGiftModel" "recordedLong" "I") (List.mem_of_getElem? (i := 1) rfl)) (fun _ h9 => h9) rfl dX6_recordedStates_2 ?_
  refine gWVi (S := SM) (As := [.int u.2.2.2.2.2.2.2.2.1]) (rest := []) (wc := wM kI mo m0 m1 m2 m3 m4 m5 m6 m7 u) (wr := []) (cs1 := (fun zz : SM => wM kI mo m0 m1 m2 m3 m4 m5 m6 m7 zz)) (ws2 := (fun zz : SM => wM kI mo m0 m1 m2 m3 m4 m5 m6 m7 zz)) ⟨hx, hb, hml, hown, hts⟩ (fun sz => kX6_told l D kI kC kG kJ mo m0 m1 m2 m3 m4 m5 m6 m7 sz u u.2.2.2.2.2.2.2.2.1 _ hw) (cwV 1 hts gX6_recordedStates_X6_told rfl rfl rfl hdX6_told ⟨Nat.le_of_ble_eq_true rfl, Nat.le_of_ble_eq_true rfl⟩) hK hP hD hE hS hA [0, 1, 2, 3, 4, 5, 6, 7, 8] [] rfl rfl rfl rfl (by decide) [0, 1, 2, 3, 4, 5, 6, 7, 8] rfl (fun _ => rfl) (ci := 5) (q0 := 0) rfl rfl rfl rfl hl.1 rfl (Nat.le_of_ble_eq_true rfl) dX6_recordedStates_5 ⟨Nat.le_of_ble_eq_true rfl, Nat.le_of_ble_eq_true rfl⟩ (fun r1 w1 H locs hw hP hD hS => ?_)
  have hP : va_P D vwCl (wM kI mo m0 m1 m2 m3 m4 m5 m6 m7 w1) H := hP
  have hD : va_D A (wM kI mo m0 m1 m2 m3 m4 m5 m6 m7 w1) := hD
  exact W.iret (v := r1) hx hb hr (fun t ht hW => ⟨⟨r1, w1, rfl, hw, by rw [ht]; exact hP, va_K.moved hW.alike hK, hD⟩, hS.F ht⟩) hS.2.2 dX6_recordedStates_8
