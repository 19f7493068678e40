set_option maxHeartbeats 4000000 in
set_option maxRecDepth 100000 in
theorem kX6_isHere (l : Launch) (D : va_G) (kI kC kG kJ : ClassId) (mo m0 m1 m2 m3 m4 m5 m6 m7 : Nat) (u : SM) (p0 : Int32) (p1 : Int32) (Z : Int32 → Prop) (hw : pX6_isHere p0 p1 u Z) : Met l yX6_isHere wsX6_isHere ({ frames := 1, cells := 0, slots := 0, locals := 25 } : Room) (gPr D (gT kI kC kG kJ) [.ref mo, .int p0, .int p1] (wM kI mo m0 m1 m2 m3 m4 m5 m6 m7 u)) (vp_Si Z) 0 0 (fun _ => False) := by
  refine Met.ofW (cc := cX6_isHere) (maxL := 3) (ret := (some .boolean)) (by decide) rfl ?_
  intro p e s m args below meth c s₁ B hml hv
  obtain ⟨rfl, hP, hK, hE⟩ := hv
  have hx := B.exec
  have hb := B.bytes
  have hr := B.returns
  have hts := atoms_spec (ws := wsX6_isHere) B.pre
  have hown : s.vm.findClass RX6 = some m.cls := findClass_of_methodNamed B.named
  have hlocks := B.notSynchronized
  have hS : va_S (fun _ => False) s.heap s.heap [] := va_S.rf
  have hl := lv_entry ([.ref mo, .int p0, .int p1]) (n := 3) (Nat.le_of_ble_eq_true rfl)
  rw [lg_entry_eq]
  generalize (lg_sl ([.ref mo, .int p0, .int p1]) ++ List.replicate (3 - (lg_sl ([.ref mo, .int p0, .int p1])).length) Slot.unset).toArray = ls at hl ⊢
  have hl : lv_has ls 3 [(0, .ref mo), (1, .int p0), (2, .int p1)] := hl
  unfold pX6_isHere at hw
  refine lv_aload_n hx hb dX6_isHere_0 rfl (lv_at hl 0 rfl) ?_
  refine va_get (D := D) (ci := 5) (v := .int u.2.2.2.2.2.2.2.2.2.2.2.2.1) (C := RX6) (T := TX6) (N := 18) hx hb hts (fun _ h => List.mem_cons_of_mem _ (List.mem_append_right _ h)) hown hK hP 0 rfl rfl 9 (by decide) (hts (.fieldLink RX6 110 "HazelGiftModel" "at" "I") (List.mem_of_getElem? (i := 1) rfl)) (fun _ h9 => h9) rfl dX6_isHere_1 ?_
  refine lv_aload_n hx hb dX6_isHere_4 rfl (lv_at hl 0 rfl) ?_
  refine va_get (D := D) (ci := 5) (v := .int u.2.2.2.2.2.2.2.2.2.2.2.1) (C := RX6) (T := TX6) (N := 18) hx hb hts (fun _ h => List.mem_cons_of_mem _ (List.mem_append_right _ h)) hown hK hP 0 rfl rfl 8 (by decide) (hts (.fieldLink RX6 107 "HazelGiftModel" "textLong" "I") (List.mem_of_getElem? (i := 2) rfl)) (fun _ h9 => h9) rfl dX6_isHere_5 ?_
  refine lv_icmp_ge (tgt := 35) hx hb dX6_isHere_8 (by decide) (fun c1 => ?_) (fun c1 => ?_)
  · replace hw := Eq.mp (if_pos c1) hw
    refine lv_iconst (v := 0) hx hb dX6_isHere_35 (by decide) ?_
    exact W.zret (v := 0) hx hb hr rfl (fun t ht hW => ⟨_, rfl, hw, ht⟩) (fun _ h => by cases h) dX6_isHere_36
  · replace hw := Eq.mp (if_neg c1) hw
    refine lv_aload_n hx hb dX6_isHere_11 rfl (lv_at hl 0 rfl) ?_
    refine va_get (D := D) (ci := 5) (v := .ref m4) (C := RX6) (T := TX6) (N := 18) hx hb hts (fun _ h => List.mem_cons_of_mem _ (List.mem_append_right _ h)) hown hK hP 0 rfl rfl 7 (by decide) (hts (.fieldLink RX6 22 "HazelGiftModel" "text" "[I") (List.mem_of_getElem? (i := 3) rfl)) (fun _ h9 => h9) rfl dX6_isHere_12 ?_
    refine lv_aload_n hx hb dX6_isHere_15 rfl (lv_at hl 0 rfl) ?_
    refine va_get (D := D) (ci := 5) (v := .int u.2.2.2.2.2.2.2.2.2.2.2.2.1) (C := RX6) (T := TX6) (N := 18) hx hb hts (fun _ h => List.mem_cons_of_mem _ (List.mem_append_right _ h)) hown hK hP 0 rfl rfl 9 (by decide) (hts (.fieldLink RX6 110 "HazelGiftModel" "at" "I") (List.mem_of_getElem? (i := 1) rfl)) (fun _ h9 => h9) rfl dX6_isHere_16 ?_
    obtain ⟨hi2, hw⟩ := hw
    refine gIald (k := (u.2.2.2.2.2.2.2.2.2.2.2.2.1).toNatClampNeg) hx hb hK hP 5 0 rfl rfl hi2 rfl dX6_isHere_19 ?_
    refine lv_i2l (v := (u.2.2.2.2.1 (u.2.2.2.2.2.2.2.2.2.2.2.2.1).toNatClampNeg).toInt64) hx hb dX6_isHere_20 rfl ?_
    refine lv_iload_n hx hb dX6_isHere_21 rfl (lv_at hl 1 rfl) ?_
    refine lv_i2l (v := p0.toInt64) hx hb dX6_isHere_22 rfl ?_
    refine lv_iload_n hx hb dX6_isHere_23 rfl (lv_at hl 2 rfl) ?_
    refine lv_i2l (v := p1.toInt64) hx hb dX6_isHere_24 rfl ?_
    refine gSi (As := [.long (u.2.2.2.2.1 (u.2.2.2.2.2.2.2.2.2.2.2.2.1).toNatClampNeg).toInt64, .long p0.toInt64, .long p1.toInt64]) (rest := []) (cs' := ([] : va_W)) ⟨hx, hb, hml, hown, hts⟩ (kX6_in l D kI kC kG kJ (u.2.2.2.2.1 (u.2.2.2.2.2.2.2.2.2.2.2.2.1).toNatClampNeg).toInt64 p0.toInt64 p1.toInt64 _ hw) (va_cwS 3 hts gX6_isHere_X6_in rfl rfl rfl hdX6_in ⟨Nat.le_of_ble_eq_true rfl, Nat.le_of_ble_eq_true rfl⟩) hK hP hE hS [] rfl rfl hl.1 rfl (Nat.le_of_ble_eq_true rfl) dX6_isHere_25 ⟨Nat.le_of_ble_eq_true rfl, Nat.le_of_ble_eq_true rfl⟩ (fun r3 hw => ?_)
    refine lv_if_eq (tgt := 35) hx hb dX6_isHere_28 (by decide) (fun c4 => ?_) (fun c4 => ?_)
    · replace hw := Eq.mp (if_pos c4) hw
      refine lv_iconst (v := 0) hx hb dX6_isHere_35 (by decide) ?_
      exact W.zret (v := 0) hx hb hr rfl (fun t ht hW => ⟨_, rfl, hw, ht⟩) (fun _ h => by cases h) dX6_isHere_36
    · replace hw := Eq.mp (if_neg c4) hw
      refine lv_iconst (v := 1) hx hb dX6_isHere_31 (by decide) ?_
      refine lv_goto (tgt := 36) hx hb dX6_isHere_32 (by decide) ?_
      exact W.zret (v := 1) hx hb hr rfl (fun t ht hW => ⟨_, rfl, hw, ht⟩) (fun _ h => by cases h) dX6_isHere_36
set_option maxHeartbeats 4000000 in
set_option maxRecDepth 100000 in
theorem kX6_takesOne (l : Launch) (D : va_G) (kI kC kG kJ : ClassId) (mo m0 m1 m2 m3 m4 m5 m6 m7 : Nat) (sz : Nat) (u : SM) (p0 : Int32) (Z : Int32 → SM → Prop) (hw : pX6_takesOne p0 u Z) : Met l yX6_takesOne wsX6_takesOne ({ frames := 2, cells := 0, slots := 0, locals := 47 } : Room) (gPw D (gT kI kC kG kJ) [.ref mo, .int p0] (wM kI mo m0 m1 m2 m3 m4 m5 m6 m7 u) sz) (va_Qi Z (gB D (gT kI kC kG kJ) (fun (zz : SM) => wM kI mo m0 m1 m2 m3 m4 m5 m6 m7 zz) (va_A (wM kI mo m0 m1 m2 m3 m4 m5 m6 m7 u) sz)) (va_A (wM kI mo m0 m1 m2 m3 m4 m5 m6 m7 u) sz)) 0 0 (va_A (wM kI mo m0 m1 m2 m3 m4 m5 m6 m7 u) sz) := by
  refine Met.ofW (cc := cX6_takesOne) (maxL := 3) (ret := (some .boolean)) (by decide) rfl ?_
  intro p e s m args below meth c s₁ B hml hv
  obtain ⟨rfl, hsz, hP, hK, hD0, hE⟩ := hv
  have hx := B.exec
  have hb := B.bytes
  have hr := B.returns
  have hts := atoms_spec (ws := wsX6_takesOne) B.pre
  have hown : s.vm.findClass RX6 = some m.cls := findClass_of_methodNamed B.named
  have hlocks := B.notSynchronized
  subst hsz
  have hD := hD0.self (sz := s.heap.size)
  generalize hAe : va_A (wM kI mo m0 m1 m2 m3 m4 m5 m6 m7 u) s.heap.size = A at hD hE ⊢
  have hA : ∀ q : Nat, s.heap.size ≤ q → A q := fun q h => by rw [← hAe]; exact Or.inr h
  have hS : va_S A s.heap s.heap [] := va_S.rf
  clear hAe hD0
  have hl := lv_entry ([.ref mo, .int p0]) (n := 3) (Nat.le_of_ble_eq_true rfl)
  rw [lg_entry_eq]
  generalize (lg_sl ([.ref mo, .int p0]) ++ List.replicate (3 - (lg_sl ([.ref mo, .int p0])).length) Slot.unset).toArray = ls at hl ⊢
  have hl : lv_has ls 3 [(0, .ref mo), (1, .int p0)] := hl
  have hP : va_P D vwCl (wM kI mo m0 m1 m2 m3 m4 m5 m6 m7 u) s.heap := hP
  unfold pX6_takesOne at hw
  refine lv_aload_n hx hb dX6_takesOne_0 rfl (lv_at hl 0 rfl) ?_
  refine lv_iload_n hx hb dX6_takesOne_1 rfl (lv_at hl 1 rfl) ?_
  refine lv_iload_n hx hb dX6_takesOne_2 rfl (lv_at hl 1 rfl) ?_
  refine gVi (As := [.int p0, .int p0]) (rest := []) (cs' := wM kI mo m0 m1 m2 m3 m4 m5 m6 m7 u) ⟨hx, hb, hml, hown, hts⟩ (kX6_isHere l D kI kC kG kJ mo m0 m1 m2 m3 m4 m5 m6 m7 u p0 p0 _ hw) (cwV 2 hts gX6_takesOne_X6_isHere rfl rfl rfl hdX6_isHere ⟨Nat.le_of_ble_eq_true rfl, Nat.le_of_ble_eq_true rfl⟩) hK hP hE hS [0, 1, 2, 3, 4, 5, 6, 7, 8] rfl (ci := 5) (q0 := 0) rfl rfl rfl rfl hl.1 rfl (Nat.le_of_ble_eq_true rfl) dX6_takesOne_3 ⟨Nat.le_of_ble_eq_true rfl, Nat.le_of_ble_eq_true rfl⟩ (fun r1 hw => ?_)
  refine lv_istore_n (lv' := [(2, .int r1), (0, .ref mo), (1, .int p0)]) hx hb dX6_takesOne_6 rfl hl (by decide) rfl (fun ls hl => ?_)
  refine lv_aload_n hx hb dX6_takesOne_7 rfl (lv_at hl 1 rfl) ?_
  refine lv_dup hx hb dX6_takesOne_8 rfl ?_
  refine va_get (D := D) (ci := 5) (v := .int u.2.2.2.2.2.2.2.2.2.2.2.2.1) (C := RX6) (T := TX6) (N := 18) hx hb hts (fun _ h => List.mem_cons_of_mem _ (List.mem_append_right _ h)) hown hK hP 0 rfl rfl 9 (by decide) (hts (.fieldLink RX6 110 "HazelGiftModel" "at" "I") (List.mem_of_getElem? (i := 1) rfl)) (fun _ h9 => h9) rfl dX6_takesOne_9 ?_
  refine lv_iload_n hx hb dX6_takesOne_12 rfl (lv_at hl 0 rfl) ?_
  refine lv_if_eq (tgt := 20) hx hb dX6_takesOne_13 (by decide) (fun c2 => ?_) (fun c2 => ?_)
  · replace hw := Eq.mp (if_pos c2) hw
    refine lv_iconst (v := 0) hx hb dX6_takesOne_20 (by decide) ?_
    refine lv_iadd hx hb dX6_takesOne_21 ?_
    refine lv_topi (fun x3 ex3 => ?_)
    replace hw := hw x3 ex3
    refine va_put (D := D) (ci := 5) (v := .int x3) (ty := tyX6 9) (C := RX6) (T := TX6) (N := 18) hx hb hts (fun _ h => List.mem_cons_of_mem _ (List.mem_append_right _ h)) tyX6 tyX6_ok nmX6 hown hK hP hD hS 0 rfl rfl 9 (by decide) (hts (.fieldLink RX6 110 "HazelGiftModel" "at" "I") (List.mem_of_getElem? (i := 1) rfl)) (fun _ h9 => h9) rfl (tyX6_ok 9 (by decide)) rfl rfl (Nat.le_of_ble_eq_true rfl) dX6_takesOne_22 (fun H locs hP hD hS => ?_)
    have hP : va_P D vwCl (wM kI mo m0 m1 m2 m3 m4 m5 m6 m7 (u.1, u.2.1, u.2.2.1, u.2.2.2.1, u.2.2.2.2.1, u.2.2.2.2.2.1, u.2.2.2.2.2.2.1, u.2.2.2.2.2.2.2.1, u.2.2.2.2.2.2.2.2.1, u.2.2.2.2.2.2.2.2.2.1, u.2.2.2.2.2.2.2.2.2.2.1, u.2.2.2.2.2.2.2.2.2.2.2.1, x3, u.2.2.2.2.2.2.2.2.2.2.2.2.2.1, u.2.2.2.2.2.2.2.2.2.2.2.2.2.2.1, u.2.2.2.2.2.2.2.2.2.2.2.2.2.2.2.1, u.2.2.2.2.2.2.2.2.2.2.2.2.2.2.2.2.1, u.2.2.2.2.2.2.2.2.2.2.2.2.2.2.2.2.2)) H := hP
    have hD : va_D A (wM kI mo m0 m1 m2 m3 m4 m5 m6 m7 (u.1, u.2.1, u.2.2.1, u.2.2.2.1, u.2.2.2.2.1, u.2.2.2.2.2.1, u.2.2.2.2.2.2.1, u.2.2.2.2.2.2.2.1, u.2.2.2.2.2.2.2.2.1, u.2.2.2.2.2.2.2.2.2.1, u.2.2.2.2.2.2.2.2.2.2.1, u.2.2.2.2.2.2.2.2.2.2.2.1, x3, u.2.2.2.2.2.2.2.2.2.2.2.2.2.1, u.2.2.2.2.2.2.2.2.2.2.2.2.2.2.1, u.2.2.2.2.2.2.2.2.2.2.2.2.2.2.2.1, u.2.2.2.2.2.2.2.2.2.2.2.2.2.2.2.2.1, u.2.2.2.2.2.2.2.2.2.2.2.2.2.2.2.2.2)) := hD
    refine lv_iload_n hx hb dX6_takesOne_25 rfl (lv_at hl 0 rfl) ?_
    obtain ⟨hn, hw⟩ := hw
    exact W.zret (v := r1) hx hb hr hn (fun t ht hW => ⟨⟨r1, (u.1, u.2.1, u.2.2.1, u.2.2.2.1, u.2.2.2.2.1, u.2.2.2.2.2.1, u.2.2.2.2.2.2.1, u.2.2.2.2.2.2.2.1, u.2.2.2.2.2.2.2.2.1, u.2.2.2.2.2.2.2.2.2.1, u.2.2.2.2.2.2.2.2.2.2.1, u.2.2.2.2.2.2.2.2.2.2.2.1, x3, u.2.2.2.2.2.2.2.2.2.2.2.2.2.1, u.2.2.2.2.2.2.2.2.2.2.2.2.2.2.1, u.2.2.2.2.2.2.2.2.2.2.2.2.2.2.2.1, u.2.2.2.2.2.2.2.2.2.2.2.2.2.2.2.2.1, u.2.2.2.2.2.2.2.2.2.2.2.2.2.2.2.2.2), rfl, hw, by rw [ht]; exact hP, va_K.moved hW.alike hK, hD⟩, hS.F ht⟩) hS.2.2 dX6_takesOne_26
  · replace hw := Eq.mp (if_neg c2) hw
    refine lv_iconst (v := 1) hx hb dX6_takesOne_16 (by decide) ?_
    refine lv_goto (tgt := 21) hx hb dX6_takesOne_17 (by decide) ?_
    refine lv_iadd hx hb dX6_takesOne_21 ?_
    refine lv_topi (fun x4 ex4 => ?_)
    replace hw := hw x4 ex4
    refine va_put (D := D) (ci := 5) (v := .int x4) (ty := tyX6 9) (C := RX6) (T := TX6) (N := 18) hx hb hts (fun _ h => List.mem_cons_of_mem _ (List.mem_append_right _ h)) tyX6 tyX6_ok nmX6 hown hK hP hD hS 0 rfl rfl 9 (by decide) (hts (.fieldLink RX6 110 "HazelGiftModel" "at" "I") (List.mem_of_getElem? (i := 1) rfl)) (fun _ h9 => h9) rfl (tyX6_ok 9 (by decide)) rfl rfl (Nat.le_of_ble_eq_true rfl) dX6_takesOne_22 (fun H locs hP hD hS => ?_)
    have hP : va_P D vwCl (wM kI mo m0 m1 m2 m3 m4 m5 m6 m7 (u.1, u.2.1, u.2.2.1, u.2.2.2.1, u.2.2.2.2.1, u.2.2.2.2.2.1, u.2.2.2.2.2.2.1, u.2.2.2.2.2.2.2.1, u.2.2.2.2.2.2.2.2.1, u.2.2.2.2.2.2.2.2.2.1, u.2.2.2.2.2.2.2.2.2.2.1, u.2.2.2.2.2.2.2.2.2.2.2.1, x4, u.2.2.2.2.2.2.2.2.2.2.2.2.2.1, u.2.2.2.2.2.2.2.2.2.2.2.2.2.2.1, u.2.2.2.2.2.2.2.2.2.2.2.2.2.2.2.1, u.2.2.2.2.2.2.2.2.2.2.2.2.2.2.2.2.1, u.2.2.2.2.2.2.2.2.2.2.2.2.2.2.2.2.2)) H := hP
    have hD : va_D A (wM kI mo m0 m1 m2 m3 m4 m5 m6 m7 (u.1, u.2.1, u.2.2.1, u.2.2.2.1, u.2.2.2.2.1, u.2.2.2.2.2.1, u.2.2.2.2.2.2.1, u.2.2.2.2.2.2.2.1, u.2.2.2.2.2.2.2.2.1, u.2.2.2.2.2.2.2.2.2.1, u.2.2.2.2.2.2.2.2.2.2.1, u.2.2.2.2.2.2.2.2.2.2.2.1, x4, u.2.2.2.2.2.2.2.2.2.2.2.2.2.1, u.2.2.2.2.2.2.2.2.2.2.2.2.2.2.1, u.2.2.2.2.2.2.2.2.2.2.2.2.2.2.2.1, u.2.2.2.2.2.2.2.2.2.2.2.2.2.2.2.2.1, u.2.2.2.2.2.2.2.2.2.2.2.2.2.2.2.2.2)) := hD
    refine lv_iload_n hx hb dX6_takesOne_25 rfl (lv_at hl 0 rfl) ?_
    obtain ⟨hn, hw⟩ := hw
    exact W.zret (v := r1) hx hb hr hn (fun t ht hW => ⟨⟨r1, (u.1, u.2.1, u.2.2.1, u.2.2.2.1, u.2.2.2.2.1, u.2.2.2.2.2.1, u.2.2.2.2.2.2.1, u.2.2.2.2.2.2.2.1, u.2.2.2.2.2.2.2.2.1, u.2.2.2.2.2.2.2.2.2.1, u.2.2.2.2.2.2.2.2.2.2.1, u.2.2.2.2.2.2.2.2.2.2.2.1, x4, u.2.2.2.2.2.2.2.2.2.2.2.2.2.1, u.2.2.2.2.2.2.2.2.2.2.2.2.2.2.1, u.2.2.2.2.2.2.2.2.2.2.2.2.2.2.2.1, u.2.2.2.2.2.2.2.2.2.2.2.2.2.2.2.2.1, u.2.2.2.2.2.2.2.2.2.2.2.2.2.2.2.2.2), rfl, hw, by rw [ht]; exact hP, va_K.moved hW.alike hK, hD⟩, hS.F ht⟩) hS.2.2 dX6_takesOne_26
set_option maxHeartbeats 4000000 in
set_option maxRecDepth 100000 in
theorem kX6_readsMove (l : Launch) (D : va_G) (kI kC kG kJ : ClassId) (mo m0 m1 m2 m3 m4 m5 m6 m7 : Nat) (sz : Nat) (u : SM) (Z : Int32 → SM → Prop) (hw : pX6_readsMove u Z) : Met l yX6_readsMove wsX6_readsMove ({ frames := 3, cells := 0, slots := 0, locals := 69 } : Room) (gPw D (gT kI kC kG kJ) [.ref mo] (wM kI mo m0 m1 m2 m3 m4 m5 m6 m7 u) sz) (va_Qi Z (gB D (gT kI kC kG kJ) (fun (zz : SM) => wM kI mo m0 m1 m2 m3 m4 m5 m6 m7 zz) (va_A (wM kI mo m0 m1 m2 m3 m4 m5 m6 m7 u) sz)) (va_A (wM kI mo m0 m1 m2 m3 m4 m5 m6 m7 u) sz)) 0 0 (va_A (wM kI mo m0 m1 m2 m3 m4 m5 m6 m7 u) sz) := by
  refine Met.ofW (cc := cX6_readsMove) (maxL := 1) (ret := (some .boolean)) (by decide) rfl ?_
  intro p e s m args below meth c s₁ B hml hv
  obtain ⟨rfl, hsz, hP, hK, hD0, hE⟩ := hv
  have hx := B.exec
  have hb := B.bytes
  have hr := B.returns
  have hts := atoms_spec (ws := wsX6_readsMove) B.pre
  have hown : s.vm.findClass RX6 = some m.cls := findClass_of_methodNamed B.named
  have hlocks := B.notSynchronized
  subst hsz
  have hD := hD0.self (sz := s.heap.size)
  generalize hAe : va_A (wM kI mo m0 m1 m2 m3 m4 m5 m6 m7 u) s.heap.size = A at hD hE ⊢
  have hA : ∀ q : Nat, s.heap.size ≤ q → A q := fun q h => by rw [← hAe]; exact Or.inr h
  have hS : va_S A s.heap s.heap [] := va_S.rf
  clear hAe hD0
  have hl := lv_entry ([.ref mo]) (n := 1) (Nat.le_of_ble_eq_true rfl)
  rw [lg_entry_eq]
  generalize (lg_sl ([.ref mo]) ++ List.replicate (1 - (lg_sl ([.ref mo])).length) Slot.unset).toArray = ls at hl ⊢
  have hl : lv_has ls 1 [(0, .ref mo)] := hl
  have hP : va_P D vwCl (wM kI mo m0 m1 m2 m3 m4 m5 m6 m7 u) s.heap := hP
  unfold pX6_readsMove at hw
  refine lv_aload_n hx hb dX6_readsMove_0 rfl (lv_at hl 0 rfl) ?_
  refine lv_aload_n hx hb dX6_readsMove_1 rfl (lv_at hl 0 rfl) ?_
  refine va_get (D := D) (ci := 5) (v := .int u.2.2.2.2.2.2.2.2.2.2.2.2.1) (C := RX6) (T := TX6) (N := 18) hx hb hts (fun _ h => List.mem_cons_of_mem _ (List.mem_append_right _ h)) hown hK hP 0 rfl rfl 9 (by decide) (hts (.fieldLink RX6 110 "HazelGiftModel" "at" "I") (List.mem_of_getElem? (i := 1) rfl)) (fun _ h9 => h9) rfl dX6_readsMove_2 ?_
  refine lv_aload_n hx hb dX6_readsMove_5 rfl (lv_at hl 0 rfl) ?_
  refine va_get (D := D) (ci := 5) (v := .int u.2.2.2.2.2.2.2.2.2.2.2.1) (C := RX6) (T := TX6) (N := 18) hx hb hts (fun _ h => List.mem_cons_of_mem _ (List.mem_append_right _ h)) hown hK hP 0 rfl rfl 8 (by decide) (hts (.fieldLink RX6 107 "HazelGiftModel" "textLong" "I") (List.mem_of_getElem? (i := 2) rfl)) (fun _ h9 => h9) rfl dX6_readsMove_6 ?_
  refine lv_icmp_ge (tgt := 24) hx hb dX6_readsMove_9 (by decide) (fun c1 => ?_) (fun c1 => ?_)
  · replace hw := Eq.mp (if_pos c1) hw
    refine lv_iconst (v := 0) hx hb dX6_readsMove_24 (by decide) ?_
    refine va_put (D := D) (ci := 5) (v := .int 0) (ty := tyX6 10) (C := RX6) (T := TX6) (N := 18) hx hb hts (fun _ h => List.mem_cons_of_mem _ (List.mem_append_right _ h)) tyX6 tyX6_ok nmX6 hown hK hP hD hS 0 rfl rfl 10 (by decide) (hts (.fieldLink RX6 116 "HazelGiftModel" "sign" "I") (List.mem_of_getElem? (i := 4) rfl)) (fun _ h9 => h9) rfl (tyX6_ok 10 (by decide)) rfl rfl (Nat.le_of_ble_eq_true rfl) dX6_readsMove_25 (fun H locs hP hD hS => ?_)
    have hP : va_P D vwCl (wM kI mo m0 m1 m2 m3 m4 m5 m6 m7 (u.1, u.2.1, u.2.2.1, u.2.2.2.1, u.2.2.2.2.1, u.2.2.2.2.2.1, u.2.2.2.2.2.2.1, u.2.2.2.2.2.2.2.1, u.2.2.2.2.2.2.2.2.1, u.2.2.2.2.2.2.2.2.2.1, u.2.2.2.2.2.2.2.2.2.2.1, u.2.2.2.2.2.2.2.2.2.2.2.1, u.2.2.2.2.2.2.2.2.2.2.2.2.1, 0, u.2.2.2.2.2.2.2.2.2.2.2.2.2.2.1, u.2.2.2.2.2.2.2.2.2.2.2.2.2.2.2.1, u.2.2.2.2.2.2.2.2.2.2.2.2.2.2.2.2.1, u.2.2.2.2.2.2.2.2.2.2.2.2.2.2.2.2.2)) H := hP
    have hD : va_D A (wM kI mo m0 m1 m2 m3 m4 m5 m6 m7 (u.1, u.2.1, u.2.2.1, u.2.2.2.1, u.2.2.2.2.1, u.2.2.2.2.2.1, u.2.2.2.2.2.2.1, u.2.2.2.2.2.2.2.1, u.2.2.2.2.2.2.2.2.1, u.2.2.2.2.2.2.2.2.2.1, u.2.2.2.2.2.2.2.2.2.2.1, u.2.2.2.2.2.2.2.2.2.2.2.1, u.2.2.2.2.2.2.2.2.2.2.2.2.1, 0, u.2.2.2.2.2.2.2.2.2.2.2.2.2.2.1, u.2.2.2.2.2.2.2.2.2.2.2.2.2.2.2.1, u.2.2.2.2.2.2.2.2.2.2.2.2.2.2.2.2.1, u.2.2.2.2.2.2.2.2.2.2.2.2.2.2.2.2.2)) := hD
    refine lv_aload_n hx hb dX6_readsMove_28 rfl (lv_at hl 0 rfl) ?_
    refine lv_bipush (v := 103) hx hb dX6_readsMove_29 (by decide) ?_
    refine gWVi (S := SM) (As := [.int 103]) (rest := []) (wc := wM kI mo m0 m1 m2 m3 m4 m5 m6 m7 (u.1, u.2.1, u.2.2.1, u.2.2.2.1, u.2.2.2.2.1, u.2.2.2.2.2.1, u.2.2.2.2.2.2.1, u.2.2.2.2.2.2.2.1, u.2.2.2.2.2.2.2.2.1, u.2.2.2.2.2.2.2.2.2.1, u.2.2.2.2.2.2.2.2.2.2.1, u.2.2.2.2.2.2.2.2.2.2.2.1, u.2.2.2.2.2.2.2.2.2.2.2.2.1, 0, u.2.2.2.2.2.2.2.2.2.2.2.2.2.2.1, u.2.2.2.2.2.2.2.2.2.2.2.2.2.2.2.1, u.2.2.2.2.2.2.2.2.2.2.2.2.2.2.2.2.1, u.2.2.2.2.2.2.2.2.2.2.2.2.2.2.2.2.2)) (wr := []) (cs1 := (fun zz : SM => wM kI mo m0 m1 m2 m3 m4 m5 m6 m7 zz)) (ws2 := (fun zz : SM => wM kI mo m0 m1 m2 m3 m4 m5 m6 m7 zz)) ⟨hx, hb, hml, hown, hts⟩ (fun sz => kX6_takesOne l D kI kC kG kJ mo m0 m1 m2 m3 m4 m5 m6 m7 sz (u.1, u.2.1, u.2.2.1, u.2.2.2.1, u.2.2.2.2.1, u.2.2.2.2.2.1, u.2.2.2.2.2.2.1, u.2.2.2.2.2.2.2.1, u.2.2.2.2.2.2.2.2.1, u.2.2.2.2.2.2.2.2.2.1, u.2.2.2.2.2.2.2.2.2.2.1, u.2.2.2.2.2.2.2.2.2.2.2.1, u.2.2.2.2.2.2.2.2.2.2.2.2.1, 0, u.2.2.2.2.2.2.2.2.2.2.2.2.2.2.1, u.2.2.2.2.2.2.2.2.2.2.2.2.2.2.2.1, u.2.2.2.2.2.2.2.2.2.2.2.2.2.2.2.2.1, u.2.2.2.2.2.2.2.2.2.2.2.2.2.2.2.2.2) 103 _ hw) (cwV 1 hts gX6_readsMove_X6_takesOne rfl rfl rfl hdX6_takesOne ⟨Nat.le_of_ble_eq_true rfl, Nat.le_of_ble_eq_true rfl⟩) hK hP hD hE hS hA [0, 1, 2, 3, 4, 5, 6, 7, 8] [] rfl rfl rfl rfl (by decide) [0, 1, 2, 3, 4, 5, 6, 7, 8] rfl (fun _ => rfl) (ci := 5) (q0 := 0) rfl rfl rfl rfl hl.1 rfl (Nat.le_of_ble_eq_true rfl) dX6_readsMove_31 ⟨Nat.le_of_ble_eq_true rfl, Nat.le_of_ble_eq_true rfl⟩ (fun r2 w2 H locs hw hP hD hS => ?_)
    have hP : va_P D vwCl (wM kI mo m0 m1 m2 m3 m4 m5 m6 m7 w2) H := hP
    have hD : va_D A (wM kI mo m0 m1 m2 m3 m4 m5 m6 m7 w2) := hD
    refine lv_if_ne (tgt := 46) hx hb dX6_readsMove_34 (by decide) (fun c3 => ?_) (fun c3 => ?_)
    · replace hw := Eq.mp (if_neg c3) hw
      refine lv_aload_n hx hb dX6_readsMove_46 rfl (lv_at hl 0 rfl) ?_
      refine lv_bipush (v := 48) hx hb dX6_readsMove_47 (by decide) ?_
      refine lv_bipush (v := 57) hx hb dX6_readsMove_49 (by decide) ?_
      refine gVi (As := [.int 48, .int 57]) (rest := []) (cs' := wM kI mo m0 m1 m2 m3 m4 m5 m6 m7 w2) ⟨hx, hb, hml, hown, hts⟩ (kX6_isHere l D kI kC kG kJ mo m0 m1 m2 m3 m4 m5 m6 m7 w2 48 57 _ hw) (cwV 2 hts gX6_readsMove_X6_isHere rfl rfl rfl hdX6_isHere ⟨Nat.le_of_ble_eq_true rfl, Nat.le_of_ble_eq_true rfl⟩) hK hP hE hS [0, 1, 2, 3, 4, 5, 6, 7, 8] rfl (ci := 5) (q0 := 0) rfl rfl rfl rfl hl.1 rfl (Nat.le_of_ble_eq_true rfl) dX6_readsMove_51 ⟨Nat.le_of_ble_eq_true rfl, Nat.le_of_ble_eq_true rfl⟩ (fun r4 hw => ?_)
      refine lv_if_ne (tgt := 59) hx hb dX6_readsMove_54 (by decide) (fun c5 => ?_) (fun c5 => ?_)
      · replace hw := Eq.mp (if_neg c5) hw
        refine lv_aload_n hx hb dX6_readsMove_59 rfl (lv_at hl 0 rfl) ?_
        refine lv_aload_n hx hb dX6_readsMove_60 rfl (lv_at hl 0 rfl) ?_
        refine va_get (D := D) (ci := 5) (v := .ref m4) (C := RX6) (T := TX6) (N := 18) hx hb hts (fun _ h => List.mem_cons_of_mem _ (List.mem_append_right _ h)) hown hK hP 0 rfl rfl 7 (by decide) (hts (.fieldLink RX6 22 "HazelGiftModel" "text" "[I") (List.mem_of_getElem? (i := 3) rfl)) (fun _ h9 => h9) rfl dX6_readsMove_61 ?_
        refine lv_aload_n hx hb dX6_readsMove_64 rfl (lv_at hl 0 rfl) ?_
        refine va_get (D := D) (ci := 5) (v := .int w2.2.2.2.2.2.2.2.2.2.2.2.2.1) (C := RX6) (T := TX6) (N := 18) hx hb hts (fun _ h => List.mem_cons_of_mem _ (List.mem_append_right _ h)) hown hK hP 0 rfl rfl 9 (by decide) (hts (.fieldLink RX6 110 "HazelGiftModel" "at" "I") (List.mem_of_getElem? (i := 1) rfl)) (fun _ h9 => h9) rfl dX6_readsMove_65 ?_
        obtain ⟨hi6, hw⟩ := hw
        refine gIald (k := (w2.2.2.2.2.2.2.2.2.2.2.2.2.1).toNatClampNeg) hx hb hK hP 5 0 rfl rfl hi6 rfl dX6_readsMove_68 ?_
        refine lv_bipush (v := 48) hx hb dX6_readsMove_69 (by decide) ?_
        refine lv_isub hx hb dX6_readsMove_71 ?_
        refine lv_topi (fun x7 ex7 => ?_)
        replace hw := hw x7 ex7
        refine va_put (D := D) (ci := 5) (v := .int x7) (ty := tyX6 11) (C := RX6) (T := TX6) (N := 18) hx hb hts (fun _ h => List.mem_cons_of_mem _ (List.mem_append_right _ h)) tyX6 tyX6_ok nmX6 hown hK hP hD hS 0 rfl rfl 11 (by decide) (hts (.fieldLink RX6 122 "HazelGiftModel" "number" "I") (List.mem_of_getElem? (i := 5) rfl)) (fun _ h9 => h9) rfl (tyX6_ok 11 (by decide)) rfl rfl (Nat.le_of_ble_eq_true rfl) dX6_readsMove_72 (fun H locs hP hD hS => ?_)
        have hP : va_P D vwCl (wM kI mo m0 m1 m2 m3 m4 m5 m6 m7 (w2.1, w2.2.1, w2.2.2.1, w2.2.2.2.1, w2.2.2.2.2.1, w2.2.2.2.2.2.1, w2.2.2.2.2.2.2.1, w2.2.2.2.2.2.2.2.1, w2.2.2.2.2.2.2.2.2.1, w2.2.2.2.2.2.2.2.2.2.1, w2.2.2.2.2.2.2.2.2.2.2.1, w2.2.2.2.2.2.2.2.2.2.2.2.1, w2.2.2.2.2.2.2.2.2.2.2.2.2.1, w2.2.2.2.2.2.2.2.2.2.2.2.2.2.1, x7, w2.2.2.2.2.2.2.2.2.2.2.2.2.2.2.2.1, w2.2.2.2.2.2.2.2.2.2.2.2.2.2.2.2.2.1, w2.2.2.2.2.2.2.2.2.2.2.2.2.2.2.2.2.2)) H := hP
        have hD : va_D A (wM kI mo m0 m1 m2 m3 m4 m5 m6 m7 (w2.1, w2.2.1, w2.2.2.1, w2.2.2.2.1, w2.2.2.2.2.1, w2.2.2.2.2.2.1, w2.2.2.2.2.2.2.1, w2.2.2.2.2.2.2.2.1, w2.2.2.2.2.2.2.2.2.1, w2.2.2.2.2.2.2.2.2.2.1, w2.2.2.2.2.2.2.2.2.2.2.1, w2.2.2.2.2.2.2.2.2.2.2.2.1, w2.2.2.2.2.2.2.2.2.2.2.2.2.1, w2.2.2.2.2.2.2.2.2.2.2.2.2.2.1, x7, w2.2.2.2.2.2.2.2.2.2.2.2.2.2.2.2.1, w2.2.2.2.2.2.2.2.2.2.2.2.2.2.2.2.2.1, w2.2.2.2.2.2.2.2.2.2.2.2.2.2.2.2.2.2)) := hD
        refine lv_aload_n hx hb dX6_readsMove_75 rfl (lv_at hl 0 rfl) ?_
        refine lv_dup hx hb dX6_readsMove_76 rfl ?_
        refine va_get (D := D) (ci := 5) (v := .int w2.2.2.2.2.2.2.2.2.2.2.2.2.1) (C := RX6) (T := TX6) (N := 18) hx hb hts (fun _ h => List.mem_cons_of_mem _ (List.mem_append_right _ h)) hown hK hP 0 rfl rfl 9 (by decide) (hts (.fieldLink RX6 110 "HazelGiftModel" "at" "I") (List.mem_of_getElem? (i := 1) rfl)) (fun _ h9 => h9) rfl dX6_readsMove_77 ?_
        refine lv_iconst (v := 1) hx hb dX6_readsMove_80 (by decide) ?_
        refine lv_iadd hx hb dX6_readsMove_81 ?_
        refine lv_topi (fun x8 ex8 => ?_)
        replace hw := hw x8 ex8
        refine va_put (D := D) (ci := 5) (v := .int x8) (ty := tyX6 9) (C := RX6) (T := TX6) (N := 18) hx hb hts (fun _ h => List.mem_cons_of_mem _ (List.mem_append_right _ h)) tyX6 tyX6_ok nmX6 hown hK hP hD hS 0 rfl rfl 9 (by decide) (hts (.fieldLink RX6 110 "HazelGiftModel" "at" "I") (List.mem_of_getElem? (i := 1) rfl)) (fun _ h9 => h9) rfl (tyX6_ok 9 (by decide)) rfl rfl (Nat.le_of_ble_eq_true rfl) dX6_readsMove_82 (fun H locs hP hD hS => ?_)
        have hP : va_P D vwCl (wM kI mo m0 m1 m2 m3 m4 m5 m6 m7 (w2.1, w2.2.1, w2.2.2.1, w2.2.2.2.1, w2.2.2.2.2.1, w2.2.2.2.2.2.1, w2.2.2.2.2.2.2.1, w2.2.2.2.2.2.2.2.1, w2.2.2.2.2.2.2.2.2.1, w2.2.2.2.2.2.2.2.2.2.1, w2.2.2.2.2.2.2.2.2.2.2.1, w2.2.2.2.2.2.2.2.2.2.2.2.1, x8, w2.2.2.2.2.2.2.2.2.2.2.2.2.2.1, x7, w2.2.2.2.2.2.2.2.2.2.2.2.2.2.2.2.1, w2.2.2.2.2.2.2.2.2.2.2.2.2.2.2.2.2.1, w2.2.2.2.2.2.2.2.2.2.2.2.2.2.2.2.2.2)) H := hP
        have hD : va_D A (wM kI mo m0 m1 m2 m3 m4 m5 m6 m7 (w2.1, w2.2.1, w2.2.2.1, w2.2.2.2.1, w2.2.2.2.2.1, w2.2.2.2.2.2.1, w2.2.2.2.2.2.2.1, w2.2.2.2.2.2.2.2.1, w2.2.2.2.2.2.2.2.2.1, w2.2.2.2.2.2.2.2.2.2.1, w2.2.2.2.2.2.2.2.2.2.2.1, w2.2.2.2.2.2.2.2.2.2.2.2.1, x8, w2.2.2.2.2.2.2.2.2.2.2.2.2.2.1, x7, w2.2.2.2.2.2.2.2.2.2.2.2.2.2.2.2.1, w2.2.2.2.2.2.2.2.2.2.2.2.2.2.2.2.2.1, w2.2.2.2.2.2.2.2.2.2.2.2.2.2.2.2.2.2)) := hD
        refine lv_aload_n hx hb dX6_readsMove_85 rfl (lv_at hl 0 rfl) ?_
        refine va_get (D := D) (ci := 5) (v := .int x7) (C := RX6) (T := TX6) (N := 18) hx hb hts (fun _ h => List.mem_cons_of_mem _ (List.mem_append_right _ h)) hown hK hP 0 rfl rfl 11 (by decide) (hts (.fieldLink RX6 122 "HazelGiftModel" "number" "I") (List.mem_of_getElem? (i := 5) rfl)) (fun _ h9 => h9) rfl dX6_readsMove_86 ?_
        refine lv_iconst (v := 1) hx hb dX6_readsMove_89 (by decide) ?_
        refine lv_icmp_ne (tgt := 133) hx hb dX6_readsMove_90 (by decide) (fun c9 => ?_) (fun c9 => ?_)
        · replace hw := Eq.mp (if_neg c9) hw
          refine lv_iconst (v := 1) hx hb dX6_readsMove_133 (by decide) ?_
          exact W.zret (v := 1) hx hb hr rfl (fun t ht hW => ⟨⟨1, (w2.1, w2.2.1, w2.2.2.1, w2.2.2.2.1, w2.2.2.2.2.1, w2.2.2.2.2.2.1, w2.2.2.2.2.2.2.1, w2.2.2.2.2.2.2.2.1, w2.2.2.2.2.2.2.2.2.1, w2.2.2.2.2.2.2.2.2.2.1, w2.2.2.2.2.2.2.2.2.2.2.1, w2.2.2.2.2.2.2.2.2.2.2.2.1, x8, w2.2.2.2.2.2.2.2.2.2.2.2.2.2.1, x7, w2.2.2.2.2.2.2.2.2.2.2.2.2.2.2.2.1, w2.2.2.2.2.2.2.2.2.2.2.2.2.2.2.2.2.1, w2.2.2.2.2.2.2.2.2.2.2.2.2.2.2.2.2.2), rfl, hw, by rw [ht]; exact hP, va_K.moved hW.alike hK, hD⟩, hS.F ht⟩) hS.2.2 dX6_readsMove_134
        · replace hw := Eq.mp (if_pos c9) hw
          refine lv_aload_n hx hb dX6_readsMove_93 rfl (lv_at hl 0 rfl) ?_
          refine lv_bipush (v := 48) hx hb dX6_readsMove_94 (by decide) ?_
          refine lv_bipush (v := 53) hx hb dX6_readsMove_96 (by decide) ?_
          refine gVi (As := [.int 48, .int 53]) (rest := []) (cs' := wM kI mo m0 m1 m2 m3 m4 m5 m6 m7 (w2.1, w2.2.1, w2.2.2.1, w2.2.2.2.1, w2.2.2.2.2.1, w2.2.2.2.2.2.1, w2.2.2.2.2.2.2.1, w2.2.2.2.2.2.2.2.1, w2.2.2.2.2.2.2.2.2.1, w2.2.2.2.2.2.2.2.2.2.1, w2.2.2.2.2.2.2.2.2.2.2.1, w2.2.2.2.2.2.2.2.2.2.2.2.1, x8, w2.2.2.2.2.2.2.2.2.2.2.2.2.2.1, x7, w2.2.2.2.2.2.2.2.2.2.2.2.2.2.2.2.1, w2.2.2.2.2.2.2.2.2.2.2.2.2.2.2.2.2.1, w2.2.2.2.2.2.2.2.2.2.2.2.2.2.2.2.2.2)) ⟨hx, hb, hml, hown, hts⟩ (kX6_isHere l D kI kC kG kJ mo m0 m1 m2 m3 m4 m5 m6 m7 (w2.1, w2.2.1, w2.2.2.1, w2.2.2.2.1, w2.2.2.2.2.1, w2.2.2.2.2.2.1, w2.2.2.2.2.2.2.1, w2.2.2.2.2.2.2.2.1, w2.2.2.2.2.2.2.2.2.1, w2.2.2.2.2.2.2.2.2.2.1, w2.2.2.2.2.2.2.2.2.2.2.1, w2.2.2.2.2.2.2.2.2.2.2.2.1, x8, w2.2.2.2.2.2.2.2.2.2.2.2.2.2.1, x7, w2.2.2.2.2.2.2.2.2.2.2.2.2.2.2.2.1, w2.2.2.2.2.2.2.2.2.2.2.2.2.2.2.2.2.1, w2.2.2.2.2.2.2.2.2.2.2.2.2.2.2.2.2.2) 48 53 _ hw) (cwV 2 hts gX6_readsMove_X6_isHere rfl rfl rfl hdX6_isHere ⟨Nat.le_of_ble_eq_true rfl, Nat.le_of_ble_eq_true rfl⟩) hK hP hE hS [0, 1, 2, 3, 4, 5, 6, 7, 8] rfl (ci := 5) (q0 := 0) rfl rfl rfl rfl hl.1 rfl (Nat.le_of_ble_eq_true rfl) dX6_readsMove_98 ⟨Nat.le_of_ble_eq_true rfl, Nat.le_of_ble_eq_true rfl⟩ (fun r10 hw => ?_)
          refine lv_if_eq (tgt := 133) hx hb dX6_readsMove_101 (by decide) (fun c11 => ?_) (fun c11 => ?_)
          · replace hw := Eq.mp (if_pos c11) hw
            refine lv_iconst (v := 1) hx hb dX6_readsMove_133 (by decide) ?_
            exact W.zret (v := 1) hx hb hr rfl (fun t ht hW => ⟨⟨1, (w2.1, w2.2.1, w2.2.2.1, w2.2.2.2.1, w2.2.2.2.2.1, w2.2.2.2.2.2.1, w2.2.2.2.2.2.2.1, w2.2.2.2.2.2.2.2.1, w2.2.2.2.2.2.2.2.2.1, w2.2.2.2.2.2.2.2.2.2.1, w2.2.2.2.2.2.2.2.2.2.2.1, w2.2.2.2.2.2.2.2.2.2.2.2.1, x8, w2.2.2.2.2.2.2.2.2.2.2.2.2.2.1, x7, w2.2.2.2.2.2.2.2.2.2.2.2.2.2.2.2.1, w2.2.2.2.2.2.2.2.2.2.2.2.2.2.2.2.2.1, w2.2.2.2.2.2.2.2.2.2.2.2.2.2.2.2.2.2), rfl, hw, by rw [ht]; exact hP, va_K.moved hW.alike hK, hD⟩, hS.F ht⟩) hS.2.2 dX6_readsMove_134
          · replace hw := Eq.mp (if_neg c11) hw
            refine lv_aload_n hx hb dX6_readsMove_104 rfl (lv_at hl 0 rfl) ?_
            refine lv_bipush (v := 10) hx hb dX6_readsMove_105 (by decide) ?_
            refine lv_aload_n hx hb dX6_readsMove_107 rfl (lv_at hl 0 rfl) ?_
            refine va_get (D := D) (ci := 5) (v := .ref m4) (C := RX6) (T := TX6) (N := 18) hx hb hts (fun _ h => List.mem_cons_of_mem _ (List.mem_append_right _ h)) hown hK hP 0 rfl rfl 7 (by decide) (hts (.fieldLink RX6 22 "HazelGiftModel" "text" "[I") (List.mem_of_getElem? (i := 3) rfl)) (fun _ h9 => h9) rfl dX6_readsMove_108 ?_
            refine lv_aload_n hx hb dX6_readsMove_111 rfl (lv_at hl 0 rfl) ?_
            refine va_get (D := D) (ci := 5) (v := .int x8) (C := RX6) (T := TX6) (N := 18) hx hb hts (fun _ h => List.mem_cons_of_mem _ (List.mem_append_right _ h)) hown hK hP 0 rfl rfl 9 (by decide) (hts (.fieldLink RX6 110 "HazelGiftModel" "at" "I") (List.mem_of_getElem? (i := 1) rfl)) (fun _ h9 => h9) rfl dX6_readsMove_112 ?_
            obtain ⟨hi12, hw⟩ := hw
            refine gIald (k := (x8).toNatClampNeg) hx hb hK hP 5 0 rfl rfl hi12 rfl dX6_readsMove_115 ?_
            refine lv_iadd hx hb dX6_readsMove_116 ?_
            refine lv_bipush (v := 48) hx hb dX6_readsMove_117 (by decide) ?_
            refine lv_isub hx hb dX6_readsMove_119 ?_
            refine lv_topi (fun x13 ex13 => ?_)
            replace hw := hw x13 ex13
            refine va_put (D := D) (ci := 5) (v := .int x13) (ty := tyX6 11) (C := RX6) (T := TX6) (N := 18) hx hb hts (fun _ h => List.mem_cons_of_mem _ (List.mem_append_right _ h)) tyX6 tyX6_ok nmX6 hown hK hP hD hS 0 rfl rfl 11 (by decide) (hts (.fieldLink RX6 122 "HazelGiftModel" "number" "I") (List.mem_of_getElem? (i := 5) rfl)) (fun _ h9 => h9) rfl (tyX6_ok 11 (by decide)) rfl rfl (Nat.le_of_ble_eq_true rfl) dX6_readsMove_120 (fun H locs hP hD hS => ?_)
            have hP : va_P D vwCl (wM kI mo m0 m1 m2 m3 m4 m5 m6 m7 (w2.1, w2.2.1, w2.2.2.1, w2.2.2.2.1, w2.2.2.2.2.1, w2.2.2.2.2.2.1, w2.2.2.2.2.2.2.1, w2.2.2.2.2.2.2.2.1, w2.2.2.2.2.2.2.2.2.1, w2.2.2.2.2.2.2.2.2.2.1, w2.2.2.2.2.2.2.2.2.2.2.1, w2.2.2.2.2.2.2.2.2.2.2.2.1, x8, w2.2.2.2.2.2.2.2.2.2.2.2.2.2.1, x13, w2.2.2.2.2.2.2.2.2.2.2.2.2.2.2.2.1, w2.2.2.2.2.2.2.2.2.2.2.2.2.2.2.2.2.1, w2.2.2.2.2.2.2.2.2.2.2.2.2.2.2.2.2.2)) H := hP
            have hD : va_D A (wM kI mo m0 m1 m2 m3 m4 m5 m6 m7 (w2.1, w2.2.1, w2.2.2.1, w2.2.2.2.1, w2.2.2.2.2.1, w2.2.2.2.2.2.1, w2.2.2.2.2.2.2.1, w2.2.2.2.2.2.2.2.1, w2.2.2.2.2.2.2.2.2.1, w2.2.2.2.2.2.2.2.2.2.1, w2.2.2.2.2.2.2.2.2.2.2.1, w2.2.2.2.2.2.2.2.2.2.2.2.1, x8, w2.2.2.2.2.2.2.2.2.2.2.2.2.2.1, x13, w2.2.2.2.2.2.2.2.2.2.2.2.2.2.2.2.1, w2.2.2.2.2.2.2.2.2.2.2.2.2.2.2.2.2.1, w2.2.2.2.2.2.2.2.2.2.2.2.2.2.2.2.2.2)) := hD
            refine lv_aload_n hx hb dX6_readsMove_123 rfl (lv_at hl 0 rfl) ?_
            refine lv_dup hx hb dX6_readsMove_124 rfl ?_
            refine va_get (D := D) (ci := 5) (v := .int x8) (C := RX6) (T := TX6) (N := 18) hx hb hts (fun _ h => List.mem_cons_of_mem _ (List.mem_append_right _ h)) hown hK hP 0 rfl rfl 9 (by decide) (hts (.fieldLink RX6 110 "HazelGiftModel" "at" "I") (List.mem_of_getElem? (i := 1) rfl)) (fun _ h9 => h9) rfl dX6_readsMove_125 ?_
            refine lv_iconst (v := 1) hx hb dX6_readsMove_128 (by decide) ?_
            refine lv_iadd hx hb dX6_readsMove_129 ?_
            refine lv_topi (fun x14 ex14 => ?_)
            replace hw := hw x14 ex14
            refine va_put (D := D) (ci := 5) (v := .int x14) (ty := tyX6 9) (C := RX6) (T := TX6) (N := 18) hx hb hts (fun _ h => List.mem_cons_of_mem _ (List.mem_append_right _ h)) tyX6 tyX6_ok nmX6 hown hK hP hD hS 0 rfl rfl 9 (by decide) (hts (.fieldLink RX6 110 "HazelGiftModel" "at" "I") (List.mem_of_getElem? (i := 1) rfl)) (fun _ h9 => h9) rfl (tyX6_ok 9 (by decide)) rfl rfl (Nat.le_of_ble_eq_true rfl) dX6_readsMove_130 (fun H locs hP hD hS => ?_)
            have hP : va_P D vwCl (wM kI mo m0 m1 m2 m3 m4 m5 m6 m7 (w2.1, w2.2.1, w2.2.2.1, w2.2.2.2.1, w2.2.2.2.2.1, w2.2.2.2.2.2.1, w2.2.2.2.2.2.2.1, w2.2.2.2.2.2.2.2.1, w2.2.2.2.2.2.2.2.2.1, w2.2.2.2.2.2.2.2.2.2.1, w2.2.2.2.2.2.2.2.2.2.2.1, w2.2.2.2.2.2.2.2.2.2.2.2.1, x14, w2.2.2.2.2.2.2.2.2.2.2.2.2.2.1, x13, w2.2.2.2.2.2.2.2.2.2.2.2.2.2.2.2.1, w2.2.2.2.2.2.2.2.2.2.2.2.2.2.2.2.2.1, w2.2.2.2.2.2.2.2.2.2.2.2.2.2.2.2.2.2)) H := hP
            have hD : va_D A (wM kI mo m0 m1 m2 m3 m4 m5 m6 m7 (w2.1, w2.2.1, w2.2.2.1, w2.2.2.2.1, w2.2.2.2.2.1, w2.2.2.2.2.2.1, w2.2.2.2.2.2.2.1, w2.2.2.2.2.2.2.2.1, w2.2.2.2.2.2.2.2.2.1, w2.2.2.2.2.2.2.2.2.2.1, w2.2.2.2.2.2.2.2.2.2.2.1, w2.2.2.2.2.2.2.2.2.2.2.2.1, x14, w2.2.2.2.2.2.2.2.2.2.2.2.2.2.1, x13, w2.2.2.2.2.2.2.2.2.2.2.2.2.2.2.2.1, w2.2.2.2.2.2.2.2.2.2.2.2.2.2.2.2.2.1, w2.2.2.2.2.2.2.2.2.2.2.2.2.2.2.2.2.2)) := hD
            refine lv_iconst (v := 1) hx hb dX6_readsMove_133 (by decide) ?_
            exact W.zret (v := 1) hx hb hr rfl (fun t ht hW => ⟨⟨1, (w2.1, w2.2.1, w2.2.2.1, w2.2.2.2.1, w2.2.2.2.2.1, w2.2.2.2.2.2.1, w2.2.2.2.2.2.2.1, w2.2.2.2.2.2.2.2.1, w2.2.2.2.2.2.2.2.2.1, w2.2.2.2.2.2.2.2.2.2.1, w2.2.2.2.2.2.2.2.2.2.2.1, w2.2.2.2.2.2.2.2.2.2.2.2.1, x14, w2.2.2.2.2.2.2.2.2.2.2.2.2.2.1, x13, w2.2.2.2.2.2.2.2.2.2.2.2.2.2.2.2.1, w2.2.2.2.2.2.2.2.2.2.2.2.2.2.2.2.2.1, w2.2.2.2.2.2.2.2.2.2.2.2.2.2.2.2.2.2), rfl, hw, by rw [ht]; exact hP, va_K.moved hW.alike hK, hD⟩, hS.F ht⟩) hS.2.2 dX6_readsMove_134
      · replace hw := Eq.mp (if_pos c5) hw
        refine lv_iconst (v := 0) hx hb dX6_readsMove_57 (by decide) ?_
        exact W.zret (v := 0) hx hb hr rfl (fun t ht hW => ⟨⟨0, w2, rfl, hw, by rw [ht]; exact hP, va_K.moved hW.alike hK, hD⟩, hS.F ht⟩) hS.2.2 dX6_readsMove_58
    · replace hw := Eq.mp (if_pos c3) hw
      refine lv_aload_n hx hb dX6_readsMove_37 rfl (lv_at hl 0 rfl) ?_
      refine lv_bipush (v := 112) hx hb dX6_readsMove_38 (by decide) ?_
      refine gWVi (S := SM) (As := [.int 112]) (rest := []) (wc := wM kI mo m0 m1 m2 m3 m4 m5 m6 m7 w2) (wr := []) (cs1 := (fun zz : SM => wM kI mo m0 m1 m2 m3 m4 m5 m6 m7 zz)) (ws2 := (fun zz : SM => wM kI mo m0 m1 m2 m3 m4 m5 m6 m7 zz)) ⟨hx, hb, hml, hown, hts⟩ (fun sz => kX6_takesOne l D kI kC kG kJ mo m0 m1 m2 m3 m4 m5 m6 m7 sz w2 112 _ hw) (cwV 1 hts gX6_readsMove_X6_takesOne rfl rfl rfl hdX6_takesOne ⟨Nat.le_of_ble_eq_true rfl, Nat.le_of_ble_eq_true rfl⟩) hK hP hD hE hS hA [0, 1, 2, 3, 4, 5, 6, 7, 8] [] rfl rfl rfl rfl (by decide) [0, 1, 2, 3, 4, 5, 6, 7, 8] rfl (fun _ => rfl) (ci := 5) (q0 := 0) rfl rfl rfl rfl hl.1 rfl (Nat.le_of_ble_eq_true rfl) dX6_readsMove_40 ⟨Nat.le_of_ble_eq_true rfl, Nat.le_of_ble_eq_true rfl⟩ (fun r15 w15 H locs hw hP hD hS => ?_)
      have hP : va_P D vwCl (wM kI mo m0 m1 m2 m3 m4 m5 m6 m7 w15) H := hP
      have hD : va_D A (wM kI mo m0 m1 m2 m3 m4 m5 m6 m7 w15) := hD
      refine lv_if_eq (tgt := 57) hx hb dX6_readsMove_43 (by decide) (fun c16 => ?_) (fun c16 => ?_)
      · replace hw := Eq.mp (if_pos c16) hw
        refine lv_iconst (v := 0) hx hb dX6_readsMove_57 (by decide) ?_
        exact W.zret (v := 0) hx hb hr rfl (fun t ht hW => ⟨⟨0, w15, rfl, hw, by rw [ht]; exact hP, va_K.moved hW.alike hK, hD⟩, hS.F ht⟩) hS.2.2 dX6_readsMove_58
      · replace hw := Eq.mp (if_neg c16) hw
        refine lv_aload_n hx hb dX6_readsMove_46 rfl (lv_at hl 0 rfl) ?_
        refine lv_bipush (v := 48) hx hb dX6_readsMove_47 (by decide) ?_
        refine lv_bipush (v := 57) hx hb dX6_readsMove_49 (by decide) ?_
        refine gVi (As := [.int 48, .int 57]) (rest := []) (cs' := wM kI mo m0 m1 m2 m3 m4 m5 m6 m7 w15) ⟨hx, hb, hml, hown, hts⟩ (kX6_isHere l D kI kC kG kJ mo m0 m1 m2 m3 m4 m5 m6 m7 w15 48 57 _ hw) (cwV 2 hts gX6_readsMove_X6_isHere rfl rfl rfl hdX6_isHere ⟨Nat.le_of_ble_eq_true rfl, Nat.le_of_ble_eq_true rfl⟩) hK hP hE hS [0, 1, 2, 3, 4, 5, 6, 7, 8] rfl (ci := 5) (q0 := 0) rfl rfl rfl rfl hl.1 rfl (Nat.le_of_ble_eq_true rfl) dX6_readsMove_51 ⟨Nat.le_of_ble_eq_true rfl, Nat.le_of_ble_eq_true rfl⟩ (fun r17 hw => ?_)
        refine lv_if_ne (tgt := 59) hx hb dX6_readsMove_54 (by decide) (fun c18 => ?_) (fun c18 => ?_)
        · replace hw := Eq.mp (if_neg c18) hw
          refine lv_aload_n hx hb dX6_readsMove_59 rfl (lv_at hl 0 rfl) ?_
          refine lv_aload_n hx hb dX6_readsMove_60 rfl (lv_at hl 0 rfl) ?_
          refine va_get (D := D) (ci := 5) (v := .ref m4) (C := RX6) (T := TX6) (N := 18) hx hb hts (fun _ h => List.mem_cons_of_mem _ (List.mem_append_right _ h)) hown hK hP 0 rfl rfl 7 (by decide) (hts (.fieldLink RX6 22 "HazelGiftModel" "text" "[I") (List.mem_of_getElem? (i := 3) rfl)) (fun _ h9 => h9) rfl dX6_readsMove_61 ?_
          refine lv_aload_n hx hb dX6_readsMove_64 rfl (lv_at hl 0 rfl) ?_
          refine va_get (D := D) (ci := 5) (v := .int w15.2.2.2.2.2.2.2.2.2.2.2.2.1) (C := RX6) (T := TX6) (N := 18) hx hb hts (fun _ h => List.mem_cons_of_mem _ (List.mem_append_right _ h)) hown hK hP 0 rfl rfl 9 (by decide) (hts (.fieldLink RX6 110 "HazelGiftModel" "at" "I") (List.mem_of_getElem? (i := 1) rfl)) (fun _ h9 => h9) rfl dX6_readsMove_65 ?_
          obtain ⟨hi19, hw⟩ := hw
          refine gIald (k := (w15.2.2.2.2.2.2.2.2.2.2.2.2.1).toNatClampNeg) hx hb hK hP 5 0 rfl rfl hi19 rfl dX6_readsMove_68 ?_
          refine lv_bipush (v := 48) hx hb dX6_readsMove_69 (by decide) ?_
          refine lv_isub hx hb dX6_readsMove_71 ?_
          refine lv_topi (fun x20 ex20 => ?_)
          replace hw := hw x20 ex20
          refine va_put (D := D) (ci := 5) (v := .int x20) (ty := tyX6 11) (C := RX6) (T := TX6) (N := 18) hx hb hts (fun _ h => List.mem_cons_of_mem _ (List.mem_append_right _ h)) tyX6 tyX6_ok nmX6 hown hK hP hD hS 0 rfl rfl 11 (by decide) (hts (.fieldLink RX6 122 "HazelGiftModel" "number" "I") (List.mem_of_getElem? (i := 5) rfl)) (fun _ h9 => h9) rfl (tyX6_ok 11 (by decide)) rfl rfl (Nat.le_of_ble_eq_true rfl) dX6_readsMove_72 (fun H locs hP hD hS => ?_)
          have hP : va_P D vwCl (wM kI mo m0 m1 m2 m3 m4 m5 m6 m7 (w15.1, w15.2.1, w15.2.2.1, w15.2.2.2.1, w15.2.2.2.2.1, w15.2.2.2.2.2.1, w15.2.2.2.2.2.2.1, w15.2.2.2.2.2.2.2.1, w15.2.2.2.2.2.2.2.2.1, w15.2.2.2.2.2.2.2.2.2.1, w15.2.2.2.2.2.2.2.2.2.2.1, w15.2.2.2.2.2.2.2.2.2.2.2.1, w15.2.2.2.2.2.2.2.2.2.2.2.2.1, w15.2.2.2.2.2.2.2.2.2.2.2.2.2.1, x20, w15.2.2.2.2.2.2.2.2.2.2.2.2.2.2.2.1, w15.2.2.2.2.2.2.2.2.2.2.2.2.2.2.2.2.1, w15.2.2.2.2.2.2.2.2.2.2.2.2.2.2.2.2.2)) H := hP
          have hD : va_D A (wM kI mo m0 m1 m2 m3 m4 m5 m6 m7 (w15.1, w15.2.1, w15.2.2.1, w15.2.2.2.1, w15.2.2.2.2.1, w15.2.2.2.2.2.1, w15.2.2.2.2.2.2.1, w15.2.2.2.2.2.2.2.1, w15.2.2.2.2.2.2.2.2.1, w15.2.2.2.2.2.2.2.2.2.1, w15.2.2.2.2.2.2.2.2.2.2.1, w15.2.2.2.2.2.2.2.2.2.2.2.1, w15.2.2.2.2.2.2.2.2.2.2.2.2.1, w15.2.2.2.2.2.2.2.2.2.2.2.2.2.1, x20, w15.2.2.2.2.2.2.2.2.2.2.2.2.2.2.2.1, w15.2.2.2.2.2.2.2.2.2.2.2.2.2.2.2.2.1, w15.2.2.2.2.2.2.2.2.2.2.2.2.2.2.2.2.2)) := hD
          refine lv_aload_n hx hb dX6_readsMove_75 rfl (lv_at hl 0 rfl) ?_
          refine lv_dup hx hb dX6_readsMove_76 rfl ?_
          refine va_get (D := D) (ci := 5) (v := .int w15.2.2.2.2.2.2.2.2.2.2.2.2.1) (C := RX6) (T := TX6) (N := 18) hx hb hts (fun _ h => List.mem_cons_of_mem _ (List.mem_append_right _ h)) hown hK hP 0 rfl rfl 9 (by decide) (hts (.fieldLink RX6 110 "HazelGiftModel" "at" "I") (List.mem_of_getElem? (i := 1) rfl)) (fun _ h9 => h9) rfl dX6_readsMove_77 ?_
          refine lv_iconst (v := 1) hx hb dX6_readsMove_80 (by decide) ?_
          refine lv_iadd hx hb dX6_readsMove_81 ?_
          refine lv_topi (fun x21 ex21 => ?_)
          replace hw := hw x21 ex21
          refine va_put (D := D) (ci := 5) (v := .int x21) (ty := tyX6 9) (C := RX6) (T := TX6) (N := 18) hx hb hts (fun _ h => List.mem_cons_of_mem _ (List.mem_append_right _ h)) tyX6 tyX6_ok nmX6 hown hK hP hD hS 0 rfl rfl 9 (by decide) (hts (.fieldLink RX6 110 "HazelGiftModel" "at" "I") (List.mem_of_getElem? (i := 1) rfl)) (fun _ h9 => h9) rfl (tyX6_ok 9 (by decide)) rfl rfl (Nat.le_of_ble_eq_true rfl) dX6_readsMove_82 (fun H locs hP hD hS => ?_)
          have hP : va_P D vwCl (wM kI mo m0 m1 m2 m3 m4 m5 m6 m7 (w15.1, w15.2.1, w15.2.2.1, w15.2.2.2.1, w15.2.2.2.2.1, w15.2.2.2.2.2.1, w15.2.2.2.2.2.2.1, w15.2.2.2.2.2.2.2.1, w15.2.2.2.2.2.2.2.2.1, w15.2.2.2.2.2.2.2.2.2.1, w15.2.2.2.2.2.2.2.2.2.2.1, w15.2.2.2.2.2.2.2.2.2.2.2.1, x21, w15.2.2.2.2.2.2.2.2.2.2.2.2.2.1, x20, w15.2.2.2.2.2.2.2.2.2.2.2.2.2.2.2.1, w15.2.2.2.2.2.2.2.2.2.2.2.2.2.2.2.2.1, w15.2.2.2.2.2.2.2.2.2.2.2.2.2.2.2.2.2)) H := hP
          have hD : va_D A (wM kI mo m0 m1 m2 m3 m4 m5 m6 m7 (w15.1, w15.2.1, w15.2.2.1, w15.2.2.2.1, w15.2.2.2.2.1, w15.2.2.2.2.2.1, w15.2.2.2.2.2.2.1, w15.2.2.2.2.2.2.2.1, w15.2.2.2.2.2.2.2.2.1, w15.2.2.2.2.2.2.2.2.2.1, w15.2.2.2.2.2.2.2.2.2.2.1, w15.2.2.2.2.2.2.2.2.2.2.2.1, x21, w15.2.2.2.2.2.2.2.2.2.2.2.2.2.1, x20, w15.2.2.2.2.2.2.2.2.2.2.2.2.2.2.2.1, w15.2.2.2.2.2.2.2.2.2.2.2.2.2.2.2.2.1, w15.2.2.2.2.2.2.2.2.2.2.2.2.2.2.2.2.2)) := hD
          refine lv_aload_n hx hb dX6_readsMove_85 rfl (lv_at hl 0 rfl) ?_
          refine va_get (D := D) (ci := 5) (v := .int x20) (C := RX6) (T := TX6) (N := 18) hx hb hts (fun _ h => List.mem_cons_of_mem _ (List.mem_append_right _ h)) hown hK hP 0 rfl rfl 11 (by decide) (hts (.fieldLink RX6 122 "HazelGiftModel" "number" "I") (List.mem_of_getElem? (i := 5) rfl)) (fun _ h9 => h9) rfl dX6_readsMove_86 ?_
          refine lv_iconst (v := 1) hx hb dX6_readsMove_89 (by decide) ?_
          refine lv_icmp_ne (tgt := 133) hx hb dX6_readsMove_90 (by decide) (fun c22 => ?_) (fun c22 => ?_)
          · replace hw := Eq.mp (if_neg c22) hw
            refine lv_iconst (v := 1) hx hb dX6_readsMove_133 (by decide) ?_
            exact W.zret (v := 1) hx hb hr rfl (fun t ht hW => ⟨⟨1, (w15.1, w15.2.1, w15.2.2.1, w15.2.2.2.1, w15.2.2.2.2.1, w15.2.2.2.2.2.1, w15.2.2.2.2.2.2.1, w15.2.2.2.2.2.2.2.1, w15.2.2.2.2.2.2.2.2.1, w15.2.2.2.2.2.2.2.2.2.1, w15.2.2.2.2.2.2.2.2.2.2.1, w15.2.2.2.2.2.2.2.2.2.2.2.1, x21, w15.2.2.2.2.2.2.2.2.2.2.2.2.2.1, x20, w15.2.2.2.2.2.2.2.2.2.2.2.2.2.2.2.1, w15.2.2.2.2.2.2.2.2.2.2.2.2.2.2.2.2.1, w15.2.2.2.2.2.2.2.2.2.2.2.2.2.2.2.2.2), rfl, hw, by rw [ht]; exact hP, va_K.moved hW.alike hK, hD⟩, hS.F ht⟩) hS.2.2 dX6_readsMove_134
          · replace hw := Eq.mp (if_pos c22) hw
            refine lv_aload_n hx hb dX6_readsMove_93 rfl (lv_at hl 0 rfl) ?_
            refine lv_bipush (v := 48) hx hb dX6_readsMove_94 (by decide) ?_
            refine lv_bipush (v := 53) hx hb dX6_readsMove_96 (by decide) ?_
            refine gVi (As := [.int 48, .int 53]) (rest := []) (cs' := wM kI mo m0 m1 m2 m3 m4 m5 m6 m7 (w15.1, w15.2.1, w15.2.2.1, w15.2.2.2.1, w15.2.2.2.2.1, w15.2.2.2.2.2.1, w15.2.2.2.2.2.2.1, w15.2.2.2.2.2.2.2.1, w15.2.2.2.2.2.2.2.2.1, w15.2.2.2.2.2.2.2.2.2.1, w15.2.2.2.2.2.2.2.2.2.2.1, w15.2.2.2.2.2.2.2.2.2.2.2.1, x21, w15.2.2.2.2.2.2.2.2.2.2.2.2.2.1, x20, w15.2.2.2.2.2.2.2.2.2.2.2.2.2.2.2.1, w15.2.2.2.2.2.2.2.2.2.2.2.2.2.2.2.2.1, w15.2.2.2.2.2.2.2.2.2.2.2.2.2.2.2.2.2)) ⟨hx, hb, hml, hown, hts⟩ (kX6_isHere l D kI kC kG kJ mo m0 m1 m2 m3 m4 m5 m6 m7 (w15.1, w15.2.1, w15.2.2.1, w15.2.2.2.1, w15.2.2.2.2.1, w15.2.2.2.2.2.1, w15.2.2.2.2.2.2.1, w15.2.2.2.2.2.2.2.1, w15.2.2.2.2.2.2.2.2.1, w15.2.2.2.2.2.2.2.2.2.1, w15.2.2.2.2.2.2.2.2.2.2.1, w15.2.2.2.2.2.2.2.2.2.2.2.1, x21, w15.2.2.2.2.2.2.2.2.2.2.2.2.2.1, x20, w15.2.2.2.2.2.2.2.2.2.2.2.2.2.2.2.1, w15.2.2.2.2.2.2.2.2.2.2.2.2.2.2.2.2.1, w15.2.2.2.2.2.2.2.2.2.2.2.2.2.2.2.2.2) 48 53 _ hw) (cwV 2 hts gX6_readsMove_X6_isHere rfl rfl rfl hdX6_isHere ⟨Nat.le_of_ble_eq_true rfl, Nat.le_of_ble_eq_true rfl⟩) hK hP hE hS [0, 1, 2, 3, 4, 5, 6, 7, 8] rfl (ci := 5) (q0 := 0) rfl rfl rfl rfl hl.1 rfl (Nat.le_of_ble_eq_true rfl) dX6_readsMove_98 ⟨Nat.le_of_ble_eq_true rfl, Nat.le_of_ble_eq_true rfl⟩ (fun r23 hw => ?_)
            refine lv_if_eq (tgt := 133) hx hb dX6_readsMove_101 (by decide) (fun c24 => ?_) (fun c24 => ?_)
            · replace hw := Eq.mp (if_pos c24) hw
              refine lv_iconst (v := 1) hx hb dX6_readsMove_133 (by decide) ?_
              exact W.zret (v := 1) hx hb hr rfl (fun t ht hW => ⟨⟨1, (w15.1, w15.2.1, w15.2.2.1, w15.2.2.2.1, w15.2.2.2.2.1, w15.2.2.2.2.2.1, w15.2.2.2.2.2.2.1, w15.2.2.2.2.2.2.2.1, w15.2.2.2.2.2.2.2.2.1, w15.2.2.2.2.2.2.2.2.2.1, w15.2.2.2.2.2.2.2.2.2.2.1, w15.2.2.2.2.2.2.2.2.2.2.2.1, x21, w15.2.2.2.2.2.2.2.2.2.2.2.2.2.1, x20, w15.2.2.2.2.2.2.2.2.2.2.2.2.2.2.2.1, w15.2.2.2.2.2.2.2.2.2.2.2.2.2.2.2.2.1, w15.2.2.2.2.2.2.2.2.2.2.2.2.2.2.2.2.2), rfl, hw, by rw [ht]; exact hP, va_K.moved hW.alike hK, hD⟩, hS.F ht⟩) hS.2.2 dX6_readsMove_134
            · replace hw := Eq.mp (if_neg c24) hw
              refine lv_aload_n hx hb dX6_readsMove_104 rfl (lv_at hl 0 rfl) ?_
              refine lv_bipush (v := 10) hx hb dX6_readsMove_105 (by decide) ?_
              refine lv_aload_n hx hb dX6_readsMove_107 rfl (lv_at hl 0 rfl) ?_
              refine va_get (D := D) (ci := 5) (v := .ref m4) (C := RX6) (T := TX6) (N := 18) hx hb hts (fun _ h => List.mem_cons_of_mem _ (List.mem_append_right _ h)) hown hK hP 0 rfl rfl 7 (by decide) (hts (.fieldLink RX6 22 "HazelGiftModel" "text" "[I") (List.mem_of_getElem? (i := 3) rfl)) (fun _ h9 => h9) rfl dX6_readsMove_108 ?_
              refine lv_aload_n hx hb dX6_readsMove_111 rfl (lv_at hl 0 rfl) ?_
              refine va_get (D := D) (ci := 5) (v := .int x21) (C := RX6) (T := TX6) (N := 18) hx hb hts (fun _ h => List.mem_cons_of_mem _ (List.mem_append_right _ h)) hown hK hP 0 rfl rfl 9 (by decide) (hts (.fieldLink RX6 110 "HazelGiftModel" "at" "I") (List.mem_of_getElem? (i := 1) rfl)) (fun _ h9 => h9) rfl dX6_readsMove_112 ?_
              obtain ⟨hi25, hw⟩ := hw
              refine gIald (k := (x21).toNatClampNeg) hx hb hK hP 5 0 rfl rfl hi25 rfl dX6_readsMove_115 ?_
              refine lv_iadd hx hb dX6_readsMove_116 ?_
              refine lv_bipush (v := 48) hx hb dX6_readsMove_117 (by decide) ?_
              refine lv_isub hx hb dX6_readsMove_119 ?_
              refine lv_topi (fun x26 ex26 => ?_)
              replace hw := hw x26 ex26
              refine va_put (D := D) (ci := 5) (v := .int x26) (ty := tyX6 11) (C := RX6) (T := TX6) (N := 18) hx hb hts (fun _ h => List.mem_cons_of_mem _ (List.mem_append_right _ h)) tyX6 tyX6_ok nmX6 hown hK hP hD hS 0 rfl rfl 11 (by decide) (hts (.fieldLink RX6 122 "HazelGiftModel" "number" "I") (List.mem_of_getElem? (i := 5) rfl)) (fun _ h9 => h9) rfl (tyX6_ok 11 (by decide)) rfl rfl (Nat.le_of_ble_eq_true rfl) dX6_readsMove_120 (fun H locs hP hD hS => ?_)
              have hP : va_P D vwCl (wM kI mo m0 m1 m2 m3 m4 m5 m6 m7 (w15.1, w15.2.1, w15.2.2.1, w15.2.2.2.1, w15.2.2.2.2.1, w15.2.2.2.2.2.1, w15.2.2.2.2.2.2.1, w15.2.2.2.2.2.2.2.1, w15.2.2.2.2.2.2.2.2.1, w15.2.2.2.2.2.2.2.2.2.1, w15.2.2.2.2.2.2.2.2.2.2.1, w15.2.2.2.2.2.2.2.2.2.2.2.1, x21, w15.2.2.2.2.2.2.2.2.2.2.2.2.2.1, x26, w15.2.2.2.2.2.2.2.2.2.2.2.2.2.2.2.1, w15.2.2.2.2.2.2.2.2.2.2.2.2.2.2.2.2.1, w15.2.2.2.2.2.2.2.2.2.2.2.2.2.2.2.2.2)) H := hP
              have hD : va_D A (wM kI mo m0 m1 m2 m3 m4 m5 m6 m7 (w15.1, w15.2.1, w15.2.2.1, w15.2.2.2.1, w15.2.2.2.2.1, w15.2.2.2.2.2.1, w15.2.2.2.2.2.2.1, w15.2.2.2.2.2.2.2.1, w15.2.2.2.2.2.2.2.2.1, w15.2.2.2.2.2.2.2.2.2.1, w15.2.2.2.2.2.2.2.2.2.2.1, w15.2.2.2.2.2.2.2.2.2.2.2.1, x21, w15.2.2.2.2.2.2.2.2.2.2.2.2.2.1, x26, w15.2.2.2.2.2.2.2.2.2.2.2.2.2.2.2.1, w15.2.2.2.2.2.2.2.2.2.2.2.2.2.2.2.2.1, w15.2.2.2.2.2.2.2.2.2.2.2.2.2.2.2.2.2)) := hD
              refine lv_aload_n hx hb dX6_readsMove_123 rfl (lv_at hl 0 rfl) ?_
              refine lv_dup hx hb dX6_readsMove_124 rfl ?_
              refine va_get (D := D) (ci := 5) (v := .int x21) (C := RX6) (T := TX6) (N := 18) hx hb hts (fun _ h => List.mem_cons_of_mem _ (List.mem_append_right _ h)) hown hK hP 0 rfl rfl 9 (by decide) (hts (.fieldLink RX6 110 "HazelGiftModel" "at" "I") (List.mem_of_getElem? (i := 1) rfl)) (fun _ h9 => h9) rfl dX6_readsMove_125 ?_
              refine lv_iconst (v := 1) hx hb dX6_readsMove_128 (by decide) ?_
              refine lv_iadd hx hb dX6_readsMove_129 ?_
              refine lv_topi (fun x27 ex27 => ?_)
              replace hw := hw x27 ex27
              refine va_put (D := D) (ci := 5) (v := .int x27) (ty := tyX6 9) (C := RX6) (T := TX6) (N := 18) hx hb hts (fun _ h => List.mem_cons_of_mem _ (List.mem_append_right _ h)) tyX6 tyX6_ok nmX6 hown hK hP hD hS 0 rfl rfl 9 (by decide) (hts (.fieldLink RX6 110 "HazelGiftModel" "at" "I") (List.mem_of_getElem? (i := 1) rfl)) (fun _ h9 => h9) rfl (tyX6_ok 9 (by decide)) rfl rfl (Nat.le_of_ble_eq_true rfl) dX6_readsMove_130 (fun H locs hP hD hS => ?_)
              have hP : va_P D vwCl (wM kI mo m0 m1 m2 m3 m4 m5 m6 m7 (w15.1, w15.2.1, w15.2.2.1, w15.2.2.2.1, w15.2.2.2.2.1, w15.2.2.2.2.2.1, w15.2.2.2.2.2.2.1, w15.2.2.2.2.2.2.2.1, w15.2.2.2.2.2.2.2.2.1, w15.2.2.2.2.2.2.2.2.2.1, w15.2.2.2.2.2.2.2.2.2.2.1, w15.2.2.2.2.2.2.2.2.2.2.2.1, x27, w15.2.2.2.2.2.2.2.2.2.2.2.2.2.1, x26, w15.2.2.2.2.2.2.2.2.2.2.2.2.2.2.2.1, w15.2.2.2.2.2.2.2.2.2.2.2.2.2.2.2.2.1, w15.2.2.2.2.2.2.2.2.2.2.2.2.2.2.2.2.2)) H := hP
              have hD : va_D A (wM kI mo m0 m1 m2 m3 m4 m5 m6 m7 (w15.1, w15.2.1, w15.2.2.1, w15.2.2.2.1, w15.2.2.2.2.1, w15.2.2.2.2.2.1, w15.2.2.2.2.2.2.1, w15.2.2.2.2.2.2.2.1, w15.2.2.2.2.2.2.2.2.1, w15.2.2.2.2.2.2.2.2.2.1, w15.2.2.2.2.2.2.2.2.2.2.1, w15.2.2.2.2.2.2.2.2.2.2.2.1, x27, w15.2.2.2.2.2.2.2.2.2.2.2.2.2.1, x26, w15.2.2.2.2.2.2.2.2.2.2.2.2.2.2.2.1, w15.2.2.2.2.2.2.2.2.2.2.2.2.2.2.2.2.1, w15.2.2.2.2.2.2.2.2.2.2.2.2.2.2.2.2.2)) := hD
              refine lv_iconst (v := 1) hx hb dX6_readsMove_133 (by decide) ?_
              exact W.zret (v := 1) hx hb hr rfl (fun t ht hW => ⟨⟨1, (w15.1, w15.2.1, w15.2.2.1, w15.2.2.2.1, w15.2.2.2.2.1, w15.2.2.2.2.2.1, w15.2.2.2.2.2.2.1, w15.2.2.2.2.2.2.2.1, w15.2.2.2.2.2.2.2.2.1, w15.2.2.2.2.2.2.2.2.2.1, w15.2.2.2.2.2.2.2.2.2.2.1, w15.2.2.2.2.2.2.2.2.2.2.2.1, x27, w15.2.2.2.2.2.2.2.2.2.2.2.2.2.1, x26, w15.2.2.2.2.2.2.2.2.2.2.2.2.2.2.2.1, w15.2.2.2.2.2.2.2.2.2.2.2.2.2.2.2.2.1, w15.2.2.2.2.2.2.2.2.2.2.2.2.2.2.2.2.2), rfl, hw, by rw [ht]; exact hP, va_K.moved hW.alike hK, hD⟩, hS.F ht⟩) hS.2.2 dX6_readsMove_134
        · replace hw := Eq.mp (if_pos c18) hw
          refine lv_iconst (v := 0) hx hb dX6_readsMove_57 (by decide) ?_
          exact W.zret (v := 0) hx hb hr rfl (fun t ht hW => ⟨⟨0, w15, rfl, hw, by rw [ht]; exact hP, va_K.moved hW.alike hK, hD⟩, hS.F ht⟩) hS.2.2 dX6_readsMove_58
  · replace hw := Eq.mp (if_neg c1) hw
    refine lv_aload_n hx hb dX6_readsMove_12 rfl (lv_at hl 0 rfl) ?_
    refine va_get (D := D) (ci := 5) (v := .ref m4) (C := RX6) (T := TX6) (N := 18) hx hb hts (fun _ h => List.mem_cons_of_mem _ (List.mem_append_right _ h)) hown hK hP 0 rfl rfl 7 (by decide) (hts (.fieldLink RX6 22 "HazelGiftModel" "text" "[I") (List.mem_of_getElem? (i := 3) rfl)) (fun _ h9 => h9) rfl dX6_readsMove_13 ?_
    refine lv_aload_n hx hb dX6_readsMove_16 rfl (lv_at hl 0 rfl) ?_
    refine va_get (D := D) (ci := 5) (v := .int u.2.2.2.2.2.2.2.2.2.2.2.2.1) (C := RX6) (T := TX6) (N := 18) hx hb hts (fun _ h => List.mem_cons_of_mem _ (List.mem_append_right _ h)) hown hK hP 0 rfl rfl 9 (by decide) (hts (.fieldLink RX6 110 "HazelGiftModel" "at" "I") (List.mem_of_getElem? (i := 1) rfl)) (fun _ h9 => h9) rfl dX6_readsMove_17 ?_
    obtain ⟨hi28, hw⟩ := hw
    refine gIald (k := (u.2.2.2.2.2.2.2.2.2.2.2.2.1).toNatClampNeg) hx hb hK hP 5 0 rfl rfl hi28 rfl dX6_readsMove_20 ?_
    refine lv_goto (tgt := 25) hx hb dX6_readsMove_21 (by decide) ?_
    refine lv_topi (fun x29 ex29 => ?_)
    replace hw := hw x29 ex29
    refine va_put (D := D) (ci := 5) (v := .int x29) (ty := tyX6 10) (C := RX6) (T := TX6) (N := 18) hx hb hts (fun _ h => List.mem_cons_of_mem _ (List.mem_append_right _ h)) tyX6 tyX6_ok nmX6 hown hK hP hD hS 0 rfl rfl 10 (by decide) (hts (.fieldLink RX6 116 "HazelGiftModel" "sign" "I") (List.mem_of_getElem? (i := 4) rfl)) (fun _ h9 => h9) rfl (tyX6_ok 10 (by decide)) rfl rfl (Nat.le_of_ble_eq_true rfl) dX6_readsMove_25 (fun H locs hP hD hS => ?_)
    have hP : va_P D vwCl (wM kI mo m0 m1 m2 m3 m4 m5 m6 m7 (u.1, u.2.1, u.2.2.1, u.2.2.2.1, u.2.2.2.2.1, u.2.2.2.2.2.1, u.2.2.2.2.2.2.1, u.2.2.2.2.2.2.2.1, u.2.2.2.2.2.2.2.2.1, u.2.2.2.2.2.2.2.2.2.1, u.2.2.2.2.2.2.2.2.2.2.1, u.2.2.2.2.2.2.2.2.2.2.2.1, u.2.2.2.2.2.2.2.2.2.2.2.2.1, x29, u.2.2.2.2.2.2.2.2.2.2.2.2.2.2.1, u.2.2.2.2.2.2.2.2.2.2.2.2.2.2.2.1, u.2.2.2.2.2.2.2.2.2.2.2.2.2.2.2.2.1, u.2.2.2.2.2.2.2.2.2.2.2.2.2.2.2.2.2)) H := hP
    have hD : va_D A (wM kI mo m0 m1 m2 m3 m4 m5 m6 m7 (u.1, u.2.1, u.2.2.1, u.2.2.2.1, u.2.2.2.2.1, u.2.2.2.2.2.1, u.2.2.2.2.2.2.1, u.2.2.2.2.2.2.2.1, u.2.2.2.2.2.2.2.2.1, u.2.2.2.2.2.2.2.2.2.1, u.2.2.2.2.2.2.2.2.2.2.1, u.2.2.2.2.2.2.2.2.2.2.2.1, u.2.2.2.2.2.2.2.2.2.2.2.2.1, x29, u.2.2.2.2.2.2.2.2.2.2.2.2.2.2.1, u.2.2.2.2.2.2.2.2.2.2.2.2.2.2.2.1, u.2.2.2.2.2.2.2.2.2.2.2.2.2.2.2.2.1, u.2.2.2.2.2.2.2.2.2.2.2.2.2.2.2.2.2)) := hD
    refine lv_aload_n hx hb dX6_readsMove_28 rfl (lv_at hl 0 rfl) ?_
    refine lv_bipush (v := 103) hx hb dX6_readsMove_29 (by decide) ?_
    refine gWVi (S := SM) (As := [.int 103]) (rest := []) (wc := wM kI mo m0 m1 m2 m3 m4 m5 m6 m7 (u.1, u.2.1, u.2.2.1, u.2.2.2.1, u.2.2.2.2.1, u.2.2.2.2.2.1, u.2.2.2.2.2.2.1, u.2.2.2.2.2.2.2.1, u.2.2.2.2.2.2.2.2.1, u.2.2.2.2.2.2.2.2.2.1, u.2.2.2.2.2.2.2.2.2.2.1, u.2.2.2.2.2.2.2.2.2.2.2.1, u.2.2.2.2.2.2.2.2.2.2.2.2.1, x29, u.2.2.2.2.2.2.2.2.2.2.2.2.2.2.1, u.2.2.2.2.2.2.2.2.2.2.2.2.2.2.2.1, u.2.2.2.2.2.2.2.2.2.2.2.2.2.2.2.2.1, u.2.2.2.2.2.2.2.2.2.2.2.2.2.2.2.2.2)) (wr := []) (cs1 := (fun zz : SM => wM kI mo m0 m1 m2 m3 m4 m5 m6 m7 zz)) (ws2 := (fun zz : SM => wM kI mo m0 m1 m2 m3 m4 m5 m6 m7 zz)) ⟨hx, hb, hml, hown, hts⟩ (fun sz => kX6_takesOne l D kI kC kG kJ mo m0 m1 m2 m3 m4 m5 m6 m7 sz (u.1, u.2.1, u.2.2.1, u.2.2.2.1, u.2.2.2.2.1, u.2.2.2.2.2.1, u.2.2.2.2.2.2.1, u.2.2.2.2.2.2.2.1, u.2.2.2.2.2.2.2.2.1, u.2.2.2.2.2.2.2.2.2.1, u.2.2.2.2.2.2.2.2.2.2.1, u.2.2.2.2.2.2.2.2.2.2.2.1, u.2.2.2.2.2.2.2.2.2.2.2.2.1, x29, u.2.2.2.2.2.2.2.2.2.2.2.2.2.2.1, u.2.2.2.2.2.2.2.2.2.2.2.2.2.2.2.1, u.2.2.2.2.2.2.2.2.2.2.2.2.2.2.2.2.1, u.2.2.2.2.2.2.2.2.2.2.2.2.2.2.2.2.2) 103 _ hw) (cwV 1 hts gX6_readsMove_X6_takesOne rfl rfl rfl hdX6_takesOne ⟨Nat.le_of_ble_eq_true rfl, Nat.le_of_ble_eq_true rfl⟩) hK hP hD hE hS hA [0, 1, 2, 3, 4, 5, 6, 7, 8] [] rfl rfl rfl rfl (by decide) [0, 1, 2, 3, 4, 5, 6, 7, 8] rfl (fun _ => rfl) (ci := 5) (q0 := 0) rfl rfl rfl rfl hl.1 rfl (Nat.le_of_ble_eq_true rfl) dX6_readsMove_31 ⟨Nat.le_of_ble_eq_true rfl, Nat.le_of_ble_eq_true rfl⟩ (fun r30 w30 H locs hw hP hD hS => ?_)
    have hP : va_P D vwCl (wM kI mo m0 m1 m2 m3 m4 m5 m6 m7 w30) H := hP
    have hD : va_D A (wM kI mo m0 m1 m2 m3 m4 m5 m6 m7 w30) := hD
    refine lv_if_ne (tgt := 46) hx hb dX6_readsMove_34 (by decide) (fun c31 => ?_) (fun c31 => ?_)
    · replace hw := Eq.mp (if_neg c31) hw
      refine lv_aload_n hx hb dX6_readsMove_46 rfl (lv_at hl 0 rfl) ?_
      refine lv_bipush (v := 48) hx hb dX6_readsMove_47 (by decide) ?_
      refine lv_bipush (v := 57) hx hb dX6_readsMove_49 (by decide) ?_
      refine gVi (As := [.int 48, .int 57]) (rest := []) (cs' := wM kI mo m0 m1 m2 m3 m4 m5 m6 m7 w30) ⟨hx, hb, hml, hown, hts⟩ (kX6_isHere l D kI kC kG kJ mo m0 m1 m2 m3 m4 m5 m6 m7 w30 48 57 _ hw) (cwV 2 hts gX6_readsMove_X6_isHere rfl rfl rfl hdX6_isHere ⟨Nat.le_of_ble_eq_true rfl, Nat.le_of_ble_eq_true rfl⟩) hK hP hE hS [0, 1, 2, 3, 4, 5, 6, 7, 8] rfl (ci := 5) (q0 := 0) rfl rfl rfl rfl hl.1 rfl (Nat.le_of_ble_eq_true rfl) dX6_readsMove_51 ⟨Nat.le_of_ble_eq_true rfl, Nat.le_of_ble_eq_true rfl⟩ (fun r32 hw => ?_)
      refine lv_if_ne (tgt := 59) hx hb dX6_readsMove_54 (by decide) (fun c33 => ?_) (fun c33 => ?_)
      · replace hw := Eq.mp (if_neg c33) hw
        refine lv_aload_n hx hb dX6_readsMove_59 rfl (lv_at hl 0 rfl) ?_
        refine lv_aload_n hx hb dX6_readsMove_60 rfl (lv_at hl 0 rfl) ?_
        refine va_get (D := D) (ci := 5) (v := .ref m4) (C := RX6) (T := TX6) (N := 18) hx hb hts (fun _ h => List.mem_cons_of_mem _ (List.mem_append_right _ h)) hown hK hP 0 rfl rfl 7 (by decide) (hts (.fieldLink RX6 22 "HazelGiftModel" "text" "[I") (List.mem_of_getElem? (i := 3) rfl)) (fun _ h9 => h9) rfl dX6_readsMove_61 ?_
        refine lv_aload_n hx hb dX6_readsMove_64 rfl (lv_at hl 0 rfl) ?_
        refine va_get (D := D) (ci := 5) (v := .int w30.2.2.2.2.2.2.2.2.2.2.2.2.1) (C := RX6) (T := TX6) (N := 18) hx hb hts (fun _ h => List.mem_cons_of_mem _ (List.mem_append_right _ h)) hown hK hP 0 rfl rfl 9 (by decide) (hts (.fieldLink RX6 110 "HazelGiftModel" "at" "I") (List.mem_of_getElem? (i := 1) rfl)) (fun _ h9 => h9) rfl dX6_readsMove_65 ?_
        obtain ⟨hi34, hw⟩ := hw
        refine gIald (k := (w30.2.2.2.2.2.2.2.2.2.2.2.2.1).toNatClampNeg) hx hb hK hP 5 0 rfl rfl hi34 rfl dX6_readsMove_68 ?_
        refine lv_bipush (v := 48) hx hb dX6_readsMove_69 (by decide) ?_
        refine lv_isub hx hb dX6_readsMove_71 ?_
        refine lv_topi (fun x35 ex35 => ?_)
        replace hw := hw x35 ex35
        refine va_put (D := D) (ci := 5) (v := .int x35) (ty := tyX6 11) (C := RX6) (T := TX6) (N := 18) hx hb hts (fun _ h => List.mem_cons_of_mem _ (List.mem_append_right _ h)) tyX6 tyX6_ok nmX6 hown hK hP hD hS 0 rfl rfl 11 (by decide) (hts (.fieldLink RX6 122 "HazelGiftModel" "number" "I") (List.mem_of_getElem? (i := 5) rfl)) (fun _ h9 => h9) rfl (tyX6_ok 11 (by decide)) rfl rfl (Nat.le_of_ble_eq_true rfl) dX6_readsMove_72 (fun H locs hP hD hS => ?_)
        have hP : va_P D vwCl (wM kI mo m0 m1 m2 m3 m4 m5 m6 m7 (w30.1, w30.2.1, w30.2.2.1, w30.2.2.2.1, w30.2.2.2.2.1, w30.2.2.2.2.2.1, w30.2.2.2.2.2.2.1, w30.2.2.2.2.2.2.2.1, w30.2.2.2.2.2.2.2.2.1, w30.2.2.2.2.2.2.2.2.2.1, w30.2.2.2.2.2.2.2.2.2.2.1, w30.2.2.2.2.2.2.2.2.2.2.2.1, w30.2.2.2.2.2.2.2.2.2.2.2.2.1, w30.2.2.2.2.2.2.2.2.2.2.2.2.2.1, x35, w30.2.2.2.2.2.2.2.2.2.2.2.2.2.2.2.1, w30.2.2.2.2.2.2.2.2.2.2.2.2.2.2.2.2.1, w30.2.2.2.2.2.2.2.2.2.2.2.2.2.2.2.2.2)) H := hP
        have hD : va_D A (wM kI mo m0 m1 m2 m3 m4 m5 m6 m7 (w30.1, w30.2.1, w30.2.2.1, w30.2.2.2.1, w30.2.2.2.2.1, w30.2.2.2.2.2.1, w30.2.2.2.2.2.2.1, w30.2.2.2.2.2.2.2.1, w30.2.2.2.2.2.2.2.2.1, w30.2.2.2.2.2.2.2.2.2.1, w30.2.2.2.2.2.2.2.2.2.2.1, w30.2.2.2.2.2.2.2.2.2.2.2.1, w30.2.2.2.2.2.2.2.2.2.2.2.2.1, w30.2.2.2.2.2.2.2.2.2.2.2.2.2.1, x35, w30.2.2.2.2.2.2.2.2.2.2.2.2.2.2.2.1, w30.2.2.2.2.2.2.2.2.2.2.2.2.2.2.2.2.1, w30.2.2.2.2.2.2.2.2.2.2.2.2.2.2.2.2.2)) := hD
        refine lv_aload_n hx hb dX6_readsMove_75 rfl (lv_at hl 0 rfl) ?_
        refine lv_dup hx hb dX6_readsMove_76 rfl ?_
        refine va_get (D := D) (ci := 5) (v := .int w30.2.2.2.2.2.2.2.2.2.2.2.2.1) (C := RX6) (T := TX6) (N := 18) hx hb hts (fun _ h => List.mem_cons_of_mem _ (List.mem_append_right _ h)) hown hK hP 0 rfl rfl 9 (by decide) (hts (.fieldLink RX6 110 "HazelGiftModel" "at" "I") (List.mem_of_getElem? (i := 1) rfl)) (fun _ h9 => h9) rfl dX6_readsMove_77 ?_
        refine lv_iconst (v := 1) hx hb dX6_readsMove_80 (by decide) ?_
        refine lv_iadd hx hb dX6_readsMove_81 ?_
        refine lv_topi (fun x36 ex36 => ?_)
        replace hw := hw x36 ex36
        refine va_put (D := D) (ci := 5) (v := .int x36) (ty := tyX6 9) (C := RX6) (T := TX6) (N := 18) hx hb hts (fun _ h => List.mem_cons_of_mem _ (List.mem_append_right _ h)) tyX6 tyX6_ok nmX6 hown hK hP hD hS 0 rfl rfl 9 (by decide) (hts (.fieldLink RX6 110 "HazelGiftModel" "at" "I") (List.mem_of_getElem? (i := 1) rfl)) (fun _ h9 => h9) rfl (tyX6_ok 9 (by decide)) rfl rfl (Nat.le_of_ble_eq_true rfl) dX6_readsMove_82 (fun H locs hP hD hS => ?_)
        have hP : va_P D vwCl (wM kI mo m0 m1 m2 m3 m4 m5 m6 m7 (w30.1, w30.2.1, w30.2.2.1, w30.2.2.2.1, w30.2.2.2.2.1, w30.2.2.2.2.2.1, w30.2.2.2.2.2.2.1, w30.2.2.2.2.2.2.2.1, w30.2.2.2.2.2.2.2.2.1, w30.2.2.2.2.2.2.2.2.2.1, w30.2.2.2.2.2.2.2.2.2.2.1, w30.2.2.2.2.2.2.2.2.2.2.2.1, x36, w30.2.2.2.2.2.2.2.2.2.2.2.2.2.1, x35, w30.2.2.2.2.2.2.2.2.2.2.2.2.2.2.2.1, w30.2.2.2.2.2.2.2.2.2.2.2.2.2.2.2.2.1, w30.2.2.2.2.2.2.2.2.2.2.2.2.2.2.2.2.2)) H := hP
        have hD : va_D A (wM kI mo m0 m1 m2 m3 m4 m5 m6 m7 (w30.1, w30.2.1, w30.2.2.1, w30.2.2.2.1, w30.2.2.2.2.1, w30.2.2.2.2.2.1, w30.2.2.2.2.2.2.1, w30.2.2.2.2.2.2.2.1, w30.2.2.2.2.2.2.2.2.1, w30.2.2.2.2.2.2.2.2.2.1, w30.2.2.2.2.2.2.2.2.2.2.1, w30.2.2.2.2.2.2.2.2.2.2.2.1, x36, w30.2.2.2.2.2.2.2.2.2.2.2.2.2.1, x35, w30.2.2.2.2.2.2.2.2.2.2.2.2.2.2.2.1, w30.2.2.2.2.2.2.2.2.2.2.2.2.2.2.2.2.1, w30.2.2.2.2.2.2.2.2.2.2.2.2.2.2.2.2.2)) := hD
        refine lv_aload_n hx hb dX6_readsMove_85 rfl (lv_at hl 0 rfl) ?_
        refine va_get (D := D) (ci := 5) (v := .int x35) (C := RX6) (T := TX6) (N := 18) hx hb hts (fun _ h => List.mem_cons_of_mem _ (List.mem_append_right _ h)) hown hK hP 0 rfl rfl 11 (by decide) (hts (.fieldLink RX6 122 "HazelGiftModel" "number" "I") (List.mem_of_getElem? (i := 5) rfl)) (fun _ h9 => h9) rfl dX6_readsMove_86 ?_
        refine lv_iconst (v := 1) hx hb dX6_readsMove_89 (by decide) ?_
        refine lv_icmp_ne (tgt := 133) hx hb dX6_readsMove_90 (by decide) (fun c37 => ?_) (fun c37 => ?_)
        · replace hw := Eq.mp (if_neg c37) hw
          refine lv_iconst (v := 1) hx hb dX6_readsMove_133 (by decide) ?_
          exact W.zret (v := 1) hx hb hr rfl (fun t ht hW => ⟨⟨1, (w30.1, w30.2.1, w30.2.2.1, w30.2.2.2.1, w30.2.2.2.2.1, w30.2.2.2.2.2.1, w30.2.2.2.2.2.2.1, w30.2.2.2.2.2.2.2.1, w30.2.2.2.2.2.2.2.2.1, w30.2.2.2.2.2.2.2.2.2.1, w30.2.2.2.2.2.2.2.2.2.2.1, w30.2.2.2.2.2.2.2.2.2.2.2.1, x36, w30.2.2.2.2.2.2.2.2.2.2.2.2.2.1, x35, w30.2.2.2.2.2.2.2.2.2.2.2.2.2.2.2.1, w30.2.2.2.2.2.2.2.2.2.2.2.2.2.2.2.2.1, w30.2.2.2.2.2.2.2.2.2.2.2.2.2.2.2.2.2), rfl, hw, by rw [ht]; exact hP, va_K.moved hW.alike hK, hD⟩, hS.F ht⟩) hS.2.2 dX6_readsMove_134
        · replace hw := Eq.mp (if_pos c37) hw
          refine lv_aload_n hx hb dX6_readsMove_93 rfl (lv_at hl 0 rfl) ?_
          refine lv_bipush (v := 48) hx hb dX6_readsMove_94 (by decide) ?_
          refine lv_bipush (v := 53) hx hb dX6_readsMove_96 (by decide) ?_
          refine gVi (As := [.int 48, .int 53]) (rest := []) (cs' := wM kI mo m0 m1 m2 m3 m4 m5 m6 m7 (w30.1, w30.2.1, w30.2.2.1, w30.2.2.2.1, w30.2.2.2.2.1, w30.2.2.2.2.2.1, w30.2.2.2.2.2.2.1, w30.2.2.2.2.2.2.2.1, w30.2.2.2.2.2.2.2.2.1, w30.2.2.2.2.2.2.2.2.2.1, w30.2.2.2.2.2.2.2.2.2.2.1, w30.2.2.2.2.2.2.2.2.2.2.2.1, x36, w30.2.2.2.2.2.2.2.2.2.2.2.2.2.1, x35, w30.2.2.2.2.2.2.2.2.2.2.2.2.2.2.2.1, w30.2.2.2.2.2.2.2.2.2.2.2.2.2.2.2.2.1, w30.2.2.2.2.2.2.2.2.2.2.2.2.2.2.2.2.2)) ⟨hx, hb, hml, hown, hts⟩ (kX6_isHere l D kI kC kG kJ mo m0 m1 m2 m3 m4 m5 m6 m7 (w30.1, w30.2.1, w30.2.2.1, w30.2.2.2.1, w30.2.2.2.2.1, w30.2.2.2.2.2.1, w30.2.2.2.2.2.2.1, w30.2.2.2.2.2.2.2.1, w30.2.2.2.2.2.2.2.2.1, w30.2.2.2.2.2.2.2.2.2.1, w30.2.2.2.2.2.2.2.2.2.2.1, w30.2.2.2.2.2.2.2.2.2.2.2.1, x36, w30.2.2.2.2.2.2.2.2.2.2.2.2.2.1, x35, w30.2.2.2.2.2.2.2.2.2.2.2.2.2.2.2.1, w30.2.2.2.2.2.2.2.2.2.2.2.2.2.2.2.2.1, w30.2.2.2.2.2.2.2.2.2.2.2.2.2.2.2.2.2) 48 53 _ hw) (cwV 2 hts gX6_readsMove_X6_isHere rfl rfl rfl hdX6_isHere ⟨Nat.le_of_ble_eq_true rfl, Nat.le_of_ble_eq_true rfl⟩) hK hP hE hS [0, 1, 2, 3, 4, 5, 6, 7, 8] rfl (ci := 5) (q0 := 0) rfl rfl rfl rfl hl.1 rfl (Nat.le_of_ble_eq_true rfl) dX6_readsMove_98 ⟨Nat.le_of_ble_eq_true rfl, Nat.le_of_ble_eq_true rfl⟩ (fun r38 hw => ?_)
          refine lv_if_eq (tgt := 133) hx hb dX6_readsMove_101 (by decide) (fun c39 => ?_) (fun c39 => ?_)
          · replace hw := Eq.mp (if_pos c39) hw
            refine lv_iconst (v := 1) hx hb dX6_readsMove_133 (by decide) ?_
            exact W.zret (v := 1) hx hb hr rfl (fun t ht hW => ⟨⟨1, (w30.1, w30.2.1, w30.2.2.1, w30.2.2.2.1, w30.2.2.2.2.1, w30.2.2.2.2.2.1, w30.2.2.2.2.2.2.1, w30.2.2.2.2.2.2.2.1, w30.2.2.2.2.2.2.2.2.1, w30.2.2.2.2.2.2.2.2.2.1, w30.2.2.2.2.2.2.2.2.2.2.1, w30.2.2.2.2.2.2.2.2.2.2.2.1, x36, w30.2.2.2.2.2.2.2.2.2.2.2.2.2.1, x35, w30.2.2.2.2.2.2.2.2.2.2.2.2.2.2.2.1, w30.2.2.2.2.2.2.2.2.2.2.2.2.2.2.2.2.1, w30.2.2.2.2.2.2.2.2.2.2.2.2.2.2.2.2.2), rfl, hw, by rw [ht]; exact hP, va_K.moved hW.alike hK, hD⟩, hS.F ht⟩) hS.2.2 dX6_readsMove_134
          · replace hw := Eq.mp (if_neg c39) hw
            refine lv_aload_n hx hb dX6_readsMove_104 rfl (lv_at hl 0 rfl) ?_
            refine lv_bipush (v := 10) hx hb dX6_readsMove_105 (by decide) ?_
            refine lv_aload_n hx hb dX6_readsMove_107 rfl (lv_at hl 0 rfl) ?_
            refine va_get (D := D) (ci := 5) (v := .ref m4) (C := RX6) (T := TX6) (N := 18) hx hb hts (fun _ h => List.mem_cons_of_mem _ (List.mem_append_right _ h)) hown hK hP 0 rfl rfl 7 (by decide) (hts (.fieldLink RX6 22 "HazelGiftModel" "text" "[I") (List.mem_of_getElem? (i := 3) rfl)) (fun _ h9 => h9) rfl dX6_readsMove_108 ?_
            refine lv_aload_n hx hb dX6_readsMove_111 rfl (lv_at hl 0 rfl) ?_
            refine va_get (D := D) (ci := 5) (v := .int x36) (C := RX6) (T := TX6) (N := 18) hx hb hts (fun _ h => List.mem_cons_of_mem _ (List.mem_append_right _ h)) hown hK hP 0 rfl rfl 9 (by decide) (hts (.fieldLink RX6 110 "HazelGiftModel" "at" "I") (List.mem_of_getElem? (i := 1) rfl)) (fun _ h9 => h9) rfl dX6_readsMove_112 ?_
            obtain ⟨hi40, hw⟩ := hw
            refine gIald (k := (x36).toNatClampNeg) hx hb hK hP 5 0 rfl rfl hi40 rfl dX6_readsMove_115 ?_
            refine lv_iadd hx hb dX6_readsMove_116 ?_
            refine lv_bipush (v := 48) hx hb dX6_readsMove_117 (by decide) ?_
            refine lv_isub hx hb dX6_readsMove_119 ?_
            refine lv_topi (fun x41 ex41 => ?_)
            replace hw := hw x41 ex41
            refine va_put (D := D) (ci := 5) (v := .int x41) (ty := tyX6 11) (C := RX6) (T := TX6) (N := 18) hx hb hts (fun _ h => List.mem_cons_of_mem _ (List.mem_append_right _ h)) tyX6 tyX6_ok nmX6 hown hK hP hD hS 0 rfl rfl 11 (by decide) (hts (.fieldLink RX6 122 "HazelGiftModel" "number" "I") (List.mem_of_getElem? (i := 5) rfl)) (fun _ h9 => h9) rfl (tyX6_ok 11 (by decide)) rfl rfl (Nat.le_of_ble_eq_true rfl) dX6_readsMove_120 (fun H locs hP hD hS => ?_)
            have hP : va_P D vwCl (wM kI mo m0 m1 m2 m3 m4 m5 m6 m7 (w30.1, w30.2.1, w30.2.2.1, w30.2.2.2.1, w30.2.2.2.2.1, w30.2.2.2.2.2.1, w30.2.2.2.2.2.2.1, w30.2.2.2.2.2.2.2.1, w30.2.2.2.2.2.2.2.2.1, w30.2.2.2.2.2.2.2.2.2.1, w30.2.2.2.2.2.2.2.2.2.2.1, w30.2.2.2.2.2.2.2.2.2.2.2.1, x36, w30.2.2.2.2.2.2.2.2.2.2.2.2.2.1, x41, w30.2.2.2.2.2.2.2.2.2.2.2.2.2.2.2.1, w30.2.2.2.2.2.2.2.2.2.2.2.2.2.2.2.2.1, w30.2.2.2.2.2.2.2.2.2.2.2.2.2.2.2.2.2)) H := hP
            have hD : va_D A (wM kI mo m0 m1 m2 m3 m4 m5 m6 m7 (w30.1, w30.2.1, w30.2.2.1, w30.2.2.2.1, w30.2.2.2.2.1, w30.2.2.2.2.2.1, w30.2.2.2.2.2.2.1, w30.2.2.2.2.2.2.2.1, w30.2.2.2.2.2.2.2.2.1, w30.2.2.2.2.2.2.2.2.2.1, w30.2.2.2.2.2.2.2.2.2.2.1, w30.2.2.2.2.2.2.2.2.2.2.2.1, x36, w30.2.2.2.2.2.2.2.2.2.2.2.2.2.1, x41, w30.2.2.2.2.2.2.2.2.2.2.2.2.2.2.2.1, w30.2.2.2.2.2.2.2.2.2.2.2.2.2.2.2.2.1, w30.2.2.2.2.2.2.2.2.2.2.2.2.2.2.2.2.2)) := hD
            refine lv_aload_n hx hb dX6_readsMove_123 rfl (lv_at hl 0 rfl) ?_
            refine lv_dup hx hb dX6_readsMove_124 rfl ?_
            refine va_get (D := D) (ci := 5) (v := .int x36) (C := RX6) (T := TX6) (N := 18) hx hb hts (fun _ h => List.mem_cons_of_mem _ (List.mem_append_right _ h)) hown hK hP 0 rfl rfl 9 (by decide) (hts (.fieldLink RX6 110 "HazelGiftModel" "at" "I") (List.mem_of_getElem? (i := 1) rfl)) (fun _ h9 => h9) rfl dX6_readsMove_125 ?_
            refine lv_iconst (v := 1) hx hb dX6_readsMove_128 (by decide) ?_
            refine lv_iadd hx hb dX6_readsMove_129 ?_
            refine lv_topi (fun x42 ex42 => ?_)
            replace hw := hw x42 ex42
            refine va_put (D := D) (ci := 5) (v := .int x42) (ty := tyX6 9) (C := RX6) (T := TX6) (N := 18) hx hb hts (fun _ h => List.mem_cons_of_mem _ (List.mem_append_right _ h)) tyX6 tyX6_ok nmX6 hown hK hP hD hS 0 rfl rfl 9 (by decide) (hts (.fieldLink RX6 110 "HazelGiftModel" "at" "I") (List.mem_of_getElem? (i := 1) rfl)) (fun _ h9 => h9) rfl (tyX6_ok 9 (by decide)) rfl rfl (Nat.le_of_ble_eq_true rfl) dX6_readsMove_130 (fun H locs hP hD hS => ?_)
            have hP : va_P D vwCl (wM kI mo m0 m1 m2 m3 m4 m5 m6 m7 (w30.1, w30.2.1, w30.2.2.1, w30.2.2.2.1, w30.2.2.2.2.1, w30.2.2.2.2.2.1, w30.2.2.2.2.2.2.1, w30.2.2.2.2.2.2.2.1, w30.2.2.2.2.2.2.2.2.1, w30.2.2.2.2.2.2.2.2.2.1, w30.2.2.2.2.2.2.2.2.2.2.1, w30.2.2.2.2.2.2.2.2.2.2.2.1, x42, w30.2.2.2.2.2.2.2.2.2.2.2.2.2.1, x41, w30.2.2.2.2.2.2.2.2.2.2.2.2.2.2.2.1, w30.2.2.2.2.2.2.2.2.2.2.2.2.2.2.2.2.1, w30.2.2.2.2.2.2.2.2.2.2.2.2.2.2.2.2.2)) H := hP
            have hD : va_D A (wM kI mo m0 m1 m2 m3 m4 m5 m6 m7 (w30.1, w30.2.1, w30.2.2.1, w30.2.2.2.1, w30.2.2.2.2.1, w30.2.2.2.2.2.1, w30.2.2.2.2.2.2.1, w30.2.2.2.2.2.2.2.1, w30.2.2.2.2.2.2.2.2.1, w30.2.2.2.2.2.2.2.2.2.1, w30.2.2.2.2.2.2.2.2.2.2.1, w30.2.2.2.2.2.2.2.2.2.2.2.1, x42, w30.2.2.2.2.2.2.2.2.2.2.2.2.2.1, x41, w30.2.2.2.2.2.2.2.2.2.2.2.2.2.2.2.1, w30.2.2.2.2.2.2.2.2.2.2.2.2.2.2.2.2.1, w30.2.2.2.2.2.2.2.2.2.2.2.2.2.2.2.2.2)) := hD
            refine lv_iconst (v := 1) hx hb dX6_readsMove_133 (by decide) ?_
            exact W.zret (v := 1) hx hb hr rfl (fun t ht hW => ⟨⟨1, (w30.1, w30.2.1, w30.2.2.1, w30.2.2.2.1, w30.2.2.2.2.1, w30.2.2.2.2.2.1, w30.2.2.2.2.2.2.1, w30.2.2.2.2.2.2.2.1, w30.2.2.2.2.2.2.2.2.1, w30.2.2.2.2.2.2.2.2.2.1, w30.2.2.2.2.2.2.2.2.2.2.1, w30.2.2.2.2.2.2.2.2.2.2.2.1, x42, w30.2.2.2.2.2.2.2.2.2.2.2.2.2.1, x41, w30.2.2.2.2.2.2.2.2.2.2.2.2.2.2.2.1, w30.2.2.2.2.2.2.2.2.2.2.2.2.2.2.2.2.1, w30.2.2.2.2.2.2.2.2.2.2.2.2.2.2.2.2.2), rfl, hw, by rw [ht]; exact hP, va_K.moved hW.alike hK, hD⟩, hS.F ht⟩) hS.2.2 dX6_readsMove_134
      · replace hw := Eq.mp (if_pos c33) hw
        refine lv_iconst (v := 0) hx hb dX6_readsMove_57 (by decide) ?_
        exact W.zret (v := 0) hx hb hr rfl (fun t ht hW => ⟨⟨0, w30, rfl, hw, by rw [ht]; exact hP, va_K.moved hW.alike hK, hD⟩, hS.F ht⟩) hS.2.2 dX6_readsMove_58
    · replace hw := Eq.mp (if_pos c31) hw
      refine lv_aload_n hx hb dX6_readsMove_37 rfl (lv_at hl 0 rfl) ?_
      refine lv_bipush (v := 112) hx hb dX6_readsMove_38 (by decide) ?_
      refine gWVi (S := SM) (As := [.int 112]) (rest := []) (wc := wM kI mo m0 m1 m2 m3 m4 m5 m6 m7 w30) (wr := []) (cs1 := (fun zz : SM => wM kI mo m0 m1 m2 m3 m4 m5 m6 m7 zz)) (ws2 := (fun zz : SM => wM kI mo m0 m1 m2 m3 m4 m5 m6 m7 zz)) ⟨hx, hb, hml, hown, hts⟩ (fun sz => kX6_takesOne l D kI kC kG kJ mo m0 m1 m2 m3 m4 m5 m6 m7 sz w30 112 _ hw) (cwV 1 hts gX6_readsMove_X6_takesOne rfl rfl rfl hdX6_takesOne ⟨Nat.le_of_ble_eq_true rfl, Nat.le_of_ble_eq_true rfl⟩) hK hP hD hE hS hA [0, 1, 2, 3, 4, 5, 6, 7, 8] [] rfl rfl rfl rfl (by decide) [0, 1, 2, 3, 4, 5, 6, 7, 8] rfl (fun _ => rfl) (ci := 5) (q0 := 0) rfl rfl rfl rfl hl.1 rfl (Nat.le_of_ble_eq_true rfl) dX6_readsMove_40 ⟨Nat.le_of_ble_eq_true rfl, Nat.le_of_ble_eq_true rfl⟩ (fun r43 w43 H locs hw hP hD hS => ?_)
      have hP : va_P D vwCl (wM kI mo m0 m1 m2 m3 m4 m5 m6 m7 w43) H := hP
      have hD : va_D A (wM kI mo m0 m1 m2 m3 m4 m5 m6 m7 w43) := hD
      refine lv_if_eq (tgt := 57) hx hb dX6_readsMove_43 (by decide) (fun c44 => ?_) (fun c44 => ?_)
      · replace hw := Eq.mp (if_pos c44) hw
        refine lv_iconst (v := 0) hx hb dX6_readsMove_57 (by decide) ?_
        exact W.zret (v := 0) hx hb hr rfl (fun t ht hW => ⟨⟨0, w43, rfl, hw, by rw [ht]; exact hP, va_K.moved hW.alike hK, hD⟩, hS.F ht⟩) hS.2.2 dX6_readsMove_58
      · replace hw := Eq.mp (if_neg c44) hw
        refine lv_aload_n hx hb dX6_readsMove_46 rfl (lv_at hl 0 rfl) ?_
        refine lv_bipush (v := 48) hx hb dX6_readsMove_47 (by decide) ?_
        refine lv_bipush (v := 57) hx hb dX6_readsMove_49 (by decide) ?_
        refine gVi (As := [.int 48, .int 57]) (rest := []) (cs' := wM kI mo m0 m1 m2 m3 m4 m5 m6 m7 w43) ⟨hx, hb, hml, hown, hts⟩ (kX6_isHere l D kI kC kG kJ mo m0 m1 m2 m3 m4 m5 m6 m7 w43 48 57 _ hw) (cwV 2 hts gX6_readsMove_X6_isHere rfl rfl rfl hdX6_isHere ⟨Nat.le_of_ble_eq_true rfl, Nat.le_of_ble_eq_true rfl⟩) hK hP hE hS [0, 1, 2, 3, 4, 5, 6, 7, 8] rfl (ci := 5) (q0 := 0) rfl rfl rfl rfl hl.1 rfl (Nat.le_of_ble_eq_true rfl) dX6_readsMove_51 ⟨Nat.le_of_ble_eq_true rfl, Nat.le_of_ble_eq_true rfl⟩ (fun r45 hw => ?_)
        refine lv_if_ne (tgt := 59) hx hb dX6_readsMove_54 (by decide) (fun c46 => ?_) (fun c46 => ?_)
        · replace hw := Eq.mp (if_neg c46) hw
          refine lv_aload_n hx hb dX6_readsMove_59 rfl (lv_at hl 0 rfl) ?_
          refine lv_aload_n hx hb dX6_readsMove_60 rfl (lv_at hl 0 rfl) ?_
          refine va_get (D := D) (ci := 5) (v := .ref m4) (C := RX6) (T := TX6) (N := 18) hx hb hts (fun _ h => List.mem_cons_of_mem _ (List.mem_append_right _ h)) hown hK hP 0 rfl rfl 7 (by decide) (hts (.fieldLink RX6 22 "HazelGiftModel" "text" "[I") (List.mem_of_getElem? (i := 3) rfl)) (fun _ h9 => h9) rfl dX6_readsMove_61 ?_
          refine lv_aload_n hx hb dX6_readsMove_64 rfl (lv_at hl 0 rfl) ?_
          refine va_get (D := D) (ci := 5) (v := .int w43.2.2.2.2.2.2.2.2.2.2.2.2.1) (C := RX6) (T := TX6) (N := 18) hx hb hts (fun _ h => List.mem_cons_of_mem _ (List.mem_append_right _ h)) hown hK hP 0 rfl rfl 9 (by decide) (hts (.fieldLink RX6 110 "HazelGiftModel" "at" "I") (List.mem_of_getElem? (i := 1) rfl)) (fun _ h9 => h9) rfl dX6_readsMove_65 ?_
          obtain ⟨hi47, hw⟩ := hw
          refine gIald (k := (w43.2.2.2.2.2.2.2.2.2.2.2.2.1).toNatClampNeg) hx hb hK hP 5 0 rfl rfl hi47 rfl dX6_readsMove_68 ?_
          refine lv_bipush (v := 48) hx hb dX6_readsMove_69 (by decide) ?_
          refine lv_isub hx hb dX6_readsMove_71 ?_
          refine lv_topi (fun x48 ex48 => ?_)
          replace hw := hw x48 ex48
          refine va_put (D := D) (ci := 5) (v := .int x48) (ty := tyX6 11) (C := RX6) (T := TX6) (N := 18) hx hb hts (fun _ h => List.mem_cons_of_mem _ (List.mem_append_right _ h)) tyX6 tyX6_ok nmX6 hown hK hP hD hS 0 rfl rfl 11 (by decide) (hts (.fieldLink RX6 122 "HazelGiftModel" "number" "I") (List.mem_of_getElem? (i := 5) rfl)) (fun _ h9 => h9) rfl (tyX6_ok 11 (by decide)) rfl rfl (Nat.le_of_ble_eq_true rfl) dX6_readsMove_72 (fun H locs hP hD hS => ?_)
          have hP : va_P D vwCl (wM kI mo m0 m1 m2 m3 m4 m5 m6 m7 (w43.1, w43.2.1, w43.2.2.1, w43.2.2.2.1, w43.2.2.2.2.1, w43.2.2.2.2.2.1, w43.2.2.2.2.2.2.1, w43.2.2.2.2.2.2.2.1, w43.2.2.2.2.2.2.2.2.1, w43.2.2.2.2.2.2.2.2.2.1, w43.2.2.2.2.2.2.2.2.2.2.1, w43.2.2.2.2.2.2.2.2.2.2.2.1, w43.2.2.2.2.2.2.2.2.2.2.2.2.1, w43.2.2.2.2.2.2.2.2.2.2.2.2.2.1, x48, w43.2.2.2.2.2.2.2.2.2.2.2.2.2.2.2.1, w43.2.2.2.2.2.2.2.2.2.2.2.2.2.2.2.2.1, w43.2.2.2.2.2.2.2.2.2.2.2.2.2.2.2.2.2)) H := hP
          have hD : va_D A (wM kI mo m0 m1 m2 m3 m4 m5 m6 m7 (w43.1, w43.2.1, w43.2.2.1, w43.2.2.2.1, w43.2.2.2.2.1, w43.2.2.2.2.2.1, w43.2.2.2.2.2.2.1, w43.2.2.2.2.2.2.2.1, w43.2.2.2.2.2.2.2.2.1, w43.2.2.2.2.2.2.2.2.2.1, w43.2.2.2.2.2.2.2.2.2.2.1, w43.2.2.2.2.2.2.2.2.2.2.2.1, w43.2.2.2.2.2.2.2.2.2.2.2.2.1, w43.2.2.2.2.2.2.2.2.2.2.2.2.2.1, x48, w43.2.2.2.2.2.2.2.2.2.2.2.2.2.2.2.1, w43.2.2.2.2.2.2.2.2.2.2.2.2.2.2.2.2.1, w43.2.2.2.2.2.2.2.2.2.2.2.2.2.2.2.2.2)) := hD
          refine lv_aload_n hx hb dX6_readsMove_75 rfl (lv_at hl 0 rfl) ?_
          refine lv_dup hx hb dX6_readsMove_76 rfl ?_
          refine va_get (D := D) (ci := 5) (v := .int w43.2.2.2.2.2.2.2.2.2.2.2.2.1) (C := RX6) (T := TX6) (N := 18) hx hb hts (fun _ h => List.mem_cons_of_mem _ (List.mem_append_right _ h)) hown hK hP 0 rfl rfl 9 (by decide) (hts (.fieldLink RX6 110 "HazelGiftModel" "at" "I") (List.mem_of_getElem? (i := 1) rfl)) (fun _ h9 => h9) rfl dX6_readsMove_77 ?_
          refine lv_iconst (v := 1) hx hb dX6_readsMove_80 (by decide) ?_
          refine lv_iadd hx hb dX6_readsMove_81 ?_
          refine lv_topi (fun x49 ex49 => ?_)
          replace hw := hw x49 ex49
          refine va_put (D := D) (ci := 5) (v := .int x49) (ty := tyX6 9) (C := RX6) (T := TX6) (N := 18) hx hb hts (fun _ h => List.mem_cons_of_mem _ (List.mem_append_right _ h)) tyX6 tyX6_ok nmX6 hown hK hP hD hS 0 rfl rfl 9 (by decide) (hts (.fieldLink RX6 110 "HazelGiftModel" "at" "I") (List.mem_of_getElem? (i := 1) rfl)) (fun _ h9 => h9) rfl (tyX6_ok 9 (by decide)) rfl rfl (Nat.le_of_ble_eq_true rfl) dX6_readsMove_82 (fun H locs hP hD hS => ?_)
          have hP : va_P D vwCl (wM kI mo m0 m1 m2 m3 m4 m5 m6 m7 (w43.1, w43.2.1, w43.2.2.1, w43.2.2.2.1, w43.2.2.2.2.1, w43.2.2.2.2.2.1, w43.2.2.2.2.2.2.1, w43.2.2.2.2.2.2.2.1, w43.2.2.2.2.2.2.2.2.1, w43.2.2.2.2.2.2.2.2.2.1, w43.2.2.2.2.2.2.2.2.2.2.1, w43.2.2.2.2.2.2.2.2.2.2.2.1, x49, w43.2.2.2.2.2.2.2.2.2.2.2.2.2.1, x48, w43.2.2.2.2.2.2.2.2.2.2.2.2.2.2.2.1, w43.2.2.2.2.2.2.2.2.2.2.2.2.2.2.2.2.1, w43.2.2.2.2.2.2.2.2.2.2.2.2.2.2.2.2.2)) H := hP
          have hD : va_D A (wM kI mo m0 m1 m2 m3 m4 m5 m6 m7 (w43.1, w43.2.1, w43.2.2.1, w43.2.2.2.1, w43.2.2.2.2.1, w43.2.2.2.2.2.1, w43.2.2.2.2.2.2.1, w43.2.2.2.2.2.2.2.1, w43.2.2.2.2.2.2.2.2.1, w43.2.2.2.2.2.2.2.2.2.1, w43.2.2.2.2.2.2.2.2.2.2.1, w43.2.2.2.2.2.2.2.2.2.2.2.1, x49, w43.2.2.2.2.2.2.2.2.2.2.2.2.2.1, x48, w43.2.2.2.2.2.2.2.2.2.2.2.2.2.2.2.1, w43.2.2.2.2.2.2.2.2.2.2.2.2.2.2.2.2.1, w43.2.2.2.2.2.2.2.2.2.2.2.2.2.2.2.2.2)) := hD
          refine lv_aload_n hx hb dX6_readsMove_85 rfl (lv_at hl 0 rfl) ?_
          refine va_get (D := D) (ci := 5) (v := .int x48) (C := RX6) (T := TX6) (N := 18) hx hb hts (fun _ h => List.mem_cons_of_mem _ (List.mem_append_right _ h)) hown hK hP 0 rfl rfl 11 (by decide) (hts (.fieldLink RX6 122 "HazelGiftModel" "number" "I") (List.mem_of_getElem? (i := 5) rfl)) (fun _ h9 => h9) rfl dX6_readsMove_86 ?_
          refine lv_iconst (v := 1) hx hb dX6_readsMove_89 (by decide) ?_
          refine lv_icmp_ne (tgt := 133) hx hb dX6_readsMove_90 (by decide) (fun c50 => ?_) (fun c50 => ?_)
          · replace hw := Eq.mp (if_neg c50) hw
            refine lv_iconst (v := 1) hx hb dX6_readsMove_133 (by decide) ?_
            exact W.zret (v := 1) hx hb hr rfl (fun t ht hW => ⟨⟨1, (w43.1, w43.2.1, w43.2.2.1, w43.2.2.2.1, w43.2.2.2.2.1, w43.2.2.2.2.2.1, w43.2.2.2.2.2.2.1, w43.2.2.2.2.2.2.2.1, w43.2.2.2.2.2.2.2.2.1, w43.2.2.2.2.2.2.2.2.2.1, w43.2.2.2.2.2.2.2.2.2.2.1, w43.2.2.2.2.2.2.2.2.2.2.2.1, x49, w43.2.2.2.2.2.2.2.2.2.2.2.2.2.1, x48, w43.2.2.2.2.2.2.2.2.2.2.2.2.2.2.2.1, w43.2.2.2.2.2.2.2.2.2.2.2.2.2.2.2.2.1, w43.2.2.2.2.2.2.2.2.2.2.2.2.2.2.2.2.2), rfl, hw, by rw [ht]; exact hP, va_K.moved hW.alike hK, hD⟩, hS.F ht⟩) hS.2.2 dX6_readsMove_134
          · replace hw := Eq.mp (if_pos c50) hw
            refine lv_aload_n hx hb dX6_readsMove_93 rfl (lv_at hl 0 rfl) ?_
            refine lv_bipush (v := 48) hx hb dX6_readsMove_94 (by decide) ?_
            refine lv_bipush (v := 53) hx hb dX6_readsMove_96 (by decide) ?_
            refine gVi (As := [.int 48, .int 53]) (rest := []) (cs' := wM kI mo m0 m1 m2 m3 m4 m5 m6 m7 (w43.1, w43.2.1, w43.2.2.1, w43.2.2.2.1, w43.2.2.2.2.1, w43.2.2.2.2.2.1, w43.2.2.2.2.2.2.1, w43.2.2.2.2.2.2.2.1, w43.2.2.2.2.2.2.2.2.1, w43.2.2.2.2.2.2.2.2.2.1, w43.2.2.2.2.2.2.2.2.2.2.1, w43.2.2.2.2.2.2.2.2.2.2.2.1, x49, w43.2.2.2.2.2.2.2.2.2.2.2.2.2.1, x48, w43.2.2.2.2.2.2.2.2.2.2.2.2.2.2.2.1, w43.2.2.2.2.2.2.2.2.2.2.2.2.2.2.2.2.1, w43.2.2.2.2.2.2.2.2.2.2.2.2.2.2.2.2.2)) ⟨hx, hb, hml, hown, hts⟩ (kX6_isHere l D kI kC kG kJ mo m0 m1 m2 m3 m4 m5 m6 m7 (w43.1, w43.2.1, w43.2.2.1, w43.2.2.2.1, w43.2.2.2.2.1, w43.2.2.2.2.2.1, w43.2.2.2.2.2.2.1, w43.2.2.2.2.2.2.2.1, w43.2.2.2.2.2.2.2.2.1, w43.2.2.2.2.2.2.2.2.2.1, w43.2.2.2.2.2.2.2.2.2.2.1, w43.2.2.2.2.2.2.2.2.2.2.2.1, x49, w43.2.2.2.2.2.2.2.2.2.2.2.2.2.1, x48, w43.2.2.2.2.2.2.2.2.2.2.2.2.2.2.2.1, w43.2.2.2.2.2.2.2.2.2.2.2.2.2.2.2.2.1, w43.2.2.2.2.2.2.2.2.2.2.2.2.2.2.2.2.2) 48 53 _ hw) (cwV 2 hts gX6_readsMove_X6_isHere rfl rfl rfl hdX6_isHere ⟨Nat.le_of_ble_eq_true rfl, Nat.le_of_ble_eq_true rfl⟩) hK hP hE hS [0, 1, 2, 3, 4, 5, 6, 7, 8] rfl (ci := 5) (q0 := 0) rfl rfl rfl rfl hl.1 rfl (Nat.le_of_ble_eq_true rfl) dX6_readsMove_98 ⟨Nat.le_of_ble_eq_true rfl, Nat.le_of_ble_eq_true rfl⟩ (fun r51 hw => ?_)
            refine lv_if_eq (tgt := 133) hx hb dX6_readsMove_101 (by decide) (fun c52 => ?_) (fun c52 => ?_)
            · replace hw := Eq.mp (if_pos c52) hw
              refine lv_iconst (v := 1) hx hb dX6_readsMove_133 (by decide) ?_
              exact W.zret (v := 1) hx hb hr rfl (fun t ht hW => ⟨⟨1, (w43.1, w43.2.1, w43.2.2.1, w43.2.2.2.1, w43.2.2.2.2.1, w43.2.2.2.2.2.1, w43.2.2.2.2.2.2.1, w43.2.2.2.2.2.2.2.1, w43.2.2.2.2.2.2.2.2.1, w43.2.2.2.2.2.2.2.2.2.1, w43.2.2.2.2.2.2.2.2.2.2.1, w43.2.2.2.2.2.2.2.2.2.2.2.1, x49, w43.2.2.2.2.2.2.2.2.2.2.2.2.2.1, x48, w43.2.2.2.2.2.2.2.2.2.2.2.2.2.2.2.1, w43.2.2.2.2.2.2.2.2.2.2.2.2.2.2.2.2.1, w43.2.2.2.2.2.2.2.2.2.2.2.2.2.2.2.2.2), rfl, hw, by rw [ht]; exact hP, va_K.moved hW.alike hK, hD⟩, hS.F ht⟩) hS.2.2 dX6_readsMove_134
            · replace hw := Eq.mp (if_neg c52) hw
              refine lv_aload_n hx hb dX6_readsMove_104 rfl (lv_at hl 0 rfl) ?_
              refine lv_bipush (v := 10) hx hb dX6_readsMove_105 (by decide) ?_
              refine lv_aload_n hx hb dX6_readsMove_107 rfl (lv_at hl 0 rfl) ?_
              refine va_get (D := D) (ci := 5) (v := .ref m4) (C := RX6) (T := TX6) (N := 18) hx hb hts (fun _ h => List.mem_cons_of_mem _ (List.mem_append_right _ h)) hown hK hP 0 rfl rfl 7 (by decide) (hts (.fieldLink RX6 22 "HazelGiftModel" "text" "[I") (List.mem_of_getElem? (i := 3) rfl)) (fun _ h9 => h9) rfl dX6_readsMove_108 ?_
              refine lv_aload_n hx hb dX6_readsMove_111 rfl (lv_at hl 0 rfl) ?_
              refine va_get (D := D) (ci := 5) (v := .int x49) (C := RX6) (T := TX6) (N := 18) hx hb hts (fun _ h => List.mem_cons_of_mem _ (List.mem_append_right _ h)) hown hK hP 0 rfl rfl 9 (by decide) (hts (.fieldLink RX6 110 "HazelGiftModel" "at" "I") (List.mem_of_getElem? (i := 1) rfl)) (fun _ h9 => h9) rfl dX6_readsMove_112 ?_
              obtain ⟨hi53, hw⟩ := hw
              refine gIald (k := (x49).toNatClampNeg) hx hb hK hP 5 0 rfl rfl hi53 rfl dX6_readsMove_115 ?_
              refine lv_iadd hx hb dX6_readsMove_116 ?_
              refine lv_bipush (v := 48) hx hb dX6_readsMove_117 (by decide) ?_
              refine lv_isub hx hb dX6_readsMove_119 ?_
              refine lv_topi (fun x54 ex54 => ?_)
              replace hw := hw x54 ex54
              refine va_put (D := D) (ci := 5) (v := .int x54) (ty := tyX6 11) (C := RX6) (T := TX6) (N := 18) hx hb hts (fun _ h => List.mem_cons_of_mem _ (List.mem_append_right _ h)) tyX6 tyX6_ok nmX6 hown hK hP hD hS 0 rfl rfl 11 (by decide) (hts (.fieldLink RX6 122 "HazelGiftModel" "number" "I") (List.mem_of_getElem? (i := 5) rfl)) (fun _ h9 => h9) rfl (tyX6_ok 11 (by decide)) rfl rfl (Nat.le_of_ble_eq_true rfl) dX6_readsMove_120 (fun H locs hP hD hS => ?_)
              have hP : va_P D vwCl (wM kI mo m0 m1 m2 m3 m4 m5 m6 m7 (w43.1, w43.2.1, w43.2.2.1, w43.2.2.2.1, w43.2.2.2.2.1, w43.2.2.2.2.2.1, w43.2.2.2.2.2.2.1, w43.2.2.2.2.2.2.2.1, w43.2.2.2.2.2.2.2.2.1, w43.2.2.2.2.2.2.2.2.2.1, w43.2.2.2.2.2.2.2.2.2.2.1, w43.2.2.2.2.2.2.2.2.2.2.2.1, x49, w43.2.2.2.2.2.2.2.2.2.2.2.2.2.1, x54, w43.2.2.2.2.2.2.2.2.2.2.2.2.2.2.2.1, w43.2.2.2.2.2.2.2.2.2.2.2.2.2.2.2.2.1, w43.2.2.2.2.2.2.2.2.2.2.2.2.2.2.2.2.2)) H := hP
              have hD : va_D A (wM kI mo m0 m1 m2 m3 m4 m5 m6 m7 (w43.1, w43.2.1, w43.2.2.1, w43.2.2.2.1, w43.2.2.2.2.1, w43.2.2.2.2.2.1, w43.2.2.2.2.2.2.1, w43.2.2.2.2.2.2.2.1, w43.2.2.2.2.2.2.2.2.1, w43.2.2.2.2.2.2.2.2.2.1, w43.2.2.2.2.2.2.2.2.2.2.1, w43.2.2.2.2.2.2.2.2.2.2.2.1, x49, w43.2.2.2.2.2.2.2.2.2.2.2.2.2.1, x54, w43.2.2.2.2.2.2.2.2.2.2.2.2.2.2.2.1, w43.2.2.2.2.2.2.2.2.2.2.2.2.2.2.2.2.1, w43.2.2.2.2.2.2.2.2.2.2.2.2.2.2.2.2.2)) := hD
              refine lv_aload_n hx hb dX6_readsMove_123 rfl (lv_at hl 0 rfl) ?_
              refine lv_dup hx hb dX6_readsMove_124 rfl ?_
              refine va_get (D := D) (ci := 5) (v := .int x49) (C := RX6) (T := TX6) (N := 18) hx hb hts (fun _ h => List.mem_cons_of_mem _ (List.mem_append_right _ h)) hown hK hP 0 rfl rfl 9 (by decide) (hts (.fieldLink RX6 110 "HazelGiftModel" "at" "I") (List.mem_of_getElem? (i := 1) rfl)) (fun _ h9 => h9) rfl dX6_readsMove_125 ?_
              refine lv_iconst (v := 1) hx hb dX6_readsMove_128 (by decide) ?_
              refine lv_iadd hx hb dX6_readsMove_129 ?_
              refine lv_topi (fun x55 ex55 => ?_)
              replace hw := hw x55 ex55
              refine va_put (D := D) (ci := 5) (v := .int x55) (ty := tyX6 9) (C := RX6) (T := TX6) (N := 18) hx hb hts (fun _ h => List.mem_cons_of_mem _ (List.mem_append_right _ h)) tyX6 tyX6_ok nmX6 hown hK hP hD hS 0 rfl rfl 9 (by decide) (hts (.fieldLink RX6 110 "HazelGiftModel" "at" "I") (List.mem_of_getElem? (i := 1) rfl)) (fun _ h9 => h9) rfl (tyX6_ok 9 (by decide)) rfl rfl (Nat.le_of_ble_eq_true rfl) dX6_readsMove_130 (fun H locs hP hD hS => ?_)
              have hP : va_P D vwCl (wM kI mo m0 m1 m2 m3 m4 m5 m6 m7 (w43.1, w43.2.1, w43.2.2.1, w43.2.2.2.1, w43.2.2.2.2.1, w43.2.2.2.2.2.1, w43.2.2.2.2.2.2.1, w43.2.2.2.2.2.2.2.1, w43.2.2.2.2.2.2.2.2.1, w43.2.2.2.2.2.2.2.2.2.1, w43.2.2.2.2.2.2.2.2.2.2.1, w43.2.2.2.2.2.2.2.2.2.2.2.1, x55, w43.2.2.2.2.2.2.2.2.2.2.2.2.2.1, x54, w43.2.2.2.2.2.2.2.2.2.2.2.2.2.2.2.1, w43.2.2.2.2.2.2.2.2.2.2.2.2.2.2.2.2.1, w43.2.2.2.2.2.2.2.2.2.2.2.2.2.2.2.2.2)) H := hP
              have hD : va_D A (wM kI mo m0 m1 m2 m3 m4 m5 m6 m7 (w43.1, w43.2.1, w43.2.2.1, w43.2.2.2.1, w43.2.2.2.2.1, w43.2.2.2.2.2.1, w43.2.2.2.2.2.2.1, w43.2.2.2.2.2.2.2.1, w43.2.2.2.2.2.2.2.2.1, w43.2.2.2.2.2.2.2.2.2.1, w43.2.2.2.2.2.2.2.2.2.2.1, w43.2.2.2.2.2.2.2.2.2.2.2.1, x55, w43.2.2.2.2.2.2.2.2.2.2.2.2.2.1, x54, w43.2.2.2.2.2.2.2.2.2.2.2.2.2.2.2.1, w43.2.2.2.2.2.2.2.2.2.2.2.2.2.2.2.2.1, w43.2.2.2.2.2.2.2.2.2.2.2.2.2.2.2.2.2)) := hD
              refine lv_iconst (v := 1) hx hb dX6_readsMove_133 (by decide) ?_
              exact W.zret (v := 1) hx hb hr rfl (fun t ht hW => ⟨⟨1, (w43.1, w43.2.1, w43.2.2.1, w43.2.2.2.1, w43.2.2.2.2.1, w43.2.2.2.2.2.1, w43.2.2.2.2.2.2.1, w43.2.2.2.2.2.2.2.1, w43.2.2.2.2.2.2.2.2.1, w43.2.2.2.2.2.2.2.2.2.1, w43.2.2.2.2.2.2.2.2.2.2.1, w43.2.2.2.2.2.2.2.2.2.2.2.1, x55, w43.2.2.2.2.2.2.2.2.2.2.2.2.2.1, x54, w43.2.2.2.2.2.2.2.2.2.2.2.2.2.2.2.1, w43.2.2.2.2.2.2.2.2.2.2.2.2.2.2.2.2.1, w43.2.2.2.2.2.2.2.2.2.2.2.2.2.2.2.2.2), rfl, hw, by rw [ht]; exact hP, va_K.moved hW.alike hK, hD⟩, hS.F ht⟩) hS.2.2 dX6_readsMove_134
        · replace hw := Eq.mp (if_pos c46) hw
          refine lv_iconst (v := 0) hx hb dX6_readsMove_57 (by decide) ?_
          exact W.zret (v := 0) hx hb hr rfl (fun t ht hW => ⟨⟨0, w43, rfl, hw, by rw [ht]; exact hP, va_K.moved hW.alike hK, hD⟩, hS.F ht⟩) hS.2.2 dX6_readsMove_58
set_option maxHeartbeats 4000000 in
set_option maxRecDepth 100000 in
theorem kX6_errorOfText (l : Launch) (D : va_G) (kI kC kG kJ : ClassId) (mo m0 m1 m2 m3 m4 m5 m6 m7 : Nat) (sz : Nat) (u : SM) (Z : Int32 → SM → Prop) (hw : pX6_errorOfText u Z) : Met l yX6_errorOfText wsX6_errorOfText ({ frames := 4, cells := 0, slots := 0, locals := 89 } : Room) (gPw D (gT kI kC kG kJ) [.ref mo] (wM kI mo m0 m1 m2 m3 m4 m5 m6 m7 u) sz) (va_Qi Z (gB D (gT kI kC kG kJ) (fun (zz : SM) => wM kI mo m0 m1 m2 m3 m4 m5 m6 m7 zz) (va_A (wM kI mo m0 m1 m2 m3 m4 m5 m6 m7 u) sz)) (va_A (wM kI mo m0 m1 m2 m3 m4 m5 m6 m7 u) sz)) 0 0 (va_A (wM kI mo m0 m1 m2 m3 m4 m5 m6 m7 u) sz) := by
  refine Met.ofW (cc := cX6_errorOfText) (maxL := 2) (ret := (some .int)) (by decide) rfl ?_
  intro p e s m args below meth c s₁ B hml hv
  obtain ⟨rfl, hsz, hP, hK, hD0, hE⟩ := hv
  have hx := B.exec
  have hb := B.bytes
  have hr := B.returns
  have hts := atoms_spec (ws := wsX6_errorOfText) B.pre
  have hown : s.vm.findClass RX6 = some m.cls := findClass_of_methodNamed B.named
  have hlocks := B.notSynchronized
  subst hsz
  have hD := hD0.self (sz := s.heap.size)
  generalize hAe : va_A (wM kI mo m0 m1 m2 m3 m4 m5 m6 m7 u) s.heap.size = A at hD hE ⊢
  have hA : ∀ q : Nat, s.heap.size ≤ q → A q := fun q h => by rw [← hAe]; exact Or.inr h
  have hS : va_S A s.heap s.heap [] := va_S.rf
  clear hAe hD0
  have hl := lv_entry ([.ref mo]) (n := 2) (Nat.le_of_ble_eq_true rfl)
  rw [lg_entry_eq]
  generalize (lg_sl ([.ref mo]) ++ List.replicate (2 - (lg_sl ([.ref mo])).length) Slot.unset).toArray = ls at hl ⊢
  have hl : lv_has ls 2 [(0, .ref mo)] := hl
  have hP : va_P D vwCl (wM kI mo m0 m1 m2 m3 m4 m5 m6 m7 u) s.heap := hP
  have L7 : ∀ (_ : Unit), ∀ (n : Nat), ∀ (v1 : Int32) (u : SM) (H : Heap) (locs : List Loc) (ls : Array Slot), va_P D vwCl (wM kI mo m0 m1 m2 m3 m4 m5 m6 m7 u) H → va_D A (wM kI mo m0 m1 m2 m3 m4 m5 m6 m7 u) → va_S A s.heap H locs → lv_has ls 2 [(0, .ref mo), (1, .int v1)] → pX6_errorOfText_7 Z n v1 u → W p l e (headSpec wsX6_errorOfText ({ frames := 4, cells := 0, slots := 0, locals := 89 } : Room)).room s m ([.ref mo] : List Value).toArray below meth c H locs 0 0 (MQ below (va_Qi Z (gB D (gT kI kC kG kJ) (fun (zz : SM) => wM kI mo m0 m1 m2 m3 m4 m5 m6 m7 zz) A) A) ([.ref mo] : List Value).toArray s 0 0 A) (F0 m 7 ls []) := by
    intro _ n
    induction n with
    | zero => intro v1 u H locs ls hP hD hS hl hw; exact hw.elim
    | succ n ih =>
    intro v1 u H locs ls hP hD hS hl hw
    rw [pX6_errorOfText_7] at hw
    refine lv_iload_n hx hb dX6_errorOfText_7 rfl (lv_at hl 1 rfl) ?_
    refine lv_if_eq (tgt := 33) hx hb dX6_errorOfText_8 (by decide) (fun c1 => ?_) (fun c1 => ?_)
    · replace hw := Eq.mp (if_pos c1) hw
      refine lv_aload_n hx hb dX6_errorOfText_33 rfl (lv_at hl 0 rfl) ?_
      refine va_get (D := D) (ci := 5) (v := .int u.2.2.2.2.2.2.2.2.2.2.2.2.1) (C := RX6) (T := TX6) (N := 18) hx hb hts (fun _ h => List.mem_cons_of_mem _ (List.mem_append_right _ h)) hown hK hP 0 rfl rfl 9 (by decide) (hts (.fieldLink RX6 110 "HazelGiftModel" "at" "I") (List.mem_of_getElem? (i := 1) rfl)) (fun _ h9 => h9) rfl dX6_errorOfText_34 ?_
      refine lv_aload_n hx hb dX6_errorOfText_37 rfl (lv_at hl 0 rfl) ?_
      refine va_get (D := D) (ci := 5) (v := .int u.2.2.2.2.2.2.2.2.2.2.2.1) (C := RX6) (T := TX6) (N := 18) hx hb hts (fun _ h => List.mem_cons_of_mem _ (List.mem_append_right _ h)) hown hK hP 0 rfl rfl 8 (by decide) (hts (.fieldLink RX6 107 "HazelGiftModel" "textLong" "I") (List.mem_of_getElem? (i := 2) rfl)) (fun _ h9 => h9) rfl dX6_errorOfText_38 ?_
      refine lv_icmp_ne (tgt := 48) hx hb dX6_errorOfText_41 (by decide) (fun c2 => ?_) (fun c2 => ?_)
      · replace hw := Eq.mp (if_neg c2) hw
        refine lv_aload_n hx hb dX6_errorOfText_48 rfl (lv_at hl 0 rfl) ?_
        refine va_get (D := D) (ci := 5) (v := .int u.2.2.2.2.2.2.2.2.2.2.2.2.1) (C := RX6) (T := TX6) (N := 18) hx hb hts (fun _ h => List.mem_cons_of_mem _ (List.mem_append_right _ h)) hown hK hP 0 rfl rfl 9 (by decide) (hts (.fieldLink RX6 110 "HazelGiftModel" "at" "I") (List.mem_of_getElem? (i := 1) rfl)) (fun _ h9 => h9) rfl dX6_errorOfText_49 ?_
        exact W.iret (v := u.2.2.2.2.2.2.2.2.2.2.2.2.1) hx hb hr (fun t ht hW => ⟨⟨u.2.2.2.2.2.2.2.2.2.2.2.2.1, u, rfl, hw, by rw [ht]; exact hP, va_K.moved hW.alike hK, hD⟩, hS.F ht⟩) hS.2.2 dX6_errorOfText_52
      · replace hw := Eq.mp (if_pos c2) hw
        refine lv_iconst (v := (-1)) hx hb dX6_errorOfText_44 (by decide) ?_
        refine lv_goto (tgt := 52) hx hb dX6_errorOfText_45 (by decide) ?_
        exact W.iret (v := (-1)) hx hb hr (fun t ht hW => ⟨⟨(-1), u, rfl, hw, by rw [ht]; exact hP, va_K.moved hW.alike hK, hD⟩, hS.F ht⟩) hS.2.2 dX6_errorOfText_52
    · replace hw := Eq.mp (if_neg c1) hw
      refine lv_aload_n hx hb dX6_errorOfText_11 rfl (lv_at hl 0 rfl) ?_
      refine gWVi (S := SM) (As := []) (rest := []) (wc := wM kI mo m0 m1 m2 m3 m4 m5 m6 m7 u) (wr := []) (cs1 := (fun zz : SM => wM kI mo m0 m1 m2 m3 m4 m5 m6 m7 zz)) (ws2 := (fun zz : SM => wM kI mo m0 m1 m2 m3 m4 m5 m6 m7 zz)) ⟨hx, hb, hml, hown, hts⟩ (fun sz => kX6_readsMove l D kI kC kG kJ mo m0 m1 m2 m3 m4 m5 m6 m7 sz u _ hw) (cwV 0 hts gX6_errorOfText_X6_readsMove rfl rfl rfl hdX6_readsMove ⟨Nat.le_of_ble_eq_true rfl, Nat.le_of_ble_eq_true rfl⟩) hK hP hD hE hS hA [0, 1, 2, 3, 4, 5, 6, 7, 8] [] rfl rfl rfl rfl (by decide) [0, 1, 2, 3, 4, 5, 6, 7, 8] rfl (fun _ => rfl) (ci := 5) (q0 := 0) rfl rfl rfl rfl hl.1 rfl (Nat.le_of_ble_eq_true rfl) dX6_errorOfText_12 ⟨Nat.le_of_ble_eq_true rfl, Nat.le_of_ble_eq_true rfl⟩ (fun r3 w3 H locs hw hP hD hS => ?_)
      have hP : va_P D vwCl (wM kI mo m0 m1 m2 m3 m4 m5 m6 m7 w3) H := hP
      have hD : va_D A (wM kI mo m0 m1 m2 m3 m4 m5 m6 m7 w3) := hD
      refine lv_if_ne (tgt := 23) hx hb dX6_errorOfText_15 (by decide) (fun c4 => ?_) (fun c4 => ?_)
      · replace hw := Eq.mp (if_neg c4) hw
        refine lv_aload_n hx hb dX6_errorOfText_23 rfl (lv_at hl 0 rfl) ?_
        refine lv_bipush (v := 59) hx hb dX6_errorOfText_24 (by decide) ?_
        refine gWVi (S := SM) (As := [.int 59]) (rest := []) (wc := wM kI mo m0 m1 m2 m3 m4 m5 m6 m7 w3) (wr := []) (cs1 := (fun zz : SM => wM kI mo m0 m1 m2 m3 m4 m5 m6 m7 zz)) (ws2 := (fun zz : SM => wM kI mo m0 m1 m2 m3 m4 m5 m6 m7 zz)) ⟨hx, hb, hml, hown, hts⟩ (fun sz => kX6_takesOne l D kI kC kG kJ mo m0 m1 m2 m3 m4 m5 m6 m7 sz w3 59 _ hw) (cwV 1 hts gX6_errorOfText_X6_takesOne rfl rfl rfl hdX6_takesOne ⟨Nat.le_of_ble_eq_true rfl, Nat.le_of_ble_eq_true rfl⟩) hK hP hD hE hS hA [0, 1, 2, 3, 4, 5, 6, 7, 8] [] rfl rfl rfl rfl (by decide) [0, 1, 2, 3, 4, 5, 6, 7, 8] rfl (fun _ => rfl) (ci := 5) (q0 := 0) rfl rfl rfl rfl hl.1 rfl (Nat.le_of_ble_eq_true rfl) dX6_errorOfText_26 ⟨Nat.le_of_ble_eq_true rfl, Nat.le_of_ble_eq_true rfl⟩ (fun r5 w5 H locs hw hP hD hS => ?_)
        have hP : va_P D vwCl (wM kI mo m0 m1 m2 m3 m4 m5 m6 m7 w5) H := hP
        have hD : va_D A (wM kI mo m0 m1 m2 m3 m4 m5 m6 m7 w5) := hD
        refine lv_istore_n (lv' := [(1, .int r5), (0, .ref mo)]) hx hb dX6_errorOfText_29 rfl hl (by decide) rfl (fun ls hl => ?_)
        refine lv_goto (tgt := 7) hx hb dX6_errorOfText_30 (by decide) ?_
        exact ih r5 w5 H locs ls hP hD hS (lv_sub hl [1, 0] rfl) hw
      · replace hw := Eq.mp (if_pos c4) hw
        refine lv_aload_n hx hb dX6_errorOfText_18 rfl (lv_at hl 0 rfl) ?_
        refine va_get (D := D) (ci := 5) (v := .int w3.2.2.2.2.2.2.2.2.2.2.2.2.1) (C := RX6) (T := TX6) (N := 18) hx hb hts (fun _ h => List.mem_cons_of_mem _ (List.mem_append_right _ h)) hown hK hP 0 rfl rfl 9 (by decide) (hts (.fieldLink RX6 110 "HazelGiftModel" "at" "I") (List.mem_of_getElem? (i := 1) rfl)) (fun _ h9 => h9) rfl dX6_errorOfText_19 ?_
        exact W.iret (v := w3.2.2.2.2.2.2.2.2.2.2.2.2.1) hx hb hr (fun t ht hW => ⟨⟨w3.2.2.2.2.2.2.2.2.2.2.2.2.1, w3, rfl, hw, by rw [ht]; exact hP, va_K.moved hW.alike hK, hD⟩, hS.F ht⟩) hS.2.2 dX6_errorOfText_22
  unfold pX6_errorOfText at hw
  refine lv_aload_n hx hb dX6_errorOfText_0 rfl (lv_at hl 0 rfl) ?_
  refine lv_iconst (v := 0) hx hb dX6_errorOfText_1 (by decide) ?_
  refine va_put (D := D) (ci := 5) (v := .int 0) (ty := tyX6 9) (C := RX6) (T := TX6) (N := 18) hx hb hts (fun _ h => List.mem_cons_of_mem _ (List.mem_append_right _ h)) tyX6 tyX6_ok nmX6 hown hK hP hD hS 0 rfl rfl 9 (by decide) (hts (.fieldLink RX6 110 "HazelGiftModel" "at" "I") (List.mem_of_getElem? (i := 1) rfl)) (fun _ h9 => h9) rfl (tyX6_ok 9 (by decide)) rfl rfl (Nat.le_of_ble_eq_true rfl) dX6_errorOfText_2 (fun H locs hP hD hS => ?_)
  have hP : va_P D vwCl (wM kI mo m0 m1 m2 m3 m4 m5 m6 m7 (u.1, u.2.1, u.2.2.1, u.2.2.2.1, u.2.2.2.2.1, u.2.2.2.2.2.1, u.2.2.2.2.2.2.1, u.2.2.2.2.2.2.2.1, u.2.2.2.2.2.2.2.2.1, u.2.2.2.2.2.2.2.2.2.1, u.2.2.2.2.2.2.2.2.2.2.1, u.2.2.2.2.2.2.2.2.2.2.2.1, 0, u.2.2.2.2.2.2.2.2.2.2.2.2.2.1, u.2.2.2.2.2.2.2.2.2.2.2.2.2.2.1, u.2.2.2.2.2.2.2.2.2.2.2.2.2.2.2.1, u.2.2.2.2.2.2.2.2.2.2.2.2.2.2.2.2.1, u.2.2.2.2.2.2.2.2.2.2.2.2.2.2.2.2.2)) H := hP
  have hD : va_D A (wM kI mo m0 m1 m2 m3 m4 m5 m6 m7 (u.1, u.2.1, u.2.2.1, u.2.2.2.1, u.2.2.2.2.1, u.2.2.2.2.2.1, u.2.2.2.2.2.2.1, u.2.2.2.2.2.2.2.1, u.2.2.2.2.2.2.2.2.1, u.2.2.2.2.2.2.2.2.2.1, u.2.2.2.2.2.2.2.2.2.2.1, u.2.2.2.2.2.2.2.2.2.2.2.1, 0, u.2.2.2.2.2.2.2.2.2.2.2.2.2.1, u.2.2.2.2.2.2.2.2.2.2.2.2.2.2.1, u.2.2.2.2.2.2.2.2.2.2.2.2.2.2.2.1, u.2.2.2.2.2.2.2.2.2.2.2.2.2.2.2.2.1, u.2.2.2.2.2.2.2.2.2.2.2.2.2.2.2.2.2)) := hD
  refine lv_iconst (v := 1) hx hb dX6_errorOfText_5 (by decide) ?_
  refine lv_istore_n (lv' := [(1, .int 1), (0, .ref mo)]) hx hb dX6_errorOfText_6 rfl hl (by decide) rfl (fun ls hl => ?_)
  obtain ⟨n9, hw⟩ := hw
  exact L7 () n9 1 (u.1, u.2.1, u.2.2.1, u.2.2.2.1, u.2.2.2.2.1, u.2.2.2.2.2.1, u.2.2.2.2.2.2.1, u.2.2.2.2.2.2.2.1, u.2.2.2.2.2.2.2.2.1, u.2.2.2.2.2.2.2.2.2.1, u.2.2.2.2.2.2.2.2.2.2.1, u.2.2.2.2.2.2.2.2.2.2.2.1, 0, u.2.2.2.2.2.2.2.2.2.2.2.2.2.1, u.2.2.2.2.2.2.2.2.2.2.2.2.2.2.1, u.2.2.2.2.2.2.2.2.2.2.2.2.2.2.2.1, u.2.2.2.2.2.2.2.2.2.2.2.2.2.2.2.2.1, u.2.2.2.2.2.2.2.2.2.2.2.2.2.2.2.2.2) H locs ls hP hD hS (lv_sub hl [1, 0] rfl) hw
set_option maxHeartbeats 4000000 in
set_option maxRecDepth 100000 in
theorem kX6_textError (l : Launch) (D : va_G) (kI kC kG kJ : ClassId) (mo m0 m1 m2 m3 m4 m5 m6 m7 : Nat) (sz : Nat) (u : SM) (Z : Int32 → SM → Prop) (hw : pX6_textError u Z) : Met l yX6_textError wsX6_textError ({ frames := 5, cells := 0, slots := 0, locals := 110 } : Room) (gPw D (gT kI kC kG kJ) [.ref mo] (wM kI mo m0 m1 m2 m3 m4 m5 m6 m7 u) sz) (va_Qi Z (gB D (gT kI kC kG kJ) (fun (zz : SM) => wM kI mo m0 m1 m2 m3 m4 m5 m6 m7 zz) (va_A (wM kI mo m0 m1 m2 m3 m4 m5 m6 m7 u) sz)) (va_A (wM kI mo m0 m1 m2 m3 m4 m5 m6 m7 u) sz)) 0 0 (va_A (wM kI mo m0 m1 m2 m3 m4 m5 m6 m7 u) sz) := by
  refine Met.ofW (cc := cX6_textError) (maxL := 1) (ret := (some .int)) (by decide) rfl ?_
  intro p e s m args below meth c s₁ B hml hv
  obtain ⟨rfl, hsz, hP, hK, hD0, hE⟩ := hv
  have hx := B.exec
  have hb := B.bytes
  have hr := B.returns
  have hts := atoms_spec (ws := wsX6_textError) B.pre
  have hown : s.vm.findClass RX6 = some m.cls := findClass_of_methodNamed B.named
  have hlocks := B.notSynchronized
  subst hsz
  have hD := hD0.self (sz := s.heap.size)
  generalize hAe : va_A (wM kI mo m0 m1 m2 m3 m4 m5 m6 m7 u) s.heap.size = A at hD hE ⊢
  have hA : ∀ q : Nat, s.heap.size ≤ q → A q := fun q h => by rw [← hAe]; exact Or.inr h
  have hS : va_S A s.heap s.heap [] := va_S.rf
  clear hAe hD0
  have hl := lv_entry ([.ref mo]) (n := 1) (Nat.le_of_ble_eq_true rfl)
  rw [lg_entry_eq]
  generalize (lg_sl ([.ref mo]) ++ List.replicate (1 - (lg_sl ([.ref mo])).length) Slot.unset).toArray = ls at hl ⊢
  have hl : lv_has ls 1 [(0, .ref mo)] := hl
  have hP : va_P D vwCl (wM kI mo m0 m1 m2 m3 m4 m5 m6 m7 u) s.heap := hP
  unfold pX6_textError at hw
  refine lv_aload_n hx hb dX6_textError_0 rfl (lv_at hl 0 rfl) ?_
  refine lv_aload_n hx hb dX6_textError_1 rfl (lv_at hl 0 rfl) ?_
  refine gWVi (S := SM) (As := []) (rest := [.ref mo]) (wc := wM kI mo m0 m1 m2 m3 m4 m5 m6 m7 u) (wr := []) (cs1 := (fun zz : SM => wM kI mo m0 m1 m2 m3 m4 m5 m6 m7 zz)) (ws2 := (fun zz : SM => wM kI mo m0 m1 m2 m3 m4 m5 m6 m7 zz)) ⟨hx, hb, hml, hown, hts⟩ (fun sz => kX6_errorOfText l D kI kC kG kJ mo m0 m1 m2 m3 m4 m5 m6 m7 sz u _ hw) (cwV 0 hts gX6_textError_X6_errorOfText rfl rfl rfl hdX6_errorOfText ⟨Nat.le_of_ble_eq_true rfl, Nat.le_of_ble_eq_true rfl⟩) hK hP hD hE hS hA [0, 1, 2, 3, 4, 5, 6, 7, 8] [] rfl rfl rfl rfl (by decide) [0, 1, 2, 3, 4, 5, 6, 7, 8] rfl (fun _ => rfl) (ci := 5) (q0 := 0) rfl rfl rfl rfl hl.1 rfl (Nat.le_of_ble_eq_true rfl) dX6_textError_2 ⟨Nat.le_of_ble_eq_true rfl, Nat.le_of_ble_eq_true rfl⟩ (fun r1 w1 H locs hw hP hD hS => ?_)
  have hP : va_P D vwCl (wM kI mo m0 m1 m2 m3 m4 m5 m6 m7 w1) H := hP
  have hD : va_D A (wM kI mo m0 m1 m2 m3 m4 m5 m6 m7 w1) := hD
  refine gWVi (S := SM) (As := [.int r1]) (rest := []) (wc := wM kI mo m0 m1 m2 m3 m4 m5 m6 m7 w1) (wr := []) (cs1 := (fun zz : SM => wM kI mo m0 m1 m2 m3 m4 m5 m6 m7 zz)) (ws2 := (fun zz : SM => wM kI mo m0 m1 m2 m3 m4 m5 m6 m7 zz)) ⟨hx, hb, hml, hown, hts⟩ (fun sz => kX6_told l D kI kC kG kJ mo m0 m1 m2 m3 m4 m5 m6 m7 sz w1 r1 _ hw) (cwV 1 hts gX6_textError_X6_told rfl rfl rfl hdX6_told ⟨Nat.le_of_ble_eq_true rfl, Nat.le_of_ble_eq_true rfl⟩) hK hP hD hE hS hA [0, 1, 2, 3, 4, 5, 6, 7, 8] [] rfl rfl rfl rfl (by decide) [0, 1, 2, 3, 4, 5, 6, 7, 8] rfl (fun _ => rfl) (ci := 5) (q0 := 0) rfl rfl rfl rfl hl.1 rfl (Nat.le_of_ble_eq_true rfl) dX6_textError_5 ⟨Nat.le_of_ble_eq_true rfl, Nat.le_of_ble_eq_true rfl⟩ (fun r2 w2 H locs hw hP hD hS => ?_)
  have hP : va_P D vwCl (wM kI mo m0 m1 m2 m3 m4 m5 m6 m7 w2) H := hP
  have hD : va_D A (wM kI mo m0 m1 m2 m3 m4 m5 m6 m7 w2) := hD
  exact W.iret (v := r2) hx hb hr (fun t ht hW => ⟨⟨r2, w2, rfl, hw, by rw [ht]; exact hP, va_K.moved hW.alike hK, hD⟩, hS.F ht⟩) hS.2.2 dX6_textError_8
set_option maxHeartbeats 4000000 in
set_option maxRecDepth 100000 in
theorem kX6_makesAll (l : Launch) (D : va_G) (kI kC kG kJ : ClassId) (mo m0 m1 m2 m3 m4 m5 m6 m7 : Nat) (sz : Nat) (u : SM) (Z : SM → Prop) (hw : pX6_makesAll u Z) : Met l yX6_makesAll wsX6_makesAll ({ frames := 4, cells := 0, slots := 0, locals := 91 } : Room) (gPw D (gT kI kC kG kJ) [.ref mo] (wM kI mo m0 m1 m2 m3 m4 m5 m6 m7 u) sz) (va_Qv Z (gB D (gT kI kC kG kJ) (fun (zz : SM) => wM kI mo m0 m1 m2 m3 m4 m5 m6 m7 zz) (va_A (wM kI mo m0 m1 m2 m3 m4 m5 m6 m7 u) sz)) (va_A (wM kI mo m0 m1 m2 m3 m4 m5 m6 m7 u) sz)) 0 0 (va_A (wM kI mo m0 m1 m2 m3 m4 m5 m6 m7 u) sz) := by
  refine Met.ofW (cc := cX6_makesAll) (maxL := 3) (ret := none) (by decide) rfl ?_
  intro p e s m args below meth c s₁ B hml hv
  obtain ⟨rfl, hsz, hP, hK, hD0, hE⟩ := hv
  have hx := B.exec
  have hb := B.bytes
  have hr := B.returns
  have hts := atoms_spec (ws := wsX6_makesAll) B.pre
  have hown : s.vm.findClass RX6 = some m.cls := findClass_of_methodNamed B.named
  have hlocks := B.notSynchronized
  subst hsz
  have hD := hD0.self (sz := s.heap.size)
  generalize hAe : va_A (wM kI mo m0 m1 m2 m3 m4 m5 m6 m7 u) s.heap.size = A at hD hE ⊢
  have hA : ∀ q : Nat, s.heap.size ≤ q → A q := fun q h => by rw [← hAe]; exact Or.inr h
  have hS : va_S A s.heap s.heap [] := va_S.rf
  clear hAe hD0
  have hl := lv_entry ([.ref mo]) (n := 3) (Nat.le_of_ble_eq_true rfl)
  rw [lg_entry_eq]
  generalize (lg_sl ([.ref mo]) ++ List.replicate (3 - (lg_sl ([.ref mo])).length) Slot.unset).toArray = ls at hl ⊢
  have hl : lv_has ls 3 [(0, .ref mo)] := hl
  have hP : va_P D vwCl (wM kI mo m0 m1 m2 m3 m4 m5 m6 m7 u) s.heap := hP
  have L17 : ∀ (_ : Unit), ∀ (n : Nat), ∀ (v1 : Int32) (u : SM) (H : Heap) (locs : List Loc) (ls : Array Slot), va_P D vwCl (wM kI mo m0 m1 m2 m3 m4 m5 m6 m7 u) H → va_D A (wM kI mo m0 m1 m2 m3 m4 m5 m6 m7 u) → va_S A s.heap H locs → lv_has ls 3 [(0, .ref mo), (1, .int v1)] → pX6_makesAll_17 Z n v1 u → W p l e (headSpec wsX6_makesAll ({ frames := 4, cells := 0, slots := 0, locals := 91 } : Room)).room s m ([.ref mo] : List Value).toArray below meth c H locs 0 0 (MQ below (va_Qv Z (gB D (gT kI kC kG kJ) (fun (zz : SM) => wM kI mo m0 m1 m2 m3 m4 m5 m6 m7 zz) A) A) ([.ref mo] : List Value).toArray s 0 0 A) (F0 m 17 ls []) := by
    intro _ n
    induction n with
    | zero => intro v1 u H locs ls hP hD hS hl hw; exact hw.elim
    | succ n ih =>
    intro v1 u H locs ls hP hD hS hl hw
    rw [pX6_makesAll_17] at hw
    refine lv_iload_n hx hb dX6_makesAll_17 rfl (lv_at hl 1 rfl) ?_
    refine lv_if_eq (tgt := 120) hx hb dX6_makesAll_18 (by decide) (fun c1 => ?_) (fun c1 => ?_)
    · replace hw := Eq.mp (if_pos c1) hw
      refine lv_aload_n hx hb dX6_makesAll_120 rfl (lv_at hl 0 rfl) ?_
      refine lv_iconst (v := 1) hx hb dX6_makesAll_121 (by decide) ?_
      refine va_put (D := D) (ci := 5) (v := .int 1) (ty := tyX6 13) (C := RX6) (T := TX6) (N := 18) hx hb hts (fun _ h => List.mem_cons_of_mem _ (List.mem_append_right _ h)) tyX6 tyX6_ok nmX6 hown hK hP hD hS 0 rfl rfl 13 (by decide) (hts (.fieldLink RX6 137 "HazelGiftModel" "isAll" "Z") (List.mem_of_getElem? (i := 3) rfl)) (fun _ h9 => h9) rfl (tyX6_ok 13 (by decide)) rfl rfl (Nat.le_of_ble_eq_true rfl) dX6_makesAll_122 (fun H locs hP hD hS => ?_)
      have hP : va_P D vwCl (wM kI mo m0 m1 m2 m3 m4 m5 m6 m7 (u.1, u.2.1, u.2.2.1, u.2.2.2.1, u.2.2.2.2.1, u.2.2.2.2.2.1, u.2.2.2.2.2.2.1, u.2.2.2.2.2.2.2.1, u.2.2.2.2.2.2.2.2.1, u.2.2.2.2.2.2.2.2.2.1, u.2.2.2.2.2.2.2.2.2.2.1, u.2.2.2.2.2.2.2.2.2.2.2.1, u.2.2.2.2.2.2.2.2.2.2.2.2.1, u.2.2.2.2.2.2.2.2.2.2.2.2.2.1, u.2.2.2.2.2.2.2.2.2.2.2.2.2.2.1, u.2.2.2.2.2.2.2.2.2.2.2.2.2.2.2.1, 1, u.2.2.2.2.2.2.2.2.2.2.2.2.2.2.2.2.2)) H := hP
      have hD : va_D A (wM kI mo m0 m1 m2 m3 m4 m5 m6 m7 (u.1, u.2.1, u.2.2.1, u.2.2.2.1, u.2.2.2.2.1, u.2.2.2.2.2.1, u.2.2.2.2.2.2.1, u.2.2.2.2.2.2.2.1, u.2.2.2.2.2.2.2.2.1, u.2.2.2.2.2.2.2.2.2.1, u.2.2.2.2.2.2.2.2.2.2.1, u.2.2.2.2.2.2.2.2.2.2.2.1, u.2.2.2.2.2.2.2.2.2.2.2.2.1, u.2.2.2.2.2.2.2.2.2.2.2.2.2.1, u.2.2.2.2.2.2.2.2.2.2.2.2.2.2.1, u.2.2.2.2.2.2.2.2.2.2.2.2.2.2.2.1, 1, u.2.2.2.2.2.2.2.2.2.2.2.2.2.2.2.2.2)) := hD
      exact W.vret hx hb hr (fun t ht hW => ⟨⟨(u.1, u.2.1, u.2.2.1, u.2.2.2.1, u.2.2.2.2.1, u.2.2.2.2.2.1, u.2.2.2.2.2.2.1, u.2.2.2.2.2.2.2.1, u.2.2.2.2.2.2.2.2.1, u.2.2.2.2.2.2.2.2.2.1, u.2.2.2.2.2.2.2.2.2.2.1, u.2.2.2.2.2.2.2.2.2.2.2.1, u.2.2.2.2.2.2.2.2.2.2.2.2.1, u.2.2.2.2.2.2.2.2.2.2.2.2.2.1, u.2.2.2.2.2.2.2.2.2.2.2.2.2.2.1, u.2.2.2.2.2.2.2.2.2.2.2.2.2.2.2.1, 1, u.2.2.2.2.2.2.2.2.2.2.2.2.2.2.2.2.2), rfl, hw, by rw [ht]; exact hP, va_K.moved hW.alike hK, hD⟩, hS.F ht⟩) hS.2.2 dX6_makesAll_125
    · replace hw := Eq.mp (if_neg c1) hw
      refine lv_aload_n hx hb dX6_makesAll_21 rfl (lv_at hl 0 rfl) ?_
      refine gWVi (S := SM) (As := []) (rest := []) (wc := wM kI mo m0 m1 m2 m3 m4 m5 m6 m7 u) (wr := []) (cs1 := (fun zz : SM => wM kI mo m0 m1 m2 m3 m4 m5 m6 m7 zz)) (ws2 := (fun zz : SM => wM kI mo m0 m1 m2 m3 m4 m5 m6 m7 zz)) ⟨hx, hb, hml, hown, hts⟩ (fun sz => kX6_readsMove l D kI kC kG kJ mo m0 m1 m2 m3 m4 m5 m6 m7 sz u _ hw) (cwV 0 hts gX6_makesAll_X6_readsMove rfl rfl rfl hdX6_readsMove ⟨Nat.le_of_ble_eq_true rfl, Nat.le_of_ble_eq_true rfl⟩) hK hP hD hE hS hA [0, 1, 2, 3, 4, 5, 6, 7, 8] [] rfl rfl rfl rfl (by decide) [0, 1, 2, 3, 4, 5, 6, 7, 8] rfl (fun _ => rfl) (ci := 5) (q0 := 0) rfl rfl rfl rfl hl.1 rfl (Nat.le_of_ble_eq_true rfl) dX6_makesAll_22 ⟨Nat.le_of_ble_eq_true rfl, Nat.le_of_ble_eq_true rfl⟩ (fun r2 w2 H locs hw hP hD hS => ?_)
      have hP : va_P D vwCl (wM kI mo m0 m1 m2 m3 m4 m5 m6 m7 w2) H := hP
      have hD : va_D A (wM kI mo m0 m1 m2 m3 m4 m5 m6 m7 w2) := hD
      refine lv_if_eq (tgt := 62) hx hb dX6_makesAll_25 (by decide) (fun c3 => ?_) (fun c3 => ?_)
      · replace hw := Eq.mp (if_pos c3) hw
        exact W.vret hx hb hr (fun t ht hW => ⟨⟨w2, rfl, hw, by rw [ht]; exact hP, va_K.moved hW.alike hK, hD⟩, hS.F ht⟩) hS.2.2 dX6_makesAll_62
      · replace hw := Eq.mp (if_neg c3) hw
        refine lv_aload_n hx hb dX6_makesAll_28 rfl (lv_at hl 0 rfl) ?_
        refine va_get (D := D) (ci := 5) (v := .int w2.2.2.2.2.2.2.2.2.2.2.2.2.2.1) (C := RX6) (T := TX6) (N := 18) hx hb hts (fun _ h => List.mem_cons_of_mem _ (List.mem_append_right _ h)) hown hK hP 0 rfl rfl 10 (by decide) (hts (.fieldLink RX6 116 "HazelGiftModel" "sign" "I") (List.mem_of_getElem? (i := 4) rfl)) (fun _ h9 => h9) rfl dX6_makesAll_29 ?_
        refine lv_bipush (v := 103) hx hb dX6_makesAll_32 (by decide) ?_
        refine lv_icmp_ne (tgt := 51) hx hb dX6_makesAll_34 (by decide) (fun c4 => ?_) (fun c4 => ?_)
        · replace hw := Eq.mp (if_neg c4) hw
          refine lv_aload_n hx hb dX6_makesAll_51 rfl (lv_at hl 0 rfl) ?_
          refine lv_aload_n hx hb dX6_makesAll_52 rfl (lv_at hl 0 rfl) ?_
          refine va_get (D := D) (ci := 5) (v := .int w2.2.2.2.2.2.2.2.2.2.2.2.2.2.2.1) (C := RX6) (T := TX6) (N := 18) hx hb hts (fun _ h => List.mem_cons_of_mem _ (List.mem_append_right _ h)) hown hK hP 0 rfl rfl 11 (by decide) (hts (.fieldLink RX6 122 "HazelGiftModel" "number" "I") (List.mem_of_getElem? (i := 5) rfl)) (fun _ h9 => h9) rfl dX6_makesAll_53 ?_
          refine gVi (As := [.int w2.2.2.2.2.2.2.2.2.2.2.2.2.2.2.1]) (rest := []) (cs' := wM kI mo m0 m1 m2 m3 m4 m5 m6 m7 w2) ⟨hx, hb, hml, hown, hts⟩ (kX6_canPlace l D kI kC kG kJ mo m0 m1 m2 m3 m4 m5 m6 m7 w2 w2.2.2.2.2.2.2.2.2.2.2.2.2.2.2.1 _ hw) (cwV 1 hts gX6_makesAll_X6_canPlace rfl rfl rfl hdX6_canPlace ⟨Nat.le_of_ble_eq_true rfl, Nat.le_of_ble_eq_true rfl⟩) hK hP hE hS [0, 1, 2, 3, 4, 5, 6, 7, 8] rfl (ci := 5) (q0 := 0) rfl rfl rfl rfl hl.1 rfl (Nat.le_of_ble_eq_true rfl) dX6_makesAll_56 ⟨Nat.le_of_ble_eq_true rfl, Nat.le_of_ble_eq_true rfl⟩ (fun r5 hw => ?_)
          refine lv_if_ne (tgt := 63) hx hb dX6_makesAll_59 (by decide) (fun c6 => ?_) (fun c6 => ?_)
          · replace hw := Eq.mp (if_neg c6) hw
            refine lv_aload_n hx hb dX6_makesAll_63 rfl (lv_at hl 0 rfl) ?_
            refine va_get (D := D) (ci := 5) (v := .int w2.2.2.2.2.2.2.2.2.2.2.2.2.2.1) (C := RX6) (T := TX6) (N := 18) hx hb hts (fun _ h => List.mem_cons_of_mem _ (List.mem_append_right _ h)) hown hK hP 0 rfl rfl 10 (by decide) (hts (.fieldLink RX6 116 "HazelGiftModel" "sign" "I") (List.mem_of_getElem? (i := 4) rfl)) (fun _ h9 => h9) rfl dX6_makesAll_64 ?_
            refine lv_bipush (v := 103) hx hb dX6_makesAll_67 (by decide) ?_
            refine lv_icmp_ne (tgt := 91) hx hb dX6_makesAll_69 (by decide) (fun c7 => ?_) (fun c7 => ?_)
            · replace hw := Eq.mp (if_neg c7) hw
              refine lv_aload_n hx hb dX6_makesAll_91 rfl (lv_at hl 0 rfl) ?_
              refine lv_aload_n hx hb dX6_makesAll_92 rfl (lv_at hl 0 rfl) ?_
              refine va_get (D := D) (ci := 5) (v := .int w2.2.2.2.2.2.2.2.2.2.2.2.2.2.2.1) (C := RX6) (T := TX6) (N := 18) hx hb hts (fun _ h => List.mem_cons_of_mem _ (List.mem_append_right _ h)) hown hK hP 0 rfl rfl 11 (by decide) (hts (.fieldLink RX6 122 "HazelGiftModel" "number" "I") (List.mem_of_getElem? (i := 5) rfl)) (fun _ h9 => h9) rfl dX6_makesAll_93 ?_
              refine gWVi (S := SM) (As := [.int w2.2.2.2.2.2.2.2.2.2.2.2.2.2.2.1]) (rest := []) (wc := wM kI mo m0 m1 m2 m3 m4 m5 m6 m7 w2) (wr := []) (cs1 := (fun zz : SM => wM kI mo m0 m1 m2 m3 m4 m5 m6 m7 zz)) (ws2 := (fun zz : SM => wM kI mo m0 m1 m2 m3 m4 m5 m6 m7 zz)) ⟨hx, hb, hml, hown, hts⟩ (fun sz => kX6_places l D kI kC kG kJ mo m0 m1 m2 m3 m4 m5 m6 m7 sz w2 w2.2.2.2.2.2.2.2.2.2.2.2.2.2.2.1 _ hw) (cwV 1 hts gX6_makesAll_X6_places rfl rfl rfl hdX6_places ⟨Nat.le_of_ble_eq_true rfl, Nat.le_of_ble_eq_true rfl⟩) hK hP hD hE hS hA [0, 1, 2, 3, 4, 5, 6, 7, 8] [] rfl rfl rfl rfl (by decide) [0, 1, 2, 3, 4, 5, 6, 7, 8] rfl (fun _ => rfl) (ci := 5) (q0 := 0) rfl rfl rfl rfl hl.1 rfl (Nat.le_of_ble_eq_true rfl) dX6_makesAll_96 ⟨Nat.le_of_ble_eq_true rfl, Nat.le_of_ble_eq_true rfl⟩ (fun r8 w8 H locs hw hP hD hS => ?_)
              have hP : va_P D vwCl (wM kI mo m0 m1 m2 m3 m4 m5 m6 m7 w8) H := hP
              have hD : va_D A (wM kI mo m0 m1 m2 m3 m4 m5 m6 m7 w8) := hD
              refine lv_istore_n (lv' := [(2, .int r8), (0, .ref mo), (1, .int v1)]) hx hb dX6_makesAll_99 rfl hl (by decide) rfl (fun ls hl => ?_)
              refine lv_aload_n hx hb dX6_makesAll_100 rfl (lv_at hl 1 rfl) ?_
              refine lv_dup hx hb dX6_makesAll_101 rfl ?_
              refine va_get (D := D) (ci := 5) (v := .int w8.2.2.2.2.2.2.2.2.2.2.2.2.2.2.2.1) (C := RX6) (T := TX6) (N := 18) hx hb hts (fun _ h => List.mem_cons_of_mem _ (List.mem_append_right _ h)) hown hK hP 0 rfl rfl 12 (by decide) (hts (.fieldLink RX6 134 "HazelGiftModel" "done" "I") (List.mem_of_getElem? (i := 2) rfl)) (fun _ h9 => h9) rfl dX6_makesAll_102 ?_
              refine lv_iconst (v := 1) hx hb dX6_makesAll_105 (by decide) ?_
              refine lv_iadd hx hb dX6_makesAll_106 ?_
              refine lv_topi (fun x9 ex9 => ?_)
              replace hw := hw x9 ex9
              refine va_put (D := D) (ci := 5) (v := .int x9) (ty := tyX6 12) (C := RX6) (T := TX6) (N := 18) hx hb hts (fun _ h => List.mem_cons_of_mem _ (List.mem_append_right _ h)) tyX6 tyX6_ok nmX6 hown hK hP hD hS 0 rfl rfl 12 (by decide) (hts (.fieldLink RX6 134 "HazelGiftModel" "done" "I") (List.mem_of_getElem? (i := 2) rfl)) (fun _ h9 => h9) rfl (tyX6_ok 12 (by decide)) rfl rfl (Nat.le_of_ble_eq_true rfl) dX6_makesAll_107 (fun H locs hP hD hS => ?_)
              have hP : va_P D vwCl (wM kI mo m0 m1 m2 m3 m4 m5 m6 m7 (w8.1, w8.2.1, w8.2.2.1, w8.2.2.2.1, w8.2.2.2.2.1, w8.2.2.2.2.2.1, w8.2.2.2.2.2.2.1, w8.2.2.2.2.2.2.2.1, w8.2.2.2.2.2.2.2.2.1, w8.2.2.2.2.2.2.2.2.2.1, w8.2.2.2.2.2.2.2.2.2.2.1, w8.2.2.2.2.2.2.2.2.2.2.2.1, w8.2.2.2.2.2.2.2.2.2.2.2.2.1, w8.2.2.2.2.2.2.2.2.2.2.2.2.2.1, w8.2.2.2.2.2.2.2.2.2.2.2.2.2.2.1, x9, w8.2.2.2.2.2.2.2.2.2.2.2.2.2.2.2.2.1, w8.2.2.2.2.2.2.2.2.2.2.2.2.2.2.2.2.2)) H := hP
              have hD : va_D A (wM kI mo m0 m1 m2 m3 m4 m5 m6 m7 (w8.1, w8.2.1, w8.2.2.1, w8.2.2.2.1, w8.2.2.2.2.1, w8.2.2.2.2.2.1, w8.2.2.2.2.2.2.1, w8.2.2.2.2.2.2.2.1, w8.2.2.2.2.2.2.2.2.1, w8.2.2.2.2.2.2.2.2.2.1, w8.2.2.2.2.2.2.2.2.2.2.1, w8.2.2.2.2.2.2.2.2.2.2.2.1, w8.2.2.2.2.2.2.2.2.2.2.2.2.1, w8.2.2.2.2.2.2.2.2.2.2.2.2.2.1, w8.2.2.2.2.2.2.2.2.2.2.2.2.2.2.1, x9, w8.2.2.2.2.2.2.2.2.2.2.2.2.2.2.2.2.1, w8.2.2.2.2.2.2.2.2.2.2.2.2.2.2.2.2.2)) := hD
              refine lv_aload_n hx hb dX6_makesAll_110 rfl (lv_at hl 1 rfl) ?_
              refine lv_bipush (v := 59) hx hb dX6_makesAll_111 (by decide) ?_
              refine gWVi (S := SM) (As := [.int 59]) (rest := []) (wc := wM kI mo m0 m1 m2 m3 m4 m5 m6 m7 (w8.1, w8.2.1, w8.2.2.1, w8.2.2.2.1, w8.2.2.2.2.1, w8.2.2.2.2.2.1, w8.2.2.2.2.2.2.1, w8.2.2.2.2.2.2.2.1, w8.2.2.2.2.2.2.2.2.1, w8.2.2.2.2.2.2.2.2.2.1, w8.2.2.2.2.2.2.2.2.2.2.1, w8.2.2.2.2.2.2.2.2.2.2.2.1, w8.2.2.2.2.2.2.2.2.2.2.2.2.1, w8.2.2.2.2.2.2.2.2.2.2.2.2.2.1, w8.2.2.2.2.2.2.2.2.2.2.2.2.2.2.1, x9, w8.2.2.2.2.2.2.2.2.2.2.2.2.2.2.2.2.1, w8.2.2.2.2.2.2.2.2.2.2.2.2.2.2.2.2.2)) (wr := []) (cs1 := (fun zz : SM => wM kI mo m0 m1 m2 m3 m4 m5 m6 m7 zz)) (ws2 := (fun zz : SM => wM kI mo m0 m1 m2 m3 m4 m5 m6 m7 zz)) ⟨hx, hb, hml, hown, hts⟩ (fun sz => kX6_takesOne l D kI kC kG kJ mo m0 m1 m2 m3 m4 m5 m6 m7 sz (w8.1, w8.2.1, w8.2.2.1, w8.2.2.2.1, w8.2.2.2.2.1, w8.2.2.2.2.2.1, w8.2.2.2.2.2.2.1, w8.2.2.2.2.2.2.2.1, w8.2.2.2.2.2.2.2.2.1, w8.2.2.2.2.2.2.2.2.2.1, w8.2.2.2.2.2.2.2.2.2.2.1, w8.2.2.2.2.2.2.2.2.2.2.2.1, w8.2.2.2.2.2.2.2.2.2.2.2.2.1, w8.2.2.2.2.2.2.2.2.2.2.2.2.2.1, w8.2.2.2.2.2.2.2.2.2.2.2.2.2.2.1, x9, w8.2.2.2.2.2.2.2.2.2.2.2.2.2.2.2.2.1, w8.2.2.2.2.2.2.2.2.2.2.2.2.2.2.2.2.2) 59 _ hw) (cwV 1 hts gX6_makesAll_X6_takesOne rfl rfl rfl hdX6_takesOne ⟨Nat.le_of_ble_eq_true rfl, Nat.le_of_ble_eq_true rfl⟩) hK hP hD hE hS hA [0, 1, 2, 3, 4, 5, 6, 7, 8] [] rfl rfl rfl rfl (by decide) [0, 1, 2, 3, 4, 5, 6, 7, 8] rfl (fun _ => rfl) (ci := 5) (q0 := 0) rfl rfl rfl rfl hl.1 rfl (Nat.le_of_ble_eq_true rfl) dX6_makesAll_113 ⟨Nat.le_of_ble_eq_true rfl, Nat.le_of_ble_eq_true rfl⟩ (fun r10 w10 H locs hw hP hD hS => ?_)
              have hP : va_P D vwCl (wM kI mo m0 m1 m2 m3 m4 m5 m6 m7 w10) H := hP
              have hD : va_D A (wM kI mo m0 m1 m2 m3 m4 m5 m6 m7 w10) := hD
              refine lv_istore_n (lv' := [(1, .int r10), (2, .int r8), (0, .ref mo)]) hx hb dX6_makesAll_116 rfl hl (by decide) rfl (fun ls hl => ?_)
              refine lv_goto (tgt := 17) hx hb dX6_makesAll_117 (by decide) ?_
              exact ih r10 w10 H locs ls hP hD hS (lv_sub hl [2, 0] rfl) hw
            · replace hw := Eq.mp (if_pos c7) hw
              refine lv_aload_n hx hb dX6_makesAll_72 rfl (lv_at hl 0 rfl) ?_
              refine lv_aload_n hx hb dX6_makesAll_73 rfl (lv_at hl 0 rfl) ?_
              refine va_get (D := D) (ci := 5) (v := .int w2.2.2.2.2.2.2.2.2.2.2.2.2.2.2.1) (C := RX6) (T := TX6) (N := 18) hx hb hts (fun _ h => List.mem_cons_of_mem _ (List.mem_append_right _ h)) hown hK hP 0 rfl rfl 11 (by decide) (hts (.fieldLink RX6 122 "HazelGiftModel" "number" "I") (List.mem_of_getElem? (i := 5) rfl)) (fun _ h9 => h9) rfl dX6_makesAll_74 ?_
              refine gWVi (S := SM) (As := [.int w2.2.2.2.2.2.2.2.2.2.2.2.2.2.2.1]) (rest := []) (wc := wM kI mo m0 m1 m2 m3 m4 m5 m6 m7 w2) (wr := []) (cs1 := (fun zz : SM => wM kI mo m0 m1 m2 m3 m4 m5 m6 m7 zz)) (ws2 := (fun zz : SM => wM kI mo m0 m1 m2 m3 m4 m5 m6 m7 zz)) ⟨hx, hb, hml, hown, hts⟩ (fun sz => kX6_gives l D kI kC kG kJ mo m0 m1 m2 m3 m4 m5 m6 m7 sz w2 w2.2.2.2.2.2.2.2.2.2.2.2.2.2.2.1 _ hw) (cwV 1 hts gX6_makesAll_X6_gives rfl rfl rfl hdX6_gives ⟨Nat.le_of_ble_eq_true rfl, Nat.le_of_ble_eq_true rfl⟩) hK hP hD hE hS hA [0, 1, 2, 3, 4, 5, 6, 7, 8] [] rfl rfl rfl rfl (by decide) [0, 1, 2, 3, 4, 5, 6, 7, 8] rfl (fun _ => rfl) (ci := 5) (q0 := 0) rfl rfl rfl rfl hl.1 rfl (Nat.le_of_ble_eq_true rfl) dX6_makesAll_77 ⟨Nat.le_of_ble_eq_true rfl, Nat.le_of_ble_eq_true rfl⟩ (fun r11 w11 H locs hw hP hD hS => ?_)
              have hP : va_P D vwCl (wM kI mo m0 m1 m2 m3 m4 m5 m6 m7 w11) H := hP
              have hD : va_D A (wM kI mo m0 m1 m2 m3 m4 m5 m6 m7 w11) := hD
              refine lv_if_lt (tgt := 87) hx hb dX6_makesAll_80 (by decide) (fun c12 => ?_) (fun c12 => ?_)
              · replace hw := Eq.mp (if_pos c12) hw
                refine lv_iconst (v := 0) hx hb dX6_makesAll_87 (by decide) ?_
                refine lv_goto (tgt := 99) hx hb dX6_makesAll_88 (by decide) ?_
                refine lv_istore_n (lv' := [(2, .int 0), (0, .ref mo), (1, .int v1)]) hx hb dX6_makesAll_99 rfl hl (by decide) rfl (fun ls hl => ?_)
                refine lv_aload_n hx hb dX6_makesAll_100 rfl (lv_at hl 1 rfl) ?_
                refine lv_dup hx hb dX6_makesAll_101 rfl ?_
                refine va_get (D := D) (ci := 5) (v := .int w11.2.2.2.2.2.2.2.2.2.2.2.2.2.2.2.1) (C := RX6) (T := TX6) (N := 18) hx hb hts (fun _ h => List.mem_cons_of_mem _ (List.mem_append_right _ h)) hown hK hP 0 rfl rfl 12 (by decide) (hts (.fieldLink RX6 134 "HazelGiftModel" "done" "I") (List.mem_of_getElem? (i := 2) rfl)) (fun _ h9 => h9) rfl dX6_makesAll_102 ?_
                refine lv_iconst (v := 1) hx hb dX6_makesAll_105 (by decide) ?_
                refine lv_iadd hx hb dX6_makesAll_106 ?_
                refine lv_topi (fun x13 ex13 => ?_)
                replace hw := hw x13 ex13
                refine va_put (D := D) (ci := 5) (v := .int x13) (ty := tyX6 12) (C := RX6) (T := TX6) (N := 18) hx hb hts (fun _ h => List.mem_cons_of_mem _ (List.mem_append_right _ h)) tyX6 tyX6_ok nmX6 hown hK hP hD hS 0 rfl rfl 12 (by decide) (hts (.fieldLink RX6 134 "HazelGiftModel" "done" "I") (List.mem_of_getElem? (i := 2) rfl)) (fun _ h9 => h9) rfl (tyX6_ok 12 (by decide)) rfl rfl (Nat.le_of_ble_eq_true rfl) dX6_makesAll_107 (fun H locs hP hD hS => ?_)
                have hP : va_P D vwCl (wM kI mo m0 m1 m2 m3 m4 m5 m6 m7 (w11.1, w11.2.1, w11.2.2.1, w11.2.2.2.1, w11.2.2.2.2.1, w11.2.2.2.2.2.1, w11.2.2.2.2.2.2.1, w11.2.2.2.2.2.2.2.1, w11.2.2.2.2.2.2.2.2.1, w11.2.2.2.2.2.2.2.2.2.1, w11.2.2.2.2.2.2.2.2.2.2.1, w11.2.2.2.2.2.2.2.2.2.2.2.1, w11.2.2.2.2.2.2.2.2.2.2.2.2.1, w11.2.2.2.2.2.2.2.2.2.2.2.2.2.1, w11.2.2.2.2.2.2.2.2.2.2.2.2.2.2.1, x13, w11.2.2.2.2.2.2.2.2.2.2.2.2.2.2.2.2.1, w11.2.2.2.2.2.2.2.2.2.2.2.2.2.2.2.2.2)) H := hP
                have hD : va_D A (wM kI mo m0 m1 m2 m3 m4 m5 m6 m7 (w11.1, w11.2.1, w11.2.2.1, w11.2.2.2.1, w11.2.2.2.2.1, w11.2.2.2.2.2.1, w11.2.2.2.2.2.2.1, w11.2.2.2.2.2.2.2.1, w11.2.2.2.2.2.2.2.2.1, w11.2.2.2.2.2.2.2.2.2.1, w11.2.2.2.2.2.2.2.2.2.2.1, w11.2.2.2.2.2.2.2.2.2.2.2.1, w11.2.2.2.2.2.2.2.2.2.2.2.2.1, w11.2.2.2.2.2.2.2.2.2.2.2.2.2.1, w11.2.2.2.2.2.2.2.2.2.2.2.2.2.2.1, x13, w11.2.2.2.2.2.2.2.2.2.2.2.2.2.2.2.2.1, w11.2.2.2.2.2.2.2.2.2.2.2.2.2.2.2.2.2)) := hD
                refine lv_aload_n hx hb dX6_makesAll_110 rfl (lv_at hl 1 rfl) ?_
                refine lv_bipush (v := 59) hx hb dX6_makesAll_111 (by decide) ?_
                refine gWVi (S := SM) (As := [.int 59]) (rest := []) (wc := wM kI mo m0 m1 m2 m3 m4 m5 m6 m7 (w11.1, w11.2.1, w11.2.2.1, w11.2.2.2.1, w11.2.2.2.2.1, w11.2.2.2.2.2.1, w11.2.2.2.2.2.2.1, w11.2.2.2.2.2.2.2.1, w11.2.2.2.2.2.2.2.2.1, w11.2.2.2.2.2.2.2.2.2.1, w11.2.2.2.2.2.2.2.2.2.2.1, w11.2.2.2.2.2.2.2.2.2.2.2.1, w11.2.2.2.2.2.2.2.2.2.2.2.2.1, w11.2.2.2.2.2.2.2.2.2.2.2.2.2.1, w11.2.2.2.2.2.2.2.2.2.2.2.2.2.2.1, x13, w11.2.2.2.2.2.2.2.2.2.2.2.2.2.2.2.2.1, w11.2.2.2.2.2.2.2.2.2.2.2.2.2.2.2.2.2)) (wr := []) (cs1 := (fun zz : SM => wM kI mo m0 m1 m2 m3 m4 m5 m6 m7 zz)) (ws2 := (fun zz : SM => wM kI mo m0 m1 m2 m3 m4 m5 m6 m7 zz)) ⟨hx, hb, hml, hown, hts⟩ (fun sz => kX6_takesOne l D kI kC kG kJ mo m0 m1 m2 m3 m4 m5 m6 m7 sz (w11.1, w11.2.1, w11.2.2.1, w11.2.2.2.1, w11.2.2.2.2.1, w11.2.2.2.2.2.1, w11.2.2.2.2.2.2.1, w11.2.2.2.2.2.2.2.1, w11.2.2.2.2.2.2.2.2.1, w11.2.2.2.2.2.2.2.2.2.1, w11.2.2.2.2.2.2.2.2.2.2.1, w11.2.2.2.2.2.2.2.2.2.2.2.1, w11.2.2.2.2.2.2.2.2.2.2.2.2.1, w11.2.2.2.2.2.2.2.2.2.2.2.2.2.1, w11.2.2.2.2.2.2.2.2.2.2.2.2.2.2.1, x13, w11.2.2.2.2.2.2.2.2.2.2.2.2.2.2.2.2.1, w11.2.2.2.2.2.2.2.2.2.2.2.2.2.2.2.2.2) 59 _ hw) (cwV 1 hts gX6_makesAll_X6_takesOne rfl rfl rfl hdX6_takesOne ⟨Nat.le_of_ble_eq_true rfl, Nat.le_of_ble_eq_true rfl⟩) hK hP hD hE hS hA [0, 1, 2, 3, 4, 5, 6, 7, 8] [] rfl rfl rfl rfl (by decide) [0, 1, 2, 3, 4, 5, 6, 7, 8] rfl (fun _ => rfl) (ci := 5) (q0 := 0) rfl rfl rfl rfl hl.1 rfl (Nat.le_of_ble_eq_true rfl) dX6_makesAll_113 ⟨Nat.le_of_ble_eq_true rfl, Nat.le_of_ble_eq_true rfl⟩ (fun r14 w14 H locs hw hP hD hS => ?_)
                have hP : va_P D vwCl (wM kI mo m0 m1 m2 m3 m4 m5 m6 m7 w14) H := hP
                have hD : va_D A (wM kI mo m0 m1 m2 m3 m4 m5 m6 m7 w14) := hD
                refine lv_istore_n (lv' := [(1, .int r14), (2, .int 0), (0, .ref mo)]) hx hb dX6_makesAll_116 rfl hl (by decide) rfl (fun ls hl => ?_)
                refine lv_goto (tgt := 17) hx hb dX6_makesAll_117 (by decide) ?_
                exact ih r14 w14 H locs ls hP hD hS (lv_sub hl [2, 0] rfl) hw
              · replace hw := Eq.mp (if_neg c12) hw
                refine lv_iconst (v := 1) hx hb dX6_makesAll_83 (by decide) ?_
                refine lv_goto (tgt := 99) hx hb dX6_makesAll_84 (by decide) ?_
                refine lv_istore_n (lv' := [(2, .int 1), (0, .ref mo), (1, .int v1)]) hx hb dX6_makesAll_99 rfl hl (by decide) rfl (fun ls hl => ?_)
                refine lv_aload_n hx hb dX6_makesAll_100 rfl (lv_at hl 1 rfl) ?_
                refine lv_dup hx hb dX6_makesAll_101 rfl ?_
                refine va_get (D := D) (ci := 5) (v := .int w11.2.2.2.2.2.2.2.2.2.2.2.2.2.2.2.1) (C := RX6) (T := TX6) (N := 18) hx hb hts (fun _ h => List.mem_cons_of_mem _ (List.mem_append_right _ h)) hown hK hP 0 rfl rfl 12 (by decide) (hts (.fieldLink RX6 134 "HazelGiftModel" "done" "I") (List.mem_of_getElem? (i := 2) rfl)) (fun _ h9 => h9) rfl dX6_makesAll_102 ?_
                refine lv_iconst (v := 1) hx hb dX6_makesAll_105 (by decide) ?_
                refine lv_iadd hx hb dX6_makesAll_106 ?_
                refine lv_topi (fun x15 ex15 => ?_)
                replace hw := hw x15 ex15
                refine va_put (D := D) (ci := 5) (v := .int x15) (ty := tyX6 12) (C := RX6) (T := TX6) (N := 18) hx hb hts (fun _ h => List.mem_cons_of_mem _ (List.mem_append_right _ h)) tyX6 tyX6_ok nmX6 hown hK hP hD hS 0 rfl rfl 12 (by decide) (hts (.fieldLink RX6 134 "HazelGiftModel" "done" "I") (List.mem_of_getElem? (i := 2) rfl)) (fun _ h9 => h9) rfl (tyX6_ok 12 (by decide)) rfl rfl (Nat.le_of_ble_eq_true rfl) dX6_makesAll_107 (fun H locs hP hD hS => ?_)
                have hP : va_P D vwCl (wM kI mo m0 m1 m2 m3 m4 m5 m6 m7 (w11.1, w11.2.1, w11.2.2.1, w11.2.2.2.1, w11.2.2.2.2.1, w11.2.2.2.2.2.1, w11.2.2.2.2.2.2.1, w11.2.2.2.2.2.2.2.1, w11.2.2.2.2.2.2.2.2.1, w11.2.2.2.2.2.2.2.2.2.1, w11.2.2.2.2.2.2.2.2.2.2.1, w11.2.2.2.2.2.2.2.2.2.2.2.1, w11.2.2.2.2.2.2.2.2.2.2.2.2.1, w11.2.2.2.2.2.2.2.2.2.2.2.2.2.1, w11.2.2.2.2.2.2.2.2.2.2.2.2.2.2.1, x15, w11.2.2.2.2.2.2.2.2.2.2.2.2.2.2.2.2.1, w11.2.2.2.2.2.2.2.2.2.2.2.2.2.2.2.2.2)) H := hP
                have hD : va_D A (wM kI mo m0 m1 m2 m3 m4 m5 m6 m7 (w11.1, w11.2.1, w11.2.2.1, w11.2.2.2.1, w11.2.2.2.2.1, w11.2.2.2.2.2.1, w11.2.2.2.2.2.2.1, w11.2.2.2.2.2.2.2.1, w11.2.2.2.2.2.2.2.2.1, w11.2.2.2.2.2.2.2.2.2.1, w11.2.2.2.2.2.2.2.2.2.2.1, w11.2.2.2.2.2.2.2.2.2.2.2.1, w11.2.2.2.2.2.2.2.2.2.2.2.2.1, w11.2.2.2.2.2.2.2.2.2.2.2.2.2.1, w11.2.2.2.2.2.2.2.2.2.2.2.2.2.2.1, x15, w11.2.2.2.2.2.2.2.2.2.2.2.2.2.2.2.2.1, w11.2.2.2.2.2.2.2.2.2.2.2.2.2.2.2.2.2)) := hD
                refine lv_aload_n hx hb dX6_makesAll_110 rfl (lv_at hl 1 rfl) ?_
                refine lv_bipush (v := 59) hx hb dX6_makesAll_111 (by decide) ?_
                refine gWVi (S := SM) (As := [.int 59]) (rest := []) (wc := wM kI mo m0 m1 m2 m3 m4 m5 m6 m7 (w11.1, w11.2.1, w11.2.2.1, w11.2.2.2.1, w11.2.2.2.2.1, w11.2.2.2.2.2.1, w11.2.2.2.2.2.2.1, w11.2.2.2.2.2.2.2.1, w11.2.2.2.2.2.2.2.2.1, w11.2.2.2.2.2.2.2.2.2.1, w11.2.2.2.2.2.2.2.2.2.2.1, w11.2.2.2.2.2.2.2.2.2.2.2.1, w11.2.2.2.2.2.2.2.2.2.2.2.2.1, w11.2.2.2.2.2.2.2.2.2.2.2.2.2.1, w11.2.2.2.2.2.2.2.2.2.2.2.2.2.2.1, x15, w11.2.2.2.2.2.2.2.2.2.2.2.2.2.2.2.2.1, w11.2.2.2.2.2.2.2.2.2.2.2.2.2.2.2.2.2)) (wr := []) (cs1 := (fun zz : SM => wM kI mo m0 m1 m2 m3 m4 m5 m6 m7 zz)) (ws2 := (fun zz : SM => wM kI mo m0 m1 m2 m3 m4 m5 m6 m7 zz)) ⟨hx, hb, hml, hown, hts⟩ (fun sz => kX6_takesOne l D kI kC kG kJ mo m0 m1 m2 m3 m4 m5 m6 m7 sz (w11.1, w11.2.1, w11.2.2.1, w11.2.2.2.1, w11.2.2.2.2.1, w11.2.2.2.2.2.1, w11.2.2.2.2.2.2.1, w11.2.2.2.2.2.2.2.1, w11.2.2.2.2.2.2.2.2.1, w11.2.2.2.2.2.2.2.2.2.1, w11.2.2.2.2.2.2.2.2.2.2.1, w11.2.2.2.2.2.2.2.2.2.2.2.1, w11.2.2.2.2.2.2.2.2.2.2.2.2.1, w11.2.2.2.2.2.2.2.2.2.2.2.2.2.1, w11.2.2.2.2.2.2.2.2.2.2.2.2.2.2.1, x15, w11.2.2.2.2.2.2.2.2.2.2.2.2.2.2.2.2.1, w11.2.2.2.2.2.2.2.2.2.2.2.2.2.2.2.2.2) 59 _ hw) (cwV 1 hts gX6_makesAll_X6_takesOne rfl rfl rfl hdX6_takesOne ⟨Nat.le_of_ble_eq_true rfl, Nat.le_of_ble_eq_true rfl⟩) hK hP hD hE hS hA [0, 1, 2, 3, 4, 5, 6, 7, 8] [] rfl rfl rfl rfl (by decide) [0, 1, 2, 3, 4, 5, 6, 7, 8] rfl (fun _ => rfl) (ci := 5) (q0 := 0) rfl rfl rfl rfl hl.1 rfl (Nat.le_of_ble_eq_true rfl) dX6_makesAll_113 ⟨Nat.le_of_ble_eq_true rfl, Nat.le_of_ble_eq_true rfl⟩ (fun r16 w16 H locs hw hP hD hS => ?_)
                have hP : va_P D vwCl (wM kI mo m0 m1 m2 m3 m4 m5 m6 m7 w16) H := hP
                have hD : va_D A (wM kI mo m0 m1 m2 m3 m4 m5 m6 m7 w16) := hD
                refine lv_istore_n (lv' := [(1, .int r16), (2, .int 1), (0, .ref mo)]) hx hb dX6_makesAll_116 rfl hl (by decide) rfl (fun ls hl => ?_)
                refine lv_goto (tgt := 17) hx hb dX6_makesAll_117 (by decide) ?_
                exact ih r16 w16 H locs ls hP hD hS (lv_sub hl [2, 0] rfl) hw
          · replace hw := Eq.mp (if_pos c6) hw
            exact W.vret hx hb hr (fun t ht hW => ⟨⟨w2, rfl, hw, by rw [ht]; exact hP, va_K.moved hW.alike hK, hD⟩, hS.F ht⟩) hS.2.2 dX6_makesAll_62
        · replace hw := Eq.mp (if_pos c4) hw
          refine lv_aload_n hx hb dX6_makesAll_37 rfl (lv_at hl 0 rfl) ?_
          refine lv_aload_n hx hb dX6_makesAll_38 rfl (lv_at hl 0 rfl) ?_
          refine va_get (D := D) (ci := 5) (v := .int w2.2.2.2.2.2.2.2.2.2.2.2.2.2.2.1) (C := RX6) (T := TX6) (N := 18) hx hb hts (fun _ h => List.mem_cons_of_mem _ (List.mem_append_right _ h)) hown hK hP 0 rfl rfl 11 (by decide) (hts (.fieldLink RX6 122 "HazelGiftModel" "number" "I") (List.mem_of_getElem? (i := 5) rfl)) (fun _ h9 => h9) rfl dX6_makesAll_39 ?_
          refine gVi (As := [.int w2.2.2.2.2.2.2.2.2.2.2.2.2.2.2.1]) (rest := []) (cs' := wM kI mo m0 m1 m2 m3 m4 m5 m6 m7 w2) ⟨hx, hb, hml, hown, hts⟩ (kX6_canGive l D kI kC kG kJ mo m0 m1 m2 m3 m4 m5 m6 m7 w2 w2.2.2.2.2.2.2.2.2.2.2.2.2.2.2.1 _ hw) (cwV 1 hts gX6_makesAll_X6_canGive rfl rfl rfl hdX6_canGive ⟨Nat.le_of_ble_eq_true rfl, Nat.le_of_ble_eq_true rfl⟩) hK hP hE hS [0, 1, 2, 3, 4, 5, 6, 7, 8] rfl (ci := 5) (q0 := 0) rfl rfl rfl rfl hl.1 rfl (Nat.le_of_ble_eq_true rfl) dX6_makesAll_42 ⟨Nat.le_of_ble_eq_true rfl, Nat.le_of_ble_eq_true rfl⟩ (fun r17 hw => ?_)
          refine lv_if_ne (tgt := 63) hx hb dX6_makesAll_45 (by decide) (fun c18 => ?_) (fun c18 => ?_)
          · replace hw := Eq.mp (if_neg c18) hw
            refine lv_aload_n hx hb dX6_makesAll_63 rfl (lv_at hl 0 rfl) ?_
            refine va_get (D := D) (ci := 5) (v := .int w2.2.2.2.2.2.2.2.2.2.2.2.2.2.1) (C := RX6) (T := TX6) (N := 18) hx hb hts (fun _ h => List.mem_cons_of_mem _ (List.mem_append_right _ h)) hown hK hP 0 rfl rfl 10 (by decide) (hts (.fieldLink RX6 116 "HazelGiftModel" "sign" "I") (List.mem_of_getElem? (i := 4) rfl)) (fun _ h9 => h9) rfl dX6_makesAll_64 ?_
            refine lv_bipush (v := 103) hx hb dX6_makesAll_67 (by decide) ?_
            refine lv_icmp_ne (tgt := 91) hx hb dX6_makesAll_69 (by decide) (fun c19 => ?_) (fun c19 => ?_)
            · replace hw := Eq.mp (if_neg c19) hw
              refine lv_aload_n hx hb dX6_makesAll_91 rfl (lv_at hl 0 rfl) ?_
              refine lv_aload_n hx hb dX6_makesAll_92 rfl (lv_at hl 0 rfl) ?_
              refine va_get (D := D) (ci := 5) (v := .int w2.2.2.2.2.2.2.2.2.2.2.2.2.2.2.1) (C := RX6) (T := TX6) (N := 18) hx hb hts (fun _ h => List.mem_cons_of_mem _ (List.mem_append_right _ h)) hown hK hP 0 rfl rfl 11 (by decide) (hts (.fieldLink RX6 122 "HazelGiftModel" "number" "I") (List.mem_of_getElem? (i := 5) rfl)) (fun _ h9 => h9) rfl dX6_makesAll_93 ?_
              refine gWVi (S := SM) (As := [.int w2.2.2.2.2.2.2.2.2.2.2.2.2.2.2.1]) (rest := []) (wc := wM kI mo m0 m1 m2 m3 m4 m5 m6 m7 w2) (wr := []) (cs1 := (fun zz : SM => wM kI mo m0 m1 m2 m3 m4 m5 m6 m7 zz)) (ws2 := (fun zz : SM => wM kI mo m0 m1 m2 m3 m4 m5 m6 m7 zz)) ⟨hx, hb, hml, hown, hts⟩ (fun sz => kX6_places l D kI kC kG kJ mo m0 m1 m2 m3 m4 m5 m6 m7 sz w2 w2.2.2.2.2.2.2.2.2.2.2.2.2.2.2.1 _ hw) (cwV 1 hts gX6_makesAll_X6_places rfl rfl rfl hdX6_places ⟨Nat.le_of_ble_eq_true rfl, Nat.le_of_ble_eq_true rfl⟩) hK hP hD hE hS hA [0, 1, 2, 3, 4, 5, 6, 7, 8] [] rfl rfl rfl rfl (by decide) [0, 1, 2, 3, 4, 5, 6, 7, 8] rfl (fun _ => rfl) (ci := 5) (q0 := 0) rfl rfl rfl rfl hl.1 rfl (Nat.le_of_ble_eq_true rfl) dX6_makesAll_96 ⟨Nat.le_of_ble_eq_true rfl, Nat.le_of_ble_eq_true rfl⟩ (fun r20 w20 H locs hw hP hD hS => ?_)
              have hP : va_P D vwCl (wM kI mo m0 m1 m2 m3 m4 m5 m6 m7 w20) H := hP
              have hD : va_D A (wM kI mo m0 m1 m2 m3 m4 m5 m6 m7 w20) := hD
              refine lv_istore_n (lv' := [(2, .int r20), (0, .ref mo), (1, .int v1)]) hx hb dX6_makesAll_99 rfl hl (by decide) rfl (fun ls hl => ?_)
              refine lv_aload_n hx hb dX6_makesAll_100 rfl (lv_at hl 1 rfl) ?_
              refine lv_dup hx hb dX6_makesAll_101 rfl ?_
              refine va_get (D := D) (ci := 5) (v := .int w20.2.2.2.2.2.2.2.2.2.2.2.2.2.2.2.1) (C := RX6) (T := TX6) (N := 18) hx hb hts (fun _ h => List.mem_cons_of_mem _ (List.mem_append_right _ h)) hown hK hP 0 rfl rfl 12 (by decide) (hts (.fieldLink RX6 134 "HazelGiftModel" "done" "I") (List.mem_of_getElem? (i := 2) rfl)) (fun _ h9 => h9) rfl dX6_makesAll_102 ?_
              refine lv_iconst (v := 1) hx hb dX6_makesAll_105 (by decide) ?_
              refine lv_iadd hx hb dX6_makesAll_106 ?_
              refine lv_topi (fun x21 ex21 => ?_)
              replace hw := hw x21 ex21
              refine va_put (D := D) (ci := 5) (v := .int x21) (ty := tyX6 12) (C := RX6) (T := TX6) (N := 18) hx hb hts (fun _ h => List.mem_cons_of_mem _ (List.mem_append_right _ h)) tyX6 tyX6_ok nmX6 hown hK hP hD hS 0 rfl rfl 12 (by decide) (hts (.fieldLink RX6 134 "HazelGiftModel" "done" "I") (List.mem_of_getElem? (i := 2) rfl)) (fun _ h9 => h9) rfl (tyX6_ok 12 (by decide)) rfl rfl (Nat.le_of_ble_eq_true rfl) dX6_makesAll_107 (fun H locs hP hD hS => ?_)
              have hP : va_P D vwCl (wM kI mo m0 m1 m2 m3 m4 m5 m6 m7 (w20.1, w20.2.1, w20.2.2.1, w20.2.2.2.1, w20.2.2.2.2.1, w20.2.2.2.2.2.1, w20.2.2.2.2.2.2.1, w20.2.2.2.2.2.2.2.1, w20.2.2.2.2.2.2.2.2.1, w20.2.2.2.2.2.2.2.2.2.1, w20.2.2.2.2.2.2.2.2.2.2.1, w20.2.2.2.2.2.2.2.2.2.2.2.1, w20.2.2.2.2.2.2.2.2.2.2.2.2.1, w20.2.2.2.2.2.2.2.2.2.2.2.2.2.1, w20.2.2.2.2.2.2.2.2.2.2.2.2.2.2.1, x21, w20.2.2.2.2.2.2.2.2.2.2.2.2.2.2.2.2.1, w20.2.2.2.2.2.2.2.2.2.2.2.2.2.2.2.2.2)) H := hP
              have hD : va_D A (wM kI mo m0 m1 m2 m3 m4 m5 m6 m7 (w20.1, w20.2.1, w20.2.2.1, w20.2.2.2.1, w20.2.2.2.2.1, w20.2.2.2.2.2.1, w20.2.2.2.2.2.2.1, w20.2.2.2.2.2.2.2.1, w20.2.2.2.2.2.2.2.2.1, w20.2.2.2.2.2.2.2.2.2.1, w20.2.2.2.2.2.2.2.2.2.2.1, w20.2.2.2.2.2.2.2.2.2.2.2.1, w20.2.2.2.2.2.2.2.2.2.2.2.2.1, w20.2.2.2.2.2.2.2.2.2.2.2.2.2.1, w20.2.2.2.2.2.2.2.2.2.2.2.2.2.2.1, x21, w20.2.2.2.2.2.2.2.2.2.2.2.2.2.2.2.2.1, w20.2.2.2.2.2.2.2.2.2.2.2.2.2.2.2.2.2)) := hD
              refine lv_aload_n hx hb dX6_makesAll_110 rfl (lv_at hl 1 rfl) ?_
              refine lv_bipush (v := 59) hx hb dX6_makesAll_111 (by decide) ?_
              refine gWVi (S := SM) (As := [.int 59]) (rest := []) (wc := wM kI mo m0 m1 m2 m3 m4 m5 m6 m7 (w20.1, w20.2.1, w20.2.2.1, w20.2.2.2.1, w20.2.2.2.2.1, w20.2.2.2.2.2.1, w20.2.2.2.2.2.2.1, w20.2.2.2.2.2.2.2.1, w20.2.2.2.2.2.2.2.2.1, w20.2.2.2.2.2.2.2.2.2.1, w20.2.2.2.2.2.2.2.2.2.2.1, w20.2.2.2.2.2.2.2.2.2.2.2.1, w20.2.2.2.2.2.2.2.2.2.2.2.2.1, w20.2.2.2.2.2.2.2.2.2.2.2.2.2.1, w20.2.2.2.2.2.2.2.2.2.2.2.2.2.2.1, x21, w20.2.2.2.2.2.2.2.2.2.2.2.2.2.2.2.2.1, w20.2.2.2.2.2.2.2.2.2.2.2.2.2.2.2.2.2)) (wr := []) (cs1 := (fun zz : SM => wM kI mo m0 m1 m2 m3 m4 m5 m6 m7 zz)) (ws2 := (fun zz : SM => wM kI mo m0 m1 m2 m3 m4 m5 m6 m7 zz)) ⟨hx, hb, hml, hown, hts⟩ (fun sz => kX6_takesOne l D kI kC kG kJ mo m0 m1 m2 m3 m4 m5 m6 m7 sz (w20.1, w20.2.1, w20.2.2.1, w20.2.2.2.1, w20.2.2.2.2.1, w20.2.2.2.2.2.1, w20.2.2.2.2.2.2.1, w20.2.2.2.2.2.2.2.1, w20.2.2.2.2.2.2.2.2.1, w20.2.2.2.2.2.2.2.2.2.1, w20.2.2.2.2.2.2.2.2.2.2.1, w20.2.2.2.2.2.2.2.2.2.2.2.1, w20.2.2.2.2.2.2.2.2.2.2.2.2.1, w20.2.2.2.2.2.2.2.2.2.2.2.2.2.1, w20.2.2.2.2.2.2.2.2.2.2.2.2.2.2.1, x21, w20.2.2.2.2.2.2.2.2.2.2.2.2.2.2.2.2.1, w20.2.2.2.2.2.2.2.2.2.2.2.2.2.2.2.2.2) 59 _ hw) (cwV 1 hts gX6_makesAll_X6_takesOne rfl rfl rfl hdX6_takesOne ⟨Nat.le_of_ble_eq_true rfl, Nat.le_of_ble_eq_true rfl⟩) hK hP hD hE hS hA [0, 1, 2, 3, 4, 5, 6, 7, 8] [] rfl rfl rfl rfl (by decide) [0, 1, 2, 3, 4, 5, 6, 7, 8] rfl (fun _ => rfl) (ci := 5) (q0 := 0) rfl rfl rfl rfl hl.1 rfl (Nat.le_of_ble_eq_true rfl) dX6_makesAll_113 ⟨Nat.le_of_ble_eq_true rfl, Nat.le_of_ble_eq_true rfl⟩ (fun r22 w22 H locs hw hP hD hS => ?_)
              have hP : va_P D vwCl (wM kI mo m0 m1 m2 m3 m4 m5 m6 m7 w22) H := hP
              have hD : va_D A (wM kI mo m0 m1 m2 m3 m4 m5 m6 m7 w22) := hD
              refine lv_istore_n (lv' := [(1, .int r22), (2, .int r20), (0, .ref mo)]) hx hb dX6_makesAll_116 rfl hl (by decide) rfl (fun ls hl => ?_)
              refine lv_goto (tgt := 17) hx hb dX6_makesAll_117 (by decide) ?_
              exact ih r22 w22 H locs ls hP hD hS (lv_sub hl [2, 0] rfl) hw
            · replace hw := Eq.mp (if_pos c19) hw
              refine lv_aload_n hx hb dX6_makesAll_72 rfl (lv_at hl 0 rfl) ?_
              refine lv_aload_n hx hb dX6_makesAll_73 rfl (lv_at hl 0 rfl) ?_
              refine va_get (D := D) (ci := 5) (v := .int w2.2.2.2.2.2.2.2.2.2.2.2.2.2.2.1) (C := RX6) (T := TX6) (N := 18) hx hb hts (fun _ h => List.mem_cons_of_mem _ (List.mem_append_right _ h)) hown hK hP 0 rfl rfl 11 (by decide) (hts (.fieldLink RX6 122 "HazelGiftModel" "number" "I") (List.mem_of_getElem? (i := 5) rfl)) (fun _ h9 => h9) rfl dX6_makesAll_74 ?_
              refine gWVi (S := SM) (As := [.int w2.2.2.2.2.2.2.2.2.2.2.2.2.2.2.1]) (rest := []) (wc := wM kI mo m0 m1 m2 m3 m4 m5 m6 m7 w2) (wr := []) (cs1 := (fun zz : SM => wM kI mo m0 m1 m2 m3 m4 m5 m6 m7 zz)) (ws2 := (fun zz : SM => wM kI mo m0 m1 m2 m3 m4 m5 m6 m7 zz)) ⟨hx, hb, hml, hown, hts⟩ (fun sz => kX6_gives l D kI kC kG kJ mo m0 m1 m2 m3 m4 m5 m6 m7 sz w2 w2.2.2.2.2.2.2.2.2.2.2.2.2.2.2.1 _ hw) (cwV 1 hts gX6_makesAll_X6_gives rfl rfl rfl hdX6_gives ⟨Nat.le_of_ble_eq_true rfl, Nat.le_of_ble_eq_true rfl⟩) hK hP hD hE hS hA [0, 1, 2, 3, 4, 5, 6, 7, 8] [] rfl rfl rfl rfl (by decide) [0, 1, 2, 3, 4, 5, 6, 7, 8] rfl (fun _ => rfl) (ci := 5) (q0 := 0) rfl rfl rfl rfl hl.1 rfl (Nat.le_of_ble_eq_true rfl) dX6_makesAll_77 ⟨Nat.le_of_ble_eq_true rfl, Nat.le_of_ble_eq_true rfl⟩ (fun r23 w23 H locs hw hP hD hS => ?_)
              have hP : va_P D vwCl (wM kI mo m0 m1 m2 m3 m4 m5 m6 m7 w23) H := hP
              have hD : va_D A (wM kI mo m0 m1 m2 m3 m4 m5 m6 m7 w23) := hD
              refine lv_if_lt (tgt := 87) hx hb dX6_makesAll_80 (by decide) (fun c24 => ?_) (fun c24 => ?_)
              · replace hw := Eq.mp (if_pos c24) hw
                refine lv_iconst (v := 0) hx hb dX6_makesAll_87 (by decide) ?_
                refine lv_goto (tgt := 99) hx hb dX6_makesAll_88 (by decide) ?_
                refine lv_istore_n (lv' := [(2, .int 0), (0, .ref mo), (1, .int v1)]) hx hb dX6_makesAll_99 rfl hl (by decide) rfl (fun ls hl => ?_)
                refine lv_aload_n hx hb dX6_makesAll_100 rfl (lv_at hl 1 rfl) ?_
                refine lv_dup hx hb dX6_makesAll_101 rfl ?_
                refine va_get (D := D) (ci := 5) (v := .int w23.2.2.2.2.2.2.2.2.2.2.2.2.2.2.2.1) (C := RX6) (T := TX6) (N := 18) hx hb hts (fun _ h => List.mem_cons_of_mem _ (List.mem_append_right _ h)) hown hK hP 0 rfl rfl 12 (by decide) (hts (.fieldLink RX6 134 "HazelGiftModel" "done" "I") (List.mem_of_getElem? (i := 2) rfl)) (fun _ h9 => h9) rfl dX6_makesAll_102 ?_
                refine lv_iconst (v := 1) hx hb dX6_makesAll_105 (by decide) ?_
                refine lv_iadd hx hb dX6_makesAll_106 ?_
                refine lv_topi (fun x25 ex25 => ?_)
                replace hw := hw x25 ex25
                refine va_put (D := D) (ci := 5) (v := .int x25) (ty := tyX6 12) (C := RX6) (T := TX6) (N := 18) hx hb hts (fun _ h => List.mem_cons_of_mem _ (List.mem_append_right _ h)) tyX6 tyX6_ok nmX6 hown hK hP hD hS 0 rfl rfl 12 (by decide) (hts (.fieldLink RX6 134 "HazelGiftModel" "done" "I") (List.mem_of_getElem? (i := 2) rfl)) (fun _ h9 => h9) rfl (tyX6_ok 12 (by decide)) rfl rfl (Nat.le_of_ble_eq_true rfl) dX6_makesAll_107 (fun H locs hP hD hS => ?_)
                have hP : va_P D vwCl (wM kI mo m0 m1 m2 m3 m4 m5 m6 m7 (w23.1, w23.2.1, w23.2.2.1, w23.2.2.2.1, w23.2.2.2.2.1, w23.2.2.2.2.2.1, w23.2.2.2.2.2.2.1, w23.2.2.2.2.2.2.2.1, w23.2.2.2.2.2.2.2.2.1, w23.2.2.2.2.2.2.2.2.2.1, w23.2.2.2.2.2.2.2.2.2.2.1, w23.2.2.2.2.2.2.2.2.2.2.2.1, w23.2.2.2.2.2.2.2.2.2.2.2.2.1, w23.2.2.2.2.2.2.2.2.2.2.2.2.2.1, w23.2.2.2.2.2.2.2.2.2.2.2.2.2.2.1, x25, w23.2.2.2.2.2.2.2.2.2.2.2.2.2.2.2.2.1, w23.2.2.2.2.2.2.2.2.2.2.2.2.2.2.2.2.2)) H := hP
                have hD : va_D A (wM kI mo m0 m1 m2 m3 m4 m5 m6 m7 (w23.1, w23.2.1, w23.2.2.1, w23.2.2.2.1, w23.2.2.2.2.1, w23.2.2.2.2.2.1, w23.2.2.2.2.2.2.1, w23.2.2.2.2.2.2.2.1, w23.2.2.2.2.2.2.2.2.1, w23.2.2.2.2.2.2.2.2.2.1, w23.2.2.2.2.2.2.2.2.2.2.1, w23.2.2.2.2.2.2.2.2.2.2.2.1, w23.2.2.2.2.2.2.2.2.2.2.2.2.1, w23.2.2.2.2.2.2.2.2.2.2.2.2.2.1, w23.2.2.2.2.2.2.2.2.2.2.2.2.2.2.1, x25, w23.2.2.2.2.2.2.2.2.2.2.2.2.2.2.2.2.1, w23.2.2.2.2.2.2.2.2.2.2.2.2.2.2.2.2.2)) := hD
                refine lv_aload_n hx hb dX6_makesAll_110 rfl (lv_at hl 1 rfl) ?_
                refine lv_bipush (v := 59) hx hb dX6_makesAll_111 (by decide) ?_
                refine gWVi (S := SM) (As := [.int 59]) (rest := []) (wc := wM kI mo m0 m1 m2 m3 m4 m5 m6 m7 (w23.1, w23.2.1, w23.2.2.1, w23.2.2.2.1, w23.2.2.2.2.1, w23.2.2.2.2.2.1, w23.2.2.2.2.2.2.1, w23.2.2.2.2.2.2.2.1, w23.2.2.2.2.2.2.2.2.1, w23.2.2.2.2.2.2.2.2.2.1, w23.2.2.2.2.2.2.2.2.2.2.1, w23.2.2.2.2.2.2.2.2.2.2.2.1, w23.2.2.2.2.2.2.2.2.2.2.2.2.1, w23.2.2.2.2.2.2.2.2.2.2.2.2.2.1, w23.2.2.2.2.2.2.2.2.2.2.2.2.2.2.1, x25, w23.2.2.2.2.2.2.2.2.2.2.2.2.2.2.2.2.1, w23.2.2.2.2.2.2.2.2.2.2.2.2.2.2.2.2.2)) (wr := []) (cs1 := (fun zz : SM => wM kI mo m0 m1 m2 m3 m4 m5 m6 m7 zz)) (ws2 := (fun zz : SM => wM kI mo m0 m1 m2 m3 m4 m5 m6 m7 zz)) ⟨hx, hb, hml, hown, hts⟩ (fun sz => kX6_takesOne l D kI kC kG kJ mo m0 m1 m2 m3 m4 m5 m6 m7 sz (w23.1, w23.2.1, w23.2.2.1, w23.2.2.2.1, w23.2.2.2.2.1, w23.2.2.2.2.2.1, w23.2.2.2.2.2.2.1, w23.2.2.2.2.2.2.2.1, w23.2.2.2.2.2.2.2.2.1, w23.2.2.2.2.2.2.2.2.2.1, w23.2.2.2.2.2.2.2.2.2.2.1, w23.2.2.2.2.2.2.2.2.2.2.2.1, w23.2.2.2.2.2.2.2.2.2.2.2.2.1, w23.2.2.2.2.2.2.2.2.2.2.2.2.2.1, w23.2.2.2.2.2.2.2.2.2.2.2.2.2.2.1, x25, w23.2.2.2.2.2.2.2.2.2.2.2.2.2.2.2.2.1, w23.2.2.2.2.2.2.2.2.2.2.2.2.2.2.2.2.2) 59 _ hw) (cwV 1 hts gX6_makesAll_X6_takesOne rfl rfl rfl hdX6_takesOne ⟨Nat.le_of_ble_eq_true rfl, Nat.le_of_ble_eq_true rfl⟩) hK hP hD hE hS hA [0, 1, 2, 3, 4, 5, 6, 7, 8] [] rfl rfl rfl rfl (by decide) [0, 1, 2, 3, 4, 5, 6, 7, 8] rfl (fun _ => rfl) (ci := 5) (q0 := 0) rfl rfl rfl rfl hl.1 rfl (Nat.le_of_ble_eq_true rfl) dX6_makesAll_113 ⟨Nat.le_of_ble_eq_true rfl, Nat.le_of_ble_eq_true rfl⟩ (fun r26 w26 H locs hw hP hD hS => ?_)
                have hP : va_P D vwCl (wM kI mo m0 m1 m2 m3 m4 m5 m6 m7 w26) H := hP
                have hD : va_D A (wM kI mo m0 m1 m2 m3 m4 m5 m6 m7 w26) := hD
                refine lv_istore_n (lv' := [(1, .int r26), (2, .int 0), (0, .ref mo)]) hx hb dX6_makesAll_116 rfl hl (by decide) rfl (fun ls hl => ?_)
                refine lv_goto (tgt := 17) hx hb dX6_makesAll_117 (by decide) ?_
                exact ih r26 w26 H locs ls hP hD hS (lv_sub hl [2, 0] rfl) hw
              · replace hw := Eq.mp (if_neg c24) hw
                refine lv_iconst (v := 1) hx hb dX6_makesAll_83 (by decide) ?_
                refine lv_goto (tgt := 99) hx hb dX6_makesAll_84 (by decide) ?_
                refine lv_istore_n (lv' := [(2, .int 1), (0, .ref mo), (1, .int v1)]) hx hb dX6_makesAll_99 rfl hl (by decide) rfl (fun ls hl => ?_)
                refine lv_aload_n hx hb dX6_makesAll_100 rfl (lv_at hl 1 rfl) ?_
                refine lv_dup hx hb dX6_makesAll_101 rfl ?_
                refine va_get (D := D) (ci := 5) (v := .int w23.2.2.2.2.2.2.2.2.2.2.2.2.2.2.2.1) (C := RX6) (T := TX6) (N := 18) hx hb hts (fun _ h => List.mem_cons_of_mem _ (List.mem_append_right _ h)) hown hK hP 0 rfl rfl 12 (by decide) (hts (.fieldLink RX6 134 "HazelGiftModel" "done" "I") (List.mem_of_getElem? (i := 2) rfl)) (fun _ h9 => h9) rfl dX6_makesAll_102 ?_
                refine lv_iconst (v := 1) hx hb dX6_makesAll_105 (by decide) ?_
                refine lv_iadd hx hb dX6_makesAll_106 ?_
                refine lv_topi (fun x27 ex27 => ?_)
                replace hw := hw x27 ex27
                refine va_put (D := D) (ci := 5) (v := .int x27) (ty := tyX6 12) (C := RX6) (T := TX6) (N := 18) hx hb hts (fun _ h => List.mem_cons_of_mem _ (List.mem_append_right _ h)) tyX6 tyX6_ok nmX6 hown hK hP hD hS 0 rfl rfl 12 (by decide) (hts (.fieldLink RX6 134 "HazelGiftModel" "done" "I") (List.mem_of_getElem? (i := 2) rfl)) (fun _ h9 => h9) rfl (tyX6_ok 12 (by decide)) rfl rfl (Nat.le_of_ble_eq_true rfl) dX6_makesAll_107 (fun H locs hP hD hS => ?_)
                have hP : va_P D vwCl (wM kI mo m0 m1 m2 m3 m4 m5 m6 m7 (w23.1, w23.2.1, w23.2.2.1, w23.2.2.2.1, w23.2.2.2.2.1, w23.2.2.2.2.2.1, w23.2.2.2.2.2.2.1, w23.2.2.2.2.2.2.2.1, w23.2.2.2.2.2.2.2.2.1, w23.2.2.2.2.2.2.2.2.2.1, w23.2.2.2.2.2.2.2.2.2.2.1, w23.2.2.2.2.2.2.2.2.2.2.2.1, w23.2.2.2.2.2.2.2.2.2.2.2.2.1, w23.2.2.2.2.2.2.2.2.2.2.2.2.2.1, w23.2.2.2.2.2.2.2.2.2.2.2.2.2.2.1, x27, w23.2.2.2.2.2.2.2.2.2.2.2.2.2.2.2.2.1, w23.2.2.2.2.2.2.2.2.2.2.2.2.2.2.2.2.2)) H := hP
                have hD : va_D A (wM kI mo m0 m1 m2 m3 m4 m5 m6 m7 (w23.1, w23.2.1, w23.2.2.1, w23.2.2.2.1, w23.2.2.2.2.1, w23.2.2.2.2.2.1, w23.2.2.2.2.2.2.1, w23.2.2.2.2.2.2.2.1, w23.2.2.2.2.2.2.2.2.1, w23.2.2.2.2.2.2.2.2.2.1, w23.2.2.2.2.2.2.2.2.2.2.1, w23.2.2.2.2.2.2.2.2.2.2.2.1, w23.2.2.2.2.2.2.2.2.2.2.2.2.1, w23.2.2.2.2.2.2.2.2.2.2.2.2.2.1, w23.2.2.2.2.2.2.2.2.2.2.2.2.2.2.1, x27, w23.2.2.2.2.2.2.2.2.2.2.2.2.2.2.2.2.1, w23.2.2.2.2.2.2.2.2.2.2.2.2.2.2.2.2.2)) := hD
                refine lv_aload_n hx hb dX6_makesAll_110 rfl (lv_at hl 1 rfl) ?_
                refine lv_bipush (v := 59) hx hb dX6_makesAll_111 (by decide) ?_
                refine gWVi (S := SM) (As := [.int 59]) (rest := []) (wc := wM kI mo m0 m1 m2 m3 m4 m5 m6 m7 (w23.1, w23.2.1, w23.2.2.1, w23.2.2.2.1, w23.2.2.2.2.1, w23.2.2.2.2.2.1, w23.2.2.2.2.2.2.1, w23.2.2.2.2.2.2.2.1, w23.2.2.2.2.2.2.2.2.1, w23.2.2.2.2.2.2.2.2.2.1, w23.2.2.2.2.2.2.2.2.2.2.1, w23.2.2.2.2.2.2.2.2.2.2.2.1, w23.2.2.2.2.2.2.2.2.2.2.2.2.1, w23.2.2.2.2.2.2.2.2.2.2.2.2.2.1, w23.2.2.2.2.2.2.2.2.2.2.2.2.2.2.1, x27, w23.2.2.2.2.2.2.2.2.2.2.2.2.2.2.2.2.1, w23.2.2.2.2.2.2.2.2.2.2.2.2.2.2.2.2.2)) (wr := []) (cs1 := (fun zz : SM => wM kI mo m0 m1 m2 m3 m4 m5 m6 m7 zz)) (ws2 := (fun zz : SM => wM kI mo m0 m1 m2 m3 m4 m5 m6 m7 zz)) ⟨hx, hb, hml, hown, hts⟩ (fun sz => kX6_takesOne l D kI kC kG kJ mo m0 m1 m2 m3 m4 m5 m6 m7 sz (w23.1, w23.2.1, w23.2.2.1, w23.2.2.2.1, w23.2.2.2.2.1, w23.2.2.2.2.2.1, w23.2.2.2.2.2.2.1, w23.2.2.2.2.2.2.2.1, w23.2.2.2.2.2.2.2.2.1, w23.2.2.2.2.2.2.2.2.2.1, w23.2.2.2.2.2.2.2.2.2.2.1, w23.2.2.2.2.2.2.2.2.2.2.2.1, w23.2.2.2.2.2.2.2.2.2.2.2.2.1, w23.2.2.2.2.2.2.2.2.2.2.2.2.2.1, w23.2.2.2.2.2.2.2.2.2.2.2.2.2.2.1, x27, w23.2.2.2.2.2.2.2.2.2.2.2.2.2.2.2.2.1, w23.2.2.2.2.2.2.2.2.2.2.2.2.2.2.2.2.2) 59 _ hw) (cwV 1 hts gX6_makesAll_X6_takesOne rfl rfl rfl hdX6_takesOne ⟨Nat.le_of_ble_eq_true rfl, Nat.le_of_ble_eq_true rfl⟩) hK hP hD hE hS hA [0, 1, 2, 3, 4, 5, 6, 7, 8] [] rfl rfl rfl rfl (by decide) [0, 1, 2, 3, 4, 5, 6, 7, 8] rfl (fun _ => rfl) (ci := 5) (q0 := 0) rfl rfl rfl rfl hl.1 rfl (Nat.le_of_ble_eq_true rfl) dX6_makesAll_113 ⟨Nat.le_of_ble_eq_true rfl, Nat.le_of_ble_eq_true rfl⟩ (fun r28 w28 H locs hw hP hD hS => ?_)
                have hP : va_P D vwCl (wM kI mo m0 m1 m2 m3 m4 m5 m6 m7 w28) H := hP
                have hD : va_D A (wM kI mo m0 m1 m2 m3 m4 m5 m6 m7 w28) := hD
                refine lv_istore_n (lv' := [(1, .int r28), (2, .int 1), (0, .ref mo)]) hx hb dX6_makesAll_116 rfl hl (by decide) rfl (fun ls hl => ?_)
                refine lv_goto (tgt := 17) hx hb dX6_makesAll_117 (by decide) ?_
                exact ih r28 w28 H locs ls hP hD hS (lv_sub hl [2, 0] rfl) hw
          · replace hw := Eq.mp (if_pos c18) hw
            refine lv_goto (tgt := 62) hx hb dX6_makesAll_48 (by decide) ?_
            exact W.vret hx hb hr (fun t ht hW => ⟨⟨w2, rfl, hw, by rw [ht]; exact hP, va_K.moved hW.alike hK, hD⟩, hS.F ht⟩) hS.2.2 dX6_makesAll_62
  unfold pX6_makesAll at hw
  refine lv_aload_n hx hb dX6_makesAll_0 rfl (lv_at hl 0 rfl) ?_
  refine lv_iconst (v := 0) hx hb dX6_makesAll_1 (by decide) ?_
  refine va_put (D := D) (ci := 5) (v := .int 0) (ty := tyX6 9) (C := RX6) (T := TX6) (N := 18) hx hb hts (fun _ h => List.mem_cons_of_mem _ (List.mem_append_right _ h)) tyX6 tyX6_ok nmX6 hown hK hP hD hS 0 rfl rfl 9 (by decide) (hts (.fieldLink RX6 110 "HazelGiftModel" "at" "I") (List.mem_of_getElem? (i := 1) rfl)) (fun _ h9 => h9) rfl (tyX6_ok 9 (by decide)) rfl rfl (Nat.le_of_ble_eq_true rfl) dX6_makesAll_2 (fun H locs hP hD hS => ?_)
  have hP : va_P D vwCl (wM kI mo m0 m1 m2 m3 m4 m5 m6 m7 (u.1, u.2.1, u.2.2.1, u.2.2.2.1, u.2.2.2.2.1, u.2.2.2.2.2.1, u.2.2.2.2.2.2.1, u.2.2.2.2.2.2.2.1, u.2.2.2.2.2.2.2.2.1, u.2.2.2.2.2.2.2.2.2.1, u.2.2.2.2.2.2.2.2.2.2.1, u.2.2.2.2.2.2.2.2.2.2.2.1, 0, u.2.2.2.2.2.2.2.2.2.2.2.2.2.1, u.2.2.2.2.2.2.2.2.2.2.2.2.2.2.1, u.2.2.2.2.2.2.2.2.2.2.2.2.2.2.2.1, u.2.2.2.2.2.2.2.2.2.2.2.2.2.2.2.2.1, u.2.2.2.2.2.2.2.2.2.2.2.2.2.2.2.2.2)) H := hP
  have hD : va_D A (wM kI mo m0 m1 m2 m3 m4 m5 m6 m7 (u.1, u.2.1, u.2.2.1, u.2.2.2.1, u.2.2.2.2.1, u.2.2.2.2.2.1, u.2.2.2.2.2.2.1, u.2.2.2.2.2.2.2.1, u.2.2.2.2.2.2.2.2.1, u.2.2.2.2.2.2.2.2.2.1, u.2.2.2.2.2.2.2.2.2.2.1, u.2.2.2.2.2.2.2.2.2.2.2.1, 0, u.2.2.2.2.2.2.2.2.2.2.2.2.2.1, u.2.2.2.2.2.2.2.2.2.2.2.2.2.2.1, u.2.2.2.2.2.2.2.2.2.2.2.2.2.2.2.1, u.2.2.2.2.2.2.2.2.2.2.2.2.2.2.2.2.1, u.2.2.2.2.2.2.2.2.2.2.2.2.2.2.2.2.2)) := hD
  refine lv_aload_n hx hb dX6_makesAll_5 rfl (lv_at hl 0 rfl) ?_
  refine lv_iconst (v := 0) hx hb dX6_makesAll_6 (by decide) ?_
  refine va_put (D := D) (ci := 5) (v := .int 0) (ty := tyX6 12) (C := RX6) (T := TX6) (N := 18) hx hb hts (fun _ h => List.mem_cons_of_mem _ (List.mem_append_right _ h)) tyX6 tyX6_ok nmX6 hown hK hP hD hS 0 rfl rfl 12 (by decide) (hts (.fieldLink RX6 134 "HazelGiftModel" "done" "I") (List.mem_of_getElem? (i := 2) rfl)) (fun _ h9 => h9) rfl (tyX6_ok 12 (by decide)) rfl rfl (Nat.le_of_ble_eq_true rfl) dX6_makesAll_7 (fun H locs hP hD hS => ?_)
  have hP : va_P D vwCl (wM kI mo m0 m1 m2 m3 m4 m5 m6 m7 (u.1, u.2.1, u.2.2.1, u.2.2.2.1, u.2.2.2.2.1, u.2.2.2.2.2.1, u.2.2.2.2.2.2.1, u.2.2.2.2.2.2.2.1, u.2.2.2.2.2.2.2.2.1, u.2.2.2.2.2.2.2.2.2.1, u.2.2.2.2.2.2.2.2.2.2.1, u.2.2.2.2.2.2.2.2.2.2.2.1, 0, u.2.2.2.2.2.2.2.2.2.2.2.2.2.1, u.2.2.2.2.2.2.2.2.2.2.2.2.2.2.1, 0, u.2.2.2.2.2.2.2.2.2.2.2.2.2.2.2.2.1, u.2.2.2.2.2.2.2.2.2.2.2.2.2.2.2.2.2)) H := hP
  have hD : va_D A (wM kI mo m0 m1 m2 m3 m4 m5 m6 m7 (u.1, u.2.1, u.2.2.1, u.2.2.2.1, u.2.2.2.2.1, u.2.2.2.2.2.1, u.2.2.2.2.2.2.1, u.2.2.2.2.2.2.2.1, u.2.2.2.2.2.2.2.2.1, u.2.2.2.2.2.2.2.2.2.1, u.2.2.2.2.2.2.2.2.2.2.1, u.2.2.2.2.2.2.2.2.2.2.2.1, 0, u.2.2.2.2.2.2.2.2.2.2.2.2.2.1, u.2.2.2.2.2.2.2.2.2.2.2.2.2.2.1, 0, u.2.2.2.2.2.2.2.2.2.2.2.2.2.2.2.2.1, u.2.2.2.2.2.2.2.2.2.2.2.2.2.2.2.2.2)) := hD
  refine lv_aload_n hx hb dX6_makesAll_10 rfl (lv_at hl 0 rfl) ?_
  refine lv_iconst (v := 0) hx hb dX6_makesAll_11 (by decide) ?_
  refine va_put (D := D) (ci := 5) (v := .int 0) (ty := tyX6 13) (C := RX6) (T := TX6) (N := 18) hx hb hts (fun _ h => List.mem_cons_of_mem _ (List.mem_append_right _ h)) tyX6 tyX6_ok nmX6 hown hK hP hD hS 0 rfl rfl 13 (by decide) (hts (.fieldLink RX6 137 "HazelGiftModel" "isAll" "Z") (List.mem_of_getElem? (i := 3) rfl)) (fun _ h9 => h9) rfl (tyX6_ok 13 (by decide)) rfl rfl (Nat.le_of_ble_eq_true rfl) dX6_makesAll_12 (fun H locs hP hD hS => ?_)
  have hP : va_P D vwCl (wM kI mo m0 m1 m2 m3 m4 m5 m6 m7 (u.1, u.2.1, u.2.2.1, u.2.2.2.1, u.2.2.2.2.1, u.2.2.2.2.2.1, u.2.2.2.2.2.2.1, u.2.2.2.2.2.2.2.1, u.2.2.2.2.2.2.2.2.1, u.2.2.2.2.2.2.2.2.2.1, u.2.2.2.2.2.2.2.2.2.2.1, u.2.2.2.2.2.2.2.2.2.2.2.1, 0, u.2.2.2.2.2.2.2.2.2.2.2.2.2.1, u.2.2.2.2.2.2.2.2.2.2.2.2.2.2.1, 0, 0, u.2.2.2.2.2.2.2.2.2.2.2.2.2.2.2.2.2)) H := hP
  have hD : va_D A (wM kI mo m0 m1 m2 m3 m4 m5 m6 m7 (u.1, u.2.1, u.2.2.1, u.2.2.2.1, u.2.2.2.2.1, u.2.2.2.2.2.1, u.2.2.2.2.2.2.1, u.2.2.2.2.2.2.2.1, u.2.2.2.2.2.2.2.2.1, u.2.2.2.2.2.2.2.2.2.1, u.2.2.2.2.2.2.2.2.2.2.1, u.2.2.2.2.2.2.2.2.2.2.2.1, 0, u.2.2.2.2.2.2.2.2.2.2.2.2.2.1, u.2.2.2.2.2.2.2.2.2.2.2.2.2.2.1, 0, 0, u.2.2.2.2.2.2.2.2.2.2.2.2.2.2.2.2.2)) := hD
  refine lv_iconst (v := 1) hx hb dX6_makesAll_15 (by decide) ?_
  refine lv_istore_n (lv' := [(1, .int 1), (0, .ref mo)]) hx hb dX6_makesAll_16 rfl hl (by decide) rfl (fun ls hl => ?_)
  obtain ⟨n9, hw⟩ := hw
  exact L17 () n9 1 (u.1, u.2.1, u.2.2.1, u.2.2.2.1, u.2.2.2.2.1, u.2.2.2.2.2.1, u.2.2.2.2.2.2.1, u.2.2.2.2.2.2.2.1, u.2.2.2.2.2.2.2.2.1, u.2.2.2.2.2.2.2.2.2.1, u.2.2.2.2.2.2.2.2.2.2.1, u.2.2.2.2.2.2.2.2.2.2.2.1, 0, u.2.2.2.2.2.2.2.2.2.2.2.2.2.1, u.2.2.2.2.2.2.2.2.2.2.2.2.2.2.1, 0, 0, u.2.2.2.2.2.2.2.2.2.2.2.2.2.2.2.2.2) H locs ls hP hD hS (lv_sub hl [1, 0] rfl) hw
set_option maxHeartbeats 4000000 in
set_option maxRecDepth 100000 in
theorem kX6_tries (l : Launch) (D : va_G) (kI kC kG kJ : ClassId) (mo m0 m1 m2 m3 m4 m5 m6 m7 : Nat) (sz : Nat) (u : SM) (Z : SM → Prop) (hw : pX6_tries u Z) : Met l yX6_tries wsX6_tries ({ frames := 5, cells := 0, slots := 0, locals := 113 } : Room) (gPw D (gT kI kC kG kJ) [.ref mo] (wM kI mo m0 m1 m2 m3 m4 m5 m6 m7 u) sz) (va_Qv Z (gB D (gT kI kC kG kJ) (fun (zz : SM) => wM kI mo m0 m1 m2 m3 m4 m5 m6 m7 zz) (va_A (wM kI mo m0 m1 m2 m3 m4 m5 m6 m7 u) sz)) (va_A (wM kI mo m0 m1 m2 m3 m4 m5 m6 m7 u) sz)) 0 0 (va_A (wM kI mo m0 m1 m2 m3 m4 m5 m6 m7 u) sz) := by
  refine Met.ofW (cc := cX6_tries) (maxL := 2) (ret := none) (by decide) rfl ?_
  intro p e s m args below meth c s₁ B hml hv
  obtain ⟨rfl, hsz, hP, hK, hD0, hE⟩ := hv
  have hx := B.exec
  have hb := B.bytes
  have hr := B.returns
  have hts := atoms_spec (ws := wsX6_tries) B.pre
  have hown : s.vm.findClass RX6 = some m.cls := findClass_of_methodNamed B.named
  have hlocks := B.notSynchronized
  subst hsz
  have hD := hD0.self (sz := s.heap.size)
  generalize hAe : va_A (wM kI mo m0 m1 m2 m3 m4 m5 m6 m7 u) s.heap.size = A at hD hE ⊢
  have hA : ∀ q : Nat, s.heap.size ≤ q → A q := fun q h => by rw [← hAe]; exact Or.inr h
  have hS : va_S A s.heap s.heap [] := va_S.rf
  clear hAe hD0
  have hl := lv_entry ([.ref mo]) (n := 2) (Nat.le_of_ble_eq_true rfl)
  rw [lg_entry_eq]
  generalize (lg_sl ([.ref mo]) ++ List.replicate (2 - (lg_sl ([.ref mo])).length) Slot.unset).toArray = ls at hl ⊢
  have hl : lv_has ls 2 [(0, .ref mo)] := hl
  have hP : va_P D vwCl (wM kI mo m0 m1 m2 m3 m4 m5 m6 m7 u) s.heap := hP
  have L32 : ∀ (_ : Unit), ∀ (n : Nat), ∀ (v1 : Int32) (u : SM) (H : Heap) (locs : List Loc) (ls : Array Slot), va_P D vwCl (wM kI mo m0 m1 m2 m3 m4 m5 m6 m7 u) H → va_D A (wM kI mo m0 m1 m2 m3 m4 m5 m6 m7 u) → va_S A s.heap H locs → lv_has ls 2 [(0, .ref mo), (1, .int v1)] → pX6_tries_32 Z n v1 u → W p l e (headSpec wsX6_tries ({ frames := 5, cells := 0, slots := 0, locals := 113 } : Room)).room s m ([.ref mo] : List Value).toArray below meth c H locs 0 0 (MQ below (va_Qv Z (gB D (gT kI kC kG kJ) (fun (zz : SM) => wM kI mo m0 m1 m2 m3 m4 m5 m6 m7 zz) A) A) ([.ref mo] : List Value).toArray s 0 0 A) (F0 m 32 ls []) := by
    intro _ n
    induction n with
    | zero => intro v1 u H locs ls hP hD hS hl hw; exact hw.elim
    | succ n ih =>
    intro v1 u H locs ls hP hD hS hl hw
    rw [pX6_tries_32] at hw
    refine lv_iload_n hx hb dX6_tries_32 rfl (lv_at hl 1 rfl) ?_
    refine lv_bipush (v := 21) hx hb dX6_tries_33 (by decide) ?_
    refine lv_icmp_ge (tgt := 56) hx hb dX6_tries_35 (by decide) (fun c3 => ?_) (fun c3 => ?_)
    · replace hw := Eq.mp (if_pos c3) hw
      exact W.vret hx hb hr (fun t ht hW => ⟨⟨u, rfl, hw, by rw [ht]; exact hP, va_K.moved hW.alike hK, hD⟩, hS.F ht⟩) hS.2.2 dX6_tries_56
    · replace hw := Eq.mp (if_neg c3) hw
      refine lv_aload_n hx hb dX6_tries_38 rfl (lv_at hl 0 rfl) ?_
      refine va_get (D := D) (ci := 5) (v := .ref m0) (C := RX6) (T := TX6) (N := 18) hx hb hts (fun _ h => List.mem_cons_of_mem _ (List.mem_append_right _ h)) hown hK hP 0 rfl rfl 0 (by decide) (hts (.fieldLink RX6 7 "HazelGiftModel" "all" "[I") (List.mem_of_getElem? (i := 2) rfl)) (fun _ h9 => h9) rfl dX6_tries_39 ?_
      refine lv_iload_n hx hb dX6_tries_42 rfl (lv_at hl 1 rfl) ?_
      refine lv_aload_n hx hb dX6_tries_43 rfl (lv_at hl 0 rfl) ?_
      refine va_get (D := D) (ci := 5) (v := .ref m1) (C := RX6) (T := TX6) (N := 18) hx hb hts (fun _ h => List.mem_cons_of_mem _ (List.mem_append_right _ h)) hown hK hP 0 rfl rfl 1 (by decide) (hts (.fieldLink RX6 13 "HazelGiftModel" "kept" "[I") (List.mem_of_getElem? (i := 1) rfl)) (fun _ h9 => h9) rfl dX6_tries_44 ?_
      refine lv_iload_n hx hb dX6_tries_47 rfl (lv_at hl 1 rfl) ?_
      obtain ⟨hi4, hw⟩ := hw
      refine gIald (k := (v1).toNatClampNeg) hx hb hK hP 2 0 rfl rfl hi4 rfl dX6_tries_48 ?_
      refine lv_topi (fun x5 ex5 => ?_)
      replace hw := hw x5 ex5
      obtain ⟨hi6, hw⟩ := hw
      refine gIast (k := (v1).toNatClampNeg) hx hb hK hP hD hS 1 0 rfl rfl hi6 rfl dX6_tries_49 (fun H locs hP hD hS => ?_)
      have hP : va_P D vwCl (wM kI mo m0 m1 m2 m3 m4 m5 m6 m7 ((upd u.1 (v1).toNatClampNeg x5), u.2.1, u.2.2.1, u.2.2.2.1, u.2.2.2.2.1, u.2.2.2.2.2.1, u.2.2.2.2.2.2.1, u.2.2.2.2.2.2.2.1, u.2.2.2.2.2.2.2.2.1, u.2.2.2.2.2.2.2.2.2.1, u.2.2.2.2.2.2.2.2.2.2.1, u.2.2.2.2.2.2.2.2.2.2.2.1, u.2.2.2.2.2.2.2.2.2.2.2.2.1, u.2.2.2.2.2.2.2.2.2.2.2.2.2.1, u.2.2.2.2.2.2.2.2.2.2.2.2.2.2.1, u.2.2.2.2.2.2.2.2.2.2.2.2.2.2.2.1, u.2.2.2.2.2.2.2.2.2.2.2.2.2.2.2.2.1, u.2.2.2.2.2.2.2.2.2.2.2.2.2.2.2.2.2)) H := hP
      have hD : va_D A (wM kI mo m0 m1 m2 m3 m4 m5 m6 m7 ((upd u.1 (v1).toNatClampNeg x5), u.2.1, u.2.2.1, u.2.2.2.1, u.2.2.2.2.1, u.2.2.2.2.2.1, u.2.2.2.2.2.2.1, u.2.2.2.2.2.2.2.1, u.2.2.2.2.2.2.2.2.1, u.2.2.2.2.2.2.2.2.2.1, u.2.2.2.2.2.2.2.2.2.2.1, u.2.2.2.2.2.2.2.2.2.2.2.1, u.2.2.2.2.2.2.2.2.2.2.2.2.1, u.2.2.2.2.2.2.2.2.2.2.2.2.2.1, u.2.2.2.2.2.2.2.2.2.2.2.2.2.2.1, u.2.2.2.2.2.2.2.2.2.2.2.2.2.2.2.1, u.2.2.2.2.2.2.2.2.2.2.2.2.2.2.2.2.1, u.2.2.2.2.2.2.2.2.2.2.2.2.2.2.2.2.2)) := hD
      obtain ⟨x7, ex7⟩ : ∃ y : Int32, y = (v1 + 1) := ⟨_, rfl⟩
      replace hw := hw x7 ex7
      refine lv_iinc (v := x7) (lv' := [(1, .int x7), (0, .ref mo)]) hx hb dX6_tries_50 hl (k := 1) rfl (by rw [ex7]; rfl) (by decide) rfl (fun ls hl => ?_)
      refine lv_goto (tgt := 32) hx hb dX6_tries_53 (by decide) ?_
      exact ih x7 ((upd u.1 (v1).toNatClampNeg x5), u.2.1, u.2.2.1, u.2.2.2.1, u.2.2.2.2.1, u.2.2.2.2.2.1, u.2.2.2.2.2.2.1, u.2.2.2.2.2.2.2.1, u.2.2.2.2.2.2.2.2.1, u.2.2.2.2.2.2.2.2.2.1, u.2.2.2.2.2.2.2.2.2.2.1, u.2.2.2.2.2.2.2.2.2.2.2.1, u.2.2.2.2.2.2.2.2.2.2.2.2.1, u.2.2.2.2.2.2.2.2.2.2.2.2.2.1, u.2.2.2.2.2.2.2.2.2.2.2.2.2.2.1, u.2.2.2.2.2.2.2.2.2.2.2.2.2.2.2.1, u.2.2.2.2.2.2.2.2.2.2.2.2.2.2.2.2.1, u.2.2.2.2.2.2.2.2.2.2.2.2.2.2.2.2.2) H locs ls hP hD hS (lv_sub hl [1, 0] rfl) hw
  have L2 : ∀ (_ : Unit), ∀ (n : Nat), ∀ (v1 : Int32) (u : SM) (H : Heap) (locs : List Loc) (ls : Array Slot), va_P D vwCl (wM kI mo m0 m1 m2 m3 m4 m5 m6 m7 u) H → va_D A (wM kI mo m0 m1 m2 m3 m4 m5 m6 m7 u) → va_S A s.heap H locs → lv_has ls 2 [(0, .ref mo), (1, .int v1)] → pX6_tries_2 Z n v1 u → W p l e (headSpec wsX6_tries ({ frames := 5, cells := 0, slots := 0, locals := 113 } : Room)).room s m ([.ref mo] : List Value).toArray below meth c H locs 0 0 (MQ below (va_Qv Z (gB D (gT kI kC kG kJ) (fun (zz : SM) => wM kI mo m0 m1 m2 m3 m4 m5 m6 m7 zz) A) A) ([.ref mo] : List Value).toArray s 0 0 A) (F0 m 2 ls []) := by
    intro _ n
    induction n with
    | zero => intro v1 u H locs ls hP hD hS hl hw; exact hw.elim
    | succ n ih =>
    intro v1 u H locs ls hP hD hS hl hw
    rw [pX6_tries_2] at hw
    refine lv_iload_n hx hb dX6_tries_2 rfl (lv_at hl 1 rfl) ?_
    refine lv_bipush (v := 21) hx hb dX6_tries_3 (by decide) ?_
    refine lv_icmp_ge (tgt := 26) hx hb dX6_tries_5 (by decide) (fun c1 => ?_) (fun c1 => ?_)
    · replace hw := Eq.mp (if_pos c1) hw
      refine lv_aload_n hx hb dX6_tries_26 rfl (lv_at hl 0 rfl) ?_
      refine gWVv (S := SM) (As := []) (rest := []) (wc := wM kI mo m0 m1 m2 m3 m4 m5 m6 m7 u) (wr := []) (cs1 := (fun zz : SM => wM kI mo m0 m1 m2 m3 m4 m5 m6 m7 zz)) (ws2 := (fun zz : SM => wM kI mo m0 m1 m2 m3 m4 m5 m6 m7 zz)) ⟨hx, hb, hml, hown, hts⟩ (fun sz => kX6_makesAll l D kI kC kG kJ mo m0 m1 m2 m3 m4 m5 m6 m7 sz u _ hw) (cwV 0 hts gX6_tries_X6_makesAll rfl rfl rfl hdX6_makesAll ⟨Nat.le_of_ble_eq_true rfl, Nat.le_of_ble_eq_true rfl⟩) hK hP hD hE hS hA [0, 1, 2, 3, 4, 5, 6, 7, 8] [] rfl rfl rfl rfl (by decide) [0, 1, 2, 3, 4, 5, 6, 7, 8] rfl (fun _ => rfl) (ci := 5) (q0 := 0) rfl rfl rfl rfl hl.1 rfl (Nat.le_of_ble_eq_true rfl) dX6_tries_27 ⟨Nat.le_of_ble_eq_true rfl, Nat.le_of_ble_eq_true rfl⟩ (fun w2 H locs hw hP hD hS => ?_)
      have hP : va_P D vwCl (wM kI mo m0 m1 m2 m3 m4 m5 m6 m7 w2) H := hP
      have hD : va_D A (wM kI mo m0 m1 m2 m3 m4 m5 m6 m7 w2) := hD
      refine lv_iconst (v := 0) hx hb dX6_tries_30 (by decide) ?_
      refine lv_istore_n (lv' := [(1, .int 0), (0, .ref mo)]) hx hb dX6_tries_31 rfl hl (by decide) rfl (fun ls hl => ?_)
      obtain ⟨n9, hw⟩ := hw
      exact L32 () n9 0 w2 H locs ls hP hD hS (lv_sub hl [1, 0] rfl) hw
    · replace hw := Eq.mp (if_neg c1) hw
      refine lv_aload_n hx hb dX6_tries_8 rfl (lv_at hl 0 rfl) ?_
      refine va_get (D := D) (ci := 5) (v := .ref m1) (C := RX6) (T := TX6) (N := 18) hx hb hts (fun _ h => List.mem_cons_of_mem _ (List.mem_append_right _ h)) hown hK hP 0 rfl rfl 1 (by decide) (hts (.fieldLink RX6 13 "HazelGiftModel" "kept" "[I") (List.mem_of_getElem? (i := 1) rfl)) (fun _ h9 => h9) rfl dX6_tries_9 ?_
      refine lv_iload_n hx hb dX6_tries_12 rfl (lv_at hl 1 rfl) ?_
      refine lv_aload_n hx hb dX6_tries_13 rfl (lv_at hl 0 rfl) ?_
      refine va_get (D := D) (ci := 5) (v := .ref m0) (C := RX6) (T := TX6) (N := 18) hx hb hts (fun _ h => List.mem_cons_of_mem _ (List.mem_append_right _ h)) hown hK hP 0 rfl rfl 0 (by decide) (hts (.fieldLink RX6 7 "HazelGiftModel" "all" "[I") (List.mem_of_getElem? (i := 2) rfl)) (fun _ h9 => h9) rfl dX6_tries_14 ?_
      refine lv_iload_n hx hb dX6_tries_17 rfl (lv_at hl 1 rfl) ?_
      obtain ⟨hi8, hw⟩ := hw
      refine gIald (k := (v1).toNatClampNeg) hx hb hK hP 1 0 rfl rfl hi8 rfl dX6_tries_18 ?_
      refine lv_topi (fun x9 ex9 => ?_)
      replace hw := hw x9 ex9
      obtain ⟨hi10, hw⟩ := hw
      refine gIast (k := (v1).toNatClampNeg) hx hb hK hP hD hS 2 0 rfl rfl hi10 rfl dX6_tries_19 (fun H locs hP hD hS => ?_)
      have hP : va_P D vwCl (wM kI mo m0 m1 m2 m3 m4 m5 m6 m7 (u.1, (upd u.2.1 (v1).toNatClampNeg x9), u.2.2.1, u.2.2.2.1, u.2.2.2.2.1, u.2.2.2.2.2.1, u.2.2.2.2.2.2.1, u.2.2.2.2.2.2.2.1, u.2.2.2.2.2.2.2.2.1, u.2.2.2.2.2.2.2.2.2.1, u.2.2.2.2.2.2.2.2.2.2.1, u.2.2.2.2.2.2.2.2.2.2.2.1, u.2.2.2.2.2.2.2.2.2.2.2.2.1, u.2.2.2.2.2.2.2.2.2.2.2.2.2.1, u.2.2.2.2.2.2.2.2.2.2.2.2.2.2.1, u.2.2.2.2.2.2.2.2.2.2.2.2.2.2.2.1, u.2.2.2.2.2.2.2.2.2.2.2.2.2.2.2.2.1, u.2.2.2.2.2.2.2.2.2.2.2.2.2.2.2.2.2)) H := hP
      have hD : va_D A (wM kI mo m0 m1 m2 m3 m4 m5 m6 m7 (u.1, (upd u.2.1 (v1).toNatClampNeg x9), u.2.2.1, u.2.2.2.1, u.2.2.2.2.1, u.2.2.2.2.2.1, u.2.2.2.2.2.2.1, u.2.2.2.2.2.2.2.1, u.2.2.2.2.2.2.2.2.1, u.2.2.2.2.2.2.2.2.2.1, u.2.2.2.2.2.2.2.2.2.2.1, u.2.2.2.2.2.2.2.2.2.2.2.1, u.2.2.2.2.2.2.2.2.2.2.2.2.1, u.2.2.2.2.2.2.2.2.2.2.2.2.2.1, u.2.2.2.2.2.2.2.2.2.2.2.2.2.2.1, u.2.2.2.2.2.2.2.2.2.2.2.2.2.2.2.1, u.2.2.2.2.2.2.2.2.2.2.2.2.2.2.2.2.1, u.2.2.2.2.2.2.2.2.2.2.2.2.2.2.2.2.2)) := hD
      obtain ⟨x11, ex11⟩ : ∃ y : Int32, y = (v1 + 1) := ⟨_, rfl⟩
      replace hw := hw x11 ex11
      refine lv_iinc (v := x11) (lv' := [(1, .int x11), (0, .ref mo)]) hx hb dX6_tries_20 hl (k := 1) rfl (by rw [ex11]; rfl) (by decide) rfl (fun ls hl => ?_)
      refine lv_goto (tgt := 2) hx hb dX6_tries_23 (by decide) ?_
      exact ih x11 (u.1, (upd u.2.1 (v1).toNatClampNeg x9), u.2.2.1, u.2.2.2.1, u.2.2.2.2.1, u.2.2.2.2.2.1, u.2.2.2.2.2.2.1, u.2.2.2.2.2.2.2.1, u.2.2.2.2.2.2.2.2.1, u.2.2.2.2.2.2.2.2.2.1, u.2.2.2.2.2.2.2.2.2.2.1, u.2.2.2.2.2.2.2.2.2.2.2.1, u.2.2.2.2.2.2.2.2.2.2.2.2.1, u.2.2.2.2.2.2.2.2.2.2.2.2.2.1, u.2.2.2.2.2.2.2.2.2.2.2.2.2.2.1, u.2.2.2.2.2.2.2.2.2.2.2.2.2.2.2.1, u.2.2.2.2.2.2.2.2.2.2.2.2.2.2.2.2.1, u.2.2.2.2.2.2.2.2.2.2.2.2.2.2.2.2.2) H locs ls hP hD hS (lv_sub hl [1, 0] rfl) hw
  unfold pX6_tries at hw
  refine lv_iconst (v := 0) hx hb dX6_tries_0 (by decide) ?_
  refine lv_istore_n (lv' := [(1, .int 0), (0, .ref mo)]) hx hb dX6_tries_1 rfl hl (by decide) rfl (fun ls hl => ?_)
  obtain ⟨n9, hw⟩ := hw
  exact L2 () n9 0 u s.heap [] ls hP hD hS (lv_sub hl [1, 0] rfl) hw
set_option maxHeartbeats 4000000 in
set_option maxRecDepth 100000 in
theorem kX6_impossibleMove (l : Launch) (D : va_G) (kI kC kG kJ : ClassId) (mo m0 m1 m2 m3 m4 m5 m6 m7 : Nat) (sz : Nat) (u : SM) (Z : Int32 → SM → Prop) (hw : pX6_impossibleMove u Z) : Met l yX6_impossibleMove wsX6_impossibleMove ({ frames := 6, cells := 0, slots := 0, locals := 134 } : Room) (gPw D (gT kI kC kG kJ) [.ref mo] (wM kI mo m0 m1 m2 m3 m4 m5 m6 m7 u) sz) (va_Qi Z (gB D (gT kI kC kG kJ) (fun (zz : SM) => wM kI mo m0 m1 m2 m3 m4 m5 m6 m7 zz) (va_A (wM kI mo m0 m1 m2 m3 m4 m5 m6 m7 u) sz)) (va_A (wM kI mo m0 m1 m2 m3 m4 m5 m6 m7 u) sz)) 0 0 (va_A (wM kI mo m0 m1 m2 m3 m4 m5 m6 m7 u) sz) := by
  refine Met.ofW (cc := cX6_impossibleMove) (maxL := 1) (ret := (some .int)) (by decide) rfl ?_
  intro p e s m args below meth c s₁ B hml hv
  obtain ⟨rfl, hsz, hP, hK, hD0, hE⟩ := hv
  have hx := B.exec
  have hb := B.bytes
  have hr := B.returns
  have hts := atoms_spec (ws := wsX6_impossibleMove) B.pre
  have hown : s.vm.findClass RX6 = some m.cls := findClass_of_methodNamed B.named
  have hlocks := B.notSynchronized
  subst hsz
  have hD := hD0.self (sz := s.heap.size)
  generalize hAe : va_A (wM kI mo m0 m1 m2 m3 m4 m5 m6 m7 u) s.heap.size = A at hD hE ⊢
  have hA : ∀ q : Nat, s.heap.size ≤ q → A q := fun q h => by rw [← hAe]; exact Or.inr h
  have hS : va_S A s.heap s.heap [] := va_S.rf
  clear hAe hD0
  have hl := lv_entry ([.ref mo]) (n := 1) (Nat.le_of_ble_eq_true rfl)
  rw [lg_entry_eq]
  generalize (lg_sl ([.ref mo]) ++ List.replicate (1 - (lg_sl ([.ref mo])).length) Slot.unset).toArray = ls at hl ⊢
  have hl : lv_has ls 1 [(0, .ref mo)] := hl
  have hP : va_P D vwCl (wM kI mo m0 m1 m2 m3 m4 m5 m6 m7 u) s.heap := hP
  unfold pX6_impossibleMove at hw
  refine lv_aload_n hx hb dX6_impossibleMove_0 rfl (lv_at hl 0 rfl) ?_
  refine gWVi (S := SM) (As := []) (rest := []) (wc := wM kI mo m0 m1 m2 m3 m4 m5 m6 m7 u) (wr := []) (cs1 := (fun zz : SM => wM kI mo m0 m1 m2 m3 m4 m5 m6 m7 zz)) (ws2 := (fun zz : SM => wM kI mo m0 m1 m2 m3 m4 m5 m6 m7 zz)) ⟨hx, hb, hml, hown, hts⟩ (fun sz => kX6_errorOfText l D kI kC kG kJ mo m0 m1 m2 m3 m4 m5 m6 m7 sz u _ hw) (cwV 0 hts gX6_impossibleMove_X6_errorOfText rfl rfl rfl hdX6_errorOfText ⟨Nat.le_of_ble_eq_true rfl, Nat.le_of_ble_eq_true rfl⟩) hK hP hD hE hS hA [0, 1, 2, 3, 4, 5, 6, 7, 8] [] rfl rfl rfl rfl (by decide) [0, 1, 2, 3, 4, 5, 6, 7, 8] rfl (fun _ => rfl) (ci := 5) (q0 := 0) rfl rfl rfl rfl hl.1 rfl (Nat.le_of_ble_eq_true rfl) dX6_impossibleMove_1 ⟨Nat.le_of_ble_eq_true rfl, Nat.le_of_ble_eq_true rfl⟩ (fun r1 w1 H locs hw hP hD hS => ?_)
  have hP : va_P D vwCl (wM kI mo m0 m1 m2 m3 m4 m5 m6 m7 w1) H := hP
  have hD : va_D A (wM kI mo m0 m1 m2 m3 m4 m5 m6 m7 w1) := hD
  refine lv_iconst (v := (-1)) hx hb dX6_impossibleMove_4 (by decide) ?_
  refine lv_icmp_eq (tgt := 14) hx hb dX6_impossibleMove_5 (by decide) (fun c2 => ?_) (fun c2 => ?_)
  · replace hw := Eq.mp (if_pos c2) hw
    refine lv_aload_n hx hb dX6_impossibleMove_14 rfl (lv_at hl 0 rfl) ?_
    refine gWVv (S := SM) (As := []) (rest := []) (wc := wM kI mo m0 m1 m2 m3 m4 m5 m6 m7 w1) (wr := []) (cs1 := (fun zz : SM => wM kI mo m0 m1 m2 m3 m4 m5 m6 m7 zz)) (ws2 := (fun zz : SM => wM kI mo m0 m1 m2 m3 m4 m5 m6 m7 zz)) ⟨hx, hb, hml, hown, hts⟩ (fun sz => kX6_tries l D kI kC kG kJ mo m0 m1 m2 m3 m4 m5 m6 m7 sz w1 _ hw) (cwV 0 hts gX6_impossibleMove_X6_tries rfl rfl rfl hdX6_tries ⟨Nat.le_of_ble_eq_true rfl, Nat.le_of_ble_eq_true rfl⟩) hK hP hD hE hS hA [0, 1, 2, 3, 4, 5, 6, 7, 8] [] rfl rfl rfl rfl (by decide) [0, 1, 2, 3, 4, 5, 6, 7, 8] rfl (fun _ => rfl) (ci := 5) (q0 := 0) rfl rfl rfl rfl hl.1 rfl (Nat.le_of_ble_eq_true rfl) dX6_impossibleMove_15 ⟨Nat.le_of_ble_eq_true rfl, Nat.le_of_ble_eq_true rfl⟩ (fun w3 H locs hw hP hD hS => ?_)
    have hP : va_P D vwCl (wM kI mo m0 m1 m2 m3 m4 m5 m6 m7 w3) H := hP
    have hD : va_D A (wM kI mo m0 m1 m2 m3 m4 m5 m6 m7 w3) := hD
    refine lv_aload_n hx hb dX6_impossibleMove_18 rfl (lv_at hl 0 rfl) ?_
    refine lv_aload_n hx hb dX6_impossibleMove_19 rfl (lv_at hl 0 rfl) ?_
    refine va_get (D := D) (ci := 5) (v := .int w3.2.2.2.2.2.2.2.2.2.2.2.2.2.2.2.2.1) (C := RX6) (T := TX6) (N := 18) hx hb hts (fun _ h => List.mem_cons_of_mem _ (List.mem_append_right _ h)) hown hK hP 0 rfl rfl 13 (by decide) (hts (.fieldLink RX6 137 "HazelGiftModel" "isAll" "Z") (List.mem_of_getElem? (i := 1) rfl)) (fun _ h9 => h9) rfl dX6_impossibleMove_20 ?_
    refine lv_if_eq (tgt := 30) hx hb dX6_impossibleMove_23 (by decide) (fun c4 => ?_) (fun c4 => ?_)
    · replace hw := Eq.mp (if_pos c4) hw
      refine lv_aload_n hx hb dX6_impossibleMove_30 rfl (lv_at hl 0 rfl) ?_
      refine va_get (D := D) (ci := 5) (v := .int w3.2.2.2.2.2.2.2.2.2.2.2.2.2.2.2.1) (C := RX6) (T := TX6) (N := 18) hx hb hts (fun _ h => List.mem_cons_of_mem _ (List.mem_append_right _ h)) hown hK hP 0 rfl rfl 12 (by decide) (hts (.fieldLink RX6 134 "HazelGiftModel" "done" "I") (List.mem_of_getElem? (i := 2) rfl)) (fun _ h9 => h9) rfl dX6_impossibleMove_31 ?_
      refine gWVi (S := SM) (As := [.int w3.2.2.2.2.2.2.2.2.2.2.2.2.2.2.2.1]) (rest := []) (wc := wM kI mo m0 m1 m2 m3 m4 m5 m6 m7 w3) (wr := []) (cs1 := (fun zz : SM => wM kI mo m0 m1 m2 m3 m4 m5 m6 m7 zz)) (ws2 := (fun zz : SM => wM kI mo m0 m1 m2 m3 m4 m5 m6 m7 zz)) ⟨hx, hb, hml, hown, hts⟩ (fun sz => kX6_told l D kI kC kG kJ mo m0 m1 m2 m3 m4 m5 m6 m7 sz w3 w3.2.2.2.2.2.2.2.2.2.2.2.2.2.2.2.1 _ hw) (cwV 1 hts gX6_impossibleMove_X6_told rfl rfl rfl hdX6_told ⟨Nat.le_of_ble_eq_true rfl, Nat.le_of_ble_eq_true rfl⟩) hK hP hD hE hS hA [0, 1, 2, 3, 4, 5, 6, 7, 8] [] rfl rfl rfl rfl (by decide) [0, 1, 2, 3, 4, 5, 6, 7, 8] rfl (fun _ => rfl) (ci := 5) (q0 := 0) rfl rfl rfl rfl hl.1 rfl (Nat.le_of_ble_eq_true rfl) dX6_impossibleMove_34 ⟨Nat.le_of_ble_eq_true rfl, Nat.le_of_ble_eq_true rfl⟩ (fun r5 w5 H locs hw hP hD hS => ?_)
      have hP : va_P D vwCl (wM kI mo m0 m1 m2 m3 m4 m5 m6 m7 w5) H := hP
      have hD : va_D A (wM kI mo m0 m1 m2 m3 m4 m5 m6 m7 w5) := hD
      exact W.iret (v := r5) hx hb hr (fun t ht hW => ⟨⟨r5, w5, rfl, hw, by rw [ht]; exact hP, va_K.moved hW.alike hK, hD⟩, hS.F ht⟩) hS.2.2 dX6_impossibleMove_37
    · replace hw := Eq.mp (if_neg c4) hw
      refine lv_iconst (v := (-1)) hx hb dX6_impossibleMove_26 (by decide) ?_
      refine lv_goto (tgt := 34) hx hb dX6_impossibleMove_27 (by decide) ?_
      refine gWVi (S := SM) (As := [.int (-1)]) (rest := []) (wc := wM kI mo m0 m1 m2 m3 m4 m5 m6 m7 w3) (wr := []) (cs1 := (fun zz : SM => wM kI mo m0 m1 m2 m3 m4 m5 m6 m7 zz)) (ws2 := (fun zz : SM => wM kI mo m0 m1 m2 m3 m4 m5 m6 m7 zz)) ⟨hx, hb, hml, hown, hts⟩ (fun sz => kX6_told l D kI kC kG kJ mo m0 m1 m2 m3 m4 m5 m6 m7 sz w3 (-1) _ hw) (cwV 1 hts gX6_impossibleMove_X6_told rfl rfl rfl hdX6_told ⟨Nat.le_of_ble_eq_true rfl, Nat.le_of_ble_eq_true rfl⟩) hK hP hD hE hS hA [0, 1, 2, 3, 4, 5, 6, 7, 8] [] rfl rfl rfl rfl (by decide) [0, 1, 2, 3, 4, 5, 6, 7, 8] rfl (fun _ => rfl) (ci := 5) (q0 := 0) rfl rfl rfl rfl hl.1 rfl (Nat.le_of_ble_eq_true rfl) dX6_impossibleMove_34 ⟨Nat.le_of_ble_eq_true rfl, Nat.le_of_ble_eq_true rfl⟩ (fun r6 w6 H locs hw hP hD hS => ?_)
      have hP : va_P D vwCl (wM kI mo m0 m1 m2 m3 m4 m5 m6 m7 w6) H := hP
      have hD : va_D A (wM kI mo m0 m1 m2 m3 m4 m5 m6 m7 w6) := hD
      exact W.iret (v := r6) hx hb hr (fun t ht hW => ⟨⟨r6, w6, rfl, hw, by rw [ht]; exact hP, va_K.moved hW.alike hK, hD⟩, hS.F ht⟩) hS.2.2 dX6_impossibleMove_37
  · replace hw := Eq.mp (if_neg c2) hw
    refine lv_aload_n hx hb dX6_impossibleMove_8 rfl (lv_at hl 0 rfl) ?_
    refine lv_iconst (v := 1) hx hb dX6_impossibleMove_9 (by decide) ?_
    refine gWVi (S := SM) (As := [.int 1]) (rest := []) (wc := wM kI mo m0 m1 m2 m3 m4 m5 m6 m7 w1) (wr := []) (cs1 := (fun zz : SM => wM kI mo m0 m1 m2 m3 m4 m5 m6 m7 zz)) (ws2 := (fun zz : SM => wM kI mo m0 m1 m2 m3 m4 m5 m6 m7 zz)) ⟨hx, hb, hml, hown, hts⟩ (fun sz => kX6_fails l D kI kC kG kJ mo m0 m1 m2 m3 m4 m5 m6 m7 sz w1 1 _ hw) (cwV 1 hts gX6_impossibleMove_X6_fails rfl rfl rfl hdX6_fails ⟨Nat.le_of_ble_eq_true rfl, Nat.le_of_ble_eq_true rfl⟩) hK hP hD hE hS hA [0, 1, 2, 3, 4, 5, 6, 7, 8] [] rfl rfl rfl rfl (by decide) [0, 1, 2, 3, 4, 5, 6, 7, 8] rfl (fun _ => rfl) (ci := 5) (q0 := 0) rfl rfl rfl rfl hl.1 rfl (Nat.le_of_ble_eq_true rfl) dX6_impossibleMove_10 ⟨Nat.le_of_ble_eq_true rfl, Nat.le_of_ble_eq_true rfl⟩ (fun r7 w7 H locs hw hP hD hS => ?_)
    have hP : va_P D vwCl (wM kI mo m0 m1 m2 m3 m4 m5 m6 m7 w7) H := hP
    have hD : va_D A (wM kI mo m0 m1 m2 m3 m4 m5 m6 m7 w7) := hD
    exact W.iret (v := r7) hx hb hr (fun t ht hW => ⟨⟨r7, w7, rfl, hw, by rw [ht]; exact hP, va_K.moved hW.alike hK, hD⟩, hS.F ht⟩) hS.2.2 dX6_impossibleMove_13
set_option maxHeartbeats 4000000 in
set_option maxRecDepth 100000 in
theorem kX6_carryOut (l : Launch) (D : va_G) (kI kC kG kJ : ClassId) (mo m0 m1 m2 m3 m4 m5 m6 m7 : Nat) (sz : Nat) (u : SM) (Z : Int32 → SM → Prop) (hw : pX6_carryOut u Z) : Met l yX6_carryOut wsX6_carryOut ({ frames := 6, cells := 0, slots := 0, locals := 134 } : Room) (gPw D (gT kI kC kG kJ) [.ref mo] (wM kI mo m0 m1 m2 m3 m4 m5 m6 m7 u) sz) (va_Qi Z (gB D (gT kI kC kG kJ) (fun (zz : SM) => wM kI mo m0 m1 m2 m3 m4 m5 m6 m7 zz) (va_A (wM kI mo m0 m1 m2 m3 m4 m5 m6 m7 u) sz)) (va_A (wM kI mo m0 m1 m2 m3 m4 m5 m6 m7 u) sz)) 0 0 (va_A (wM kI mo m0 m1 m2 m3 m4 m5 m6 m7 u) sz) := by
  refine Met.ofW (cc := cX6_carryOut) (maxL := 1) (ret := (some .int)) (by decide) rfl ?_
  intro p e s m args below meth c s₁ B hml hv
  obtain ⟨rfl, hsz, hP, hK, hD0, hE⟩ := hv
  have hx := B.exec
  have hb := B.bytes
  have hr := B.returns
  have hts := atoms_spec (ws := wsX6_carryOut) B.pre
  have hown : s.vm.findClass RX6 = some m.cls := findClass_of_methodNamed B.named
  have hlocks := B.notSynchronized
  subst hsz
  have hD := hD0.self (sz := s.heap.size)
  generalize hAe : va_A (wM kI mo m0 m1 m2 m3 m4 m5 m6 m7 u) s.heap.size = A at hD hE ⊢
  have hA : ∀ q : Nat, s.heap.size ≤ q → A q := fun q h => by rw [← hAe]; exact Or.inr h
  have hS : va_S A s.heap s.heap [] := va_S.rf
  clear hAe hD0
  have hl := lv_entry ([.ref mo]) (n := 1) (Nat.le_of_ble_eq_true rfl)
  rw [lg_entry_eq]
  generalize (lg_sl ([.ref mo]) ++ List.replicate (1 - (lg_sl ([.ref mo])).length) Slot.unset).toArray = ls at hl ⊢
  have hl : lv_has ls 1 [(0, .ref mo)] := hl
  have hP : va_P D vwCl (wM kI mo m0 m1 m2 m3 m4 m5 m6 m7 u) s.heap := hP
  unfold pX6_carryOut at hw
  refine lv_aload_n hx hb dX6_carryOut_0 rfl (lv_at hl 0 rfl) ?_
  refine gWVi (S := SM) (As := []) (rest := []) (wc := wM kI mo m0 m1 m2 m3 m4 m5 m6 m7 u) (wr := []) (cs1 := (fun zz : SM => wM kI mo m0 m1 m2 m3 m4 m5 m6 m7 zz)) (ws2 := (fun zz : SM => wM kI mo m0 m1 m2 m3 m4 m5 m6 m7 zz)) ⟨hx, hb, hml, hown, hts⟩ (fun sz => kX6_errorOfText l D kI kC kG kJ mo m0 m1 m2 m3 m4 m5 m6 m7 sz u _ hw) (cwV 0 hts gX6_carryOut_X6_errorOfText rfl rfl rfl hdX6_errorOfText ⟨Nat.le_of_ble_eq_true rfl, Nat.le_of_ble_eq_true rfl⟩) hK hP hD hE hS hA [0, 1, 2, 3, 4, 5, 6, 7, 8] [] rfl rfl rfl rfl (by decide) [0, 1, 2, 3, 4, 5, 6, 7, 8] rfl (fun _ => rfl) (ci := 5) (q0 := 0) rfl rfl rfl rfl hl.1 rfl (Nat.le_of_ble_eq_true rfl) dX6_carryOut_1 ⟨Nat.le_of_ble_eq_true rfl, Nat.le_of_ble_eq_true rfl⟩ (fun r1 w1 H locs hw hP hD hS => ?_)
  have hP : va_P D vwCl (wM kI mo m0 m1 m2 m3 m4 m5 m6 m7 w1) H := hP
  have hD : va_D A (wM kI mo m0 m1 m2 m3 m4 m5 m6 m7 w1) := hD
  refine lv_iconst (v := (-1)) hx hb dX6_carryOut_4 (by decide) ?_
  refine lv_icmp_eq (tgt := 14) hx hb dX6_carryOut_5 (by decide) (fun c2 => ?_) (fun c2 => ?_)
  · replace hw := Eq.mp (if_pos c2) hw
    refine lv_aload_n hx hb dX6_carryOut_14 rfl (lv_at hl 0 rfl) ?_
    refine gWVv (S := SM) (As := []) (rest := []) (wc := wM kI mo m0 m1 m2 m3 m4 m5 m6 m7 w1) (wr := []) (cs1 := (fun zz : SM => wM kI mo m0 m1 m2 m3 m4 m5 m6 m7 zz)) (ws2 := (fun zz : SM => wM kI mo m0 m1 m2 m3 m4 m5 m6 m7 zz)) ⟨hx, hb, hml, hown, hts⟩ (fun sz => kX6_tries l D kI kC kG kJ mo m0 m1 m2 m3 m4 m5 m6 m7 sz w1 _ hw) (cwV 0 hts gX6_carryOut_X6_tries rfl rfl rfl hdX6_tries ⟨Nat.le_of_ble_eq_true rfl, Nat.le_of_ble_eq_true rfl⟩) hK hP hD hE hS hA [0, 1, 2, 3, 4, 5, 6, 7, 8] [] rfl rfl rfl rfl (by decide) [0, 1, 2, 3, 4, 5, 6, 7, 8] rfl (fun _ => rfl) (ci := 5) (q0 := 0) rfl rfl rfl rfl hl.1 rfl (Nat.le_of_ble_eq_true rfl) dX6_carryOut_15 ⟨Nat.le_of_ble_eq_true rfl, Nat.le_of_ble_eq_true rfl⟩ (fun w3 H locs hw hP hD hS => ?_)
    have hP : va_P D vwCl (wM kI mo m0 m1 m2 m3 m4 m5 m6 m7 w3) H := hP
    have hD : va_D A (wM kI mo m0 m1 m2 m3 m4 m5 m6 m7 w3) := hD
    refine lv_aload_n hx hb dX6_carryOut_18 rfl (lv_at hl 0 rfl) ?_
    refine va_get (D := D) (ci := 5) (v := .int w3.2.2.2.2.2.2.2.2.2.2.2.2.2.2.2.2.1) (C := RX6) (T := TX6) (N := 18) hx hb hts (fun _ h => List.mem_cons_of_mem _ (List.mem_append_right _ h)) hown hK hP 0 rfl rfl 13 (by decide) (hts (.fieldLink RX6 137 "HazelGiftModel" "isAll" "Z") (List.mem_of_getElem? (i := 1) rfl)) (fun _ h9 => h9) rfl dX6_carryOut_19 ?_
    refine lv_if_ne (tgt := 31) hx hb dX6_carryOut_22 (by decide) (fun c4 => ?_) (fun c4 => ?_)
    · replace hw := Eq.mp (if_neg c4) hw
      refine lv_aload_n hx hb dX6_carryOut_31 rfl (lv_at hl 0 rfl) ?_
      refine gWVv (S := SM) (As := []) (rest := []) (wc := wM kI mo m0 m1 m2 m3 m4 m5 m6 m7 w3) (wr := []) (cs1 := (fun zz : SM => wM kI mo m0 m1 m2 m3 m4 m5 m6 m7 zz)) (ws2 := (fun zz : SM => wM kI mo m0 m1 m2 m3 m4 m5 m6 m7 zz)) ⟨hx, hb, hml, hown, hts⟩ (fun sz => kX6_records l D kI kC kG kJ mo m0 m1 m2 m3 m4 m5 m6 m7 sz w3 _ hw) (cwV 0 hts gX6_carryOut_X6_records rfl rfl rfl hdX6_records ⟨Nat.le_of_ble_eq_true rfl, Nat.le_of_ble_eq_true rfl⟩) hK hP hD hE hS hA [0, 1, 2, 3, 4, 5, 6, 7, 8] [] rfl rfl rfl rfl (by decide) [0, 1, 2, 3, 4, 5, 6, 7, 8] rfl (fun _ => rfl) (ci := 5) (q0 := 0) rfl rfl rfl rfl hl.1 rfl (Nat.le_of_ble_eq_true rfl) dX6_carryOut_32 ⟨Nat.le_of_ble_eq_true rfl, Nat.le_of_ble_eq_true rfl⟩ (fun w5 H locs hw hP hD hS => ?_)
      have hP : va_P D vwCl (wM kI mo m0 m1 m2 m3 m4 m5 m6 m7 w5) H := hP
      have hD : va_D A (wM kI mo m0 m1 m2 m3 m4 m5 m6 m7 w5) := hD
      refine lv_aload_n hx hb dX6_carryOut_35 rfl (lv_at hl 0 rfl) ?_
      refine gWVv (S := SM) (As := []) (rest := []) (wc := wM kI mo m0 m1 m2 m3 m4 m5 m6 m7 w5) (wr := []) (cs1 := (fun zz : SM => wM kI mo m0 m1 m2 m3 m4 m5 m6 m7 zz)) (ws2 := (fun zz : SM => wM kI mo m0 m1 m2 m3 m4 m5 m6 m7 zz)) ⟨hx, hb, hml, hown, hts⟩ (fun sz => kX6_makesAll l D kI kC kG kJ mo m0 m1 m2 m3 m4 m5 m6 m7 sz w5 _ hw) (cwV 0 hts gX6_carryOut_X6_makesAll rfl rfl rfl hdX6_makesAll ⟨Nat.le_of_ble_eq_true rfl, Nat.le_of_ble_eq_true rfl⟩) hK hP hD hE hS hA [0, 1, 2, 3, 4, 5, 6, 7, 8] [] rfl rfl rfl rfl (by decide) [0, 1, 2, 3, 4, 5, 6, 7, 8] rfl (fun _ => rfl) (ci := 5) (q0 := 0) rfl rfl rfl rfl hl.1 rfl (Nat.le_of_ble_eq_true rfl) dX6_carryOut_36 ⟨Nat.le_of_ble_eq_true rfl, Nat.le_of_ble_eq_true rfl⟩ (fun w6 H locs hw hP hD hS => ?_)
      have hP : va_P D vwCl (wM kI mo m0 m1 m2 m3 m4 m5 m6 m7 w6) H := hP
      have hD : va_D A (wM kI mo m0 m1 m2 m3 m4 m5 m6 m7 w6) := hD
      refine lv_aload_n hx hb dX6_carryOut_39 rfl (lv_at hl 0 rfl) ?_
      refine va_get (D := D) (ci := 5) (v := .int w6.2.2.2.2.2.2.2.2.2.2.2.2.2.2.2.1) (C := RX6) (T := TX6) (N := 18) hx hb hts (fun _ h => List.mem_cons_of_mem _ (List.mem_append_right _ h)) hown hK hP 0 rfl rfl 12 (by decide) (hts (.fieldLink RX6 134 "HazelGiftModel" "done" "I") (List.mem_of_getElem? (i := 2) rfl)) (fun _ h9 => h9) rfl dX6_carryOut_40 ?_
      exact W.iret (v := w6.2.2.2.2.2.2.2.2.2.2.2.2.2.2.2.1) hx hb hr (fun t ht hW => ⟨⟨w6.2.2.2.2.2.2.2.2.2.2.2.2.2.2.2.1, w6, rfl, hw, by rw [ht]; exact hP, va_K.moved hW.alike hK, hD⟩, hS.F ht⟩) hS.2.2 dX6_carryOut_43
    · replace hw := Eq.mp (if_pos c4) hw
      refine lv_aload_n hx hb dX6_carryOut_25 rfl (lv_at hl 0 rfl) ?_
      refine lv_iconst (v := 1) hx hb dX6_carryOut_26 (by decide) ?_
      refine gWVi (S := SM) (As := [.int 1]) (rest := []) (wc := wM kI mo m0 m1 m2 m3 m4 m5 m6 m7 w3) (wr := []) (cs1 := (fun zz : SM => wM kI mo m0 m1 m2 m3 m4 m5 m6 m7 zz)) (ws2 := (fun zz : SM => wM kI mo m0 m1 m2 m3 m4 m5 m6 m7 zz)) ⟨hx, hb, hml, hown, hts⟩ (fun sz => kX6_fails l D kI kC kG kJ mo m0 m1 m2 m3 m4 m5 m6 m7 sz w3 1 _ hw) (cwV 1 hts gX6_carryOut_X6_fails rfl rfl rfl hdX6_fails ⟨Nat.le_of_ble_eq_true rfl, Nat.le_of_ble_eq_true rfl⟩) hK hP hD hE hS hA [0, 1, 2, 3, 4, 5, 6, 7, 8] [] rfl rfl rfl rfl (by decide) [0, 1, 2, 3, 4, 5, 6, 7, 8] rfl (fun _ => rfl) (ci := 5) (q0 := 0) rfl rfl rfl rfl hl.1 rfl (Nat.le_of_ble_eq_true rfl) dX6_carryOut_27 ⟨Nat.le_of_ble_eq_true rfl, Nat.le_of_ble_eq_true rfl⟩ (fun r7 w7 H locs hw hP hD hS => ?_)
      have hP : va_P D vwCl (wM kI mo m0 m1 m2 m3 m4 m5 m6 m7 w7) H := hP
      have hD : va_D A (wM kI mo m0 m1 m2 m3 m4 m5 m6 m7 w7) := hD
      exact W.iret (v := r7) hx hb hr (fun t ht hW => ⟨⟨r7, w7, rfl, hw, by rw [ht]; exact hP, va_K.moved hW.alike hK, hD⟩, hS.F ht⟩) hS.2.2 dX6_carryOut_30
  · replace hw := Eq.mp (if_neg c2) hw
    refine lv_aload_n hx hb dX6_carryOut_8 rfl (lv_at hl 0 rfl) ?_
    refine lv_iconst (v := 1) hx hb dX6_carryOut_9 (by decide) ?_
    refine gWVi (S := SM) (As := [.int 1]) (rest := []) (wc := wM kI mo m0 m1 m2 m3 m4 m5 m6 m7 w1) (wr := []) (cs1 := (fun zz : SM => wM kI mo m0 m1 m2 m3 m4 m5 m6 m7 zz)) (ws2 := (fun zz : SM => wM kI mo m0 m1 m2 m3 m4 m5 m6 m7 zz)) ⟨hx, hb, hml, hown, hts⟩ (fun sz => kX6_fails l D kI kC kG kJ mo m0 m1 m2 m3 m4 m5 m6 m7 sz w1 1 _ hw) (cwV 1 hts gX6_carryOut_X6_fails rfl rfl rfl hdX6_fails ⟨Nat.le_of_ble_eq_true rfl, Nat.le_of_ble_eq_true rfl⟩) hK hP hD hE hS hA [0, 1, 2, 3, 4, 5, 6, 7, 8] [] rfl rfl rfl rfl (by decide) [0, 1, 2, 3, 4, 5, 6, 7, 8] rfl (fun _ => rfl) (ci := 5) (q0 := 0) rfl rfl rfl rfl hl.1 rfl (Nat.le_of_ble_eq_true rfl) dX6_carryOut_10 ⟨Nat.le_of_ble_eq_true rfl, Nat.le_of_ble_eq_true rfl⟩ (fun r8 w8 H locs hw hP hD hS => ?_)
    have hP : va_P D vwCl (wM kI mo m0 m1 m2 m3 m4 m5 m6 m7 w8) H := hP
    have hD : va_D A (wM kI mo m0 m1 m2 m3 m4 m5 m6 m7 w8) := hD
    exact W.iret (v := r8) hx hb hr (fun t ht hW => ⟨⟨r8, w8, rfl, hw, by rw [ht]; exact hP, va_K.moved hW.alike hK, hD⟩, hS.F ht⟩) hS.2.2 dX6_carryOut_13
