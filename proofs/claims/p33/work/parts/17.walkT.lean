set_option maxHeartbeats 4000000 in
set_option maxRecDepth 100000 in
theorem kX4_length (l : Launch) (D : va_G) (kI kC kG kJ : ClassId) (t_x t_ch : Nat) (u : ST) (Z : Int32 → Prop) (hw : pX4_length u Z) : Met l yX4_length wsX4_length ({ frames := 0, cells := 0, slots := 0, locals := 0 } : Room) (gPr D (gT kI kC kG kJ) [.ref t_x] (wT kC t_x t_ch u)) (vp_Si Z) 0 0 (fun _ => False) := by
  refine Met.ofW (cc := cX4_length) (maxL := 1) (ret := (some .int)) (by decide) rfl ?_
  intro p e s m args below meth c s₁ B hml hv
  obtain ⟨rfl, hP, hK, hE⟩ := hv
  have hx := B.exec
  have hb := B.bytes
  have hr := B.returns
  have hts := atoms_spec (ws := wsX4_length) B.pre
  have hown : s.vm.findClass RX4 = some m.cls := findClass_of_methodNamed B.named
  have hlocks := B.notSynchronized
  have hS : va_S (fun _ => False) s.heap s.heap [] := va_S.rf
  have hl := lv_entry ([.ref t_x]) (n := 1) (Nat.le_of_ble_eq_true rfl)
  rw [lg_entry_eq]
  generalize (lg_sl ([.ref t_x]) ++ List.replicate (1 - (lg_sl ([.ref t_x])).length) Slot.unset).toArray = ls at hl ⊢
  have hl : lv_has ls 1 [(0, .ref t_x)] := hl
  unfold pX4_length at hw
  refine lv_aload_n hx hb dX4_length_0 rfl (lv_at hl 0 rfl) ?_
  refine va_get (D := D) (ci := 3) (v := .int u.1) (C := RX4) (T := TX4) (N := 2) hx hb hts (fun _ h => List.mem_cons_of_mem _ (List.mem_append_right _ h)) hown hK hP 0 rfl rfl 1 (by decide) (hts (.fieldLink RX4 15 "HazelGift$MoveText" "length" "I") (List.mem_of_getElem? (i := 1) rfl)) (fun _ h9 => h9) rfl dX4_length_1 ?_
  exact W.iret (v := u.1) hx hb hr (fun t ht hW => ⟨_, rfl, hw, ht⟩) (fun _ h => by cases h) dX4_length_4
set_option maxHeartbeats 4000000 in
set_option maxRecDepth 100000 in
theorem kX4_isFull (l : Launch) (D : va_G) (kI kC kG kJ : ClassId) (t_x t_ch : Nat) (u : ST) (Z : Int32 → Prop) (hw : pX4_isFull u Z) : Met l yX4_isFull wsX4_isFull ({ frames := 0, cells := 0, slots := 0, locals := 0 } : Room) (gPr D (gT kI kC kG kJ) [.ref t_x] (wT kC t_x t_ch u)) (vp_Si Z) 0 0 (fun _ => False) := by
  refine Met.ofW (cc := cX4_isFull) (maxL := 1) (ret := (some .boolean)) (by decide) rfl ?_
  intro p e s m args below meth c s₁ B hml hv
  obtain ⟨rfl, hP, hK, hE⟩ := hv
  have hx := B.exec
  have hb := B.bytes
  have hr := B.returns
  have hts := atoms_spec (ws := wsX4_isFull) B.pre
  have hown : s.vm.findClass RX4 = some m.cls := findClass_of_methodNamed B.named
  have hlocks := B.notSynchronized
  have hS : va_S (fun _ => False) s.heap s.heap [] := va_S.rf
  have hl := lv_entry ([.ref t_x]) (n := 1) (Nat.le_of_ble_eq_true rfl)
  rw [lg_entry_eq]
  generalize (lg_sl ([.ref t_x]) ++ List.replicate (1 - (lg_sl ([.ref t_x])).length) Slot.unset).toArray = ls at hl ⊢
  have hl : lv_has ls 1 [(0, .ref t_x)] := hl
  unfold pX4_isFull at hw
  refine lv_aload_n hx hb dX4_isFull_0 rfl (lv_at hl 0 rfl) ?_
  refine va_get (D := D) (ci := 3) (v := .int u.1) (C := RX4) (T := TX4) (N := 2) hx hb hts (fun _ h => List.mem_cons_of_mem _ (List.mem_append_right _ h)) hown hK hP 0 rfl rfl 1 (by decide) (hts (.fieldLink RX4 15 "HazelGift$MoveText" "length" "I") (List.mem_of_getElem? (i := 1) rfl)) (fun _ h9 => h9) rfl dX4_isFull_1 ?_
  refine lv_bipush (v := 60) hx hb dX4_isFull_4 (by decide) ?_
  refine lv_icmp_lt (tgt := 13) hx hb dX4_isFull_6 (by decide) (fun c1 => ?_) (fun c1 => ?_)
  · replace hw := Eq.mp (if_pos c1) hw
    refine lv_iconst (v := 0) hx hb dX4_isFull_13 (by decide) ?_
    exact W.zret (v := 0) hx hb hr rfl (fun t ht hW => ⟨_, rfl, hw, ht⟩) (fun _ h => by cases h) dX4_isFull_14
  · replace hw := Eq.mp (if_neg c1) hw
    refine lv_iconst (v := 1) hx hb dX4_isFull_9 (by decide) ?_
    refine lv_goto (tgt := 14) hx hb dX4_isFull_10 (by decide) ?_
    exact W.zret (v := 1) hx hb hr rfl (fun t ht hW => ⟨_, rfl, hw, ht⟩) (fun _ h => by cases h) dX4_isFull_14
set_option maxHeartbeats 4000000 in
set_option maxRecDepth 100000 in
theorem kX4_append (l : Launch) (D : va_G) (kI kC kG kJ : ClassId) (t_x t_ch : Nat) (sz : Nat) (u : ST) (p0 : Int32) (Z : ST → Prop) (hw : pX4_append p0 u Z) : Met l yX4_append wsX4_append ({ frames := 0, cells := 0, slots := 0, locals := 0 } : Room) (gPw D (gT kI kC kG kJ) [.ref t_x, .int p0] (wT kC t_x t_ch u) sz) (va_Qv Z (gB D (gT kI kC kG kJ) (fun (zz : ST) => wT kC t_x t_ch zz) (va_A (wT kC t_x t_ch u) sz)) (va_A (wT kC t_x t_ch u) sz)) 0 0 (va_A (wT kC t_x t_ch u) sz) := by
  refine Met.ofW (cc := cX4_append) (maxL := 2) (ret := none) (by decide) rfl ?_
  intro p e s m args below meth c s₁ B hml hv
  obtain ⟨rfl, hsz, hP, hK, hD0, hE⟩ := hv
  have hx := B.exec
  have hb := B.bytes
  have hr := B.returns
  have hts := atoms_spec (ws := wsX4_append) B.pre
  have hown : s.vm.findClass RX4 = some m.cls := findClass_of_methodNamed B.named
  have hlocks := B.notSynchronized
  subst hsz
  have hD := hD0.self (sz := s.heap.size)
  generalize hAe : va_A (wT kC t_x t_ch u) s.heap.size = A at hD hE ⊢
  have hA : ∀ q : Nat, s.heap.size ≤ q → A q := fun q h => by rw [← hAe]; exact Or.inr h
  have hS : va_S A s.heap s.heap [] := va_S.rf
  clear hAe hD0
  have hl := lv_entry ([.ref t_x, .int p0]) (n := 2) (Nat.le_of_ble_eq_true rfl)
  rw [lg_entry_eq]
  generalize (lg_sl ([.ref t_x, .int p0]) ++ List.replicate (2 - (lg_sl ([.ref t_x, .int p0])).length) Slot.unset).toArray = ls at hl ⊢
  have hl : lv_has ls 2 [(0, .ref t_x), (1, .int p0)] := hl
  have hP : va_P D vwCl (wT kC t_x t_ch u) s.heap := hP
  unfold pX4_append at hw
  refine lv_aload_n hx hb dX4_append_0 rfl (lv_at hl 0 rfl) ?_
  refine va_get (D := D) (ci := 3) (v := .int u.1) (C := RX4) (T := TX4) (N := 2) hx hb hts (fun _ h => List.mem_cons_of_mem _ (List.mem_append_right _ h)) hown hK hP 0 rfl rfl 1 (by decide) (hts (.fieldLink RX4 15 "HazelGift$MoveText" "length" "I") (List.mem_of_getElem? (i := 1) rfl)) (fun _ h9 => h9) rfl dX4_append_1 ?_
  refine lv_if_lt (tgt := 39) hx hb dX4_append_4 (by decide) (fun c1 => ?_) (fun c1 => ?_)
  · replace hw := Eq.mp (if_pos c1) hw
    exact W.vret hx hb hr (fun t ht hW => ⟨⟨u, rfl, hw, by rw [ht]; exact hP, va_K.moved hW.alike hK, hD⟩, hS.F ht⟩) hS.2.2 dX4_append_39
  · replace hw := Eq.mp (if_neg c1) hw
    refine lv_aload_n hx hb dX4_append_7 rfl (lv_at hl 0 rfl) ?_
    refine va_get (D := D) (ci := 3) (v := .int u.1) (C := RX4) (T := TX4) (N := 2) hx hb hts (fun _ h => List.mem_cons_of_mem _ (List.mem_append_right _ h)) hown hK hP 0 rfl rfl 1 (by decide) (hts (.fieldLink RX4 15 "HazelGift$MoveText" "length" "I") (List.mem_of_getElem? (i := 1) rfl)) (fun _ h9 => h9) rfl dX4_append_8 ?_
    refine lv_aload_n hx hb dX4_append_11 rfl (lv_at hl 0 rfl) ?_
    refine va_get (D := D) (ci := 3) (v := .ref t_ch) (C := RX4) (T := TX4) (N := 2) hx hb hts (fun _ h => List.mem_cons_of_mem _ (List.mem_append_right _ h)) hown hK hP 0 rfl rfl 0 (by decide) (hts (.fieldLink RX4 11 "HazelGift$MoveText" "characters" "[C") (List.mem_of_getElem? (i := 2) rfl)) (fun _ h9 => h9) rfl dX4_append_12 ?_
    refine va_alen (v := 60) hx hb hK hP 1 1 rfl rfl rfl dX4_append_15 ?_
    refine lv_icmp_ge (tgt := 39) hx hb dX4_append_16 (by decide) (fun c2 => ?_) (fun c2 => ?_)
    · replace hw := Eq.mp (if_pos c2) hw
      exact W.vret hx hb hr (fun t ht hW => ⟨⟨u, rfl, hw, by rw [ht]; exact hP, va_K.moved hW.alike hK, hD⟩, hS.F ht⟩) hS.2.2 dX4_append_39
    · replace hw := Eq.mp (if_neg c2) hw
      refine lv_aload_n hx hb dX4_append_19 rfl (lv_at hl 0 rfl) ?_
      refine va_get (D := D) (ci := 3) (v := .ref t_ch) (C := RX4) (T := TX4) (N := 2) hx hb hts (fun _ h => List.mem_cons_of_mem _ (List.mem_append_right _ h)) hown hK hP 0 rfl rfl 0 (by decide) (hts (.fieldLink RX4 11 "HazelGift$MoveText" "characters" "[C") (List.mem_of_getElem? (i := 2) rfl)) (fun _ h9 => h9) rfl dX4_append_20 ?_
      refine lv_aload_n hx hb dX4_append_23 rfl (lv_at hl 0 rfl) ?_
      refine va_get (D := D) (ci := 3) (v := .int u.1) (C := RX4) (T := TX4) (N := 2) hx hb hts (fun _ h => List.mem_cons_of_mem _ (List.mem_append_right _ h)) hown hK hP 0 rfl rfl 1 (by decide) (hts (.fieldLink RX4 15 "HazelGift$MoveText" "length" "I") (List.mem_of_getElem? (i := 1) rfl)) (fun _ h9 => h9) rfl dX4_append_24 ?_
      refine lv_iload_n hx hb dX4_append_27 rfl (lv_at hl 1 rfl) ?_
      obtain ⟨hi3, hw⟩ := hw
      refine gCast (k := (u.1).toNatClampNeg) hx hb hK hP hD hS 1 1 rfl rfl hi3 rfl dX4_append_28 (fun H locs hP hD hS => ?_)
      have hP : va_P D vwCl (wT kC t_x t_ch (u.1, (upd u.2 (u.1).toNatClampNeg (vp_nar .char p0)))) H := hP
      have hD : va_D A (wT kC t_x t_ch (u.1, (upd u.2 (u.1).toNatClampNeg (vp_nar .char p0)))) := hD
      refine lv_aload_n hx hb dX4_append_29 rfl (lv_at hl 0 rfl) ?_
      refine lv_dup hx hb dX4_append_30 rfl ?_
      refine va_get (D := D) (ci := 3) (v := .int u.1) (C := RX4) (T := TX4) (N := 2) hx hb hts (fun _ h => List.mem_cons_of_mem _ (List.mem_append_right _ h)) hown hK hP 0 rfl rfl 1 (by decide) (hts (.fieldLink RX4 15 "HazelGift$MoveText" "length" "I") (List.mem_of_getElem? (i := 1) rfl)) (fun _ h9 => h9) rfl dX4_append_31 ?_
      refine lv_iconst (v := 1) hx hb dX4_append_34 (by decide) ?_
      refine lv_iadd hx hb dX4_append_35 ?_
      refine lv_topi (fun x4 ex4 => ?_)
      replace hw := hw x4 ex4
      refine va_put (D := D) (ci := 3) (v := .int x4) (ty := tyX4 1) (C := RX4) (T := TX4) (N := 2) hx hb hts (fun _ h => List.mem_cons_of_mem _ (List.mem_append_right _ h)) tyX4 tyX4_ok nmX4 hown hK hP hD hS 0 rfl rfl 1 (by decide) (hts (.fieldLink RX4 15 "HazelGift$MoveText" "length" "I") (List.mem_of_getElem? (i := 1) rfl)) (fun _ h9 => h9) rfl (tyX4_ok 1 (by decide)) rfl rfl (Nat.le_of_ble_eq_true rfl) dX4_append_36 (fun H locs hP hD hS => ?_)
      have hP : va_P D vwCl (wT kC t_x t_ch (x4, (upd u.2 (u.1).toNatClampNeg (vp_nar .char p0)))) H := hP
      have hD : va_D A (wT kC t_x t_ch (x4, (upd u.2 (u.1).toNatClampNeg (vp_nar .char p0)))) := hD
      exact W.vret hx hb hr (fun t ht hW => ⟨⟨(x4, (upd u.2 (u.1).toNatClampNeg (vp_nar .char p0))), rfl, hw, by rw [ht]; exact hP, va_K.moved hW.alike hK, hD⟩, hS.F ht⟩) hS.2.2 dX4_append_39
set_option maxHeartbeats 4000000 in
set_option maxRecDepth 100000 in
theorem kX4_empty (l : Launch) (D : va_G) (kI kC kG kJ : ClassId) (t_x t_ch : Nat) (sz : Nat) (u : ST) (Z : ST → Prop) (hw : pX4_empty u Z) : Met l yX4_empty wsX4_empty ({ frames := 0, cells := 0, slots := 0, locals := 0 } : Room) (gPw D (gT kI kC kG kJ) [.ref t_x] (wT kC t_x t_ch u) sz) (va_Qv Z (gB D (gT kI kC kG kJ) (fun (zz : ST) => wT kC t_x t_ch zz) (va_A (wT kC t_x t_ch u) sz)) (va_A (wT kC t_x t_ch u) sz)) 0 0 (va_A (wT kC t_x t_ch u) sz) := by
  refine Met.ofW (cc := cX4_empty) (maxL := 1) (ret := none) (by decide) rfl ?_
  intro p e s m args below meth c s₁ B hml hv
  obtain ⟨rfl, hsz, hP, hK, hD0, hE⟩ := hv
  have hx := B.exec
  have hb := B.bytes
  have hr := B.returns
  have hts := atoms_spec (ws := wsX4_empty) B.pre
  have hown : s.vm.findClass RX4 = some m.cls := findClass_of_methodNamed B.named
  have hlocks := B.notSynchronized
  subst hsz
  have hD := hD0.self (sz := s.heap.size)
  generalize hAe : va_A (wT kC t_x t_ch u) s.heap.size = A at hD hE ⊢
  have hA : ∀ q : Nat, s.heap.size ≤ q → A q := fun q h => by rw [← hAe]; exact Or.inr h
  have hS : va_S A s.heap s.heap [] := va_S.rf
  clear hAe hD0
  have hl := lv_entry ([.ref t_x]) (n := 1) (Nat.le_of_ble_eq_true rfl)
  rw [lg_entry_eq]
  generalize (lg_sl ([.ref t_x]) ++ List.replicate (1 - (lg_sl ([.ref t_x])).length) Slot.unset).toArray = ls at hl ⊢
  have hl : lv_has ls 1 [(0, .ref t_x)] := hl
  have hP : va_P D vwCl (wT kC t_x t_ch u) s.heap := hP
  unfold pX4_empty at hw
  refine lv_aload_n hx hb dX4_empty_0 rfl (lv_at hl 0 rfl) ?_
  refine lv_iconst (v := 0) hx hb dX4_empty_1 (by decide) ?_
  refine va_put (D := D) (ci := 3) (v := .int 0) (ty := tyX4 1) (C := RX4) (T := TX4) (N := 2) hx hb hts (fun _ h => List.mem_cons_of_mem _ (List.mem_append_right _ h)) tyX4 tyX4_ok nmX4 hown hK hP hD hS 0 rfl rfl 1 (by decide) (hts (.fieldLink RX4 15 "HazelGift$MoveText" "length" "I") (List.mem_of_getElem? (i := 1) rfl)) (fun _ h9 => h9) rfl (tyX4_ok 1 (by decide)) rfl rfl (Nat.le_of_ble_eq_true rfl) dX4_empty_2 (fun H locs hP hD hS => ?_)
  have hP : va_P D vwCl (wT kC t_x t_ch (0, u.2)) H := hP
  have hD : va_D A (wT kC t_x t_ch (0, u.2)) := hD
  exact W.vret hx hb hr (fun t ht hW => ⟨⟨(0, u.2), rfl, hw, by rw [ht]; exact hP, va_K.moved hW.alike hK, hD⟩, hS.F ht⟩) hS.2.2 dX4_empty_5
set_option maxHeartbeats 4000000 in
set_option maxRecDepth 100000 in
theorem kX4_characterAt (l : Launch) (D : va_G) (kI kC kG kJ : ClassId) (t_x t_ch : Nat) (u : ST) (p0 : Int32) (Z : Int32 → Prop) (hw : pX4_characterAt p0 u Z) : Met l yX4_characterAt wsX4_characterAt ({ frames := 0, cells := 0, slots := 0, locals := 0 } : Room) (gPr D (gT kI kC kG kJ) [.ref t_x, .int p0] (wT kC t_x t_ch u)) (vp_Si Z) 0 0 (fun _ => False) := by
  refine Met.ofW (cc := cX4_characterAt) (maxL := 2) (ret := (some .char)) (by decide) rfl ?_
  intro p e s m args below meth c s₁ B hml hv
  obtain ⟨rfl, hP, hK, hE⟩ := hv
  have hx := B.exec
  have hb := B.bytes
  have hr := B.returns
  have hts := atoms_spec (ws := wsX4_characterAt) B.pre
  have hown : s.vm.findClass RX4 = some m.cls := findClass_of_methodNamed B.named
  have hlocks := B.notSynchronized
  have hS : va_S (fun _ => False) s.heap s.heap [] := va_S.rf
  have hl := lv_entry ([.ref t_x, .int p0]) (n := 2) (Nat.le_of_ble_eq_true rfl)
  rw [lg_entry_eq]
  generalize (lg_sl ([.ref t_x, .int p0]) ++ List.replicate (2 - (lg_sl ([.ref t_x, .int p0])).length) Slot.unset).toArray = ls at hl ⊢
  have hl : lv_has ls 2 [(0, .ref t_x), (1, .int p0)] := hl
  unfold pX4_characterAt at hw
  refine lv_iload_n hx hb dX4_characterAt_0 rfl (lv_at hl 1 rfl) ?_
  refine lv_if_lt (tgt := 22) hx hb dX4_characterAt_1 (by decide) (fun c1 => ?_) (fun c1 => ?_)
  · replace hw := Eq.mp (if_pos c1) hw
    refine lv_bipush (v := 59) hx hb dX4_characterAt_22 (by decide) ?_
    exact W.zret (v := 59) hx hb hr rfl (fun t ht hW => ⟨_, rfl, hw, ht⟩) (fun _ h => by cases h) dX4_characterAt_24
  · replace hw := Eq.mp (if_neg c1) hw
    refine lv_iload_n hx hb dX4_characterAt_4 rfl (lv_at hl 1 rfl) ?_
    refine lv_aload_n hx hb dX4_characterAt_5 rfl (lv_at hl 0 rfl) ?_
    refine va_get (D := D) (ci := 3) (v := .ref t_ch) (C := RX4) (T := TX4) (N := 2) hx hb hts (fun _ h => List.mem_cons_of_mem _ (List.mem_append_right _ h)) hown hK hP 0 rfl rfl 0 (by decide) (hts (.fieldLink RX4 11 "HazelGift$MoveText" "characters" "[C") (List.mem_of_getElem? (i := 1) rfl)) (fun _ h9 => h9) rfl dX4_characterAt_6 ?_
    refine va_alen (v := 60) hx hb hK hP 1 1 rfl rfl rfl dX4_characterAt_9 ?_
    refine lv_icmp_ge (tgt := 22) hx hb dX4_characterAt_10 (by decide) (fun c2 => ?_) (fun c2 => ?_)
    · replace hw := Eq.mp (if_pos c2) hw
      refine lv_bipush (v := 59) hx hb dX4_characterAt_22 (by decide) ?_
      exact W.zret (v := 59) hx hb hr rfl (fun t ht hW => ⟨_, rfl, hw, ht⟩) (fun _ h => by cases h) dX4_characterAt_24
    · replace hw := Eq.mp (if_neg c2) hw
      refine lv_aload_n hx hb dX4_characterAt_13 rfl (lv_at hl 0 rfl) ?_
      refine va_get (D := D) (ci := 3) (v := .ref t_ch) (C := RX4) (T := TX4) (N := 2) hx hb hts (fun _ h => List.mem_cons_of_mem _ (List.mem_append_right _ h)) hown hK hP 0 rfl rfl 0 (by decide) (hts (.fieldLink RX4 11 "HazelGift$MoveText" "characters" "[C") (List.mem_of_getElem? (i := 1) rfl)) (fun _ h9 => h9) rfl dX4_characterAt_14 ?_
      refine lv_iload_n hx hb dX4_characterAt_17 rfl (lv_at hl 1 rfl) ?_
      obtain ⟨hi3, hw⟩ := hw
      refine gCald (k := (p0).toNatClampNeg) hx hb hK hP 1 1 rfl rfl hi3 rfl dX4_characterAt_18 ?_
      refine lv_goto (tgt := 24) hx hb dX4_characterAt_19 (by decide) ?_
      obtain ⟨hn, hw⟩ := hw
      exact W.zret (v := (u.2 (p0).toNatClampNeg)) hx hb hr hn (fun t ht hW => ⟨_, rfl, hw, ht⟩) (fun _ h => by cases h) dX4_characterAt_24
set_option maxHeartbeats 4000000 in
set_option maxRecDepth 100000 in
theorem kX4_dueAfter (l : Launch) (D : va_G) (kI kC kG kJ : ClassId) (p0 : Int32) (p1 : Int32) (Z : Int32 → Prop) (hw : pX4_dueAfter p0 p1 Z) : Met l yX4_dueAfter wsX4_dueAfter ({ frames := 0, cells := 0, slots := 0, locals := 0 } : Room) (gPr D (gT kI kC kG kJ) [.int p0, .int p1] (([] : va_W))) (vp_Si Z) 0 0 (fun _ => False) := by
  refine Met.ofW (cc := cX4_dueAfter) (maxL := 2) (ret := (some .int)) (by decide) rfl ?_
  intro p e s m args below meth c s₁ B hml hv
  obtain ⟨rfl, hP, hK, hE⟩ := hv
  have hx := B.exec
  have hb := B.bytes
  have hr := B.returns
  have hts := atoms_spec (ws := wsX4_dueAfter) B.pre
  have hown : s.vm.findClass RX4 = some m.cls := findClass_of_methodNamed B.named
  have hlocks := B.notSynchronized
  have hS : va_S (fun _ => False) s.heap s.heap [] := va_S.rf
  have hl := lv_entry ([.int p0, .int p1]) (n := 2) (Nat.le_of_ble_eq_true rfl)
  rw [lg_entry_eq]
  generalize (lg_sl ([.int p0, .int p1]) ++ List.replicate (2 - (lg_sl ([.int p0, .int p1])).length) Slot.unset).toArray = ls at hl ⊢
  have hl : lv_has ls 2 [(0, .int p0), (1, .int p1)] := hl
  unfold pX4_dueAfter at hw
  refine lv_iload_n hx hb dX4_dueAfter_0 rfl (lv_at hl 0 rfl) ?_
  by_cases c1_0 : p0 = 0
  · replace hw := Eq.mp (if_pos c1_0) hw
    refine lv_tableIn (off := 31) (tgt := 32) hx hb dX4_dueAfter_1 (by rw [c1_0]; decide) (by rw [c1_0]; decide) (by rw [c1_0]; rfl) (by decide) ?_
    refine lv_iload_n hx hb dX4_dueAfter_32 rfl (lv_at hl 1 rfl) ?_
    refine lv_bipush (v := 103) hx hb dX4_dueAfter_33 (by decide) ?_
    refine lv_icmp_eq (tgt := 44) hx hb dX4_dueAfter_35 (by decide) (fun c2 => ?_) (fun c2 => ?_)
    · replace hw := Eq.mp (if_pos c2) hw
      refine lv_iconst (v := 1) hx hb dX4_dueAfter_44 (by decide) ?_
      refine lv_goto (tgt := 49) hx hb dX4_dueAfter_45 (by decide) ?_
      exact W.iret (v := 1) hx hb hr (fun t ht hW => ⟨_, rfl, hw, ht⟩) (fun _ h => by cases h) dX4_dueAfter_49
    · replace hw := Eq.mp (if_neg c2) hw
      refine lv_iload_n hx hb dX4_dueAfter_38 rfl (lv_at hl 1 rfl) ?_
      refine lv_bipush (v := 112) hx hb dX4_dueAfter_39 (by decide) ?_
      refine lv_icmp_ne (tgt := 48) hx hb dX4_dueAfter_41 (by decide) (fun c3 => ?_) (fun c3 => ?_)
      · replace hw := Eq.mp (if_neg c3) hw
        refine lv_iconst (v := 4) hx hb dX4_dueAfter_48 (by decide) ?_
        exact W.iret (v := 4) hx hb hr (fun t ht hW => ⟨_, rfl, hw, ht⟩) (fun _ h => by cases h) dX4_dueAfter_49
      · replace hw := Eq.mp (if_pos c3) hw
        refine lv_iconst (v := 1) hx hb dX4_dueAfter_44 (by decide) ?_
        refine lv_goto (tgt := 49) hx hb dX4_dueAfter_45 (by decide) ?_
        exact W.iret (v := 1) hx hb hr (fun t ht hW => ⟨_, rfl, hw, ht⟩) (fun _ h => by cases h) dX4_dueAfter_49
  replace hw := Eq.mp (if_neg c1_0) hw
  by_cases c1_1 : p0 = 1
  · replace hw := Eq.mp (if_pos c1_1) hw
    refine lv_tableIn (off := 49) (tgt := 50) hx hb dX4_dueAfter_1 (by rw [c1_1]; decide) (by rw [c1_1]; decide) (by rw [c1_1]; rfl) (by decide) ?_
    refine lv_iload_n hx hb dX4_dueAfter_50 rfl (lv_at hl 1 rfl) ?_
    refine lv_bipush (v := 49) hx hb dX4_dueAfter_51 (by decide) ?_
    refine lv_icmp_ne (tgt := 58) hx hb dX4_dueAfter_53 (by decide) (fun c4 => ?_) (fun c4 => ?_)
    · replace hw := Eq.mp (if_neg c4) hw
      refine lv_iload_n hx hb dX4_dueAfter_58 rfl (lv_at hl 1 rfl) ?_
      refine lv_bipush (v := 48) hx hb dX4_dueAfter_59 (by decide) ?_
      refine lv_icmp_lt (tgt := 74) hx hb dX4_dueAfter_61 (by decide) (fun c5 => ?_) (fun c5 => ?_)
      · replace hw := Eq.mp (if_pos c5) hw
        refine lv_iconst (v := 4) hx hb dX4_dueAfter_74 (by decide) ?_
        exact W.iret (v := 4) hx hb hr (fun t ht hW => ⟨_, rfl, hw, ht⟩) (fun _ h => by cases h) dX4_dueAfter_75
      · replace hw := Eq.mp (if_neg c5) hw
        refine lv_iload_n hx hb dX4_dueAfter_64 rfl (lv_at hl 1 rfl) ?_
        refine lv_bipush (v := 57) hx hb dX4_dueAfter_65 (by decide) ?_
        refine lv_icmp_gt (tgt := 74) hx hb dX4_dueAfter_67 (by decide) (fun c6 => ?_) (fun c6 => ?_)
        · replace hw := Eq.mp (if_pos c6) hw
          refine lv_iconst (v := 4) hx hb dX4_dueAfter_74 (by decide) ?_
          exact W.iret (v := 4) hx hb hr (fun t ht hW => ⟨_, rfl, hw, ht⟩) (fun _ h => by cases h) dX4_dueAfter_75
        · replace hw := Eq.mp (if_neg c6) hw
          refine lv_iconst (v := 3) hx hb dX4_dueAfter_70 (by decide) ?_
          refine lv_goto (tgt := 75) hx hb dX4_dueAfter_71 (by decide) ?_
          exact W.iret (v := 3) hx hb hr (fun t ht hW => ⟨_, rfl, hw, ht⟩) (fun _ h => by cases h) dX4_dueAfter_75
    · replace hw := Eq.mp (if_pos c4) hw
      refine lv_iconst (v := 2) hx hb dX4_dueAfter_56 (by decide) ?_
      exact W.iret (v := 2) hx hb hr (fun t ht hW => ⟨_, rfl, hw, ht⟩) (fun _ h => by cases h) dX4_dueAfter_57
  replace hw := Eq.mp (if_neg c1_1) hw
  by_cases c1_2 : p0 = 2
  · replace hw := Eq.mp (if_pos c1_2) hw
    refine lv_tableIn (off := 75) (tgt := 76) hx hb dX4_dueAfter_1 (by rw [c1_2]; decide) (by rw [c1_2]; decide) (by rw [c1_2]; rfl) (by decide) ?_
    refine lv_iload_n hx hb dX4_dueAfter_76 rfl (lv_at hl 1 rfl) ?_
    refine lv_bipush (v := 48) hx hb dX4_dueAfter_77 (by decide) ?_
    refine lv_icmp_lt (tgt := 90) hx hb dX4_dueAfter_79 (by decide) (fun c7 => ?_) (fun c7 => ?_)
    · replace hw := Eq.mp (if_pos c7) hw
      refine lv_iload_n hx hb dX4_dueAfter_90 rfl (lv_at hl 1 rfl) ?_
      refine lv_bipush (v := 59) hx hb dX4_dueAfter_91 (by decide) ?_
      refine lv_icmp_ne (tgt := 100) hx hb dX4_dueAfter_93 (by decide) (fun c8 => ?_) (fun c8 => ?_)
      · replace hw := Eq.mp (if_neg c8) hw
        refine lv_iconst (v := 4) hx hb dX4_dueAfter_100 (by decide) ?_
        exact W.iret (v := 4) hx hb hr (fun t ht hW => ⟨_, rfl, hw, ht⟩) (fun _ h => by cases h) dX4_dueAfter_101
      · replace hw := Eq.mp (if_pos c8) hw
        refine lv_iconst (v := 0) hx hb dX4_dueAfter_96 (by decide) ?_
        refine lv_goto (tgt := 101) hx hb dX4_dueAfter_97 (by decide) ?_
        exact W.iret (v := 0) hx hb hr (fun t ht hW => ⟨_, rfl, hw, ht⟩) (fun _ h => by cases h) dX4_dueAfter_101
    · replace hw := Eq.mp (if_neg c7) hw
      refine lv_iload_n hx hb dX4_dueAfter_82 rfl (lv_at hl 1 rfl) ?_
      refine lv_bipush (v := 53) hx hb dX4_dueAfter_83 (by decide) ?_
      refine lv_icmp_gt (tgt := 90) hx hb dX4_dueAfter_85 (by decide) (fun c9 => ?_) (fun c9 => ?_)
      · replace hw := Eq.mp (if_pos c9) hw
        refine lv_iload_n hx hb dX4_dueAfter_90 rfl (lv_at hl 1 rfl) ?_
        refine lv_bipush (v := 59) hx hb dX4_dueAfter_91 (by decide) ?_
        refine lv_icmp_ne (tgt := 100) hx hb dX4_dueAfter_93 (by decide) (fun c10 => ?_) (fun c10 => ?_)
        · replace hw := Eq.mp (if_neg c10) hw
          refine lv_iconst (v := 4) hx hb dX4_dueAfter_100 (by decide) ?_
          exact W.iret (v := 4) hx hb hr (fun t ht hW => ⟨_, rfl, hw, ht⟩) (fun _ h => by cases h) dX4_dueAfter_101
        · replace hw := Eq.mp (if_pos c10) hw
          refine lv_iconst (v := 0) hx hb dX4_dueAfter_96 (by decide) ?_
          refine lv_goto (tgt := 101) hx hb dX4_dueAfter_97 (by decide) ?_
          exact W.iret (v := 0) hx hb hr (fun t ht hW => ⟨_, rfl, hw, ht⟩) (fun _ h => by cases h) dX4_dueAfter_101
      · replace hw := Eq.mp (if_neg c9) hw
        refine lv_iconst (v := 3) hx hb dX4_dueAfter_88 (by decide) ?_
        exact W.iret (v := 3) hx hb hr (fun t ht hW => ⟨_, rfl, hw, ht⟩) (fun _ h => by cases h) dX4_dueAfter_89
  replace hw := Eq.mp (if_neg c1_2) hw
  by_cases c1_3 : p0 = 3
  · replace hw := Eq.mp (if_pos c1_3) hw
    refine lv_tableIn (off := 101) (tgt := 102) hx hb dX4_dueAfter_1 (by rw [c1_3]; decide) (by rw [c1_3]; decide) (by rw [c1_3]; rfl) (by decide) ?_
    refine lv_iload_n hx hb dX4_dueAfter_102 rfl (lv_at hl 1 rfl) ?_
    refine lv_bipush (v := 59) hx hb dX4_dueAfter_103 (by decide) ?_
    refine lv_icmp_ne (tgt := 112) hx hb dX4_dueAfter_105 (by decide) (fun c11 => ?_) (fun c11 => ?_)
    · replace hw := Eq.mp (if_neg c11) hw
      refine lv_iconst (v := 4) hx hb dX4_dueAfter_112 (by decide) ?_
      exact W.iret (v := 4) hx hb hr (fun t ht hW => ⟨_, rfl, hw, ht⟩) (fun _ h => by cases h) dX4_dueAfter_113
    · replace hw := Eq.mp (if_pos c11) hw
      refine lv_iconst (v := 0) hx hb dX4_dueAfter_108 (by decide) ?_
      refine lv_goto (tgt := 113) hx hb dX4_dueAfter_109 (by decide) ?_
      exact W.iret (v := 0) hx hb hr (fun t ht hW => ⟨_, rfl, hw, ht⟩) (fun _ h => by cases h) dX4_dueAfter_113
  replace hw := Eq.mp (if_neg c1_3) hw
  refine lv_tableOut (tgt := 114) hx hb dX4_dueAfter_1 (gout ⟨c1_0, c1_1, c1_2, c1_3⟩) (by decide) ?_
  refine lv_iconst (v := 4) hx hb dX4_dueAfter_114 (by decide) ?_
  exact W.iret (v := 4) hx hb hr (fun t ht hW => ⟨_, rfl, hw, ht⟩) (fun _ h => by cases h) dX4_dueAfter_115
set_option maxHeartbeats 4000000 in
set_option maxRecDepth 100000 in
theorem kX4_firstError (l : Launch) (D : va_G) (kI kC kG kJ : ClassId) (t_x t_ch : Nat) (u : ST) (Z : Int32 → Prop) (hw : pX4_firstError u Z) : Met l yX4_firstError wsX4_firstError ({ frames := 1, cells := 0, slots := 0, locals := 21 } : Room) (gPr D (gT kI kC kG kJ) [.ref t_x] (wT kC t_x t_ch u)) (vp_Si Z) 0 0 (fun _ => False) := by
  refine Met.ofW (cc := cX4_firstError) (maxL := 3) (ret := (some .int)) (by decide) rfl ?_
  intro p e s m args below meth c s₁ B hml hv
  obtain ⟨rfl, hP, hK, hE⟩ := hv
  have hx := B.exec
  have hb := B.bytes
  have hr := B.returns
  have hts := atoms_spec (ws := wsX4_firstError) B.pre
  have hown : s.vm.findClass RX4 = some m.cls := findClass_of_methodNamed B.named
  have hlocks := B.notSynchronized
  have hS : va_S (fun _ => False) s.heap s.heap [] := va_S.rf
  have hl := lv_entry ([.ref t_x]) (n := 3) (Nat.le_of_ble_eq_true rfl)
  rw [lg_entry_eq]
  generalize (lg_sl ([.ref t_x]) ++ List.replicate (3 - (lg_sl ([.ref t_x])).length) Slot.unset).toArray = ls at hl ⊢
  have hl : lv_has ls 3 [(0, .ref t_x)] := hl
  have L4 : ∀ (_ : Unit), ∀ (n : Nat), ∀ (v1 : Int32) (v2 : Int32) (ls : Array Slot), lv_has ls 3 [(0, .ref t_x), (1, .int v1), (2, .int v2)] → pX4_firstError_4 Z u n v1 v2 → W p l e (headSpec wsX4_firstError ({ frames := 1, cells := 0, slots := 0, locals := 21 } : Room)).room s m ([.ref t_x] : List Value).toArray below meth c s.heap [] 0 0 (MQ below (vp_Si Z) ([.ref t_x] : List Value).toArray s 0 0 (fun _ => False)) (F0 m 4 ls []) := by
    intro _ n
    induction n with
    | zero => intro v1 v2 ls hl hw; exact hw.elim
    | succ n ih =>
    intro v1 v2 ls hl hw
    rw [pX4_firstError_4] at hw
    refine lv_iload_n hx hb dX4_firstError_4 rfl (lv_at hl 2 rfl) ?_
    refine lv_aload_n hx hb dX4_firstError_5 rfl (lv_at hl 0 rfl) ?_
    refine va_get (D := D) (ci := 3) (v := .int u.1) (C := RX4) (T := TX4) (N := 2) hx hb hts (fun _ h => List.mem_cons_of_mem _ (List.mem_append_right _ h)) hown hK hP 0 rfl rfl 1 (by decide) (hts (.fieldLink RX4 15 "HazelGift$MoveText" "length" "I") (List.mem_of_getElem? (i := 1) rfl)) (fun _ h9 => h9) rfl dX4_firstError_6 ?_
    refine lv_icmp_ge (tgt := 35) hx hb dX4_firstError_9 (by decide) (fun c1 => ?_) (fun c1 => ?_)
    · replace hw := Eq.mp (if_pos c1) hw
      refine lv_iload_n hx hb dX4_firstError_35 rfl (lv_at hl 1 rfl) ?_
      refine lv_iconst (v := 2) hx hb dX4_firstError_36 (by decide) ?_
      refine lv_icmp_eq (tgt := 45) hx hb dX4_firstError_37 (by decide) (fun c2 => ?_) (fun c2 => ?_)
      · replace hw := Eq.mp (if_pos c2) hw
        refine lv_iconst (v := (-1)) hx hb dX4_firstError_45 (by decide) ?_
        refine lv_goto (tgt := 53) hx hb dX4_firstError_46 (by decide) ?_
        exact W.iret (v := (-1)) hx hb hr (fun t ht hW => ⟨_, rfl, hw, ht⟩) (fun _ h => by cases h) dX4_firstError_53
      · replace hw := Eq.mp (if_neg c2) hw
        refine lv_iload_n hx hb dX4_firstError_40 rfl (lv_at hl 1 rfl) ?_
        refine lv_iconst (v := 3) hx hb dX4_firstError_41 (by decide) ?_
        refine lv_icmp_ne (tgt := 49) hx hb dX4_firstError_42 (by decide) (fun c3 => ?_) (fun c3 => ?_)
        · replace hw := Eq.mp (if_neg c3) hw
          refine lv_aload_n hx hb dX4_firstError_49 rfl (lv_at hl 0 rfl) ?_
          refine va_get (D := D) (ci := 3) (v := .int u.1) (C := RX4) (T := TX4) (N := 2) hx hb hts (fun _ h => List.mem_cons_of_mem _ (List.mem_append_right _ h)) hown hK hP 0 rfl rfl 1 (by decide) (hts (.fieldLink RX4 15 "HazelGift$MoveText" "length" "I") (List.mem_of_getElem? (i := 1) rfl)) (fun _ h9 => h9) rfl dX4_firstError_50 ?_
          exact W.iret (v := u.1) hx hb hr (fun t ht hW => ⟨_, rfl, hw, ht⟩) (fun _ h => by cases h) dX4_firstError_53
        · replace hw := Eq.mp (if_pos c3) hw
          refine lv_iconst (v := (-1)) hx hb dX4_firstError_45 (by decide) ?_
          refine lv_goto (tgt := 53) hx hb dX4_firstError_46 (by decide) ?_
          exact W.iret (v := (-1)) hx hb hr (fun t ht hW => ⟨_, rfl, hw, ht⟩) (fun _ h => by cases h) dX4_firstError_53
    · replace hw := Eq.mp (if_neg c1) hw
      refine lv_iload_n hx hb dX4_firstError_12 rfl (lv_at hl 1 rfl) ?_
      refine lv_aload_n hx hb dX4_firstError_13 rfl (lv_at hl 0 rfl) ?_
      refine lv_iload_n hx hb dX4_firstError_14 rfl (lv_at hl 2 rfl) ?_
      refine gVi (As := [.int v2]) (rest := [.int v1]) (cs' := wT kC t_x t_ch u) ⟨hx, hb, hml, hown, hts⟩ (kX4_characterAt l D kI kC kG kJ t_x t_ch u v2 _ hw) (cwV 1 hts gX4_firstError_X4_characterAt rfl rfl rfl hdX4_characterAt ⟨Nat.le_of_ble_eq_true rfl, Nat.le_of_ble_eq_true rfl⟩) hK hP hE hS [0, 1] rfl (ci := 3) (q0 := 0) rfl rfl rfl rfl hl.1 rfl (Nat.le_of_ble_eq_true rfl) dX4_firstError_15 ⟨Nat.le_of_ble_eq_true rfl, Nat.le_of_ble_eq_true rfl⟩ (fun r4 hw => ?_)
      refine gSi (As := [.int v1, .int r4]) (rest := []) (cs' := ([] : va_W)) ⟨hx, hb, hml, hown, hts⟩ (kX4_dueAfter l D kI kC kG kJ v1 r4 _ hw) (va_cwS 2 hts gX4_firstError_X4_dueAfter rfl rfl rfl hdX4_dueAfter ⟨Nat.le_of_ble_eq_true rfl, Nat.le_of_ble_eq_true rfl⟩) hK hP hE hS [] rfl rfl hl.1 rfl (Nat.le_of_ble_eq_true rfl) dX4_firstError_18 ⟨Nat.le_of_ble_eq_true rfl, Nat.le_of_ble_eq_true rfl⟩ (fun r5 hw => ?_)
      refine lv_istore_n (lv' := [(1, .int r5), (0, .ref t_x), (2, .int v2)]) hx hb dX4_firstError_21 rfl hl (by decide) rfl (fun ls hl => ?_)
      refine lv_iload_n hx hb dX4_firstError_22 rfl (lv_at hl 0 rfl) ?_
      refine lv_iconst (v := 4) hx hb dX4_firstError_23 (by decide) ?_
      refine lv_icmp_ne (tgt := 29) hx hb dX4_firstError_24 (by decide) (fun c6 => ?_) (fun c6 => ?_)
      · replace hw := Eq.mp (if_neg c6) hw
        obtain ⟨x7, ex7⟩ : ∃ y : Int32, y = (v2 + 1) := ⟨_, rfl⟩
        replace hw := hw x7 ex7
        refine lv_iinc (v := x7) (lv' := [(2, .int x7), (1, .int r5), (0, .ref t_x)]) hx hb dX4_firstError_29 hl (k := 2) rfl (by rw [ex7]; rfl) (by decide) rfl (fun ls hl => ?_)
        refine lv_goto (tgt := 4) hx hb dX4_firstError_32 (by decide) ?_
        exact ih r5 x7 ls (lv_sub hl [2, 1, 0] rfl) hw
      · replace hw := Eq.mp (if_pos c6) hw
        refine lv_iload_n hx hb dX4_firstError_27 rfl (lv_at hl 2 rfl) ?_
        exact W.iret (v := v2) hx hb hr (fun t ht hW => ⟨_, rfl, hw, ht⟩) (fun _ h => by cases h) dX4_firstError_28
  unfold pX4_firstError at hw
  refine lv_iconst (v := 0) hx hb dX4_firstError_0 (by decide) ?_
  refine lv_istore_n (lv' := [(1, .int 0), (0, .ref t_x)]) hx hb dX4_firstError_1 rfl hl (by decide) rfl (fun ls hl => ?_)
  refine lv_iconst (v := 0) hx hb dX4_firstError_2 (by decide) ?_
  refine lv_istore_n (lv' := [(2, .int 0), (1, .int 0), (0, .ref t_x)]) hx hb dX4_firstError_3 rfl hl (by decide) rfl (fun ls hl => ?_)
  obtain ⟨n9, hw⟩ := hw
  exact L4 () n9 0 0 ls (lv_sub hl [2, 1, 0] rfl) hw
set_option maxHeartbeats 4000000 in
set_option maxRecDepth 100000 in
theorem kX4_endsMove (l : Launch) (D : va_G) (kI kC kG kJ : ClassId) (t_x t_ch : Nat) (u : ST) (p0 : Int32) (Z : Int32 → Prop) (hw : pX4_endsMove p0 u Z) : Met l yX4_endsMove wsX4_endsMove ({ frames := 1, cells := 0, slots := 0, locals := 21 } : Room) (gPr D (gT kI kC kG kJ) [.ref t_x, .int p0] (wT kC t_x t_ch u)) (vp_Si Z) 0 0 (fun _ => False) := by
  refine Met.ofW (cc := cX4_endsMove) (maxL := 2) (ret := (some .boolean)) (by decide) rfl ?_
  intro p e s m args below meth c s₁ B hml hv
  obtain ⟨rfl, hP, hK, hE⟩ := hv
  have hx := B.exec
  have hb := B.bytes
  have hr := B.returns
  have hts := atoms_spec (ws := wsX4_endsMove) B.pre
  have hown : s.vm.findClass RX4 = some m.cls := findClass_of_methodNamed B.named
  have hlocks := B.notSynchronized
  have hS : va_S (fun _ => False) s.heap s.heap [] := va_S.rf
  have hl := lv_entry ([.ref t_x, .int p0]) (n := 2) (Nat.le_of_ble_eq_true rfl)
  rw [lg_entry_eq]
  generalize (lg_sl ([.ref t_x, .int p0]) ++ List.replicate (2 - (lg_sl ([.ref t_x, .int p0])).length) Slot.unset).toArray = ls at hl ⊢
  have hl : lv_has ls 2 [(0, .ref t_x), (1, .int p0)] := hl
  unfold pX4_endsMove at hw
  refine lv_iload_n hx hb dX4_endsMove_0 rfl (lv_at hl 1 rfl) ?_
  refine lv_aload_n hx hb dX4_endsMove_1 rfl (lv_at hl 0 rfl) ?_
  refine va_get (D := D) (ci := 3) (v := .int u.1) (C := RX4) (T := TX4) (N := 2) hx hb hts (fun _ h => List.mem_cons_of_mem _ (List.mem_append_right _ h)) hown hK hP 0 rfl rfl 1 (by decide) (hts (.fieldLink RX4 15 "HazelGift$MoveText" "length" "I") (List.mem_of_getElem? (i := 1) rfl)) (fun _ h9 => h9) rfl dX4_endsMove_2 ?_
  refine lv_icmp_eq (tgt := 18) hx hb dX4_endsMove_5 (by decide) (fun c1 => ?_) (fun c1 => ?_)
  · replace hw := Eq.mp (if_pos c1) hw
    refine lv_iconst (v := 1) hx hb dX4_endsMove_18 (by decide) ?_
    refine lv_goto (tgt := 23) hx hb dX4_endsMove_19 (by decide) ?_
    exact W.zret (v := 1) hx hb hr rfl (fun t ht hW => ⟨_, rfl, hw, ht⟩) (fun _ h => by cases h) dX4_endsMove_23
  · replace hw := Eq.mp (if_neg c1) hw
    refine lv_aload_n hx hb dX4_endsMove_8 rfl (lv_at hl 0 rfl) ?_
    refine lv_iload_n hx hb dX4_endsMove_9 rfl (lv_at hl 1 rfl) ?_
    refine gVi (As := [.int p0]) (rest := []) (cs' := wT kC t_x t_ch u) ⟨hx, hb, hml, hown, hts⟩ (kX4_characterAt l D kI kC kG kJ t_x t_ch u p0 _ hw) (cwV 1 hts gX4_endsMove_X4_characterAt rfl rfl rfl hdX4_characterAt ⟨Nat.le_of_ble_eq_true rfl, Nat.le_of_ble_eq_true rfl⟩) hK hP hE hS [0, 1] rfl (ci := 3) (q0 := 0) rfl rfl rfl rfl hl.1 rfl (Nat.le_of_ble_eq_true rfl) dX4_endsMove_10 ⟨Nat.le_of_ble_eq_true rfl, Nat.le_of_ble_eq_true rfl⟩ (fun r2 hw => ?_)
    refine lv_bipush (v := 59) hx hb dX4_endsMove_13 (by decide) ?_
    refine lv_icmp_ne (tgt := 22) hx hb dX4_endsMove_15 (by decide) (fun c3 => ?_) (fun c3 => ?_)
    · replace hw := Eq.mp (if_neg c3) hw
      refine lv_iconst (v := 0) hx hb dX4_endsMove_22 (by decide) ?_
      exact W.zret (v := 0) hx hb hr rfl (fun t ht hW => ⟨_, rfl, hw, ht⟩) (fun _ h => by cases h) dX4_endsMove_23
    · replace hw := Eq.mp (if_pos c3) hw
      refine lv_iconst (v := 1) hx hb dX4_endsMove_18 (by decide) ?_
      refine lv_goto (tgt := 23) hx hb dX4_endsMove_19 (by decide) ?_
      exact W.zret (v := 1) hx hb hr rfl (fun t ht hW => ⟨_, rfl, hw, ht⟩) (fun _ h => by cases h) dX4_endsMove_23
set_option maxHeartbeats 4000000 in
set_option maxRecDepth 100000 in
theorem kX4_moves (l : Launch) (D : va_G) (kI kC kG kJ : ClassId) (t_x t_ch : Nat) (u : ST) (Z : Int32 → Prop) (hw : pX4_moves u Z) : Met l yX4_moves wsX4_moves ({ frames := 2, cells := 0, slots := 0, locals := 42 } : Room) (gPr D (gT kI kC kG kJ) [.ref t_x] (wT kC t_x t_ch u)) (vp_Si Z) 0 0 (fun _ => False) := by
  refine Met.ofW (cc := cX4_moves) (maxL := 3) (ret := (some .int)) (by decide) rfl ?_
  intro p e s m args below meth c s₁ B hml hv
  obtain ⟨rfl, hP, hK, hE⟩ := hv
  have hx := B.exec
  have hb := B.bytes
  have hr := B.returns
  have hts := atoms_spec (ws := wsX4_moves) B.pre
  have hown : s.vm.findClass RX4 = some m.cls := findClass_of_methodNamed B.named
  have hlocks := B.notSynchronized
  have hS : va_S (fun _ => False) s.heap s.heap [] := va_S.rf
  have hl := lv_entry ([.ref t_x]) (n := 3) (Nat.le_of_ble_eq_true rfl)
  rw [lg_entry_eq]
  generalize (lg_sl ([.ref t_x]) ++ List.replicate (3 - (lg_sl ([.ref t_x])).length) Slot.unset).toArray = ls at hl ⊢
  have hl : lv_has ls 3 [(0, .ref t_x)] := hl
  have L4 : ∀ (_ : Unit), ∀ (n : Nat), ∀ (v1 : Int32) (v2 : Int32) (ls : Array Slot), lv_has ls 3 [(0, .ref t_x), (1, .int v1), (2, .int v2)] → pX4_moves_4 Z u n v1 v2 → W p l e (headSpec wsX4_moves ({ frames := 2, cells := 0, slots := 0, locals := 42 } : Room)).room s m ([.ref t_x] : List Value).toArray below meth c s.heap [] 0 0 (MQ below (vp_Si Z) ([.ref t_x] : List Value).toArray s 0 0 (fun _ => False)) (F0 m 4 ls []) := by
    intro _ n
    induction n with
    | zero => intro v1 v2 ls hl hw; exact hw.elim
    | succ n ih =>
    intro v1 v2 ls hl hw
    rw [pX4_moves_4] at hw
    refine lv_iload_n hx hb dX4_moves_4 rfl (lv_at hl 2 rfl) ?_
    refine lv_aload_n hx hb dX4_moves_5 rfl (lv_at hl 0 rfl) ?_
    refine va_get (D := D) (ci := 3) (v := .int u.1) (C := RX4) (T := TX4) (N := 2) hx hb hts (fun _ h => List.mem_cons_of_mem _ (List.mem_append_right _ h)) hown hK hP 0 rfl rfl 1 (by decide) (hts (.fieldLink RX4 15 "HazelGift$MoveText" "length" "I") (List.mem_of_getElem? (i := 1) rfl)) (fun _ h9 => h9) rfl dX4_moves_6 ?_
    refine lv_icmp_gt (tgt := 29) hx hb dX4_moves_9 (by decide) (fun c1 => ?_) (fun c1 => ?_)
    · replace hw := Eq.mp (if_pos c1) hw
      refine lv_iload_n hx hb dX4_moves_29 rfl (lv_at hl 1 rfl) ?_
      exact W.iret (v := v1) hx hb hr (fun t ht hW => ⟨_, rfl, hw, ht⟩) (fun _ h => by cases h) dX4_moves_30
    · replace hw := Eq.mp (if_neg c1) hw
      refine lv_aload_n hx hb dX4_moves_12 rfl (lv_at hl 0 rfl) ?_
      refine lv_iload_n hx hb dX4_moves_13 rfl (lv_at hl 2 rfl) ?_
      refine gVi (As := [.int v2]) (rest := []) (cs' := wT kC t_x t_ch u) ⟨hx, hb, hml, hown, hts⟩ (kX4_endsMove l D kI kC kG kJ t_x t_ch u v2 _ hw) (cwV 1 hts gX4_moves_X4_endsMove rfl rfl rfl hdX4_endsMove ⟨Nat.le_of_ble_eq_true rfl, Nat.le_of_ble_eq_true rfl⟩) hK hP hE hS [0, 1] rfl (ci := 3) (q0 := 0) rfl rfl rfl rfl hl.1 rfl (Nat.le_of_ble_eq_true rfl) dX4_moves_14 ⟨Nat.le_of_ble_eq_true rfl, Nat.le_of_ble_eq_true rfl⟩ (fun r2 hw => ?_)
      refine lv_if_eq (tgt := 23) hx hb dX4_moves_17 (by decide) (fun c3 => ?_) (fun c3 => ?_)
      · replace hw := Eq.mp (if_pos c3) hw
        obtain ⟨x4, ex4⟩ : ∃ y : Int32, y = (v2 + 1) := ⟨_, rfl⟩
        replace hw := hw x4 ex4
        refine lv_iinc (v := x4) (lv' := [(2, .int x4), (0, .ref t_x), (1, .int v1)]) hx hb dX4_moves_23 hl (k := 2) rfl (by rw [ex4]; rfl) (by decide) rfl (fun ls hl => ?_)
        refine lv_goto (tgt := 4) hx hb dX4_moves_26 (by decide) ?_
        exact ih v1 x4 ls (lv_sub hl [1, 2, 0] rfl) hw
      · replace hw := Eq.mp (if_neg c3) hw
        obtain ⟨x5, ex5⟩ : ∃ y : Int32, y = (v1 + 1) := ⟨_, rfl⟩
        replace hw := hw x5 ex5
        refine lv_iinc (v := x5) (lv' := [(1, .int x5), (0, .ref t_x), (2, .int v2)]) hx hb dX4_moves_20 hl (k := 1) rfl (by rw [ex5]; rfl) (by decide) rfl (fun ls hl => ?_)
        obtain ⟨x6, ex6⟩ : ∃ y : Int32, y = (v2 + 1) := ⟨_, rfl⟩
        replace hw := hw x6 ex6
        refine lv_iinc (v := x6) (lv' := [(2, .int x6), (1, .int x5), (0, .ref t_x)]) hx hb dX4_moves_23 hl (k := 2) rfl (by rw [ex6]; rfl) (by decide) rfl (fun ls hl => ?_)
        refine lv_goto (tgt := 4) hx hb dX4_moves_26 (by decide) ?_
        exact ih x5 x6 ls (lv_sub hl [2, 1, 0] rfl) hw
  unfold pX4_moves at hw
  refine lv_iconst (v := 0) hx hb dX4_moves_0 (by decide) ?_
  refine lv_istore_n (lv' := [(1, .int 0), (0, .ref t_x)]) hx hb dX4_moves_1 rfl hl (by decide) rfl (fun ls hl => ?_)
  refine lv_iconst (v := 0) hx hb dX4_moves_2 (by decide) ?_
  refine lv_istore_n (lv' := [(2, .int 0), (1, .int 0), (0, .ref t_x)]) hx hb dX4_moves_3 rfl hl (by decide) rfl (fun ls hl => ?_)
  obtain ⟨n9, hw⟩ := hw
  exact L4 () n9 0 0 ls (lv_sub hl [2, 1, 0] rfl) hw
set_option maxHeartbeats 4000000 in
set_option maxRecDepth 100000 in
theorem kX4_isGift (l : Launch) (D : va_G) (kI kC kG kJ : ClassId) (t_x t_ch : Nat) (u : ST) (p0 : Int32) (Z : Int32 → Prop) (hw : pX4_isGift p0 u Z) : Met l yX4_isGift wsX4_isGift ({ frames := 1, cells := 0, slots := 0, locals := 21 } : Room) (gPr D (gT kI kC kG kJ) [.ref t_x, .int p0] (wT kC t_x t_ch u)) (vp_Si Z) 0 0 (fun _ => False) := by
  refine Met.ofW (cc := cX4_isGift) (maxL := 2) (ret := (some .boolean)) (by decide) rfl ?_
  intro p e s m args below meth c s₁ B hml hv
  obtain ⟨rfl, hP, hK, hE⟩ := hv
  have hx := B.exec
  have hb := B.bytes
  have hr := B.returns
  have hts := atoms_spec (ws := wsX4_isGift) B.pre
  have hown : s.vm.findClass RX4 = some m.cls := findClass_of_methodNamed B.named
  have hlocks := B.notSynchronized
  have hS : va_S (fun _ => False) s.heap s.heap [] := va_S.rf
  have hl := lv_entry ([.ref t_x, .int p0]) (n := 2) (Nat.le_of_ble_eq_true rfl)
  rw [lg_entry_eq]
  generalize (lg_sl ([.ref t_x, .int p0]) ++ List.replicate (2 - (lg_sl ([.ref t_x, .int p0])).length) Slot.unset).toArray = ls at hl ⊢
  have hl : lv_has ls 2 [(0, .ref t_x), (1, .int p0)] := hl
  unfold pX4_isGift at hw
  refine lv_aload_n hx hb dX4_isGift_0 rfl (lv_at hl 0 rfl) ?_
  refine lv_iload_n hx hb dX4_isGift_1 rfl (lv_at hl 1 rfl) ?_
  refine gVi (As := [.int p0]) (rest := []) (cs' := wT kC t_x t_ch u) ⟨hx, hb, hml, hown, hts⟩ (kX4_characterAt l D kI kC kG kJ t_x t_ch u p0 _ hw) (cwV 1 hts gX4_isGift_X4_characterAt rfl rfl rfl hdX4_characterAt ⟨Nat.le_of_ble_eq_true rfl, Nat.le_of_ble_eq_true rfl⟩) hK hP hE hS [0, 1] rfl (ci := 3) (q0 := 0) rfl rfl rfl rfl hl.1 rfl (Nat.le_of_ble_eq_true rfl) dX4_isGift_2 ⟨Nat.le_of_ble_eq_true rfl, Nat.le_of_ble_eq_true rfl⟩ (fun r1 hw => ?_)
  refine lv_bipush (v := 103) hx hb dX4_isGift_5 (by decide) ?_
  refine lv_icmp_ne (tgt := 14) hx hb dX4_isGift_7 (by decide) (fun c2 => ?_) (fun c2 => ?_)
  · replace hw := Eq.mp (if_neg c2) hw
    refine lv_iconst (v := 0) hx hb dX4_isGift_14 (by decide) ?_
    exact W.zret (v := 0) hx hb hr rfl (fun t ht hW => ⟨_, rfl, hw, ht⟩) (fun _ h => by cases h) dX4_isGift_15
  · replace hw := Eq.mp (if_pos c2) hw
    refine lv_iconst (v := 1) hx hb dX4_isGift_10 (by decide) ?_
    refine lv_goto (tgt := 15) hx hb dX4_isGift_11 (by decide) ?_
    exact W.zret (v := 1) hx hb hr rfl (fun t ht hW => ⟨_, rfl, hw, ht⟩) (fun _ h => by cases h) dX4_isGift_15
set_option maxHeartbeats 4000000 in
set_option maxRecDepth 100000 in
theorem kX4_number (l : Launch) (D : va_G) (kI kC kG kJ : ClassId) (t_x t_ch : Nat) (u : ST) (p0 : Int32) (p1 : Int32) (Z : Int32 → Prop) (hw : pX4_number p0 p1 u Z) : Met l yX4_number wsX4_number ({ frames := 1, cells := 0, slots := 0, locals := 21 } : Room) (gPr D (gT kI kC kG kJ) [.ref t_x, .int p0, .int p1] (wT kC t_x t_ch u)) (vp_Si Z) 0 0 (fun _ => False) := by
  refine Met.ofW (cc := cX4_number) (maxL := 5) (ret := (some .int)) (by decide) rfl ?_
  intro p e s m args below meth c s₁ B hml hv
  obtain ⟨rfl, hP, hK, hE⟩ := hv
  have hx := B.exec
  have hb := B.bytes
  have hr := B.returns
  have hts := atoms_spec (ws := wsX4_number) B.pre
  have hown : s.vm.findClass RX4 = some m.cls := findClass_of_methodNamed B.named
  have hlocks := B.notSynchronized
  have hS : va_S (fun _ => False) s.heap s.heap [] := va_S.rf
  have hl := lv_entry ([.ref t_x, .int p0, .int p1]) (n := 5) (Nat.le_of_ble_eq_true rfl)
  rw [lg_entry_eq]
  generalize (lg_sl ([.ref t_x, .int p0, .int p1]) ++ List.replicate (5 - (lg_sl ([.ref t_x, .int p0, .int p1])).length) Slot.unset).toArray = ls at hl ⊢
  have hl : lv_has ls 5 [(0, .ref t_x), (1, .int p0), (2, .int p1)] := hl
  have L5 : ∀ (v2 : Int32), ∀ (n : Nat), ∀ (v3 : Int32) (v4 : Int32) (ls : Array Slot), lv_has ls 5 [(0, .ref t_x), (2, .int v2), (3, .int v3), (4, .int v4)] → pX4_number_5 Z v2 u n v3 v4 → W p l e (headSpec wsX4_number ({ frames := 1, cells := 0, slots := 0, locals := 21 } : Room)).room s m ([.ref t_x, .int p0, .int p1] : List Value).toArray below meth c s.heap [] 0 0 (MQ below (vp_Si Z) ([.ref t_x, .int p0, .int p1] : List Value).toArray s 0 0 (fun _ => False)) (F0 m 5 ls []) := by
    intro v2 n
    induction n with
    | zero => intro v3 v4 ls hl hw; exact hw.elim
    | succ n ih =>
    intro v3 v4 ls hl hw
    rw [pX4_number_5] at hw
    refine lv_iload hx hb dX4_number_5 (lv_at hl 3 rfl) ?_
    refine lv_iload_n hx hb dX4_number_7 rfl (lv_at hl 1 rfl) ?_
    refine lv_icmp_ge (tgt := 32) hx hb dX4_number_8 (by decide) (fun c1 => ?_) (fun c1 => ?_)
    · replace hw := Eq.mp (if_pos c1) hw
      refine lv_iload_n hx hb dX4_number_32 rfl (lv_at hl 2 rfl) ?_
      exact W.iret (v := v3) hx hb hr (fun t ht hW => ⟨_, rfl, hw, ht⟩) (fun _ h => by cases h) dX4_number_33
    · replace hw := Eq.mp (if_neg c1) hw
      refine lv_iload_n hx hb dX4_number_11 rfl (lv_at hl 2 rfl) ?_
      refine lv_bipush (v := 10) hx hb dX4_number_12 (by decide) ?_
      refine lv_imul hx hb dX4_number_14 ?_
      refine lv_aload_n hx hb dX4_number_15 rfl (lv_at hl 0 rfl) ?_
      refine lv_iload hx hb dX4_number_16 (lv_at hl 3 rfl) ?_
      refine gVi (As := [.int v4]) (rest := [.int (v3 * 10)]) (cs' := wT kC t_x t_ch u) ⟨hx, hb, hml, hown, hts⟩ (kX4_characterAt l D kI kC kG kJ t_x t_ch u v4 _ hw) (cwV 1 hts gX4_number_X4_characterAt rfl rfl rfl hdX4_characterAt ⟨Nat.le_of_ble_eq_true rfl, Nat.le_of_ble_eq_true rfl⟩) hK hP hE hS [0, 1] rfl (ci := 3) (q0 := 0) rfl rfl rfl rfl hl.1 rfl (Nat.le_of_ble_eq_true rfl) dX4_number_18 ⟨Nat.le_of_ble_eq_true rfl, Nat.le_of_ble_eq_true rfl⟩ (fun r2 hw => ?_)
      refine lv_bipush (v := 48) hx hb dX4_number_21 (by decide) ?_
      refine lv_isub hx hb dX4_number_23 ?_
      refine lv_iadd hx hb dX4_number_24 ?_
      refine lv_topi (fun x3 ex3 => ?_)
      replace hw := hw x3 ex3
      refine lv_istore_n (lv' := [(3, .int x3), (0, .ref t_x), (2, .int v2), (4, .int v4)]) hx hb dX4_number_25 rfl hl (by decide) rfl (fun ls hl => ?_)
      obtain ⟨x4, ex4⟩ : ∃ y : Int32, y = (v4 + 1) := ⟨_, rfl⟩
      replace hw := hw x4 ex4
      refine lv_iinc (v := x4) (lv' := [(4, .int x4), (3, .int x3), (0, .ref t_x), (2, .int v2)]) hx hb dX4_number_26 hl (k := 3) rfl (by rw [ex4]; rfl) (by decide) rfl (fun ls hl => ?_)
      refine lv_goto (tgt := 5) hx hb dX4_number_29 (by decide) ?_
      exact ih x3 x4 ls (lv_sub hl [2, 3, 1, 0] rfl) hw
  unfold pX4_number at hw
  refine lv_iconst (v := 0) hx hb dX4_number_0 (by decide) ?_
  refine lv_istore_n (lv' := [(3, .int 0), (0, .ref t_x), (1, .int p0), (2, .int p1)]) hx hb dX4_number_1 rfl hl (by decide) rfl (fun ls hl => ?_)
  refine lv_iload_n hx hb dX4_number_2 rfl (lv_at hl 2 rfl) ?_
  refine lv_istore (lv' := [(4, .int p0), (3, .int 0), (0, .ref t_x), (1, .int p0), (2, .int p1)]) hx hb dX4_number_3 hl (by decide) rfl (fun ls hl => ?_)
  obtain ⟨n9, hw⟩ := hw
  exact L5 p1 n9 0 p0 ls (lv_sub hl [2, 4, 1, 0] rfl) hw
