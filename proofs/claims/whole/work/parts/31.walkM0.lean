set_option maxHeartbeats 4000000 in
set_option maxRecDepth 100000 in
theorem kX6_thrown (l : Launch) (D : va_G) (kI kC kG kJ : ClassId) (mo m0 m1 m2 m3 m4 m5 m6 m7 : Nat) (u : SM) (Z : Int32 → Prop) (hw : pX6_thrown u Z) : Met l yX6_thrown wsX6_thrown ({ frames := 0, cells := 0, slots := 0, locals := 0 } : Room) (gPr D (gT kI kC kG kJ) [.ref mo] (wM kI mo m0 m1 m2 m3 m4 m5 m6 m7 u)) (vp_Si Z) 0 0 (fun _ => False) := by
  refine Met.ofW (cc := cX6_thrown) (maxL := 1) (ret := (some .int)) (by decide) rfl ?_
  intro p e s m args below meth c s₁ B hml hv
  obtain ⟨rfl, hP, hK, hE⟩ := hv
  have hx := B.exec
  have hb := B.bytes
  have hr := B.returns
  have hts := atoms_spec (ws := wsX6_thrown) B.pre
  have hown : s.vm.findClass RX6 = some m.cls := findClass_of_methodNamed B.named
  have hlocks := B.notSynchronized
  have hS : va_S (fun _ => False) s.heap s.heap [] := va_S.rf
  have hl := lv_entry ([.ref mo]) (n := 1) (Nat.le_of_ble_eq_true rfl)
  rw [lg_entry_eq]
  generalize (lg_sl ([.ref mo]) ++ List.replicate (1 - (lg_sl ([.ref mo])).length) Slot.unset).toArray = ls at hl ⊢
  have hl : lv_has ls 1 [(0, .ref mo)] := hl
  unfold pX6_thrown at hw
  refine lv_aload_n hx hb dX6_thrown_0 rfl (lv_at hl 0 rfl) ?_
  refine va_get (D := D) (ci := 5) (v := .int u.2.2.2.2.2.2.2.2.2.2.1) (C := RX6) (T := TX6) (N := 18) hx hb hts (fun _ h => List.mem_cons_of_mem _ (List.mem_append_right _ h)) hown hK hP 0 rfl rfl 6 (by decide) (hts (.fieldLink RX6 34 "HazelGiftModel" "thrown" "I") (List.mem_of_getElem? (i := 1) rfl)) (fun _ h9 => h9) rfl dX6_thrown_1 ?_
  exact W.iret (v := u.2.2.2.2.2.2.2.2.2.2.1) hx hb hr (fun t ht hW => ⟨_, rfl, hw, ht⟩) (fun _ h => by cases h) dX6_thrown_4
set_option maxHeartbeats 4000000 in
set_option maxRecDepth 100000 in
theorem kX6_fails (l : Launch) (D : va_G) (kI kC kG kJ : ClassId) (mo m0 m1 m2 m3 m4 m5 m6 m7 : Nat) (sz : Nat) (u : SM) (p0 : Int32) (Z : Int32 → SM → Prop) (hw : pX6_fails p0 u Z) : Met l yX6_fails wsX6_fails ({ frames := 0, cells := 0, slots := 0, locals := 0 } : Room) (gPw D (gT kI kC kG kJ) [.ref mo, .int p0] (wM kI mo m0 m1 m2 m3 m4 m5 m6 m7 u) sz) (va_Qi Z (gB D (gT kI kC kG kJ) (fun (zz : SM) => wM kI mo m0 m1 m2 m3 m4 m5 m6 m7 zz) (va_A (wM kI mo m0 m1 m2 m3 m4 m5 m6 m7 u) sz)) (va_A (wM kI mo m0 m1 m2 m3 m4 m5 m6 m7 u) sz)) 0 0 (va_A (wM kI mo m0 m1 m2 m3 m4 m5 m6 m7 u) sz) := by
  refine Met.ofW (cc := cX6_fails) (maxL := 2) (ret := (some .int)) (by decide) rfl ?_
  intro p e s m args below meth c s₁ B hml hv
  obtain ⟨rfl, hsz, hP, hK, hD0, hE⟩ := hv
  have hx := B.exec
  have hb := B.bytes
  have hr := B.returns
  have hts := atoms_spec (ws := wsX6_fails) B.pre
  have hown : s.vm.findClass RX6 = some m.cls := findClass_of_methodNamed B.named
  have hlocks := B.notSynchronized
  subst hsz
  have hD := hD0.self (sz := s.heap.size)
  generalize hAe : va_A (wM kI mo m0 m1 m2 m3 m4 m5 m6 m7 u) s.heap.size = A at hD hE ⊢
  have hA : ∀ q : Nat, s.heap.size ≤ q → A q := fun q h => by rw [← hAe]; exact Or.inr h
  have hS : va_S A s.heap s.heap [] := va_S.rf
  clear hAe hD0
  have hl := lv_entry ([.ref mo, .int p0]) (n := 2) (Nat.le_of_ble_eq_true rfl)
  rw [lg_entry_eq]
  generalize (lg_sl ([.ref mo, .int p0]) ++ List.replicate (2 - (lg_sl ([.ref mo, .int p0])).length) Slot.unset).toArray = ls at hl ⊢
  have hl : lv_has ls 2 [(0, .ref mo), (1, .int p0)] := hl
  have hP : va_P D vwCl (wM kI mo m0 m1 m2 m3 m4 m5 m6 m7 u) s.heap := hP
  unfold pX6_fails at hw
  refine lv_aload_n hx hb dX6_fails_0 rfl (lv_at hl 0 rfl) ?_
  refine lv_iload_n hx hb dX6_fails_1 rfl (lv_at hl 1 rfl) ?_
  refine va_put (D := D) (ci := 5) (v := .int p0) (ty := tyX6 6) (C := RX6) (T := TX6) (N := 18) hx hb hts (fun _ h => List.mem_cons_of_mem _ (List.mem_append_right _ h)) tyX6 tyX6_ok nmX6 hown hK hP hD hS 0 rfl rfl 6 (by decide) (hts (.fieldLink RX6 34 "HazelGiftModel" "thrown" "I") (List.mem_of_getElem? (i := 1) rfl)) (fun _ h9 => h9) rfl (tyX6_ok 6 (by decide)) rfl rfl (Nat.le_of_ble_eq_true rfl) dX6_fails_2 (fun H locs hP hD hS => ?_)
  have hP : va_P D vwCl (wM kI mo m0 m1 m2 m3 m4 m5 m6 m7 (u.1, u.2.1, u.2.2.1, u.2.2.2.1, u.2.2.2.2.1, u.2.2.2.2.2.1, u.2.2.2.2.2.2.1, u.2.2.2.2.2.2.2.1, u.2.2.2.2.2.2.2.2.1, u.2.2.2.2.2.2.2.2.2.1, p0, u.2.2.2.2.2.2.2.2.2.2.2.1, u.2.2.2.2.2.2.2.2.2.2.2.2.1, u.2.2.2.2.2.2.2.2.2.2.2.2.2.1, u.2.2.2.2.2.2.2.2.2.2.2.2.2.2.1, u.2.2.2.2.2.2.2.2.2.2.2.2.2.2.2.1, u.2.2.2.2.2.2.2.2.2.2.2.2.2.2.2.2.1, u.2.2.2.2.2.2.2.2.2.2.2.2.2.2.2.2.2)) H := hP
  have hD : va_D A (wM kI mo m0 m1 m2 m3 m4 m5 m6 m7 (u.1, u.2.1, u.2.2.1, u.2.2.2.1, u.2.2.2.2.1, u.2.2.2.2.2.1, u.2.2.2.2.2.2.1, u.2.2.2.2.2.2.2.1, u.2.2.2.2.2.2.2.2.1, u.2.2.2.2.2.2.2.2.2.1, p0, u.2.2.2.2.2.2.2.2.2.2.2.1, u.2.2.2.2.2.2.2.2.2.2.2.2.1, u.2.2.2.2.2.2.2.2.2.2.2.2.2.1, u.2.2.2.2.2.2.2.2.2.2.2.2.2.2.1, u.2.2.2.2.2.2.2.2.2.2.2.2.2.2.2.1, u.2.2.2.2.2.2.2.2.2.2.2.2.2.2.2.2.1, u.2.2.2.2.2.2.2.2.2.2.2.2.2.2.2.2.2)) := hD
  refine lv_iconst (v := 0) hx hb dX6_fails_5 (by decide) ?_
  exact W.iret (v := 0) hx hb hr (fun t ht hW => ⟨⟨0, (u.1, u.2.1, u.2.2.1, u.2.2.2.1, u.2.2.2.2.1, u.2.2.2.2.2.1, u.2.2.2.2.2.2.1, u.2.2.2.2.2.2.2.1, u.2.2.2.2.2.2.2.2.1, u.2.2.2.2.2.2.2.2.2.1, p0, u.2.2.2.2.2.2.2.2.2.2.2.1, u.2.2.2.2.2.2.2.2.2.2.2.2.1, u.2.2.2.2.2.2.2.2.2.2.2.2.2.1, u.2.2.2.2.2.2.2.2.2.2.2.2.2.2.1, u.2.2.2.2.2.2.2.2.2.2.2.2.2.2.2.1, u.2.2.2.2.2.2.2.2.2.2.2.2.2.2.2.2.1, u.2.2.2.2.2.2.2.2.2.2.2.2.2.2.2.2.2), rfl, hw, by rw [ht]; exact hP, va_K.moved hW.alike hK, hD⟩, hS.F ht⟩) hS.2.2 dX6_fails_6
set_option maxHeartbeats 4000000 in
set_option maxRecDepth 100000 in
theorem kX6_in (l : Launch) (D : va_G) (kI kC kG kJ : ClassId) (p0 : Int64) (p1 : Int64) (p2 : Int64) (Z : Int32 → Prop) (hw : pX6_in p0 p1 p2 Z) : Met l yX6_in wsX6_in ({ frames := 0, cells := 0, slots := 0, locals := 0 } : Room) (gPr D (gT kI kC kG kJ) [.long p0, .long p1, .long p2] (([] : va_W))) (vp_Si Z) 0 0 (fun _ => False) := by
  refine Met.ofW (cc := cX6_in) (maxL := 6) (ret := (some .boolean)) (by decide) rfl ?_
  intro p e s m args below meth c s₁ B hml hv
  obtain ⟨rfl, hP, hK, hE⟩ := hv
  have hx := B.exec
  have hb := B.bytes
  have hr := B.returns
  have hts := atoms_spec (ws := wsX6_in) B.pre
  have hown : s.vm.findClass RX6 = some m.cls := findClass_of_methodNamed B.named
  have hlocks := B.notSynchronized
  have hS : va_S (fun _ => False) s.heap s.heap [] := va_S.rf
  have hl := lv_entry ([.long p0, .long p1, .long p2]) (n := 6) (Nat.le_of_ble_eq_true rfl)
  rw [lg_entry_eq]
  generalize (lg_sl ([.long p0, .long p1, .long p2]) ++ List.replicate (6 - (lg_sl ([.long p0, .long p1, .long p2])).length) Slot.unset).toArray = ls at hl ⊢
  have hl : lv_has ls 6 [(0, .long p0), (2, .long p1), (4, .long p2)] := hl
  unfold pX6_in at hw
  refine lv_lload_n hx hb dX6_in_0 rfl (lv_at hl 0 rfl) ?_
  refine lv_lload_n hx hb dX6_in_1 rfl (lv_at hl 1 rfl) ?_
  refine W.lcmp hx hb dX6_in_2 ?_
  refine lv_if_lt (tgt := 17) hx hb dX6_in_3 (by decide) (fun c1 => ?_) (fun c1 => ?_)
  · replace hw := Eq.mp (if_pos c1) hw
    refine lv_iconst (v := 0) hx hb dX6_in_17 (by decide) ?_
    exact W.zret (v := 0) hx hb hr rfl (fun t ht hW => ⟨_, rfl, hw, ht⟩) (fun _ h => by cases h) dX6_in_18
  · replace hw := Eq.mp (if_neg c1) hw
    refine lv_lload_n hx hb dX6_in_6 rfl (lv_at hl 0 rfl) ?_
    refine lv_lload hx hb dX6_in_7 (lv_at hl 2 rfl) ?_
    refine W.lcmp hx hb dX6_in_9 ?_
    refine lv_if_gt (tgt := 17) hx hb dX6_in_10 (by decide) (fun c2 => ?_) (fun c2 => ?_)
    · replace hw := Eq.mp (if_pos c2) hw
      refine lv_iconst (v := 0) hx hb dX6_in_17 (by decide) ?_
      exact W.zret (v := 0) hx hb hr rfl (fun t ht hW => ⟨_, rfl, hw, ht⟩) (fun _ h => by cases h) dX6_in_18
    · replace hw := Eq.mp (if_neg c2) hw
      refine lv_iconst (v := 1) hx hb dX6_in_13 (by decide) ?_
      refine lv_goto (tgt := 18) hx hb dX6_in_14 (by decide) ?_
      exact W.zret (v := 1) hx hb hr rfl (fun t ht hW => ⟨_, rfl, hw, ht⟩) (fun _ h => by cases h) dX6_in_18
set_option maxHeartbeats 4000000 in
set_option maxRecDepth 100000 in
theorem kX6_records (l : Launch) (D : va_G) (kI kC kG kJ : ClassId) (mo m0 m1 m2 m3 m4 m5 m6 m7 : Nat) (sz : Nat) (u : SM) (Z : SM → Prop) (hw : pX6_records u Z) : Met l yX6_records wsX6_records ({ frames := 0, cells := 0, slots := 0, locals := 0 } : Room) (gPw D (gT kI kC kG kJ) [.ref mo] (wM kI mo m0 m1 m2 m3 m4 m5 m6 m7 u) sz) (va_Qv Z (gB D (gT kI kC kG kJ) (fun (zz : SM) => wM kI mo m0 m1 m2 m3 m4 m5 m6 m7 zz) (va_A (wM kI mo m0 m1 m2 m3 m4 m5 m6 m7 u) sz)) (va_A (wM kI mo m0 m1 m2 m3 m4 m5 m6 m7 u) sz)) 0 0 (va_A (wM kI mo m0 m1 m2 m3 m4 m5 m6 m7 u) sz) := by
  refine Met.ofW (cc := cX6_records) (maxL := 2) (ret := none) (by decide) rfl ?_
  intro p e s m args below meth c s₁ B hml hv
  obtain ⟨rfl, hsz, hP, hK, hD0, hE⟩ := hv
  have hx := B.exec
  have hb := B.bytes
  have hr := B.returns
  have hts := atoms_spec (ws := wsX6_records) B.pre
  have hown : s.vm.findClass RX6 = some m.cls := findClass_of_methodNamed B.named
  have hlocks := B.notSynchronized
  subst hsz
  have hD := hD0.self (sz := s.heap.size)
  generalize hAe : va_A (wM kI mo m0 m1 m2 m3 m4 m5 m6 m7 u) s.heap.size = A at hD hE ⊢
  have hA : ∀ q : Nat, s.heap.size ≤ q → A q := fun q h => by rw [← hAe]; exact Or.inr h
  have hS : va_S A s.heap s.heap [] := va_S.rf
  clear hAe hD0
  have hl := lv_entry ([.ref mo]) (n := 2) (Nat.le_of_ble_eq_true rfl)
  rw [lg_entry_eq]
  generalize (lg_sl ([.ref mo]) ++ List.replicate (2 - (lg_sl ([.ref mo])).length) Slot.unset).toArray = ls at hl ⊢
  have hl : lv_has ls 2 [(0, .ref mo)] := hl
  have hP : va_P D vwCl (wM kI mo m0 m1 m2 m3 m4 m5 m6 m7 u) s.heap := hP
  have L54 : ∀ (_ : Unit), ∀ (n : Nat), ∀ (v1 : Int32) (u : SM) (H : Heap) (locs : List Loc) (ls : Array Slot), va_P D vwCl (wM kI mo m0 m1 m2 m3 m4 m5 m6 m7 u) H → va_D A (wM kI mo m0 m1 m2 m3 m4 m5 m6 m7 u) → va_S A s.heap H locs → lv_has ls 2 [(0, .ref mo), (1, .int v1)] → pX6_records_54 Z n v1 u → W p l e (headSpec wsX6_records ({ frames := 0, cells := 0, slots := 0, locals := 0 } : Room)).room s m ([.ref mo] : List Value).toArray below meth c H locs 0 0 (MQ below (va_Qv Z (gB D (gT kI kC kG kJ) (fun (zz : SM) => wM kI mo m0 m1 m2 m3 m4 m5 m6 m7 zz) A) A) ([.ref mo] : List Value).toArray s 0 0 A) (F0 m 54 ls []) := by
    intro _ n
    induction n with
    | zero => intro v1 u H locs ls hP hD hS hl hw; exact hw.elim
    | succ n ih =>
    intro v1 u H locs ls hP hD hS hl hw
    rw [pX6_records_54] at hw
    refine lv_iload_n hx hb dX6_records_54 rfl (lv_at hl 1 rfl) ?_
    refine lv_bipush (v := 21) hx hb dX6_records_55 (by decide) ?_
    refine lv_icmp_ge (tgt := 86) hx hb dX6_records_57 (by decide) (fun c2 => ?_) (fun c2 => ?_)
    · replace hw := Eq.mp (if_pos c2) hw
      refine lv_aload_n hx hb dX6_records_86 rfl (lv_at hl 0 rfl) ?_
      refine lv_dup hx hb dX6_records_87 rfl ?_
      refine va_get (D := D) (ci := 5) (v := .int u.2.2.2.2.2.2.2.2.1) (C := RX6) (T := TX6) (N := 18) hx hb hts (fun _ h => List.mem_cons_of_mem _ (List.mem_append_right _ h)) hown hK hP 0 rfl rfl 3 (by decide) (hts (.fieldLink RX6 38 "HazelGiftModel" "recordedLong" "I") (List.mem_of_getElem? (i := 2) rfl)) (fun _ h9 => h9) rfl dX6_records_88 ?_
      refine lv_iconst (v := 1) hx hb dX6_records_91 (by decide) ?_
      refine lv_iadd hx hb dX6_records_92 ?_
      refine lv_topi (fun x3 ex3 => ?_)
      replace hw := hw x3 ex3
      refine va_put (D := D) (ci := 5) (v := .int x3) (ty := tyX6 3) (C := RX6) (T := TX6) (N := 18) hx hb hts (fun _ h => List.mem_cons_of_mem _ (List.mem_append_right _ h)) tyX6 tyX6_ok nmX6 hown hK hP hD hS 0 rfl rfl 3 (by decide) (hts (.fieldLink RX6 38 "HazelGiftModel" "recordedLong" "I") (List.mem_of_getElem? (i := 2) rfl)) (fun _ h9 => h9) rfl (tyX6_ok 3 (by decide)) rfl rfl (Nat.le_of_ble_eq_true rfl) dX6_records_93 (fun H locs hP hD hS => ?_)
      have hP : va_P D vwCl (wM kI mo m0 m1 m2 m3 m4 m5 m6 m7 (u.1, u.2.1, u.2.2.1, u.2.2.2.1, u.2.2.2.2.1, u.2.2.2.2.2.1, u.2.2.2.2.2.2.1, u.2.2.2.2.2.2.2.1, x3, u.2.2.2.2.2.2.2.2.2.1, u.2.2.2.2.2.2.2.2.2.2.1, u.2.2.2.2.2.2.2.2.2.2.2.1, u.2.2.2.2.2.2.2.2.2.2.2.2.1, u.2.2.2.2.2.2.2.2.2.2.2.2.2.1, u.2.2.2.2.2.2.2.2.2.2.2.2.2.2.1, u.2.2.2.2.2.2.2.2.2.2.2.2.2.2.2.1, u.2.2.2.2.2.2.2.2.2.2.2.2.2.2.2.2.1, u.2.2.2.2.2.2.2.2.2.2.2.2.2.2.2.2.2)) H := hP
      have hD : va_D A (wM kI mo m0 m1 m2 m3 m4 m5 m6 m7 (u.1, u.2.1, u.2.2.1, u.2.2.2.1, u.2.2.2.2.1, u.2.2.2.2.2.1, u.2.2.2.2.2.2.1, u.2.2.2.2.2.2.2.1, x3, u.2.2.2.2.2.2.2.2.2.1, u.2.2.2.2.2.2.2.2.2.2.1, u.2.2.2.2.2.2.2.2.2.2.2.1, u.2.2.2.2.2.2.2.2.2.2.2.2.1, u.2.2.2.2.2.2.2.2.2.2.2.2.2.1, u.2.2.2.2.2.2.2.2.2.2.2.2.2.2.1, u.2.2.2.2.2.2.2.2.2.2.2.2.2.2.2.1, u.2.2.2.2.2.2.2.2.2.2.2.2.2.2.2.2.1, u.2.2.2.2.2.2.2.2.2.2.2.2.2.2.2.2.2)) := hD
      exact W.vret hx hb hr (fun t ht hW => ⟨⟨(u.1, u.2.1, u.2.2.1, u.2.2.2.1, u.2.2.2.2.1, u.2.2.2.2.2.1, u.2.2.2.2.2.2.1, u.2.2.2.2.2.2.2.1, x3, u.2.2.2.2.2.2.2.2.2.1, u.2.2.2.2.2.2.2.2.2.2.1, u.2.2.2.2.2.2.2.2.2.2.2.1, u.2.2.2.2.2.2.2.2.2.2.2.2.1, u.2.2.2.2.2.2.2.2.2.2.2.2.2.1, u.2.2.2.2.2.2.2.2.2.2.2.2.2.2.1, u.2.2.2.2.2.2.2.2.2.2.2.2.2.2.2.1, u.2.2.2.2.2.2.2.2.2.2.2.2.2.2.2.2.1, u.2.2.2.2.2.2.2.2.2.2.2.2.2.2.2.2.2), rfl, hw, by rw [ht]; exact hP, va_K.moved hW.alike hK, hD⟩, hS.F ht⟩) hS.2.2 dX6_records_96
    · replace hw := Eq.mp (if_neg c2) hw
      refine lv_aload_n hx hb dX6_records_60 rfl (lv_at hl 0 rfl) ?_
      refine va_get (D := D) (ci := 5) (v := .ref m2) (C := RX6) (T := TX6) (N := 18) hx hb hts (fun _ h => List.mem_cons_of_mem _ (List.mem_append_right _ h)) hown hK hP 0 rfl rfl 2 (by decide) (hts (.fieldLink RX6 16 "HazelGiftModel" "recorded" "[I") (List.mem_of_getElem? (i := 3) rfl)) (fun _ h9 => h9) rfl dX6_records_61 ?_
      refine lv_bipush (v := 21) hx hb dX6_records_64 (by decide) ?_
      refine lv_aload_n hx hb dX6_records_66 rfl (lv_at hl 0 rfl) ?_
      refine va_get (D := D) (ci := 5) (v := .int u.2.2.2.2.2.2.2.2.1) (C := RX6) (T := TX6) (N := 18) hx hb hts (fun _ h => List.mem_cons_of_mem _ (List.mem_append_right _ h)) hown hK hP 0 rfl rfl 3 (by decide) (hts (.fieldLink RX6 38 "HazelGiftModel" "recordedLong" "I") (List.mem_of_getElem? (i := 2) rfl)) (fun _ h9 => h9) rfl dX6_records_67 ?_
      refine lv_imul hx hb dX6_records_70 ?_
      refine lv_iload_n hx hb dX6_records_71 rfl (lv_at hl 1 rfl) ?_
      refine lv_iadd hx hb dX6_records_72 ?_
      refine lv_aload_n hx hb dX6_records_73 rfl (lv_at hl 0 rfl) ?_
      refine va_get (D := D) (ci := 5) (v := .ref m0) (C := RX6) (T := TX6) (N := 18) hx hb hts (fun _ h => List.mem_cons_of_mem _ (List.mem_append_right _ h)) hown hK hP 0 rfl rfl 0 (by decide) (hts (.fieldLink RX6 7 "HazelGiftModel" "all" "[I") (List.mem_of_getElem? (i := 4) rfl)) (fun _ h9 => h9) rfl dX6_records_74 ?_
      refine lv_iload_n hx hb dX6_records_77 rfl (lv_at hl 1 rfl) ?_
      obtain ⟨hi4, hw⟩ := hw
      refine gIald (k := (v1).toNatClampNeg) hx hb hK hP 1 0 rfl rfl hi4 rfl dX6_records_78 ?_
      refine lv_topi (fun x5 ex5 => ?_)
      replace hw := hw x5 ex5
      obtain ⟨hi6, hw⟩ := hw
      refine gIast (k := (((21 * u.2.2.2.2.2.2.2.2.1) + v1)).toNatClampNeg) hx hb hK hP hD hS 3 0 rfl rfl hi6 rfl dX6_records_79 (fun H locs hP hD hS => ?_)
      have hP : va_P D vwCl (wM kI mo m0 m1 m2 m3 m4 m5 m6 m7 (u.1, u.2.1, (upd u.2.2.1 (((21 * u.2.2.2.2.2.2.2.2.1) + v1)).toNatClampNeg x5), u.2.2.2.1, u.2.2.2.2.1, u.2.2.2.2.2.1, u.2.2.2.2.2.2.1, u.2.2.2.2.2.2.2.1, u.2.2.2.2.2.2.2.2.1, u.2.2.2.2.2.2.2.2.2.1, u.2.2.2.2.2.2.2.2.2.2.1, u.2.2.2.2.2.2.2.2.2.2.2.1, u.2.2.2.2.2.2.2.2.2.2.2.2.1, u.2.2.2.2.2.2.2.2.2.2.2.2.2.1, u.2.2.2.2.2.2.2.2.2.2.2.2.2.2.1, u.2.2.2.2.2.2.2.2.2.2.2.2.2.2.2.1, u.2.2.2.2.2.2.2.2.2.2.2.2.2.2.2.2.1, u.2.2.2.2.2.2.2.2.2.2.2.2.2.2.2.2.2)) H := hP
      have hD : va_D A (wM kI mo m0 m1 m2 m3 m4 m5 m6 m7 (u.1, u.2.1, (upd u.2.2.1 (((21 * u.2.2.2.2.2.2.2.2.1) + v1)).toNatClampNeg x5), u.2.2.2.1, u.2.2.2.2.1, u.2.2.2.2.2.1, u.2.2.2.2.2.2.1, u.2.2.2.2.2.2.2.1, u.2.2.2.2.2.2.2.2.1, u.2.2.2.2.2.2.2.2.2.1, u.2.2.2.2.2.2.2.2.2.2.1, u.2.2.2.2.2.2.2.2.2.2.2.1, u.2.2.2.2.2.2.2.2.2.2.2.2.1, u.2.2.2.2.2.2.2.2.2.2.2.2.2.1, u.2.2.2.2.2.2.2.2.2.2.2.2.2.2.1, u.2.2.2.2.2.2.2.2.2.2.2.2.2.2.2.1, u.2.2.2.2.2.2.2.2.2.2.2.2.2.2.2.2.1, u.2.2.2.2.2.2.2.2.2.2.2.2.2.2.2.2.2)) := hD
      obtain ⟨x7, ex7⟩ : ∃ y : Int32, y = (v1 + 1) := ⟨_, rfl⟩
      replace hw := hw x7 ex7
      refine lv_iinc (v := x7) (lv' := [(1, .int x7), (0, .ref mo)]) hx hb dX6_records_80 hl (k := 1) rfl (by rw [ex7]; rfl) (by decide) rfl (fun ls hl => ?_)
      refine lv_goto (tgt := 54) hx hb dX6_records_83 (by decide) ?_
      exact ih x7 (u.1, u.2.1, (upd u.2.2.1 (((21 * u.2.2.2.2.2.2.2.2.1) + v1)).toNatClampNeg x5), u.2.2.2.1, u.2.2.2.2.1, u.2.2.2.2.2.1, u.2.2.2.2.2.2.1, u.2.2.2.2.2.2.2.1, u.2.2.2.2.2.2.2.2.1, u.2.2.2.2.2.2.2.2.2.1, u.2.2.2.2.2.2.2.2.2.2.1, u.2.2.2.2.2.2.2.2.2.2.2.1, u.2.2.2.2.2.2.2.2.2.2.2.2.1, u.2.2.2.2.2.2.2.2.2.2.2.2.2.1, u.2.2.2.2.2.2.2.2.2.2.2.2.2.2.1, u.2.2.2.2.2.2.2.2.2.2.2.2.2.2.2.1, u.2.2.2.2.2.2.2.2.2.2.2.2.2.2.2.2.1, u.2.2.2.2.2.2.2.2.2.2.2.2.2.2.2.2.2) H locs ls hP hD hS (lv_sub hl [1, 0] rfl) hw
  have L15 : ∀ (_ : Unit), ∀ (n : Nat), ∀ (v1 : Int32) (u : SM) (H : Heap) (locs : List Loc) (ls : Array Slot), va_P D vwCl (wM kI mo m0 m1 m2 m3 m4 m5 m6 m7 u) H → va_D A (wM kI mo m0 m1 m2 m3 m4 m5 m6 m7 u) → va_S A s.heap H locs → lv_has ls 2 [(0, .ref mo), (1, .int v1)] → pX6_records_15 Z n v1 u → W p l e (headSpec wsX6_records ({ frames := 0, cells := 0, slots := 0, locals := 0 } : Room)).room s m ([.ref mo] : List Value).toArray below meth c H locs 0 0 (MQ below (va_Qv Z (gB D (gT kI kC kG kJ) (fun (zz : SM) => wM kI mo m0 m1 m2 m3 m4 m5 m6 m7 zz) A) A) ([.ref mo] : List Value).toArray s 0 0 A) (F0 m 15 ls []) := by
    intro _ n
    induction n with
    | zero => intro v1 u H locs ls hP hD hS hl hw; exact hw.elim
    | succ n ih =>
    intro v1 u H locs ls hP hD hS hl hw
    rw [pX6_records_15] at hw
    refine lv_iload_n hx hb dX6_records_15 rfl (lv_at hl 1 rfl) ?_
    refine lv_bipush (v := 63) hx hb dX6_records_16 (by decide) ?_
    refine lv_icmp_ge (tgt := 42) hx hb dX6_records_18 (by decide) (fun c8 => ?_) (fun c8 => ?_)
    · replace hw := Eq.mp (if_pos c8) hw
      refine lv_aload_n hx hb dX6_records_42 rfl (lv_at hl 0 rfl) ?_
      refine lv_dup hx hb dX6_records_43 rfl ?_
      refine va_get (D := D) (ci := 5) (v := .int u.2.2.2.2.2.2.2.2.1) (C := RX6) (T := TX6) (N := 18) hx hb hts (fun _ h => List.mem_cons_of_mem _ (List.mem_append_right _ h)) hown hK hP 0 rfl rfl 3 (by decide) (hts (.fieldLink RX6 38 "HazelGiftModel" "recordedLong" "I") (List.mem_of_getElem? (i := 2) rfl)) (fun _ h9 => h9) rfl dX6_records_44 ?_
      refine lv_iconst (v := 1) hx hb dX6_records_47 (by decide) ?_
      refine lv_isub hx hb dX6_records_48 ?_
      refine lv_topi (fun x9 ex9 => ?_)
      replace hw := hw x9 ex9
      refine va_put (D := D) (ci := 5) (v := .int x9) (ty := tyX6 3) (C := RX6) (T := TX6) (N := 18) hx hb hts (fun _ h => List.mem_cons_of_mem _ (List.mem_append_right _ h)) tyX6 tyX6_ok nmX6 hown hK hP hD hS 0 rfl rfl 3 (by decide) (hts (.fieldLink RX6 38 "HazelGiftModel" "recordedLong" "I") (List.mem_of_getElem? (i := 2) rfl)) (fun _ h9 => h9) rfl (tyX6_ok 3 (by decide)) rfl rfl (Nat.le_of_ble_eq_true rfl) dX6_records_49 (fun H locs hP hD hS => ?_)
      have hP : va_P D vwCl (wM kI mo m0 m1 m2 m3 m4 m5 m6 m7 (u.1, u.2.1, u.2.2.1, u.2.2.2.1, u.2.2.2.2.1, u.2.2.2.2.2.1, u.2.2.2.2.2.2.1, u.2.2.2.2.2.2.2.1, x9, u.2.2.2.2.2.2.2.2.2.1, u.2.2.2.2.2.2.2.2.2.2.1, u.2.2.2.2.2.2.2.2.2.2.2.1, u.2.2.2.2.2.2.2.2.2.2.2.2.1, u.2.2.2.2.2.2.2.2.2.2.2.2.2.1, u.2.2.2.2.2.2.2.2.2.2.2.2.2.2.1, u.2.2.2.2.2.2.2.2.2.2.2.2.2.2.2.1, u.2.2.2.2.2.2.2.2.2.2.2.2.2.2.2.2.1, u.2.2.2.2.2.2.2.2.2.2.2.2.2.2.2.2.2)) H := hP
      have hD : va_D A (wM kI mo m0 m1 m2 m3 m4 m5 m6 m7 (u.1, u.2.1, u.2.2.1, u.2.2.2.1, u.2.2.2.2.1, u.2.2.2.2.2.1, u.2.2.2.2.2.2.1, u.2.2.2.2.2.2.2.1, x9, u.2.2.2.2.2.2.2.2.2.1, u.2.2.2.2.2.2.2.2.2.2.1, u.2.2.2.2.2.2.2.2.2.2.2.1, u.2.2.2.2.2.2.2.2.2.2.2.2.1, u.2.2.2.2.2.2.2.2.2.2.2.2.2.1, u.2.2.2.2.2.2.2.2.2.2.2.2.2.2.1, u.2.2.2.2.2.2.2.2.2.2.2.2.2.2.2.1, u.2.2.2.2.2.2.2.2.2.2.2.2.2.2.2.2.1, u.2.2.2.2.2.2.2.2.2.2.2.2.2.2.2.2.2)) := hD
      refine lv_iconst (v := 0) hx hb dX6_records_52 (by decide) ?_
      refine lv_istore_n (lv' := [(1, .int 0), (0, .ref mo)]) hx hb dX6_records_53 rfl hl (by decide) rfl (fun ls hl => ?_)
      obtain ⟨n9, hw⟩ := hw
      exact L54 () n9 0 (u.1, u.2.1, u.2.2.1, u.2.2.2.1, u.2.2.2.2.1, u.2.2.2.2.2.1, u.2.2.2.2.2.2.1, u.2.2.2.2.2.2.2.1, x9, u.2.2.2.2.2.2.2.2.2.1, u.2.2.2.2.2.2.2.2.2.2.1, u.2.2.2.2.2.2.2.2.2.2.2.1, u.2.2.2.2.2.2.2.2.2.2.2.2.1, u.2.2.2.2.2.2.2.2.2.2.2.2.2.1, u.2.2.2.2.2.2.2.2.2.2.2.2.2.2.1, u.2.2.2.2.2.2.2.2.2.2.2.2.2.2.2.1, u.2.2.2.2.2.2.2.2.2.2.2.2.2.2.2.2.1, u.2.2.2.2.2.2.2.2.2.2.2.2.2.2.2.2.2) H locs ls hP hD hS (lv_sub hl [1, 0] rfl) hw
    · replace hw := Eq.mp (if_neg c8) hw
      refine lv_aload_n hx hb dX6_records_21 rfl (lv_at hl 0 rfl) ?_
      refine va_get (D := D) (ci := 5) (v := .ref m2) (C := RX6) (T := TX6) (N := 18) hx hb hts (fun _ h => List.mem_cons_of_mem _ (List.mem_append_right _ h)) hown hK hP 0 rfl rfl 2 (by decide) (hts (.fieldLink RX6 16 "HazelGiftModel" "recorded" "[I") (List.mem_of_getElem? (i := 3) rfl)) (fun _ h9 => h9) rfl dX6_records_22 ?_
      refine lv_iload_n hx hb dX6_records_25 rfl (lv_at hl 1 rfl) ?_
      refine lv_aload_n hx hb dX6_records_26 rfl (lv_at hl 0 rfl) ?_
      refine va_get (D := D) (ci := 5) (v := .ref m2) (C := RX6) (T := TX6) (N := 18) hx hb hts (fun _ h => List.mem_cons_of_mem _ (List.mem_append_right _ h)) hown hK hP 0 rfl rfl 2 (by decide) (hts (.fieldLink RX6 16 "HazelGiftModel" "recorded" "[I") (List.mem_of_getElem? (i := 3) rfl)) (fun _ h9 => h9) rfl dX6_records_27 ?_
      refine lv_iload_n hx hb dX6_records_30 rfl (lv_at hl 1 rfl) ?_
      refine lv_bipush (v := 21) hx hb dX6_records_31 (by decide) ?_
      refine lv_iadd hx hb dX6_records_33 ?_
      obtain ⟨hi10, hw⟩ := hw
      refine gIald (k := ((v1 + 21)).toNatClampNeg) hx hb hK hP 3 0 rfl rfl hi10 rfl dX6_records_34 ?_
      refine lv_topi (fun x11 ex11 => ?_)
      replace hw := hw x11 ex11
      obtain ⟨hi12, hw⟩ := hw
      refine gIast (k := (v1).toNatClampNeg) hx hb hK hP hD hS 3 0 rfl rfl hi12 rfl dX6_records_35 (fun H locs hP hD hS => ?_)
      have hP : va_P D vwCl (wM kI mo m0 m1 m2 m3 m4 m5 m6 m7 (u.1, u.2.1, (upd u.2.2.1 (v1).toNatClampNeg x11), u.2.2.2.1, u.2.2.2.2.1, u.2.2.2.2.2.1, u.2.2.2.2.2.2.1, u.2.2.2.2.2.2.2.1, u.2.2.2.2.2.2.2.2.1, u.2.2.2.2.2.2.2.2.2.1, u.2.2.2.2.2.2.2.2.2.2.1, u.2.2.2.2.2.2.2.2.2.2.2.1, u.2.2.2.2.2.2.2.2.2.2.2.2.1, u.2.2.2.2.2.2.2.2.2.2.2.2.2.1, u.2.2.2.2.2.2.2.2.2.2.2.2.2.2.1, u.2.2.2.2.2.2.2.2.2.2.2.2.2.2.2.1, u.2.2.2.2.2.2.2.2.2.2.2.2.2.2.2.2.1, u.2.2.2.2.2.2.2.2.2.2.2.2.2.2.2.2.2)) H := hP
      have hD : va_D A (wM kI mo m0 m1 m2 m3 m4 m5 m6 m7 (u.1, u.2.1, (upd u.2.2.1 (v1).toNatClampNeg x11), u.2.2.2.1, u.2.2.2.2.1, u.2.2.2.2.2.1, u.2.2.2.2.2.2.1, u.2.2.2.2.2.2.2.1, u.2.2.2.2.2.2.2.2.1, u.2.2.2.2.2.2.2.2.2.1, u.2.2.2.2.2.2.2.2.2.2.1, u.2.2.2.2.2.2.2.2.2.2.2.1, u.2.2.2.2.2.2.2.2.2.2.2.2.1, u.2.2.2.2.2.2.2.2.2.2.2.2.2.1, u.2.2.2.2.2.2.2.2.2.2.2.2.2.2.1, u.2.2.2.2.2.2.2.2.2.2.2.2.2.2.2.1, u.2.2.2.2.2.2.2.2.2.2.2.2.2.2.2.2.1, u.2.2.2.2.2.2.2.2.2.2.2.2.2.2.2.2.2)) := hD
      obtain ⟨x13, ex13⟩ : ∃ y : Int32, y = (v1 + 1) := ⟨_, rfl⟩
      replace hw := hw x13 ex13
      refine lv_iinc (v := x13) (lv' := [(1, .int x13), (0, .ref mo)]) hx hb dX6_records_36 hl (k := 1) rfl (by rw [ex13]; rfl) (by decide) rfl (fun ls hl => ?_)
      refine lv_goto (tgt := 15) hx hb dX6_records_39 (by decide) ?_
      exact ih x13 (u.1, u.2.1, (upd u.2.2.1 (v1).toNatClampNeg x11), u.2.2.2.1, u.2.2.2.2.1, u.2.2.2.2.2.1, u.2.2.2.2.2.2.1, u.2.2.2.2.2.2.2.1, u.2.2.2.2.2.2.2.2.1, u.2.2.2.2.2.2.2.2.2.1, u.2.2.2.2.2.2.2.2.2.2.1, u.2.2.2.2.2.2.2.2.2.2.2.1, u.2.2.2.2.2.2.2.2.2.2.2.2.1, u.2.2.2.2.2.2.2.2.2.2.2.2.2.1, u.2.2.2.2.2.2.2.2.2.2.2.2.2.2.1, u.2.2.2.2.2.2.2.2.2.2.2.2.2.2.2.1, u.2.2.2.2.2.2.2.2.2.2.2.2.2.2.2.2.1, u.2.2.2.2.2.2.2.2.2.2.2.2.2.2.2.2.2) H locs ls hP hD hS (lv_sub hl [1, 0] rfl) hw
  unfold pX6_records at hw
  refine lv_aload_n hx hb dX6_records_0 rfl (lv_at hl 0 rfl) ?_
  refine lv_iconst (v := 0) hx hb dX6_records_1 (by decide) ?_
  refine va_put (D := D) (ci := 5) (v := .int 0) (ty := tyX6 6) (C := RX6) (T := TX6) (N := 18) hx hb hts (fun _ h => List.mem_cons_of_mem _ (List.mem_append_right _ h)) tyX6 tyX6_ok nmX6 hown hK hP hD hS 0 rfl rfl 6 (by decide) (hts (.fieldLink RX6 34 "HazelGiftModel" "thrown" "I") (List.mem_of_getElem? (i := 1) rfl)) (fun _ h9 => h9) rfl (tyX6_ok 6 (by decide)) rfl rfl (Nat.le_of_ble_eq_true rfl) dX6_records_2 (fun H locs hP hD hS => ?_)
  have hP : va_P D vwCl (wM kI mo m0 m1 m2 m3 m4 m5 m6 m7 (u.1, u.2.1, u.2.2.1, u.2.2.2.1, u.2.2.2.2.1, u.2.2.2.2.2.1, u.2.2.2.2.2.2.1, u.2.2.2.2.2.2.2.1, u.2.2.2.2.2.2.2.2.1, u.2.2.2.2.2.2.2.2.2.1, 0, u.2.2.2.2.2.2.2.2.2.2.2.1, u.2.2.2.2.2.2.2.2.2.2.2.2.1, u.2.2.2.2.2.2.2.2.2.2.2.2.2.1, u.2.2.2.2.2.2.2.2.2.2.2.2.2.2.1, u.2.2.2.2.2.2.2.2.2.2.2.2.2.2.2.1, u.2.2.2.2.2.2.2.2.2.2.2.2.2.2.2.2.1, u.2.2.2.2.2.2.2.2.2.2.2.2.2.2.2.2.2)) H := hP
  have hD : va_D A (wM kI mo m0 m1 m2 m3 m4 m5 m6 m7 (u.1, u.2.1, u.2.2.1, u.2.2.2.1, u.2.2.2.2.1, u.2.2.2.2.2.1, u.2.2.2.2.2.2.1, u.2.2.2.2.2.2.2.1, u.2.2.2.2.2.2.2.2.1, u.2.2.2.2.2.2.2.2.2.1, 0, u.2.2.2.2.2.2.2.2.2.2.2.1, u.2.2.2.2.2.2.2.2.2.2.2.2.1, u.2.2.2.2.2.2.2.2.2.2.2.2.2.1, u.2.2.2.2.2.2.2.2.2.2.2.2.2.2.1, u.2.2.2.2.2.2.2.2.2.2.2.2.2.2.2.1, u.2.2.2.2.2.2.2.2.2.2.2.2.2.2.2.2.1, u.2.2.2.2.2.2.2.2.2.2.2.2.2.2.2.2.2)) := hD
  refine lv_aload_n hx hb dX6_records_5 rfl (lv_at hl 0 rfl) ?_
  refine va_get (D := D) (ci := 5) (v := .int u.2.2.2.2.2.2.2.2.1) (C := RX6) (T := TX6) (N := 18) hx hb hts (fun _ h => List.mem_cons_of_mem _ (List.mem_append_right _ h)) hown hK hP 0 rfl rfl 3 (by decide) (hts (.fieldLink RX6 38 "HazelGiftModel" "recordedLong" "I") (List.mem_of_getElem? (i := 2) rfl)) (fun _ h9 => h9) rfl dX6_records_6 ?_
  refine lv_iconst (v := 4) hx hb dX6_records_9 (by decide) ?_
  refine lv_icmp_ne (tgt := 52) hx hb dX6_records_10 (by decide) (fun c1 => ?_) (fun c1 => ?_)
  · replace hw := Eq.mp (if_neg c1) hw
    refine lv_iconst (v := 0) hx hb dX6_records_52 (by decide) ?_
    refine lv_istore_n (lv' := [(1, .int 0), (0, .ref mo)]) hx hb dX6_records_53 rfl hl (by decide) rfl (fun ls hl => ?_)
    obtain ⟨n9, hw⟩ := hw
    exact L54 () n9 0 (u.1, u.2.1, u.2.2.1, u.2.2.2.1, u.2.2.2.2.1, u.2.2.2.2.2.1, u.2.2.2.2.2.2.1, u.2.2.2.2.2.2.2.1, u.2.2.2.2.2.2.2.2.1, u.2.2.2.2.2.2.2.2.2.1, 0, u.2.2.2.2.2.2.2.2.2.2.2.1, u.2.2.2.2.2.2.2.2.2.2.2.2.1, u.2.2.2.2.2.2.2.2.2.2.2.2.2.1, u.2.2.2.2.2.2.2.2.2.2.2.2.2.2.1, u.2.2.2.2.2.2.2.2.2.2.2.2.2.2.2.1, u.2.2.2.2.2.2.2.2.2.2.2.2.2.2.2.2.1, u.2.2.2.2.2.2.2.2.2.2.2.2.2.2.2.2.2) H locs ls hP hD hS (lv_sub hl [1, 0] rfl) hw
  · replace hw := Eq.mp (if_pos c1) hw
    refine lv_iconst (v := 0) hx hb dX6_records_13 (by decide) ?_
    refine lv_istore_n (lv' := [(1, .int 0), (0, .ref mo)]) hx hb dX6_records_14 rfl hl (by decide) rfl (fun ls hl => ?_)
    obtain ⟨n9, hw⟩ := hw
    exact L15 () n9 0 (u.1, u.2.1, u.2.2.1, u.2.2.2.1, u.2.2.2.2.1, u.2.2.2.2.2.1, u.2.2.2.2.2.2.1, u.2.2.2.2.2.2.2.1, u.2.2.2.2.2.2.2.2.1, u.2.2.2.2.2.2.2.2.2.1, 0, u.2.2.2.2.2.2.2.2.2.2.2.1, u.2.2.2.2.2.2.2.2.2.2.2.2.1, u.2.2.2.2.2.2.2.2.2.2.2.2.2.1, u.2.2.2.2.2.2.2.2.2.2.2.2.2.2.1, u.2.2.2.2.2.2.2.2.2.2.2.2.2.2.2.1, u.2.2.2.2.2.2.2.2.2.2.2.2.2.2.2.2.1, u.2.2.2.2.2.2.2.2.2.2.2.2.2.2.2.2.2) H locs ls hP hD hS (lv_sub hl [1, 0] rfl) hw
set_option maxHeartbeats 4000000 in
set_option maxRecDepth 100000 in
theorem kX6_told (l : Launch) (D : va_G) (kI kC kG kJ : ClassId) (mo m0 m1 m2 m3 m4 m5 m6 m7 : Nat) (sz : Nat) (u : SM) (p0 : Int32) (Z : Int32 → SM → Prop) (hw : pX6_told p0 u Z) : Met l yX6_told wsX6_told ({ frames := 0, cells := 0, slots := 0, locals := 0 } : Room) (gPw D (gT kI kC kG kJ) [.ref mo, .int p0] (wM kI mo m0 m1 m2 m3 m4 m5 m6 m7 u) sz) (va_Qi Z (gB D (gT kI kC kG kJ) (fun (zz : SM) => wM kI mo m0 m1 m2 m3 m4 m5 m6 m7 zz) (va_A (wM kI mo m0 m1 m2 m3 m4 m5 m6 m7 u) sz)) (va_A (wM kI mo m0 m1 m2 m3 m4 m5 m6 m7 u) sz)) 0 0 (va_A (wM kI mo m0 m1 m2 m3 m4 m5 m6 m7 u) sz) := by
  refine Met.ofW (cc := cX6_told) (maxL := 2) (ret := (some .int)) (by decide) rfl ?_
  intro p e s m args below meth c s₁ B hml hv
  obtain ⟨rfl, hsz, hP, hK, hD0, hE⟩ := hv
  have hx := B.exec
  have hb := B.bytes
  have hr := B.returns
  have hts := atoms_spec (ws := wsX6_told) B.pre
  have hown : s.vm.findClass RX6 = some m.cls := findClass_of_methodNamed B.named
  have hlocks := B.notSynchronized
  subst hsz
  have hD := hD0.self (sz := s.heap.size)
  generalize hAe : va_A (wM kI mo m0 m1 m2 m3 m4 m5 m6 m7 u) s.heap.size = A at hD hE ⊢
  have hA : ∀ q : Nat, s.heap.size ≤ q → A q := fun q h => by rw [← hAe]; exact Or.inr h
  have hS : va_S A s.heap s.heap [] := va_S.rf
  clear hAe hD0
  have hl := lv_entry ([.ref mo, .int p0]) (n := 2) (Nat.le_of_ble_eq_true rfl)
  rw [lg_entry_eq]
  generalize (lg_sl ([.ref mo, .int p0]) ++ List.replicate (2 - (lg_sl ([.ref mo, .int p0])).length) Slot.unset).toArray = ls at hl ⊢
  have hl : lv_has ls 2 [(0, .ref mo), (1, .int p0)] := hl
  have hP : va_P D vwCl (wM kI mo m0 m1 m2 m3 m4 m5 m6 m7 u) s.heap := hP
  unfold pX6_told at hw
  refine lv_aload_n hx hb dX6_told_0 rfl (lv_at hl 0 rfl) ?_
  refine lv_iconst (v := 0) hx hb dX6_told_1 (by decide) ?_
  refine va_put (D := D) (ci := 5) (v := .int 0) (ty := tyX6 6) (C := RX6) (T := TX6) (N := 18) hx hb hts (fun _ h => List.mem_cons_of_mem _ (List.mem_append_right _ h)) tyX6 tyX6_ok nmX6 hown hK hP hD hS 0 rfl rfl 6 (by decide) (hts (.fieldLink RX6 34 "HazelGiftModel" "thrown" "I") (List.mem_of_getElem? (i := 1) rfl)) (fun _ h9 => h9) rfl (tyX6_ok 6 (by decide)) rfl rfl (Nat.le_of_ble_eq_true rfl) dX6_told_2 (fun H locs hP hD hS => ?_)
  have hP : va_P D vwCl (wM kI mo m0 m1 m2 m3 m4 m5 m6 m7 (u.1, u.2.1, u.2.2.1, u.2.2.2.1, u.2.2.2.2.1, u.2.2.2.2.2.1, u.2.2.2.2.2.2.1, u.2.2.2.2.2.2.2.1, u.2.2.2.2.2.2.2.2.1, u.2.2.2.2.2.2.2.2.2.1, 0, u.2.2.2.2.2.2.2.2.2.2.2.1, u.2.2.2.2.2.2.2.2.2.2.2.2.1, u.2.2.2.2.2.2.2.2.2.2.2.2.2.1, u.2.2.2.2.2.2.2.2.2.2.2.2.2.2.1, u.2.2.2.2.2.2.2.2.2.2.2.2.2.2.2.1, u.2.2.2.2.2.2.2.2.2.2.2.2.2.2.2.2.1, u.2.2.2.2.2.2.2.2.2.2.2.2.2.2.2.2.2)) H := hP
  have hD : va_D A (wM kI mo m0 m1 m2 m3 m4 m5 m6 m7 (u.1, u.2.1, u.2.2.1, u.2.2.2.1, u.2.2.2.2.1, u.2.2.2.2.2.1, u.2.2.2.2.2.2.1, u.2.2.2.2.2.2.2.1, u.2.2.2.2.2.2.2.2.1, u.2.2.2.2.2.2.2.2.2.1, 0, u.2.2.2.2.2.2.2.2.2.2.2.1, u.2.2.2.2.2.2.2.2.2.2.2.2.1, u.2.2.2.2.2.2.2.2.2.2.2.2.2.1, u.2.2.2.2.2.2.2.2.2.2.2.2.2.2.1, u.2.2.2.2.2.2.2.2.2.2.2.2.2.2.2.1, u.2.2.2.2.2.2.2.2.2.2.2.2.2.2.2.2.1, u.2.2.2.2.2.2.2.2.2.2.2.2.2.2.2.2.2)) := hD
  refine lv_iload_n hx hb dX6_told_5 rfl (lv_at hl 1 rfl) ?_
  exact W.iret (v := p0) hx hb hr (fun t ht hW => ⟨⟨p0, (u.1, u.2.1, u.2.2.1, u.2.2.2.1, u.2.2.2.2.1, u.2.2.2.2.2.1, u.2.2.2.2.2.2.1, u.2.2.2.2.2.2.2.1, u.2.2.2.2.2.2.2.2.1, u.2.2.2.2.2.2.2.2.2.1, 0, u.2.2.2.2.2.2.2.2.2.2.2.1, u.2.2.2.2.2.2.2.2.2.2.2.2.1, u.2.2.2.2.2.2.2.2.2.2.2.2.2.1, u.2.2.2.2.2.2.2.2.2.2.2.2.2.2.1, u.2.2.2.2.2.2.2.2.2.2.2.2.2.2.2.1, u.2.2.2.2.2.2.2.2.2.2.2.2.2.2.2.2.1, u.2.2.2.2.2.2.2.2.2.2.2.2.2.2.2.2.2), rfl, hw, by rw [ht]; exact hP, va_K.moved hW.alike hK, hD⟩, hS.F ht⟩) hS.2.2 dX6_told_6
set_option maxHeartbeats 4000000 in
set_option maxRecDepth 100000 in
theorem kX6_isPlace (l : Launch) (D : va_G) (kI kC kG kJ : ClassId) (p0 : Int32) (Z : Int32 → Prop) (hw : pX6_isPlace p0 Z) : Met l yX6_isPlace wsX6_isPlace ({ frames := 1, cells := 0, slots := 0, locals := 25 } : Room) (gPr D (gT kI kC kG kJ) [.int p0] (([] : va_W))) (vp_Si Z) 0 0 (fun _ => False) := by
  refine Met.ofW (cc := cX6_isPlace) (maxL := 1) (ret := (some .boolean)) (by decide) rfl ?_
  intro p e s m args below meth c s₁ B hml hv
  obtain ⟨rfl, hP, hK, hE⟩ := hv
  have hx := B.exec
  have hb := B.bytes
  have hr := B.returns
  have hts := atoms_spec (ws := wsX6_isPlace) B.pre
  have hown : s.vm.findClass RX6 = some m.cls := findClass_of_methodNamed B.named
  have hlocks := B.notSynchronized
  have hS : va_S (fun _ => False) s.heap s.heap [] := va_S.rf
  have hl := lv_entry ([.int p0]) (n := 1) (Nat.le_of_ble_eq_true rfl)
  rw [lg_entry_eq]
  generalize (lg_sl ([.int p0]) ++ List.replicate (1 - (lg_sl ([.int p0])).length) Slot.unset).toArray = ls at hl ⊢
  have hl : lv_has ls 1 [(0, .int p0)] := hl
  unfold pX6_isPlace at hw
  refine lv_iload_n hx hb dX6_isPlace_0 rfl (lv_at hl 0 rfl) ?_
  refine lv_i2l (v := p0.toInt64) hx hb dX6_isPlace_1 rfl ?_
  refine lv_lconst (v := 0) hx hb dX6_isPlace_2 (by decide) ?_
  refine lv_ldc2 (v := 15) hx hb hown (hts (.constantLong RX6 41 (15)) (List.mem_of_getElem? (i := 1) rfl)) dX6_isPlace_3 ?_
  refine gSi (As := [.long p0.toInt64, .long 0, .long 15]) (rest := []) (cs' := ([] : va_W)) ⟨hx, hb, hml, hown, hts⟩ (kX6_in l D kI kC kG kJ p0.toInt64 0 15 _ hw) (va_cwS 3 hts gX6_isPlace_X6_in rfl rfl rfl hdX6_in ⟨Nat.le_of_ble_eq_true rfl, Nat.le_of_ble_eq_true rfl⟩) hK hP hE hS [] rfl rfl hl.1 rfl (Nat.le_of_ble_eq_true rfl) dX6_isPlace_6 ⟨Nat.le_of_ble_eq_true rfl, Nat.le_of_ble_eq_true rfl⟩ (fun r1 hw => ?_)
  obtain ⟨hn, hw⟩ := hw
  exact W.zret (v := r1) hx hb hr hn (fun t ht hW => ⟨_, rfl, hw, ht⟩) (fun _ h => by cases h) dX6_isPlace_9
set_option maxHeartbeats 4000000 in
set_option maxRecDepth 100000 in
theorem kX6_count (l : Launch) (D : va_G) (kI kC kG kJ : ClassId) (mo m0 m1 m2 m3 m4 m5 m6 m7 : Nat) (u : SM) (Z : Int32 → Prop) (hw : pX6_count u Z) : Met l yX6_count wsX6_count ({ frames := 0, cells := 0, slots := 0, locals := 0 } : Room) (gPr D (gT kI kC kG kJ) [.ref mo] (wM kI mo m0 m1 m2 m3 m4 m5 m6 m7 u)) (vp_Si Z) 0 0 (fun _ => False) := by
  refine Met.ofW (cc := cX6_count) (maxL := 3) (ret := (some .int)) (by decide) rfl ?_
  intro p e s m args below meth c s₁ B hml hv
  obtain ⟨rfl, hP, hK, hE⟩ := hv
  have hx := B.exec
  have hb := B.bytes
  have hr := B.returns
  have hts := atoms_spec (ws := wsX6_count) B.pre
  have hown : s.vm.findClass RX6 = some m.cls := findClass_of_methodNamed B.named
  have hlocks := B.notSynchronized
  have hS : va_S (fun _ => False) s.heap s.heap [] := va_S.rf
  have hl := lv_entry ([.ref mo]) (n := 3) (Nat.le_of_ble_eq_true rfl)
  rw [lg_entry_eq]
  generalize (lg_sl ([.ref mo]) ++ List.replicate (3 - (lg_sl ([.ref mo])).length) Slot.unset).toArray = ls at hl ⊢
  have hl : lv_has ls 3 [(0, .ref mo)] := hl
  have L4 : ∀ (_ : Unit), ∀ (n : Nat), ∀ (v1 : Int32) (v2 : Int32) (ls : Array Slot), lv_has ls 3 [(0, .ref mo), (1, .int v1), (2, .int v2)] → pX6_count_4 Z u n v1 v2 → W p l e (headSpec wsX6_count ({ frames := 0, cells := 0, slots := 0, locals := 0 } : Room)).room s m ([.ref mo] : List Value).toArray below meth c s.heap [] 0 0 (MQ below (vp_Si Z) ([.ref mo] : List Value).toArray s 0 0 (fun _ => False)) (F0 m 4 ls []) := by
    intro _ n
    induction n with
    | zero => intro v1 v2 ls hl hw; exact hw.elim
    | succ n ih =>
    intro v1 v2 ls hl hw
    rw [pX6_count_4] at hw
    refine lv_iload_n hx hb dX6_count_4 rfl (lv_at hl 2 rfl) ?_
    refine lv_bipush (v := 16) hx hb dX6_count_5 (by decide) ?_
    refine lv_icmp_ge (tgt := 35) hx hb dX6_count_7 (by decide) (fun c1 => ?_) (fun c1 => ?_)
    · replace hw := Eq.mp (if_pos c1) hw
      refine lv_iload_n hx hb dX6_count_35 rfl (lv_at hl 1 rfl) ?_
      exact W.iret (v := v1) hx hb hr (fun t ht hW => ⟨_, rfl, hw, ht⟩) (fun _ h => by cases h) dX6_count_36
    · replace hw := Eq.mp (if_neg c1) hw
      refine lv_iload_n hx hb dX6_count_10 rfl (lv_at hl 1 rfl) ?_
      refine lv_aload_n hx hb dX6_count_11 rfl (lv_at hl 0 rfl) ?_
      refine va_get (D := D) (ci := 5) (v := .ref m0) (C := RX6) (T := TX6) (N := 18) hx hb hts (fun _ h => List.mem_cons_of_mem _ (List.mem_append_right _ h)) hown hK hP 0 rfl rfl 0 (by decide) (hts (.fieldLink RX6 7 "HazelGiftModel" "all" "[I") (List.mem_of_getElem? (i := 1) rfl)) (fun _ h9 => h9) rfl dX6_count_12 ?_
      refine lv_iconst (v := 0) hx hb dX6_count_15 (by decide) ?_
      refine lv_iload_n hx hb dX6_count_16 rfl (lv_at hl 2 rfl) ?_
      refine lv_iadd hx hb dX6_count_17 ?_
      obtain ⟨hi2, hw⟩ := hw
      refine gIald (k := ((0 + v2)).toNatClampNeg) hx hb hK hP 1 0 rfl rfl hi2 rfl dX6_count_18 ?_
      refine lv_if_le (tgt := 26) hx hb dX6_count_19 (by decide) (fun c3 => ?_) (fun c3 => ?_)
      · replace hw := Eq.mp (if_pos c3) hw
        refine lv_iconst (v := 0) hx hb dX6_count_26 (by decide) ?_
        refine lv_iadd hx hb dX6_count_27 ?_
        refine lv_topi (fun x4 ex4 => ?_)
        replace hw := hw x4 ex4
        refine lv_istore_n (lv' := [(1, .int x4), (0, .ref mo), (2, .int v2)]) hx hb dX6_count_28 rfl hl (by decide) rfl (fun ls hl => ?_)
        obtain ⟨x5, ex5⟩ : ∃ y : Int32, y = (v2 + 1) := ⟨_, rfl⟩
        replace hw := hw x5 ex5
        refine lv_iinc (v := x5) (lv' := [(2, .int x5), (1, .int x4), (0, .ref mo)]) hx hb dX6_count_29 hl (k := 2) rfl (by rw [ex5]; rfl) (by decide) rfl (fun ls hl => ?_)
        refine lv_goto (tgt := 4) hx hb dX6_count_32 (by decide) ?_
        exact ih x4 x5 ls (lv_sub hl [2, 1, 0] rfl) hw
      · replace hw := Eq.mp (if_neg c3) hw
        refine lv_iconst (v := 1) hx hb dX6_count_22 (by decide) ?_
        refine lv_goto (tgt := 27) hx hb dX6_count_23 (by decide) ?_
        refine lv_iadd hx hb dX6_count_27 ?_
        refine lv_topi (fun x6 ex6 => ?_)
        replace hw := hw x6 ex6
        refine lv_istore_n (lv' := [(1, .int x6), (0, .ref mo), (2, .int v2)]) hx hb dX6_count_28 rfl hl (by decide) rfl (fun ls hl => ?_)
        obtain ⟨x7, ex7⟩ : ∃ y : Int32, y = (v2 + 1) := ⟨_, rfl⟩
        replace hw := hw x7 ex7
        refine lv_iinc (v := x7) (lv' := [(2, .int x7), (1, .int x6), (0, .ref mo)]) hx hb dX6_count_29 hl (k := 2) rfl (by rw [ex7]; rfl) (by decide) rfl (fun ls hl => ?_)
        refine lv_goto (tgt := 4) hx hb dX6_count_32 (by decide) ?_
        exact ih x6 x7 ls (lv_sub hl [2, 1, 0] rfl) hw
  unfold pX6_count at hw
  refine lv_iconst (v := 0) hx hb dX6_count_0 (by decide) ?_
  refine lv_istore_n (lv' := [(1, .int 0), (0, .ref mo)]) hx hb dX6_count_1 rfl hl (by decide) rfl (fun ls hl => ?_)
  refine lv_iconst (v := 0) hx hb dX6_count_2 (by decide) ?_
  refine lv_istore_n (lv' := [(2, .int 0), (1, .int 0), (0, .ref mo)]) hx hb dX6_count_3 rfl hl (by decide) rfl (fun ls hl => ?_)
  obtain ⟨n9, hw⟩ := hw
  exact L4 () n9 0 0 ls (lv_sub hl [2, 1, 0] rfl) hw
set_option maxHeartbeats 4000000 in
set_option maxRecDepth 100000 in
theorem kX6_isOverNow (l : Launch) (D : va_G) (kI kC kG kJ : ClassId) (mo m0 m1 m2 m3 m4 m5 m6 m7 : Nat) (u : SM) (Z : Int32 → Prop) (hw : pX6_isOverNow u Z) : Met l yX6_isOverNow wsX6_isOverNow ({ frames := 1, cells := 0, slots := 0, locals := 22 } : Room) (gPr D (gT kI kC kG kJ) [.ref mo] (wM kI mo m0 m1 m2 m3 m4 m5 m6 m7 u)) (vp_Si Z) 0 0 (fun _ => False) := by
  refine Met.ofW (cc := cX6_isOverNow) (maxL := 1) (ret := (some .boolean)) (by decide) rfl ?_
  intro p e s m args below meth c s₁ B hml hv
  obtain ⟨rfl, hP, hK, hE⟩ := hv
  have hx := B.exec
  have hb := B.bytes
  have hr := B.returns
  have hts := atoms_spec (ws := wsX6_isOverNow) B.pre
  have hown : s.vm.findClass RX6 = some m.cls := findClass_of_methodNamed B.named
  have hlocks := B.notSynchronized
  have hS : va_S (fun _ => False) s.heap s.heap [] := va_S.rf
  have hl := lv_entry ([.ref mo]) (n := 1) (Nat.le_of_ble_eq_true rfl)
  rw [lg_entry_eq]
  generalize (lg_sl ([.ref mo]) ++ List.replicate (1 - (lg_sl ([.ref mo])).length) Slot.unset).toArray = ls at hl ⊢
  have hl : lv_has ls 1 [(0, .ref mo)] := hl
  unfold pX6_isOverNow at hw
  refine lv_aload_n hx hb dX6_isOverNow_0 rfl (lv_at hl 0 rfl) ?_
  refine va_get (D := D) (ci := 5) (v := .ref m0) (C := RX6) (T := TX6) (N := 18) hx hb hts (fun _ h => List.mem_cons_of_mem _ (List.mem_append_right _ h)) hown hK hP 0 rfl rfl 0 (by decide) (hts (.fieldLink RX6 7 "HazelGiftModel" "all" "[I") (List.mem_of_getElem? (i := 1) rfl)) (fun _ h9 => h9) rfl dX6_isOverNow_1 ?_
  refine lv_bipush (v := 20) hx hb dX6_isOverNow_4 (by decide) ?_
  refine gIald (k := 20) hx hb hK hP 1 0 rfl rfl (gin (by decide)) (by decide) dX6_isOverNow_6 ?_
  refine lv_if_gt (tgt := 19) hx hb dX6_isOverNow_7 (by decide) (fun c1 => ?_) (fun c1 => ?_)
  · replace hw := Eq.mp (if_pos c1) hw
    refine lv_iconst (v := 1) hx hb dX6_isOverNow_19 (by decide) ?_
    refine lv_goto (tgt := 24) hx hb dX6_isOverNow_20 (by decide) ?_
    exact W.zret (v := 1) hx hb hr rfl (fun t ht hW => ⟨_, rfl, hw, ht⟩) (fun _ h => by cases h) dX6_isOverNow_24
  · replace hw := Eq.mp (if_neg c1) hw
    refine lv_aload_n hx hb dX6_isOverNow_10 rfl (lv_at hl 0 rfl) ?_
    refine gVi (As := []) (rest := []) (cs' := wM kI mo m0 m1 m2 m3 m4 m5 m6 m7 u) ⟨hx, hb, hml, hown, hts⟩ (kX6_count l D kI kC kG kJ mo m0 m1 m2 m3 m4 m5 m6 m7 u _ hw) (cwV 0 hts gX6_isOverNow_X6_count rfl rfl rfl hdX6_count ⟨Nat.le_of_ble_eq_true rfl, Nat.le_of_ble_eq_true rfl⟩) hK hP hE hS [0, 1, 2, 3, 4, 5, 6, 7, 8] rfl (ci := 5) (q0 := 0) rfl rfl rfl rfl hl.1 rfl (Nat.le_of_ble_eq_true rfl) dX6_isOverNow_11 ⟨Nat.le_of_ble_eq_true rfl, Nat.le_of_ble_eq_true rfl⟩ (fun r2 hw => ?_)
    refine lv_bipush (v := 16) hx hb dX6_isOverNow_14 (by decide) ?_
    refine lv_icmp_ne (tgt := 23) hx hb dX6_isOverNow_16 (by decide) (fun c3 => ?_) (fun c3 => ?_)
    · replace hw := Eq.mp (if_neg c3) hw
      refine lv_iconst (v := 0) hx hb dX6_isOverNow_23 (by decide) ?_
      exact W.zret (v := 0) hx hb hr rfl (fun t ht hW => ⟨_, rfl, hw, ht⟩) (fun _ h => by cases h) dX6_isOverNow_24
    · replace hw := Eq.mp (if_pos c3) hw
      refine lv_iconst (v := 1) hx hb dX6_isOverNow_19 (by decide) ?_
      refine lv_goto (tgt := 24) hx hb dX6_isOverNow_20 (by decide) ?_
      exact W.zret (v := 1) hx hb hr rfl (fun t ht hW => ⟨_, rfl, hw, ht⟩) (fun _ h => by cases h) dX6_isOverNow_24
set_option maxHeartbeats 4000000 in
set_option maxRecDepth 100000 in
theorem kX6_cell (l : Launch) (D : va_G) (kI kC kG kJ : ClassId) (mo m0 m1 m2 m3 m4 m5 m6 m7 : Nat) (u : SM) (p0 : Int32) (Z : Int32 → Prop) (hw : pX6_cell p0 u Z) : Met l yX6_cell wsX6_cell ({ frames := 0, cells := 0, slots := 0, locals := 0 } : Room) (gPr D (gT kI kC kG kJ) [.ref mo, .int p0] (wM kI mo m0 m1 m2 m3 m4 m5 m6 m7 u)) (vp_Si Z) 0 0 (fun _ => False) := by
  refine Met.ofW (cc := cX6_cell) (maxL := 3) (ret := (some .int)) (by decide) rfl ?_
  intro p e s m args below meth c s₁ B hml hv
  obtain ⟨rfl, hP, hK, hE⟩ := hv
  have hx := B.exec
  have hb := B.bytes
  have hr := B.returns
  have hts := atoms_spec (ws := wsX6_cell) B.pre
  have hown : s.vm.findClass RX6 = some m.cls := findClass_of_methodNamed B.named
  have hlocks := B.notSynchronized
  have hS : va_S (fun _ => False) s.heap s.heap [] := va_S.rf
  have hl := lv_entry ([.ref mo, .int p0]) (n := 3) (Nat.le_of_ble_eq_true rfl)
  rw [lg_entry_eq]
  generalize (lg_sl ([.ref mo, .int p0]) ++ List.replicate (3 - (lg_sl ([.ref mo, .int p0])).length) Slot.unset).toArray = ls at hl ⊢
  have hl : lv_has ls 3 [(0, .ref mo), (1, .int p0)] := hl
  have L2 : ∀ (v1 : Int32), ∀ (n : Nat), ∀ (v2 : Int32) (ls : Array Slot), lv_has ls 3 [(0, .ref mo), (1, .int v1), (2, .int v2)] → pX6_cell_2 Z v1 u n v2 → W p l e (headSpec wsX6_cell ({ frames := 0, cells := 0, slots := 0, locals := 0 } : Room)).room s m ([.ref mo, .int p0] : List Value).toArray below meth c s.heap [] 0 0 (MQ below (vp_Si Z) ([.ref mo, .int p0] : List Value).toArray s 0 0 (fun _ => False)) (F0 m 2 ls []) := by
    intro v1 n
    induction n with
    | zero => intro v2 ls hl hw; exact hw.elim
    | succ n ih =>
    intro v2 ls hl hw
    rw [pX6_cell_2] at hw
    refine lv_iload_n hx hb dX6_cell_2 rfl (lv_at hl 2 rfl) ?_
    refine lv_bipush (v := 16) hx hb dX6_cell_3 (by decide) ?_
    refine lv_icmp_ge (tgt := 30) hx hb dX6_cell_5 (by decide) (fun c1 => ?_) (fun c1 => ?_)
    · replace hw := Eq.mp (if_pos c1) hw
      refine lv_iconst (v := (-1)) hx hb dX6_cell_30 (by decide) ?_
      exact W.iret (v := (-1)) hx hb hr (fun t ht hW => ⟨_, rfl, hw, ht⟩) (fun _ h => by cases h) dX6_cell_31
    · replace hw := Eq.mp (if_neg c1) hw
      refine lv_aload_n hx hb dX6_cell_8 rfl (lv_at hl 0 rfl) ?_
      refine va_get (D := D) (ci := 5) (v := .ref m0) (C := RX6) (T := TX6) (N := 18) hx hb hts (fun _ h => List.mem_cons_of_mem _ (List.mem_append_right _ h)) hown hK hP 0 rfl rfl 0 (by decide) (hts (.fieldLink RX6 7 "HazelGiftModel" "all" "[I") (List.mem_of_getElem? (i := 1) rfl)) (fun _ h9 => h9) rfl dX6_cell_9 ?_
      refine lv_iconst (v := 0) hx hb dX6_cell_12 (by decide) ?_
      refine lv_iload_n hx hb dX6_cell_13 rfl (lv_at hl 2 rfl) ?_
      refine lv_iadd hx hb dX6_cell_14 ?_
      obtain ⟨hi2, hw⟩ := hw
      refine gIald (k := ((0 + v2)).toNatClampNeg) hx hb hK hP 1 0 rfl rfl hi2 rfl dX6_cell_15 ?_
      refine lv_iload_n hx hb dX6_cell_16 rfl (lv_at hl 1 rfl) ?_
      refine lv_iconst (v := 1) hx hb dX6_cell_17 (by decide) ?_
      refine lv_iadd hx hb dX6_cell_18 ?_
      refine lv_icmp_ne (tgt := 24) hx hb dX6_cell_19 (by decide) (fun c3 => ?_) (fun c3 => ?_)
      · replace hw := Eq.mp (if_neg c3) hw
        obtain ⟨x4, ex4⟩ : ∃ y : Int32, y = (v2 + 1) := ⟨_, rfl⟩
        replace hw := hw x4 ex4
        refine lv_iinc (v := x4) (lv' := [(2, .int x4), (0, .ref mo), (1, .int v1)]) hx hb dX6_cell_24 hl (k := 2) rfl (by rw [ex4]; rfl) (by decide) rfl (fun ls hl => ?_)
        refine lv_goto (tgt := 2) hx hb dX6_cell_27 (by decide) ?_
        exact ih x4 ls (lv_sub hl [1, 2, 0] rfl) hw
      · replace hw := Eq.mp (if_pos c3) hw
        refine lv_iload_n hx hb dX6_cell_22 rfl (lv_at hl 2 rfl) ?_
        exact W.iret (v := v2) hx hb hr (fun t ht hW => ⟨_, rfl, hw, ht⟩) (fun _ h => by cases h) dX6_cell_23
  unfold pX6_cell at hw
  refine lv_iconst (v := 0) hx hb dX6_cell_0 (by decide) ?_
  refine lv_istore_n (lv' := [(2, .int 0), (0, .ref mo), (1, .int p0)]) hx hb dX6_cell_1 rfl hl (by decide) rfl (fun ls hl => ?_)
  obtain ⟨n9, hw⟩ := hw
  exact L2 p0 n9 0 ls (lv_sub hl [1, 2, 0] rfl) hw
set_option maxHeartbeats 4000000 in
set_option maxRecDepth 100000 in
theorem kX6_mover (l : Launch) (D : va_G) (kI kC kG kJ : ClassId) (mo m0 m1 m2 m3 m4 m5 m6 m7 : Nat) (u : SM) (Z : Int32 → Prop) (hw : pX6_mover u Z) : Met l yX6_mover wsX6_mover ({ frames := 1, cells := 0, slots := 0, locals := 22 } : Room) (gPr D (gT kI kC kG kJ) [.ref mo] (wM kI mo m0 m1 m2 m3 m4 m5 m6 m7 u)) (vp_Si Z) 0 0 (fun _ => False) := by
  refine Met.ofW (cc := cX6_mover) (maxL := 2) (ret := (some .int)) (by decide) rfl ?_
  intro p e s m args below meth c s₁ B hml hv
  obtain ⟨rfl, hP, hK, hE⟩ := hv
  have hx := B.exec
  have hb := B.bytes
  have hr := B.returns
  have hts := atoms_spec (ws := wsX6_mover) B.pre
  have hown : s.vm.findClass RX6 = some m.cls := findClass_of_methodNamed B.named
  have hlocks := B.notSynchronized
  have hS : va_S (fun _ => False) s.heap s.heap [] := va_S.rf
  have hl := lv_entry ([.ref mo]) (n := 2) (Nat.le_of_ble_eq_true rfl)
  rw [lg_entry_eq]
  generalize (lg_sl ([.ref mo]) ++ List.replicate (2 - (lg_sl ([.ref mo])).length) Slot.unset).toArray = ls at hl ⊢
  have hl : lv_has ls 2 [(0, .ref mo)] := hl
  unfold pX6_mover at hw
  refine lv_aload_n hx hb dX6_mover_0 rfl (lv_at hl 0 rfl) ?_
  refine gVi (As := []) (rest := []) (cs' := wM kI mo m0 m1 m2 m3 m4 m5 m6 m7 u) ⟨hx, hb, hml, hown, hts⟩ (kX6_count l D kI kC kG kJ mo m0 m1 m2 m3 m4 m5 m6 m7 u _ hw) (cwV 0 hts gX6_mover_X6_count rfl rfl rfl hdX6_count ⟨Nat.le_of_ble_eq_true rfl, Nat.le_of_ble_eq_true rfl⟩) hK hP hE hS [0, 1, 2, 3, 4, 5, 6, 7, 8] rfl (ci := 5) (q0 := 0) rfl rfl rfl rfl hl.1 rfl (Nat.le_of_ble_eq_true rfl) dX6_mover_1 ⟨Nat.le_of_ble_eq_true rfl, Nat.le_of_ble_eq_true rfl⟩ (fun r1 hw => ?_)
  refine lv_iconst (v := 2) hx hb dX6_mover_4 (by decide) ?_
  refine lv_irem hx hb dX6_mover_5 (by decide) ?_
  refine lv_topi (fun x2 ex2 => ?_)
  replace hw := hw x2 ex2
  refine lv_istore_n (lv' := [(1, .int x2), (0, .ref mo)]) hx hb dX6_mover_6 rfl hl (by decide) rfl (fun ls hl => ?_)
  refine lv_aload_n hx hb dX6_mover_7 rfl (lv_at hl 1 rfl) ?_
  refine va_get (D := D) (ci := 5) (v := .ref m0) (C := RX6) (T := TX6) (N := 18) hx hb hts (fun _ h => List.mem_cons_of_mem _ (List.mem_append_right _ h)) hown hK hP 0 rfl rfl 0 (by decide) (hts (.fieldLink RX6 7 "HazelGiftModel" "all" "[I") (List.mem_of_getElem? (i := 1) rfl)) (fun _ h9 => h9) rfl dX6_mover_8 ?_
  refine lv_bipush (v := 16) hx hb dX6_mover_11 (by decide) ?_
  refine gIald (k := 16) hx hb hK hP 1 0 rfl rfl (gin (by decide)) (by decide) dX6_mover_13 ?_
  refine lv_if_le (tgt := 23) hx hb dX6_mover_14 (by decide) (fun c3 => ?_) (fun c3 => ?_)
  · replace hw := Eq.mp (if_pos c3) hw
    refine lv_iload_n hx hb dX6_mover_23 rfl (lv_at hl 0 rfl) ?_
    exact W.iret (v := x2) hx hb hr (fun t ht hW => ⟨_, rfl, hw, ht⟩) (fun _ h => by cases h) dX6_mover_24
  · replace hw := Eq.mp (if_neg c3) hw
    refine lv_iconst (v := 1) hx hb dX6_mover_17 (by decide) ?_
    refine lv_iload_n hx hb dX6_mover_18 rfl (lv_at hl 0 rfl) ?_
    refine lv_isub hx hb dX6_mover_19 ?_
    refine lv_goto (tgt := 24) hx hb dX6_mover_20 (by decide) ?_
    exact W.iret (v := (1 - x2)) hx hb hr (fun t ht hW => ⟨_, rfl, hw, ht⟩) (fun _ h => by cases h) dX6_mover_24
set_option maxHeartbeats 4000000 in
set_option maxRecDepth 100000 in
theorem kX6_linesNow (l : Launch) (D : va_G) (kI kC kG kJ : ClassId) (mo m0 m1 m2 m3 m4 m5 m6 m7 : Nat) (u : SM) (Z : Int32 → Prop) (hw : pX6_linesNow u Z) : Met l yX6_linesNow wsX6_linesNow ({ frames := 0, cells := 0, slots := 0, locals := 0 } : Room) (gPr D (gT kI kC kG kJ) [.ref mo] (wM kI mo m0 m1 m2 m3 m4 m5 m6 m7 u)) (vp_Si Z) 0 0 (fun _ => False) := by
  refine Met.ofW (cc := cX6_linesNow) (maxL := 1) (ret := (some .int)) (by decide) rfl ?_
  intro p e s m args below meth c s₁ B hml hv
  obtain ⟨rfl, hP, hK, hE⟩ := hv
  have hx := B.exec
  have hb := B.bytes
  have hr := B.returns
  have hts := atoms_spec (ws := wsX6_linesNow) B.pre
  have hown : s.vm.findClass RX6 = some m.cls := findClass_of_methodNamed B.named
  have hlocks := B.notSynchronized
  have hS : va_S (fun _ => False) s.heap s.heap [] := va_S.rf
  have hl := lv_entry ([.ref mo]) (n := 1) (Nat.le_of_ble_eq_true rfl)
  rw [lg_entry_eq]
  generalize (lg_sl ([.ref mo]) ++ List.replicate (1 - (lg_sl ([.ref mo])).length) Slot.unset).toArray = ls at hl ⊢
  have hl : lv_has ls 1 [(0, .ref mo)] := hl
  unfold pX6_linesNow at hw
  refine lv_aload_n hx hb dX6_linesNow_0 rfl (lv_at hl 0 rfl) ?_
  refine va_get (D := D) (ci := 5) (v := .ref m0) (C := RX6) (T := TX6) (N := 18) hx hb hts (fun _ h => List.mem_cons_of_mem _ (List.mem_append_right _ h)) hown hK hP 0 rfl rfl 0 (by decide) (hts (.fieldLink RX6 7 "HazelGiftModel" "all" "[I") (List.mem_of_getElem? (i := 1) rfl)) (fun _ h9 => h9) rfl dX6_linesNow_1 ?_
  refine lv_bipush (v := 17) hx hb dX6_linesNow_4 (by decide) ?_
  refine gIald (k := 17) hx hb hK hP 1 0 rfl rfl (gin (by decide)) (by decide) dX6_linesNow_6 ?_
  refine lv_if_ne (tgt := 15) hx hb dX6_linesNow_7 (by decide) (fun c1 => ?_) (fun c1 => ?_)
  · replace hw := Eq.mp (if_neg c1) hw
    refine lv_bipush (v := 19) hx hb dX6_linesNow_15 (by decide) ?_
    exact W.iret (v := 19) hx hb hr (fun t ht hW => ⟨_, rfl, hw, ht⟩) (fun _ h => by cases h) dX6_linesNow_17
  · replace hw := Eq.mp (if_pos c1) hw
    refine lv_bipush (v := 10) hx hb dX6_linesNow_10 (by decide) ?_
    refine lv_goto (tgt := 17) hx hb dX6_linesNow_12 (by decide) ?_
    exact W.iret (v := 10) hx hb hr (fun t ht hW => ⟨_, rfl, hw, ht⟩) (fun _ h => by cases h) dX6_linesNow_17
set_option maxHeartbeats 4000000 in
set_option maxRecDepth 100000 in
theorem kX6_cellOfLine (l : Launch) (D : va_G) (kI kC kG kJ : ClassId) (p0 : Int32) (p1 : Int32) (Z : Int32 → Prop) (hw : pX6_cellOfLine p0 p1 Z) : Met l yX6_cellOfLine wsX6_cellOfLine ({ frames := 0, cells := 0, slots := 0, locals := 0 } : Room) (gPr D (gT kI kC kG kJ) [.int p0, .int p1] (([] : va_W))) (vp_Si Z) 0 0 (fun _ => False) := by
  refine Met.ofW (cc := cX6_cellOfLine) (maxL := 3) (ret := (some .int)) (by decide) rfl ?_
  intro p e s m args below meth c s₁ B hml hv
  obtain ⟨rfl, hP, hK, hE⟩ := hv
  have hx := B.exec
  have hb := B.bytes
  have hr := B.returns
  have hts := atoms_spec (ws := wsX6_cellOfLine) B.pre
  have hown : s.vm.findClass RX6 = some m.cls := findClass_of_methodNamed B.named
  have hlocks := B.notSynchronized
  have hS : va_S (fun _ => False) s.heap s.heap [] := va_S.rf
  have hl := lv_entry ([.int p0, .int p1]) (n := 3) (Nat.le_of_ble_eq_true rfl)
  rw [lg_entry_eq]
  generalize (lg_sl ([.int p0, .int p1]) ++ List.replicate (3 - (lg_sl ([.int p0, .int p1])).length) Slot.unset).toArray = ls at hl ⊢
  have hl : lv_has ls 3 [(0, .int p0), (1, .int p1)] := hl
  unfold pX6_cellOfLine at hw
  refine lv_iload_n hx hb dX6_cellOfLine_0 rfl (lv_at hl 0 rfl) ?_
  refine lv_iconst (v := 4) hx hb dX6_cellOfLine_1 (by decide) ?_
  refine lv_icmp_ge (tgt := 11) hx hb dX6_cellOfLine_2 (by decide) (fun c1 => ?_) (fun c1 => ?_)
  · replace hw := Eq.mp (if_pos c1) hw
    refine lv_iload_n hx hb dX6_cellOfLine_11 rfl (lv_at hl 0 rfl) ?_
    refine lv_bipush (v := 8) hx hb dX6_cellOfLine_12 (by decide) ?_
    refine lv_icmp_ge (tgt := 25) hx hb dX6_cellOfLine_14 (by decide) (fun c2 => ?_) (fun c2 => ?_)
    · replace hw := Eq.mp (if_pos c2) hw
      refine lv_iload_n hx hb dX6_cellOfLine_25 rfl (lv_at hl 0 rfl) ?_
      refine lv_bipush (v := 10) hx hb dX6_cellOfLine_26 (by decide) ?_
      refine lv_icmp_ge (tgt := 49) hx hb dX6_cellOfLine_28 (by decide) (fun c3 => ?_) (fun c3 => ?_)
      · replace hw := Eq.mp (if_pos c3) hw
        refine lv_iconst (v := 4) hx hb dX6_cellOfLine_49 (by decide) ?_
        refine lv_iload_n hx hb dX6_cellOfLine_50 rfl (lv_at hl 0 rfl) ?_
        refine lv_bipush (v := 10) hx hb dX6_cellOfLine_51 (by decide) ?_
        refine lv_isub hx hb dX6_cellOfLine_53 ?_
        refine lv_iconst (v := 3) hx hb dX6_cellOfLine_54 (by decide) ?_
        refine lv_idiv hx hb dX6_cellOfLine_55 (by decide) ?_
        refine lv_imul hx hb dX6_cellOfLine_56 ?_
        refine lv_iload_n hx hb dX6_cellOfLine_57 rfl (lv_at hl 0 rfl) ?_
        refine lv_bipush (v := 10) hx hb dX6_cellOfLine_58 (by decide) ?_
        refine lv_isub hx hb dX6_cellOfLine_60 ?_
        refine lv_iconst (v := 3) hx hb dX6_cellOfLine_61 (by decide) ?_
        refine lv_irem hx hb dX6_cellOfLine_62 (by decide) ?_
        refine lv_iadd hx hb dX6_cellOfLine_63 ?_
        refine lv_topi (fun x4 ex4 => ?_)
        replace hw := hw x4 ex4
        refine lv_istore_n (lv' := [(2, .int x4), (0, .int p0), (1, .int p1)]) hx hb dX6_cellOfLine_64 rfl hl (by decide) rfl (fun ls hl => ?_)
        refine lv_iload_n hx hb dX6_cellOfLine_65 rfl (lv_at hl 0 rfl) ?_
        refine lv_iload_n hx hb dX6_cellOfLine_66 rfl (lv_at hl 2 rfl) ?_
        refine lv_iconst (v := 2) hx hb dX6_cellOfLine_67 (by decide) ?_
        refine lv_idiv hx hb dX6_cellOfLine_68 (by decide) ?_
        refine lv_iconst (v := 4) hx hb dX6_cellOfLine_69 (by decide) ?_
        refine lv_imul hx hb dX6_cellOfLine_70 ?_
        refine lv_iadd hx hb dX6_cellOfLine_71 ?_
        refine lv_iload_n hx hb dX6_cellOfLine_72 rfl (lv_at hl 2 rfl) ?_
        refine lv_iconst (v := 2) hx hb dX6_cellOfLine_73 (by decide) ?_
        refine lv_irem hx hb dX6_cellOfLine_74 (by decide) ?_
        refine lv_iadd hx hb dX6_cellOfLine_75 ?_
        exact W.iret (v := ((x4 + ((p1 / 2) * 4)) + (p1 - p1 / 2 * 2))) hx hb hr (fun t ht hW => ⟨_, rfl, hw, ht⟩) (fun _ h => by cases h) dX6_cellOfLine_76
      · replace hw := Eq.mp (if_neg c3) hw
        refine lv_iload_n hx hb dX6_cellOfLine_31 rfl (lv_at hl 0 rfl) ?_
        refine lv_bipush (v := 8) hx hb dX6_cellOfLine_32 (by decide) ?_
        refine lv_icmp_ne (tgt := 43) hx hb dX6_cellOfLine_34 (by decide) (fun c5 => ?_) (fun c5 => ?_)
        · replace hw := Eq.mp (if_neg c5) hw
          refine lv_iconst (v := 3) hx hb dX6_cellOfLine_43 (by decide) ?_
          refine lv_iload_n hx hb dX6_cellOfLine_44 rfl (lv_at hl 1 rfl) ?_
          refine lv_imul hx hb dX6_cellOfLine_45 ?_
          refine lv_iconst (v := 3) hx hb dX6_cellOfLine_46 (by decide) ?_
          refine lv_iadd hx hb dX6_cellOfLine_47 ?_
          exact W.iret (v := ((3 * p1) + 3)) hx hb hr (fun t ht hW => ⟨_, rfl, hw, ht⟩) (fun _ h => by cases h) dX6_cellOfLine_48
        · replace hw := Eq.mp (if_pos c5) hw
          refine lv_iconst (v := 5) hx hb dX6_cellOfLine_37 (by decide) ?_
          refine lv_iload_n hx hb dX6_cellOfLine_38 rfl (lv_at hl 1 rfl) ?_
          refine lv_imul hx hb dX6_cellOfLine_39 ?_
          refine lv_goto (tgt := 48) hx hb dX6_cellOfLine_40 (by decide) ?_
          exact W.iret (v := (5 * p1)) hx hb hr (fun t ht hW => ⟨_, rfl, hw, ht⟩) (fun _ h => by cases h) dX6_cellOfLine_48
    · replace hw := Eq.mp (if_neg c2) hw
      refine lv_iconst (v := 4) hx hb dX6_cellOfLine_17 (by decide) ?_
      refine lv_iload_n hx hb dX6_cellOfLine_18 rfl (lv_at hl 1 rfl) ?_
      refine lv_imul hx hb dX6_cellOfLine_19 ?_
      refine lv_iload_n hx hb dX6_cellOfLine_20 rfl (lv_at hl 0 rfl) ?_
      refine lv_iadd hx hb dX6_cellOfLine_21 ?_
      refine lv_iconst (v := 4) hx hb dX6_cellOfLine_22 (by decide) ?_
      refine lv_isub hx hb dX6_cellOfLine_23 ?_
      exact W.iret (v := (((4 * p1) + p0) - 4)) hx hb hr (fun t ht hW => ⟨_, rfl, hw, ht⟩) (fun _ h => by cases h) dX6_cellOfLine_24
  · replace hw := Eq.mp (if_neg c1) hw
    refine lv_iconst (v := 4) hx hb dX6_cellOfLine_5 (by decide) ?_
    refine lv_iload_n hx hb dX6_cellOfLine_6 rfl (lv_at hl 0 rfl) ?_
    refine lv_imul hx hb dX6_cellOfLine_7 ?_
    refine lv_iload_n hx hb dX6_cellOfLine_8 rfl (lv_at hl 1 rfl) ?_
    refine lv_iadd hx hb dX6_cellOfLine_9 ?_
    exact W.iret (v := ((4 * p0) + p1)) hx hb hr (fun t ht hW => ⟨_, rfl, hw, ht⟩) (fun _ h => by cases h) dX6_cellOfLine_10
set_option maxHeartbeats 4000000 in
set_option maxRecDepth 100000 in
theorem kX6_many (l : Launch) (D : va_G) (kI kC kG kJ : ClassId) (mo m0 m1 m2 m3 m4 m5 m6 m7 : Nat) (u : SM) (p0 : Int32) (Z : Int32 → Prop) (hw : pX6_many p0 u Z) : Met l yX6_many wsX6_many ({ frames := 1, cells := 0, slots := 0, locals := 22 } : Room) (gPr D (gT kI kC kG kJ) [.ref mo, .int p0] (wM kI mo m0 m1 m2 m3 m4 m5 m6 m7 u)) (vp_Si Z) 0 0 (fun _ => False) := by
  refine Met.ofW (cc := cX6_many) (maxL := 4) (ret := (some .int)) (by decide) rfl ?_
  intro p e s m args below meth c s₁ B hml hv
  obtain ⟨rfl, hP, hK, hE⟩ := hv
  have hx := B.exec
  have hb := B.bytes
  have hr := B.returns
  have hts := atoms_spec (ws := wsX6_many) B.pre
  have hown : s.vm.findClass RX6 = some m.cls := findClass_of_methodNamed B.named
  have hlocks := B.notSynchronized
  have hS : va_S (fun _ => False) s.heap s.heap [] := va_S.rf
  have hl := lv_entry ([.ref mo, .int p0]) (n := 4) (Nat.le_of_ble_eq_true rfl)
  rw [lg_entry_eq]
  generalize (lg_sl ([.ref mo, .int p0]) ++ List.replicate (4 - (lg_sl ([.ref mo, .int p0])).length) Slot.unset).toArray = ls at hl ⊢
  have hl : lv_has ls 4 [(0, .ref mo), (1, .int p0)] := hl
  have L4 : ∀ (v1 : Int32), ∀ (n : Nat), ∀ (v2 : Int32) (v3 : Int32) (ls : Array Slot), lv_has ls 4 [(0, .ref mo), (1, .int v1), (2, .int v2), (3, .int v3)] → pX6_many_4 Z v1 u n v2 v3 → W p l e (headSpec wsX6_many ({ frames := 1, cells := 0, slots := 0, locals := 22 } : Room)).room s m ([.ref mo, .int p0] : List Value).toArray below meth c s.heap [] 0 0 (MQ below (vp_Si Z) ([.ref mo, .int p0] : List Value).toArray s 0 0 (fun _ => False)) (F0 m 4 ls []) := by
    intro v1 n
    induction n with
    | zero => intro v2 v3 ls hl hw; exact hw.elim
    | succ n ih =>
    intro v2 v3 ls hl hw
    rw [pX6_many_4] at hw
    refine lv_iload_n hx hb dX6_many_4 rfl (lv_at hl 3 rfl) ?_
    refine lv_iconst (v := 4) hx hb dX6_many_5 (by decide) ?_
    refine lv_icmp_ge (tgt := 38) hx hb dX6_many_6 (by decide) (fun c1 => ?_) (fun c1 => ?_)
    · replace hw := Eq.mp (if_pos c1) hw
      refine lv_iload_n hx hb dX6_many_38 rfl (lv_at hl 2 rfl) ?_
      exact W.iret (v := v2) hx hb hr (fun t ht hW => ⟨_, rfl, hw, ht⟩) (fun _ h => by cases h) dX6_many_39
    · replace hw := Eq.mp (if_neg c1) hw
      refine lv_iload_n hx hb dX6_many_9 rfl (lv_at hl 2 rfl) ?_
      refine lv_aload_n hx hb dX6_many_10 rfl (lv_at hl 0 rfl) ?_
      refine va_get (D := D) (ci := 5) (v := .ref m0) (C := RX6) (T := TX6) (N := 18) hx hb hts (fun _ h => List.mem_cons_of_mem _ (List.mem_append_right _ h)) hown hK hP 0 rfl rfl 0 (by decide) (hts (.fieldLink RX6 7 "HazelGiftModel" "all" "[I") (List.mem_of_getElem? (i := 1) rfl)) (fun _ h9 => h9) rfl dX6_many_11 ?_
      refine lv_iconst (v := 0) hx hb dX6_many_14 (by decide) ?_
      refine lv_iload_n hx hb dX6_many_15 rfl (lv_at hl 1 rfl) ?_
      refine lv_iload_n hx hb dX6_many_16 rfl (lv_at hl 3 rfl) ?_
      refine gSi (As := [.int v1, .int v3]) (rest := [.int 0, .ref m0, .int v2]) (cs' := ([] : va_W)) ⟨hx, hb, hml, hown, hts⟩ (kX6_cellOfLine l D kI kC kG kJ v1 v3 _ hw) (va_cwS 2 hts gX6_many_X6_cellOfLine rfl rfl rfl hdX6_cellOfLine ⟨Nat.le_of_ble_eq_true rfl, Nat.le_of_ble_eq_true rfl⟩) hK hP hE hS [] rfl rfl hl.1 rfl (Nat.le_of_ble_eq_true rfl) dX6_many_17 ⟨Nat.le_of_ble_eq_true rfl, Nat.le_of_ble_eq_true rfl⟩ (fun r2 hw => ?_)
      refine lv_iadd hx hb dX6_many_20 ?_
      obtain ⟨hi3, hw⟩ := hw
      refine gIald (k := ((0 + r2)).toNatClampNeg) hx hb hK hP 1 0 rfl rfl hi3 rfl dX6_many_21 ?_
      refine lv_if_le (tgt := 29) hx hb dX6_many_22 (by decide) (fun c4 => ?_) (fun c4 => ?_)
      · replace hw := Eq.mp (if_pos c4) hw
        refine lv_iconst (v := 0) hx hb dX6_many_29 (by decide) ?_
        refine lv_iadd hx hb dX6_many_30 ?_
        refine lv_topi (fun x5 ex5 => ?_)
        replace hw := hw x5 ex5
        refine lv_istore_n (lv' := [(2, .int x5), (0, .ref mo), (1, .int v1), (3, .int v3)]) hx hb dX6_many_31 rfl hl (by decide) rfl (fun ls hl => ?_)
        obtain ⟨x6, ex6⟩ : ∃ y : Int32, y = (v3 + 1) := ⟨_, rfl⟩
        replace hw := hw x6 ex6
        refine lv_iinc (v := x6) (lv' := [(3, .int x6), (2, .int x5), (0, .ref mo), (1, .int v1)]) hx hb dX6_many_32 hl (k := 3) rfl (by rw [ex6]; rfl) (by decide) rfl (fun ls hl => ?_)
        refine lv_goto (tgt := 4) hx hb dX6_many_35 (by decide) ?_
        exact ih x5 x6 ls (lv_sub hl [2, 3, 1, 0] rfl) hw
      · replace hw := Eq.mp (if_neg c4) hw
        refine lv_iconst (v := 1) hx hb dX6_many_25 (by decide) ?_
        refine lv_goto (tgt := 30) hx hb dX6_many_26 (by decide) ?_
        refine lv_iadd hx hb dX6_many_30 ?_
        refine lv_topi (fun x7 ex7 => ?_)
        replace hw := hw x7 ex7
        refine lv_istore_n (lv' := [(2, .int x7), (0, .ref mo), (1, .int v1), (3, .int v3)]) hx hb dX6_many_31 rfl hl (by decide) rfl (fun ls hl => ?_)
        obtain ⟨x8, ex8⟩ : ∃ y : Int32, y = (v3 + 1) := ⟨_, rfl⟩
        replace hw := hw x8 ex8
        refine lv_iinc (v := x8) (lv' := [(3, .int x8), (2, .int x7), (0, .ref mo), (1, .int v1)]) hx hb dX6_many_32 hl (k := 3) rfl (by rw [ex8]; rfl) (by decide) rfl (fun ls hl => ?_)
        refine lv_goto (tgt := 4) hx hb dX6_many_35 (by decide) ?_
        exact ih x7 x8 ls (lv_sub hl [2, 3, 1, 0] rfl) hw
  unfold pX6_many at hw
  refine lv_iconst (v := 0) hx hb dX6_many_0 (by decide) ?_
  refine lv_istore_n (lv' := [(2, .int 0), (0, .ref mo), (1, .int p0)]) hx hb dX6_many_1 rfl hl (by decide) rfl (fun ls hl => ?_)
  refine lv_iconst (v := 0) hx hb dX6_many_2 (by decide) ?_
  refine lv_istore_n (lv' := [(3, .int 0), (2, .int 0), (0, .ref mo), (1, .int p0)]) hx hb dX6_many_3 rfl hl (by decide) rfl (fun ls hl => ?_)
  obtain ⟨n9, hw⟩ := hw
  exact L4 p0 n9 0 0 ls (lv_sub hl [2, 3, 1, 0] rfl) hw
set_option maxHeartbeats 4000000 in
set_option maxRecDepth 100000 in
theorem kX6_traits (l : Launch) (D : va_G) (kI kC kG kJ : ClassId) (p0 : Int32) (Z : Int32 → Prop) (hw : pX6_traits p0 Z) : Met l yX6_traits wsX6_traits ({ frames := 0, cells := 0, slots := 0, locals := 0 } : Room) (gPr D (gT kI kC kG kJ) [.int p0] (([] : va_W))) (vp_Si Z) 0 0 (fun _ => False) := by
  refine Met.ofW (cc := cX6_traits) (maxL := 1) (ret := (some .int)) (by decide) rfl ?_
  intro p e s m args below meth c s₁ B hml hv
  obtain ⟨rfl, hP, hK, hE⟩ := hv
  have hx := B.exec
  have hb := B.bytes
  have hr := B.returns
  have hts := atoms_spec (ws := wsX6_traits) B.pre
  have hown : s.vm.findClass RX6 = some m.cls := findClass_of_methodNamed B.named
  have hlocks := B.notSynchronized
  have hS : va_S (fun _ => False) s.heap s.heap [] := va_S.rf
  have hl := lv_entry ([.int p0]) (n := 1) (Nat.le_of_ble_eq_true rfl)
  rw [lg_entry_eq]
  generalize (lg_sl ([.int p0]) ++ List.replicate (1 - (lg_sl ([.int p0])).length) Slot.unset).toArray = ls at hl ⊢
  have hl : lv_has ls 1 [(0, .int p0)] := hl
  unfold pX6_traits at hw
  refine lv_iload_n hx hb dX6_traits_0 rfl (lv_at hl 0 rfl) ?_
  refine lv_bipush (v := 15) hx hb dX6_traits_1 (by decide) ?_
  refine lv_iload_n hx hb dX6_traits_3 rfl (lv_at hl 0 rfl) ?_
  refine lv_isub hx hb dX6_traits_4 ?_
  refine lv_iconst (v := 4) hx hb dX6_traits_5 (by decide) ?_
  refine lv_ishl hx hb dX6_traits_6 ?_
  refine lv_ior hx hb dX6_traits_7 ?_
  exact W.iret (v := (p0 ||| ((15 - p0) <<< (4 &&& 31)))) hx hb hr (fun t ht hW => ⟨_, rfl, hw, ht⟩) (fun _ h => by cases h) dX6_traits_8
set_option maxHeartbeats 4000000 in
set_option maxRecDepth 100000 in
theorem kX6_shared (l : Launch) (D : va_G) (kI kC kG kJ : ClassId) (mo m0 m1 m2 m3 m4 m5 m6 m7 : Nat) (u : SM) (p0 : Int32) (Z : Int32 → Prop) (hw : pX6_shared p0 u Z) : Met l yX6_shared wsX6_shared ({ frames := 1, cells := 0, slots := 0, locals := 22 } : Room) (gPr D (gT kI kC kG kJ) [.ref mo, .int p0] (wM kI mo m0 m1 m2 m3 m4 m5 m6 m7 u)) (vp_Si Z) 0 0 (fun _ => False) := by
  refine Met.ofW (cc := cX6_shared) (maxL := 5) (ret := (some .int)) (by decide) rfl ?_
  intro p e s m args below meth c s₁ B hml hv
  obtain ⟨rfl, hP, hK, hE⟩ := hv
  have hx := B.exec
  have hb := B.bytes
  have hr := B.returns
  have hts := atoms_spec (ws := wsX6_shared) B.pre
  have hown : s.vm.findClass RX6 = some m.cls := findClass_of_methodNamed B.named
  have hlocks := B.notSynchronized
  have hS : va_S (fun _ => False) s.heap s.heap [] := va_S.rf
  have hl := lv_entry ([.ref mo, .int p0]) (n := 5) (Nat.le_of_ble_eq_true rfl)
  rw [lg_entry_eq]
  generalize (lg_sl ([.ref mo, .int p0]) ++ List.replicate (5 - (lg_sl ([.ref mo, .int p0])).length) Slot.unset).toArray = ls at hl ⊢
  have hl : lv_has ls 5 [(0, .ref mo), (1, .int p0)] := hl
  have L6 : ∀ (v1 : Int32), ∀ (n : Nat), ∀ (v2 : Int32) (v3 : Int32) (ls : Array Slot), lv_has ls 5 [(0, .ref mo), (1, .int v1), (2, .int v2), (3, .int v3)] → pX6_shared_6 Z v1 u n v2 v3 → W p l e (headSpec wsX6_shared ({ frames := 1, cells := 0, slots := 0, locals := 22 } : Room)).room s m ([.ref mo, .int p0] : List Value).toArray below meth c s.heap [] 0 0 (MQ below (vp_Si Z) ([.ref mo, .int p0] : List Value).toArray s 0 0 (fun _ => False)) (F0 m 6 ls []) := by
    intro v1 n
    induction n with
    | zero => intro v2 v3 ls hl hw; exact hw.elim
    | succ n ih =>
    intro v2 v3 ls hl hw
    rw [pX6_shared_6] at hw
    refine lv_iload_n hx hb dX6_shared_6 rfl (lv_at hl 3 rfl) ?_
    refine lv_iconst (v := 4) hx hb dX6_shared_7 (by decide) ?_
    refine lv_icmp_ge (tgt := 52) hx hb dX6_shared_8 (by decide) (fun c1 => ?_) (fun c1 => ?_)
    · replace hw := Eq.mp (if_pos c1) hw
      refine lv_iload_n hx hb dX6_shared_52 rfl (lv_at hl 2 rfl) ?_
      exact W.iret (v := v2) hx hb hr (fun t ht hW => ⟨_, rfl, hw, ht⟩) (fun _ h => by cases h) dX6_shared_53
    · replace hw := Eq.mp (if_neg c1) hw
      refine lv_aload_n hx hb dX6_shared_11 rfl (lv_at hl 0 rfl) ?_
      refine va_get (D := D) (ci := 5) (v := .ref m0) (C := RX6) (T := TX6) (N := 18) hx hb hts (fun _ h => List.mem_cons_of_mem _ (List.mem_append_right _ h)) hown hK hP 0 rfl rfl 0 (by decide) (hts (.fieldLink RX6 7 "HazelGiftModel" "all" "[I") (List.mem_of_getElem? (i := 1) rfl)) (fun _ h9 => h9) rfl dX6_shared_12 ?_
      refine lv_iconst (v := 0) hx hb dX6_shared_15 (by decide) ?_
      refine lv_iload_n hx hb dX6_shared_16 rfl (lv_at hl 1 rfl) ?_
      refine lv_iload_n hx hb dX6_shared_17 rfl (lv_at hl 3 rfl) ?_
      refine gSi (As := [.int v1, .int v3]) (rest := [.int 0, .ref m0]) (cs' := ([] : va_W)) ⟨hx, hb, hml, hown, hts⟩ (kX6_cellOfLine l D kI kC kG kJ v1 v3 _ hw) (va_cwS 2 hts gX6_shared_X6_cellOfLine rfl rfl rfl hdX6_cellOfLine ⟨Nat.le_of_ble_eq_true rfl, Nat.le_of_ble_eq_true rfl⟩) hK hP hE hS [] rfl rfl hl.1 rfl (Nat.le_of_ble_eq_true rfl) dX6_shared_18 ⟨Nat.le_of_ble_eq_true rfl, Nat.le_of_ble_eq_true rfl⟩ (fun r2 hw => ?_)
      refine lv_iadd hx hb dX6_shared_21 ?_
      obtain ⟨hi3, hw⟩ := hw
      refine gIald (k := ((0 + r2)).toNatClampNeg) hx hb hK hP 1 0 rfl rfl hi3 rfl dX6_shared_22 ?_
      refine lv_topi (fun x4 ex4 => ?_)
      replace hw := hw x4 ex4
      refine lv_istore (lv' := [(4, .int x4), (0, .ref mo), (1, .int v1), (2, .int v2), (3, .int v3)]) hx hb dX6_shared_23 hl (by decide) rfl (fun ls hl => ?_)
      refine lv_iload_n hx hb dX6_shared_25 rfl (lv_at hl 3 rfl) ?_
      refine lv_iload hx hb dX6_shared_26 (lv_at hl 0 rfl) ?_
      refine lv_if_le (tgt := 41) hx hb dX6_shared_28 (by decide) (fun c5 => ?_) (fun c5 => ?_)
      · replace hw := Eq.mp (if_pos c5) hw
        refine lv_sipush (v := 255) hx hb dX6_shared_41 (by decide) ?_
        refine lv_iand hx hb dX6_shared_44 ?_
        refine lv_topi (fun x6 ex6 => ?_)
        replace hw := hw x6 ex6
        refine lv_istore_n (lv' := [(2, .int x6), (4, .int x4), (0, .ref mo), (1, .int v1), (3, .int v3)]) hx hb dX6_shared_45 rfl hl (by decide) rfl (fun ls hl => ?_)
        obtain ⟨x7, ex7⟩ : ∃ y : Int32, y = (v3 + 1) := ⟨_, rfl⟩
        replace hw := hw x7 ex7
        refine lv_iinc (v := x7) (lv' := [(3, .int x7), (2, .int x6), (4, .int x4), (0, .ref mo), (1, .int v1)]) hx hb dX6_shared_46 hl (k := 4) rfl (by rw [ex7]; rfl) (by decide) rfl (fun ls hl => ?_)
        refine lv_goto (tgt := 6) hx hb dX6_shared_49 (by decide) ?_
        exact ih x6 x7 ls (lv_sub hl [3, 4, 1, 0] rfl) hw
      · replace hw := Eq.mp (if_neg c5) hw
        refine lv_iload hx hb dX6_shared_31 (lv_at hl 0 rfl) ?_
        refine lv_iconst (v := 1) hx hb dX6_shared_33 (by decide) ?_
        refine lv_isub hx hb dX6_shared_34 ?_
        refine gSi (As := [.int (x4 - 1)]) (rest := [.int v2]) (cs' := ([] : va_W)) ⟨hx, hb, hml, hown, hts⟩ (kX6_traits l D kI kC kG kJ (x4 - 1) _ hw) (va_cwS 1 hts gX6_shared_X6_traits rfl rfl rfl hdX6_traits ⟨Nat.le_of_ble_eq_true rfl, Nat.le_of_ble_eq_true rfl⟩) hK hP hE hS [] rfl rfl hl.1 rfl (Nat.le_of_ble_eq_true rfl) dX6_shared_35 ⟨Nat.le_of_ble_eq_true rfl, Nat.le_of_ble_eq_true rfl⟩ (fun r8 hw => ?_)
        refine lv_goto (tgt := 44) hx hb dX6_shared_38 (by decide) ?_
        refine lv_iand hx hb dX6_shared_44 ?_
        refine lv_topi (fun x9 ex9 => ?_)
        replace hw := hw x9 ex9
        refine lv_istore_n (lv' := [(2, .int x9), (4, .int x4), (0, .ref mo), (1, .int v1), (3, .int v3)]) hx hb dX6_shared_45 rfl hl (by decide) rfl (fun ls hl => ?_)
        obtain ⟨x10, ex10⟩ : ∃ y : Int32, y = (v3 + 1) := ⟨_, rfl⟩
        replace hw := hw x10 ex10
        refine lv_iinc (v := x10) (lv' := [(3, .int x10), (2, .int x9), (4, .int x4), (0, .ref mo), (1, .int v1)]) hx hb dX6_shared_46 hl (k := 4) rfl (by rw [ex10]; rfl) (by decide) rfl (fun ls hl => ?_)
        refine lv_goto (tgt := 6) hx hb dX6_shared_49 (by decide) ?_
        exact ih x9 x10 ls (lv_sub hl [3, 4, 1, 0] rfl) hw
  unfold pX6_shared at hw
  refine lv_sipush (v := 255) hx hb dX6_shared_0 (by decide) ?_
  refine lv_istore_n (lv' := [(2, .int 255), (0, .ref mo), (1, .int p0)]) hx hb dX6_shared_3 rfl hl (by decide) rfl (fun ls hl => ?_)
  refine lv_iconst (v := 0) hx hb dX6_shared_4 (by decide) ?_
  refine lv_istore_n (lv' := [(3, .int 0), (2, .int 255), (0, .ref mo), (1, .int p0)]) hx hb dX6_shared_5 rfl hl (by decide) rfl (fun ls hl => ?_)
  obtain ⟨n9, hw⟩ := hw
  exact L6 p0 n9 255 0 ls (lv_sub hl [2, 3, 1, 0] rfl) hw
set_option maxHeartbeats 4000000 in
set_option maxRecDepth 100000 in
theorem kX6_won (l : Launch) (D : va_G) (kI kC kG kJ : ClassId) (mo m0 m1 m2 m3 m4 m5 m6 m7 : Nat) (u : SM) (Z : Int32 → Prop) (hw : pX6_won u Z) : Met l yX6_won wsX6_won ({ frames := 2, cells := 0, slots := 0, locals := 46 } : Room) (gPr D (gT kI kC kG kJ) [.ref mo] (wM kI mo m0 m1 m2 m3 m4 m5 m6 m7 u)) (vp_Si Z) 0 0 (fun _ => False) := by
  refine Met.ofW (cc := cX6_won) (maxL := 3) (ret := (some .int)) (by decide) rfl ?_
  intro p e s m args below meth c s₁ B hml hv
  obtain ⟨rfl, hP, hK, hE⟩ := hv
  have hx := B.exec
  have hb := B.bytes
  have hr := B.returns
  have hts := atoms_spec (ws := wsX6_won) B.pre
  have hown : s.vm.findClass RX6 = some m.cls := findClass_of_methodNamed B.named
  have hlocks := B.notSynchronized
  have hS : va_S (fun _ => False) s.heap s.heap [] := va_S.rf
  have hl := lv_entry ([.ref mo]) (n := 3) (Nat.le_of_ble_eq_true rfl)
  rw [lg_entry_eq]
  generalize (lg_sl ([.ref mo]) ++ List.replicate (3 - (lg_sl ([.ref mo])).length) Slot.unset).toArray = ls at hl ⊢
  have hl : lv_has ls 3 [(0, .ref mo)] := hl
  have L4 : ∀ (_ : Unit), ∀ (n : Nat), ∀ (v1 : Int32) (v2 : Int32) (ls : Array Slot), lv_has ls 3 [(0, .ref mo), (1, .int v1), (2, .int v2)] → pX6_won_4 Z u n v1 v2 → W p l e (headSpec wsX6_won ({ frames := 2, cells := 0, slots := 0, locals := 46 } : Room)).room s m ([.ref mo] : List Value).toArray below meth c s.heap [] 0 0 (MQ below (vp_Si Z) ([.ref mo] : List Value).toArray s 0 0 (fun _ => False)) (F0 m 4 ls []) := by
    intro _ n
    induction n with
    | zero => intro v1 v2 ls hl hw; exact hw.elim
    | succ n ih =>
    intro v1 v2 ls hl hw
    rw [pX6_won_4] at hw
    refine lv_iload_n hx hb dX6_won_4 rfl (lv_at hl 2 rfl) ?_
    refine lv_aload_n hx hb dX6_won_5 rfl (lv_at hl 0 rfl) ?_
    refine gVi (As := []) (rest := [.int v2]) (cs' := wM kI mo m0 m1 m2 m3 m4 m5 m6 m7 u) ⟨hx, hb, hml, hown, hts⟩ (kX6_linesNow l D kI kC kG kJ mo m0 m1 m2 m3 m4 m5 m6 m7 u _ hw) (cwV 0 hts gX6_won_X6_linesNow rfl rfl rfl hdX6_linesNow ⟨Nat.le_of_ble_eq_true rfl, Nat.le_of_ble_eq_true rfl⟩) hK hP hE hS [0, 1, 2, 3, 4, 5, 6, 7, 8] rfl (ci := 5) (q0 := 0) rfl rfl rfl rfl hl.1 rfl (Nat.le_of_ble_eq_true rfl) dX6_won_6 ⟨Nat.le_of_ble_eq_true rfl, Nat.le_of_ble_eq_true rfl⟩ (fun r1 hw => ?_)
    refine lv_icmp_ge (tgt := 43) hx hb dX6_won_9 (by decide) (fun c2 => ?_) (fun c2 => ?_)
    · replace hw := Eq.mp (if_pos c2) hw
      refine lv_iload_n hx hb dX6_won_43 rfl (lv_at hl 1 rfl) ?_
      exact W.iret (v := v1) hx hb hr (fun t ht hW => ⟨_, rfl, hw, ht⟩) (fun _ h => by cases h) dX6_won_44
    · replace hw := Eq.mp (if_neg c2) hw
      refine lv_iload_n hx hb dX6_won_12 rfl (lv_at hl 1 rfl) ?_
      refine lv_aload_n hx hb dX6_won_13 rfl (lv_at hl 0 rfl) ?_
      refine lv_iload_n hx hb dX6_won_14 rfl (lv_at hl 2 rfl) ?_
      refine gVi (As := [.int v2]) (rest := [.int v1]) (cs' := wM kI mo m0 m1 m2 m3 m4 m5 m6 m7 u) ⟨hx, hb, hml, hown, hts⟩ (kX6_many l D kI kC kG kJ mo m0 m1 m2 m3 m4 m5 m6 m7 u v2 _ hw) (cwV 1 hts gX6_won_X6_many rfl rfl rfl hdX6_many ⟨Nat.le_of_ble_eq_true rfl, Nat.le_of_ble_eq_true rfl⟩) hK hP hE hS [0, 1, 2, 3, 4, 5, 6, 7, 8] rfl (ci := 5) (q0 := 0) rfl rfl rfl rfl hl.1 rfl (Nat.le_of_ble_eq_true rfl) dX6_won_15 ⟨Nat.le_of_ble_eq_true rfl, Nat.le_of_ble_eq_true rfl⟩ (fun r3 hw => ?_)
      refine lv_iconst (v := 4) hx hb dX6_won_18 (by decide) ?_
      refine lv_icmp_ne (tgt := 34) hx hb dX6_won_19 (by decide) (fun c4 => ?_) (fun c4 => ?_)
      · replace hw := Eq.mp (if_neg c4) hw
        refine lv_iconst (v := 0) hx hb dX6_won_34 (by decide) ?_
        refine lv_iadd hx hb dX6_won_35 ?_
        refine lv_topi (fun x5 ex5 => ?_)
        replace hw := hw x5 ex5
        refine lv_istore_n (lv' := [(1, .int x5), (0, .ref mo), (2, .int v2)]) hx hb dX6_won_36 rfl hl (by decide) rfl (fun ls hl => ?_)
        obtain ⟨x6, ex6⟩ : ∃ y : Int32, y = (v2 + 1) := ⟨_, rfl⟩
        replace hw := hw x6 ex6
        refine lv_iinc (v := x6) (lv' := [(2, .int x6), (1, .int x5), (0, .ref mo)]) hx hb dX6_won_37 hl (k := 2) rfl (by rw [ex6]; rfl) (by decide) rfl (fun ls hl => ?_)
        refine lv_goto (tgt := 4) hx hb dX6_won_40 (by decide) ?_
        exact ih x5 x6 ls (lv_sub hl [2, 1, 0] rfl) hw
      · replace hw := Eq.mp (if_pos c4) hw
        refine lv_aload_n hx hb dX6_won_22 rfl (lv_at hl 0 rfl) ?_
        refine lv_iload_n hx hb dX6_won_23 rfl (lv_at hl 2 rfl) ?_
        refine gVi (As := [.int v2]) (rest := [.int v1]) (cs' := wM kI mo m0 m1 m2 m3 m4 m5 m6 m7 u) ⟨hx, hb, hml, hown, hts⟩ (kX6_shared l D kI kC kG kJ mo m0 m1 m2 m3 m4 m5 m6 m7 u v2 _ hw) (cwV 1 hts gX6_won_X6_shared rfl rfl rfl hdX6_shared ⟨Nat.le_of_ble_eq_true rfl, Nat.le_of_ble_eq_true rfl⟩) hK hP hE hS [0, 1, 2, 3, 4, 5, 6, 7, 8] rfl (ci := 5) (q0 := 0) rfl rfl rfl rfl hl.1 rfl (Nat.le_of_ble_eq_true rfl) dX6_won_24 ⟨Nat.le_of_ble_eq_true rfl, Nat.le_of_ble_eq_true rfl⟩ (fun r7 hw => ?_)
        refine lv_if_eq (tgt := 34) hx hb dX6_won_27 (by decide) (fun c8 => ?_) (fun c8 => ?_)
        · replace hw := Eq.mp (if_pos c8) hw
          refine lv_iconst (v := 0) hx hb dX6_won_34 (by decide) ?_
          refine lv_iadd hx hb dX6_won_35 ?_
          refine lv_topi (fun x9 ex9 => ?_)
          replace hw := hw x9 ex9
          refine lv_istore_n (lv' := [(1, .int x9), (0, .ref mo), (2, .int v2)]) hx hb dX6_won_36 rfl hl (by decide) rfl (fun ls hl => ?_)
          obtain ⟨x10, ex10⟩ : ∃ y : Int32, y = (v2 + 1) := ⟨_, rfl⟩
          replace hw := hw x10 ex10
          refine lv_iinc (v := x10) (lv' := [(2, .int x10), (1, .int x9), (0, .ref mo)]) hx hb dX6_won_37 hl (k := 2) rfl (by rw [ex10]; rfl) (by decide) rfl (fun ls hl => ?_)
          refine lv_goto (tgt := 4) hx hb dX6_won_40 (by decide) ?_
          exact ih x9 x10 ls (lv_sub hl [2, 1, 0] rfl) hw
        · replace hw := Eq.mp (if_neg c8) hw
          refine lv_iconst (v := 1) hx hb dX6_won_30 (by decide) ?_
          refine lv_goto (tgt := 35) hx hb dX6_won_31 (by decide) ?_
          refine lv_iadd hx hb dX6_won_35 ?_
          refine lv_topi (fun x11 ex11 => ?_)
          replace hw := hw x11 ex11
          refine lv_istore_n (lv' := [(1, .int x11), (0, .ref mo), (2, .int v2)]) hx hb dX6_won_36 rfl hl (by decide) rfl (fun ls hl => ?_)
          obtain ⟨x12, ex12⟩ : ∃ y : Int32, y = (v2 + 1) := ⟨_, rfl⟩
          replace hw := hw x12 ex12
          refine lv_iinc (v := x12) (lv' := [(2, .int x12), (1, .int x11), (0, .ref mo)]) hx hb dX6_won_37 hl (k := 2) rfl (by rw [ex12]; rfl) (by decide) rfl (fun ls hl => ?_)
          refine lv_goto (tgt := 4) hx hb dX6_won_40 (by decide) ?_
          exact ih x11 x12 ls (lv_sub hl [2, 1, 0] rfl) hw
  unfold pX6_won at hw
  refine lv_iconst (v := 0) hx hb dX6_won_0 (by decide) ?_
  refine lv_istore_n (lv' := [(1, .int 0), (0, .ref mo)]) hx hb dX6_won_1 rfl hl (by decide) rfl (fun ls hl => ?_)
  refine lv_iconst (v := 0) hx hb dX6_won_2 (by decide) ?_
  refine lv_istore_n (lv' := [(2, .int 0), (1, .int 0), (0, .ref mo)]) hx hb dX6_won_3 rfl hl (by decide) rfl (fun ls hl => ?_)
  obtain ⟨n9, hw⟩ := hw
  exact L4 () n9 0 0 ls (lv_sub hl [2, 1, 0] rfl) hw
set_option maxHeartbeats 4000000 in
set_option maxRecDepth 100000 in
theorem kX6_wins (l : Launch) (D : va_G) (kI kC kG kJ : ClassId) (mo m0 m1 m2 m3 m4 m5 m6 m7 : Nat) (sz : Nat) (u : SM) (p0 : Int32) (p1 : Int32) (Z : Int32 → SM → Prop) (hw : pX6_wins p0 p1 u Z) : Met l yX6_wins wsX6_wins ({ frames := 3, cells := 0, slots := 0, locals := 68 } : Room) (gPw D (gT kI kC kG kJ) [.ref mo, .int p0, .int p1] (wM kI mo m0 m1 m2 m3 m4 m5 m6 m7 u) sz) (va_Qi Z (gB D (gT kI kC kG kJ) (fun (zz : SM) => wM kI mo m0 m1 m2 m3 m4 m5 m6 m7 zz) (va_A (wM kI mo m0 m1 m2 m3 m4 m5 m6 m7 u) sz)) (va_A (wM kI mo m0 m1 m2 m3 m4 m5 m6 m7 u) sz)) 0 0 (va_A (wM kI mo m0 m1 m2 m3 m4 m5 m6 m7 u) sz) := by
  refine Met.ofW (cc := cX6_wins) (maxL := 4) (ret := (some .boolean)) (by decide) rfl ?_
  intro p e s m args below meth c s₁ B hml hv
  obtain ⟨rfl, hsz, hP, hK, hD0, hE⟩ := hv
  have hx := B.exec
  have hb := B.bytes
  have hr := B.returns
  have hts := atoms_spec (ws := wsX6_wins) B.pre
  have hown : s.vm.findClass RX6 = some m.cls := findClass_of_methodNamed B.named
  have hlocks := B.notSynchronized
  subst hsz
  have hD := hD0.self (sz := s.heap.size)
  generalize hAe : va_A (wM kI mo m0 m1 m2 m3 m4 m5 m6 m7 u) s.heap.size = A at hD hE ⊢
  have hA : ∀ q : Nat, s.heap.size ≤ q → A q := fun q h => by rw [← hAe]; exact Or.inr h
  have hS : va_S A s.heap s.heap [] := va_S.rf
  clear hAe hD0
  have hl := lv_entry ([.ref mo, .int p0, .int p1]) (n := 4) (Nat.le_of_ble_eq_true rfl)
  rw [lg_entry_eq]
  generalize (lg_sl ([.ref mo, .int p0, .int p1]) ++ List.replicate (4 - (lg_sl ([.ref mo, .int p0, .int p1])).length) Slot.unset).toArray = ls at hl ⊢
  have hl : lv_has ls 4 [(0, .ref mo), (1, .int p0), (2, .int p1)] := hl
  have hP : va_P D vwCl (wM kI mo m0 m1 m2 m3 m4 m5 m6 m7 u) s.heap := hP
  unfold pX6_wins at hw
  refine lv_aload_n hx hb dX6_wins_0 rfl (lv_at hl 0 rfl) ?_
  refine va_get (D := D) (ci := 5) (v := .ref m0) (C := RX6) (T := TX6) (N := 18) hx hb hts (fun _ h => List.mem_cons_of_mem _ (List.mem_append_right _ h)) hown hK hP 0 rfl rfl 0 (by decide) (hts (.fieldLink RX6 7 "HazelGiftModel" "all" "[I") (List.mem_of_getElem? (i := 1) rfl)) (fun _ h9 => h9) rfl dX6_wins_1 ?_
  refine lv_iconst (v := 0) hx hb dX6_wins_4 (by decide) ?_
  refine lv_iload_n hx hb dX6_wins_5 rfl (lv_at hl 2 rfl) ?_
  refine lv_iadd hx hb dX6_wins_6 ?_
  refine lv_iload_n hx hb dX6_wins_7 rfl (lv_at hl 1 rfl) ?_
  refine lv_iconst (v := 1) hx hb dX6_wins_8 (by decide) ?_
  refine lv_iadd hx hb dX6_wins_9 ?_
  refine lv_topi (fun x1 ex1 => ?_)
  replace hw := hw x1 ex1
  obtain ⟨hi2, hw⟩ := hw
  refine gIast (k := ((0 + p1)).toNatClampNeg) hx hb hK hP hD hS 1 0 rfl rfl hi2 rfl dX6_wins_10 (fun H locs hP hD hS => ?_)
  have hP : va_P D vwCl (wM kI mo m0 m1 m2 m3 m4 m5 m6 m7 ((upd u.1 ((0 + p1)).toNatClampNeg x1), u.2.1, u.2.2.1, u.2.2.2.1, u.2.2.2.2.1, u.2.2.2.2.2.1, u.2.2.2.2.2.2.1, u.2.2.2.2.2.2.2.1, u.2.2.2.2.2.2.2.2.1, u.2.2.2.2.2.2.2.2.2.1, u.2.2.2.2.2.2.2.2.2.2.1, u.2.2.2.2.2.2.2.2.2.2.2.1, u.2.2.2.2.2.2.2.2.2.2.2.2.1, u.2.2.2.2.2.2.2.2.2.2.2.2.2.1, u.2.2.2.2.2.2.2.2.2.2.2.2.2.2.1, u.2.2.2.2.2.2.2.2.2.2.2.2.2.2.2.1, u.2.2.2.2.2.2.2.2.2.2.2.2.2.2.2.2.1, u.2.2.2.2.2.2.2.2.2.2.2.2.2.2.2.2.2)) H := hP
  have hD : va_D A (wM kI mo m0 m1 m2 m3 m4 m5 m6 m7 ((upd u.1 ((0 + p1)).toNatClampNeg x1), u.2.1, u.2.2.1, u.2.2.2.1, u.2.2.2.2.1, u.2.2.2.2.2.1, u.2.2.2.2.2.2.1, u.2.2.2.2.2.2.2.1, u.2.2.2.2.2.2.2.2.1, u.2.2.2.2.2.2.2.2.2.1, u.2.2.2.2.2.2.2.2.2.2.1, u.2.2.2.2.2.2.2.2.2.2.2.1, u.2.2.2.2.2.2.2.2.2.2.2.2.1, u.2.2.2.2.2.2.2.2.2.2.2.2.2.1, u.2.2.2.2.2.2.2.2.2.2.2.2.2.2.1, u.2.2.2.2.2.2.2.2.2.2.2.2.2.2.2.1, u.2.2.2.2.2.2.2.2.2.2.2.2.2.2.2.2.1, u.2.2.2.2.2.2.2.2.2.2.2.2.2.2.2.2.2)) := hD
  refine lv_aload_n hx hb dX6_wins_11 rfl (lv_at hl 0 rfl) ?_
  refine gVi (As := []) (rest := []) (cs' := wM kI mo m0 m1 m2 m3 m4 m5 m6 m7 ((upd u.1 ((0 + p1)).toNatClampNeg x1), u.2.1, u.2.2.1, u.2.2.2.1, u.2.2.2.2.1, u.2.2.2.2.2.1, u.2.2.2.2.2.2.1, u.2.2.2.2.2.2.2.1, u.2.2.2.2.2.2.2.2.1, u.2.2.2.2.2.2.2.2.2.1, u.2.2.2.2.2.2.2.2.2.2.1, u.2.2.2.2.2.2.2.2.2.2.2.1, u.2.2.2.2.2.2.2.2.2.2.2.2.1, u.2.2.2.2.2.2.2.2.2.2.2.2.2.1, u.2.2.2.2.2.2.2.2.2.2.2.2.2.2.1, u.2.2.2.2.2.2.2.2.2.2.2.2.2.2.2.1, u.2.2.2.2.2.2.2.2.2.2.2.2.2.2.2.2.1, u.2.2.2.2.2.2.2.2.2.2.2.2.2.2.2.2.2)) ⟨hx, hb, hml, hown, hts⟩ (kX6_won l D kI kC kG kJ mo m0 m1 m2 m3 m4 m5 m6 m7 ((upd u.1 ((0 + p1)).toNatClampNeg x1), u.2.1, u.2.2.1, u.2.2.2.1, u.2.2.2.2.1, u.2.2.2.2.2.1, u.2.2.2.2.2.2.1, u.2.2.2.2.2.2.2.1, u.2.2.2.2.2.2.2.2.1, u.2.2.2.2.2.2.2.2.2.1, u.2.2.2.2.2.2.2.2.2.2.1, u.2.2.2.2.2.2.2.2.2.2.2.1, u.2.2.2.2.2.2.2.2.2.2.2.2.1, u.2.2.2.2.2.2.2.2.2.2.2.2.2.1, u.2.2.2.2.2.2.2.2.2.2.2.2.2.2.1, u.2.2.2.2.2.2.2.2.2.2.2.2.2.2.2.1, u.2.2.2.2.2.2.2.2.2.2.2.2.2.2.2.2.1, u.2.2.2.2.2.2.2.2.2.2.2.2.2.2.2.2.2) _ hw) (cwV 0 hts gX6_wins_X6_won rfl rfl rfl hdX6_won ⟨Nat.le_of_ble_eq_true rfl, Nat.le_of_ble_eq_true rfl⟩) hK hP hE hS [0, 1, 2, 3, 4, 5, 6, 7, 8] rfl (ci := 5) (q0 := 0) rfl rfl rfl rfl hl.1 rfl (Nat.le_of_ble_eq_true rfl) dX6_wins_12 ⟨Nat.le_of_ble_eq_true rfl, Nat.le_of_ble_eq_true rfl⟩ (fun r3 hw => ?_)
  refine lv_if_le (tgt := 22) hx hb dX6_wins_15 (by decide) (fun c4 => ?_) (fun c4 => ?_)
  · replace hw := Eq.mp (if_pos c4) hw
    refine lv_iconst (v := 0) hx hb dX6_wins_22 (by decide) ?_
    refine lv_istore_n (lv' := [(3, .int 0), (0, .ref mo), (1, .int p0), (2, .int p1)]) hx hb dX6_wins_23 rfl hl (by decide) rfl (fun ls hl => ?_)
    refine lv_aload_n hx hb dX6_wins_24 rfl (lv_at hl 1 rfl) ?_
    refine va_get (D := D) (ci := 5) (v := .ref m0) (C := RX6) (T := TX6) (N := 18) hx hb hts (fun _ h => List.mem_cons_of_mem _ (List.mem_append_right _ h)) hown hK hP 0 rfl rfl 0 (by decide) (hts (.fieldLink RX6 7 "HazelGiftModel" "all" "[I") (List.mem_of_getElem? (i := 1) rfl)) (fun _ h9 => h9) rfl dX6_wins_25 ?_
    refine lv_iconst (v := 0) hx hb dX6_wins_28 (by decide) ?_
    refine lv_iload_n hx hb dX6_wins_29 rfl (lv_at hl 3 rfl) ?_
    refine lv_iadd hx hb dX6_wins_30 ?_
    refine lv_iconst (v := 0) hx hb dX6_wins_31 (by decide) ?_
    obtain ⟨hi5, hw⟩ := hw
    refine gIast (k := ((0 + p1)).toNatClampNeg) hx hb hK hP hD hS 1 0 rfl rfl hi5 rfl dX6_wins_32 (fun H locs hP hD hS => ?_)
    have hP : va_P D vwCl (wM kI mo m0 m1 m2 m3 m4 m5 m6 m7 ((upd (upd u.1 ((0 + p1)).toNatClampNeg x1) ((0 + p1)).toNatClampNeg 0), u.2.1, u.2.2.1, u.2.2.2.1, u.2.2.2.2.1, u.2.2.2.2.2.1, u.2.2.2.2.2.2.1, u.2.2.2.2.2.2.2.1, u.2.2.2.2.2.2.2.2.1, u.2.2.2.2.2.2.2.2.2.1, u.2.2.2.2.2.2.2.2.2.2.1, u.2.2.2.2.2.2.2.2.2.2.2.1, u.2.2.2.2.2.2.2.2.2.2.2.2.1, u.2.2.2.2.2.2.2.2.2.2.2.2.2.1, u.2.2.2.2.2.2.2.2.2.2.2.2.2.2.1, u.2.2.2.2.2.2.2.2.2.2.2.2.2.2.2.1, u.2.2.2.2.2.2.2.2.2.2.2.2.2.2.2.2.1, u.2.2.2.2.2.2.2.2.2.2.2.2.2.2.2.2.2)) H := hP
    have hD : va_D A (wM kI mo m0 m1 m2 m3 m4 m5 m6 m7 ((upd (upd u.1 ((0 + p1)).toNatClampNeg x1) ((0 + p1)).toNatClampNeg 0), u.2.1, u.2.2.1, u.2.2.2.1, u.2.2.2.2.1, u.2.2.2.2.2.1, u.2.2.2.2.2.2.1, u.2.2.2.2.2.2.2.1, u.2.2.2.2.2.2.2.2.1, u.2.2.2.2.2.2.2.2.2.1, u.2.2.2.2.2.2.2.2.2.2.1, u.2.2.2.2.2.2.2.2.2.2.2.1, u.2.2.2.2.2.2.2.2.2.2.2.2.1, u.2.2.2.2.2.2.2.2.2.2.2.2.2.1, u.2.2.2.2.2.2.2.2.2.2.2.2.2.2.1, u.2.2.2.2.2.2.2.2.2.2.2.2.2.2.2.1, u.2.2.2.2.2.2.2.2.2.2.2.2.2.2.2.2.1, u.2.2.2.2.2.2.2.2.2.2.2.2.2.2.2.2.2)) := hD
    refine lv_iload_n hx hb dX6_wins_33 rfl (lv_at hl 0 rfl) ?_
    exact W.zret (v := 0) hx hb hr rfl (fun t ht hW => ⟨⟨0, ((upd (upd u.1 ((0 + p1)).toNatClampNeg x1) ((0 + p1)).toNatClampNeg 0), u.2.1, u.2.2.1, u.2.2.2.1, u.2.2.2.2.1, u.2.2.2.2.2.1, u.2.2.2.2.2.2.1, u.2.2.2.2.2.2.2.1, u.2.2.2.2.2.2.2.2.1, u.2.2.2.2.2.2.2.2.2.1, u.2.2.2.2.2.2.2.2.2.2.1, u.2.2.2.2.2.2.2.2.2.2.2.1, u.2.2.2.2.2.2.2.2.2.2.2.2.1, u.2.2.2.2.2.2.2.2.2.2.2.2.2.1, u.2.2.2.2.2.2.2.2.2.2.2.2.2.2.1, u.2.2.2.2.2.2.2.2.2.2.2.2.2.2.2.1, u.2.2.2.2.2.2.2.2.2.2.2.2.2.2.2.2.1, u.2.2.2.2.2.2.2.2.2.2.2.2.2.2.2.2.2), rfl, hw, by rw [ht]; exact hP, va_K.moved hW.alike hK, hD⟩, hS.F ht⟩) hS.2.2 dX6_wins_34
  · replace hw := Eq.mp (if_neg c4) hw
    refine lv_iconst (v := 1) hx hb dX6_wins_18 (by decide) ?_
    refine lv_goto (tgt := 23) hx hb dX6_wins_19 (by decide) ?_
    refine lv_istore_n (lv' := [(3, .int 1), (0, .ref mo), (1, .int p0), (2, .int p1)]) hx hb dX6_wins_23 rfl hl (by decide) rfl (fun ls hl => ?_)
    refine lv_aload_n hx hb dX6_wins_24 rfl (lv_at hl 1 rfl) ?_
    refine va_get (D := D) (ci := 5) (v := .ref m0) (C := RX6) (T := TX6) (N := 18) hx hb hts (fun _ h => List.mem_cons_of_mem _ (List.mem_append_right _ h)) hown hK hP 0 rfl rfl 0 (by decide) (hts (.fieldLink RX6 7 "HazelGiftModel" "all" "[I") (List.mem_of_getElem? (i := 1) rfl)) (fun _ h9 => h9) rfl dX6_wins_25 ?_
    refine lv_iconst (v := 0) hx hb dX6_wins_28 (by decide) ?_
    refine lv_iload_n hx hb dX6_wins_29 rfl (lv_at hl 3 rfl) ?_
    refine lv_iadd hx hb dX6_wins_30 ?_
    refine lv_iconst (v := 0) hx hb dX6_wins_31 (by decide) ?_
    obtain ⟨hi6, hw⟩ := hw
    refine gIast (k := ((0 + p1)).toNatClampNeg) hx hb hK hP hD hS 1 0 rfl rfl hi6 rfl dX6_wins_32 (fun H locs hP hD hS => ?_)
    have hP : va_P D vwCl (wM kI mo m0 m1 m2 m3 m4 m5 m6 m7 ((upd (upd u.1 ((0 + p1)).toNatClampNeg x1) ((0 + p1)).toNatClampNeg 0), u.2.1, u.2.2.1, u.2.2.2.1, u.2.2.2.2.1, u.2.2.2.2.2.1, u.2.2.2.2.2.2.1, u.2.2.2.2.2.2.2.1, u.2.2.2.2.2.2.2.2.1, u.2.2.2.2.2.2.2.2.2.1, u.2.2.2.2.2.2.2.2.2.2.1, u.2.2.2.2.2.2.2.2.2.2.2.1, u.2.2.2.2.2.2.2.2.2.2.2.2.1, u.2.2.2.2.2.2.2.2.2.2.2.2.2.1, u.2.2.2.2.2.2.2.2.2.2.2.2.2.2.1, u.2.2.2.2.2.2.2.2.2.2.2.2.2.2.2.1, u.2.2.2.2.2.2.2.2.2.2.2.2.2.2.2.2.1, u.2.2.2.2.2.2.2.2.2.2.2.2.2.2.2.2.2)) H := hP
    have hD : va_D A (wM kI mo m0 m1 m2 m3 m4 m5 m6 m7 ((upd (upd u.1 ((0 + p1)).toNatClampNeg x1) ((0 + p1)).toNatClampNeg 0), u.2.1, u.2.2.1, u.2.2.2.1, u.2.2.2.2.1, u.2.2.2.2.2.1, u.2.2.2.2.2.2.1, u.2.2.2.2.2.2.2.1, u.2.2.2.2.2.2.2.2.1, u.2.2.2.2.2.2.2.2.2.1, u.2.2.2.2.2.2.2.2.2.2.1, u.2.2.2.2.2.2.2.2.2.2.2.1, u.2.2.2.2.2.2.2.2.2.2.2.2.1, u.2.2.2.2.2.2.2.2.2.2.2.2.2.1, u.2.2.2.2.2.2.2.2.2.2.2.2.2.2.1, u.2.2.2.2.2.2.2.2.2.2.2.2.2.2.2.1, u.2.2.2.2.2.2.2.2.2.2.2.2.2.2.2.2.1, u.2.2.2.2.2.2.2.2.2.2.2.2.2.2.2.2.2)) := hD
    refine lv_iload_n hx hb dX6_wins_33 rfl (lv_at hl 0 rfl) ?_
    exact W.zret (v := 1) hx hb hr rfl (fun t ht hW => ⟨⟨1, ((upd (upd u.1 ((0 + p1)).toNatClampNeg x1) ((0 + p1)).toNatClampNeg 0), u.2.1, u.2.2.1, u.2.2.2.1, u.2.2.2.2.1, u.2.2.2.2.2.1, u.2.2.2.2.2.2.1, u.2.2.2.2.2.2.2.1, u.2.2.2.2.2.2.2.2.1, u.2.2.2.2.2.2.2.2.2.1, u.2.2.2.2.2.2.2.2.2.2.1, u.2.2.2.2.2.2.2.2.2.2.2.1, u.2.2.2.2.2.2.2.2.2.2.2.2.1, u.2.2.2.2.2.2.2.2.2.2.2.2.2.1, u.2.2.2.2.2.2.2.2.2.2.2.2.2.2.1, u.2.2.2.2.2.2.2.2.2.2.2.2.2.2.2.1, u.2.2.2.2.2.2.2.2.2.2.2.2.2.2.2.2.1, u.2.2.2.2.2.2.2.2.2.2.2.2.2.2.2.2.2), rfl, hw, by rw [ht]; exact hP, va_K.moved hW.alike hK, hD⟩, hS.F ht⟩) hS.2.2 dX6_wins_34
set_option maxHeartbeats 4000000 in
set_option maxRecDepth 100000 in
theorem kX6_winning (l : Launch) (D : va_G) (kI kC kG kJ : ClassId) (mo m0 m1 m2 m3 m4 m5 m6 m7 : Nat) (sz : Nat) (u : SM) (p0 : Int32) (Z : Int32 → SM → Prop) (hw : pX6_winning p0 u Z) : Met l yX6_winning wsX6_winning ({ frames := 4, cells := 0, slots := 0, locals := 91 } : Room) (gPw D (gT kI kC kG kJ) [.ref mo, .int p0] (wM kI mo m0 m1 m2 m3 m4 m5 m6 m7 u) sz) (va_Qi Z (gB D (gT kI kC kG kJ) (fun (zz : SM) => wM kI mo m0 m1 m2 m3 m4 m5 m6 m7 zz) (va_A (wM kI mo m0 m1 m2 m3 m4 m5 m6 m7 u) sz)) (va_A (wM kI mo m0 m1 m2 m3 m4 m5 m6 m7 u) sz)) 0 0 (va_A (wM kI mo m0 m1 m2 m3 m4 m5 m6 m7 u) sz) := by
  refine Met.ofW (cc := cX6_winning) (maxL := 3) (ret := (some .int)) (by decide) rfl ?_
  intro p e s m args below meth c s₁ B hml hv
  obtain ⟨rfl, hsz, hP, hK, hD0, hE⟩ := hv
  have hx := B.exec
  have hb := B.bytes
  have hr := B.returns
  have hts := atoms_spec (ws := wsX6_winning) B.pre
  have hown : s.vm.findClass RX6 = some m.cls := findClass_of_methodNamed B.named
  have hlocks := B.notSynchronized
  subst hsz
  have hD := hD0.self (sz := s.heap.size)
  generalize hAe : va_A (wM kI mo m0 m1 m2 m3 m4 m5 m6 m7 u) s.heap.size = A at hD hE ⊢
  have hA : ∀ q : Nat, s.heap.size ≤ q → A q := fun q h => by rw [← hAe]; exact Or.inr h
  have hS : va_S A s.heap s.heap [] := va_S.rf
  clear hAe hD0
  have hl := lv_entry ([.ref mo, .int p0]) (n := 3) (Nat.le_of_ble_eq_true rfl)
  rw [lg_entry_eq]
  generalize (lg_sl ([.ref mo, .int p0]) ++ List.replicate (3 - (lg_sl ([.ref mo, .int p0])).length) Slot.unset).toArray = ls at hl ⊢
  have hl : lv_has ls 3 [(0, .ref mo), (1, .int p0)] := hl
  have hP : va_P D vwCl (wM kI mo m0 m1 m2 m3 m4 m5 m6 m7 u) s.heap := hP
  have L2 : ∀ (v1 : Int32), ∀ (n : Nat), ∀ (v2 : Int32) (u : SM) (H : Heap) (locs : List Loc) (ls : Array Slot), va_P D vwCl (wM kI mo m0 m1 m2 m3 m4 m5 m6 m7 u) H → va_D A (wM kI mo m0 m1 m2 m3 m4 m5 m6 m7 u) → va_S A s.heap H locs → lv_has ls 3 [(0, .ref mo), (1, .int v1), (2, .int v2)] → pX6_winning_2 Z v1 n v2 u → W p l e (headSpec wsX6_winning ({ frames := 4, cells := 0, slots := 0, locals := 91 } : Room)).room s m ([.ref mo, .int p0] : List Value).toArray below meth c H locs 0 0 (MQ below (va_Qi Z (gB D (gT kI kC kG kJ) (fun (zz : SM) => wM kI mo m0 m1 m2 m3 m4 m5 m6 m7 zz) A) A) ([.ref mo, .int p0] : List Value).toArray s 0 0 A) (F0 m 2 ls []) := by
    intro v1 n
    induction n with
    | zero => intro v2 u H locs ls hP hD hS hl hw; exact hw.elim
    | succ n ih =>
    intro v2 u H locs ls hP hD hS hl hw
    rw [pX6_winning_2] at hw
    refine lv_iload_n hx hb dX6_winning_2 rfl (lv_at hl 2 rfl) ?_
    refine lv_bipush (v := 16) hx hb dX6_winning_3 (by decide) ?_
    refine lv_icmp_ge (tgt := 52) hx hb dX6_winning_5 (by decide) (fun c1 => ?_) (fun c1 => ?_)
    · replace hw := Eq.mp (if_pos c1) hw
      refine lv_iconst (v := (-1)) hx hb dX6_winning_52 (by decide) ?_
      exact W.iret (v := (-1)) hx hb hr (fun t ht hW => ⟨⟨(-1), u, rfl, hw, by rw [ht]; exact hP, va_K.moved hW.alike hK, hD⟩, hS.F ht⟩) hS.2.2 dX6_winning_53
    · replace hw := Eq.mp (if_neg c1) hw
      refine lv_aload_n hx hb dX6_winning_8 rfl (lv_at hl 0 rfl) ?_
      refine gVi (As := []) (rest := []) (cs' := wM kI mo m0 m1 m2 m3 m4 m5 m6 m7 u) ⟨hx, hb, hml, hown, hts⟩ (kX6_isOverNow l D kI kC kG kJ mo m0 m1 m2 m3 m4 m5 m6 m7 u _ hw) (cwV 0 hts gX6_winning_X6_isOverNow rfl rfl rfl hdX6_isOverNow ⟨Nat.le_of_ble_eq_true rfl, Nat.le_of_ble_eq_true rfl⟩) hK hP hE hS [0, 1, 2, 3, 4, 5, 6, 7, 8] rfl (ci := 5) (q0 := 0) rfl rfl rfl rfl hl.1 rfl (Nat.le_of_ble_eq_true rfl) dX6_winning_9 ⟨Nat.le_of_ble_eq_true rfl, Nat.le_of_ble_eq_true rfl⟩ (fun r2 hw => ?_)
      refine lv_if_ne (tgt := 52) hx hb dX6_winning_12 (by decide) (fun c3 => ?_) (fun c3 => ?_)
      · replace hw := Eq.mp (if_neg c3) hw
        refine lv_iconst (v := (-1)) hx hb dX6_winning_52 (by decide) ?_
        exact W.iret (v := (-1)) hx hb hr (fun t ht hW => ⟨⟨(-1), u, rfl, hw, by rw [ht]; exact hP, va_K.moved hW.alike hK, hD⟩, hS.F ht⟩) hS.2.2 dX6_winning_53
      · replace hw := Eq.mp (if_pos c3) hw
        refine lv_aload_n hx hb dX6_winning_15 rfl (lv_at hl 0 rfl) ?_
        refine lv_iload_n hx hb dX6_winning_16 rfl (lv_at hl 1 rfl) ?_
        refine gVi (As := [.int v1]) (rest := []) (cs' := wM kI mo m0 m1 m2 m3 m4 m5 m6 m7 u) ⟨hx, hb, hml, hown, hts⟩ (kX6_cell l D kI kC kG kJ mo m0 m1 m2 m3 m4 m5 m6 m7 u v1 _ hw) (cwV 1 hts gX6_winning_X6_cell rfl rfl rfl hdX6_cell ⟨Nat.le_of_ble_eq_true rfl, Nat.le_of_ble_eq_true rfl⟩) hK hP hE hS [0, 1, 2, 3, 4, 5, 6, 7, 8] rfl (ci := 5) (q0 := 0) rfl rfl rfl rfl hl.1 rfl (Nat.le_of_ble_eq_true rfl) dX6_winning_17 ⟨Nat.le_of_ble_eq_true rfl, Nat.le_of_ble_eq_true rfl⟩ (fun r4 hw => ?_)
        refine lv_iconst (v := (-1)) hx hb dX6_winning_20 (by decide) ?_
        refine lv_icmp_ne (tgt := 52) hx hb dX6_winning_21 (by decide) (fun c5 => ?_) (fun c5 => ?_)
        · replace hw := Eq.mp (if_neg c5) hw
          refine lv_iconst (v := (-1)) hx hb dX6_winning_52 (by decide) ?_
          exact W.iret (v := (-1)) hx hb hr (fun t ht hW => ⟨⟨(-1), u, rfl, hw, by rw [ht]; exact hP, va_K.moved hW.alike hK, hD⟩, hS.F ht⟩) hS.2.2 dX6_winning_53
        · replace hw := Eq.mp (if_pos c5) hw
          refine lv_aload_n hx hb dX6_winning_24 rfl (lv_at hl 0 rfl) ?_
          refine va_get (D := D) (ci := 5) (v := .ref m0) (C := RX6) (T := TX6) (N := 18) hx hb hts (fun _ h => List.mem_cons_of_mem _ (List.mem_append_right _ h)) hown hK hP 0 rfl rfl 0 (by decide) (hts (.fieldLink RX6 7 "HazelGiftModel" "all" "[I") (List.mem_of_getElem? (i := 1) rfl)) (fun _ h9 => h9) rfl dX6_winning_25 ?_
          refine lv_iconst (v := 0) hx hb dX6_winning_28 (by decide) ?_
          refine lv_iload_n hx hb dX6_winning_29 rfl (lv_at hl 2 rfl) ?_
          refine lv_iadd hx hb dX6_winning_30 ?_
          obtain ⟨hi6, hw⟩ := hw
          refine gIald (k := ((0 + v2)).toNatClampNeg) hx hb hK hP 1 0 rfl rfl hi6 rfl dX6_winning_31 ?_
          refine lv_if_ne (tgt := 46) hx hb dX6_winning_32 (by decide) (fun c7 => ?_) (fun c7 => ?_)
          · replace hw := Eq.mp (if_neg c7) hw
            obtain ⟨x8, ex8⟩ : ∃ y : Int32, y = (v2 + 1) := ⟨_, rfl⟩
            replace hw := hw x8 ex8
            refine lv_iinc (v := x8) (lv' := [(2, .int x8), (0, .ref mo), (1, .int v1)]) hx hb dX6_winning_46 hl (k := 2) rfl (by rw [ex8]; rfl) (by decide) rfl (fun ls hl => ?_)
            refine lv_goto (tgt := 2) hx hb dX6_winning_49 (by decide) ?_
            exact ih x8 u H locs ls hP hD hS (lv_sub hl [1, 2, 0] rfl) hw
          · replace hw := Eq.mp (if_pos c7) hw
            refine lv_aload_n hx hb dX6_winning_35 rfl (lv_at hl 0 rfl) ?_
            refine lv_iload_n hx hb dX6_winning_36 rfl (lv_at hl 1 rfl) ?_
            refine lv_iload_n hx hb dX6_winning_37 rfl (lv_at hl 2 rfl) ?_
            refine gWVi (S := SM) (As := [.int v1, .int v2]) (rest := []) (wc := wM kI mo m0 m1 m2 m3 m4 m5 m6 m7 u) (wr := []) (cs1 := (fun zz : SM => wM kI mo m0 m1 m2 m3 m4 m5 m6 m7 zz)) (ws2 := (fun zz : SM => wM kI mo m0 m1 m2 m3 m4 m5 m6 m7 zz)) ⟨hx, hb, hml, hown, hts⟩ (fun sz => kX6_wins l D kI kC kG kJ mo m0 m1 m2 m3 m4 m5 m6 m7 sz u v1 v2 _ hw) (cwV 2 hts gX6_winning_X6_wins rfl rfl rfl hdX6_wins ⟨Nat.le_of_ble_eq_true rfl, Nat.le_of_ble_eq_true rfl⟩) hK hP hD hE hS hA [0, 1, 2, 3, 4, 5, 6, 7, 8] [] rfl rfl rfl rfl (by decide) [0, 1, 2, 3, 4, 5, 6, 7, 8] rfl (fun _ => rfl) (ci := 5) (q0 := 0) rfl rfl rfl rfl hl.1 rfl (Nat.le_of_ble_eq_true rfl) dX6_winning_38 ⟨Nat.le_of_ble_eq_true rfl, Nat.le_of_ble_eq_true rfl⟩ (fun r9 w9 H locs hw hP hD hS => ?_)
            have hP : va_P D vwCl (wM kI mo m0 m1 m2 m3 m4 m5 m6 m7 w9) H := hP
            have hD : va_D A (wM kI mo m0 m1 m2 m3 m4 m5 m6 m7 w9) := hD
            refine lv_if_eq (tgt := 46) hx hb dX6_winning_41 (by decide) (fun c10 => ?_) (fun c10 => ?_)
            · replace hw := Eq.mp (if_pos c10) hw
              obtain ⟨x11, ex11⟩ : ∃ y : Int32, y = (v2 + 1) := ⟨_, rfl⟩
              replace hw := hw x11 ex11
              refine lv_iinc (v := x11) (lv' := [(2, .int x11), (0, .ref mo), (1, .int v1)]) hx hb dX6_winning_46 hl (k := 2) rfl (by rw [ex11]; rfl) (by decide) rfl (fun ls hl => ?_)
              refine lv_goto (tgt := 2) hx hb dX6_winning_49 (by decide) ?_
              exact ih x11 w9 H locs ls hP hD hS (lv_sub hl [1, 2, 0] rfl) hw
            · replace hw := Eq.mp (if_neg c10) hw
              refine lv_iload_n hx hb dX6_winning_44 rfl (lv_at hl 2 rfl) ?_
              exact W.iret (v := v2) hx hb hr (fun t ht hW => ⟨⟨v2, w9, rfl, hw, by rw [ht]; exact hP, va_K.moved hW.alike hK, hD⟩, hS.F ht⟩) hS.2.2 dX6_winning_45
  unfold pX6_winning at hw
  refine lv_iconst (v := 0) hx hb dX6_winning_0 (by decide) ?_
  refine lv_istore_n (lv' := [(2, .int 0), (0, .ref mo), (1, .int p0)]) hx hb dX6_winning_1 rfl hl (by decide) rfl (fun ls hl => ?_)
  obtain ⟨n9, hw⟩ := hw
  exact L2 p0 n9 0 u s.heap [] ls hP hD hS (lv_sub hl [1, 2, 0] rfl) hw
set_option maxHeartbeats 4000000 in
set_option maxRecDepth 100000 in
theorem kX6_canGive (l : Launch) (D : va_G) (kI kC kG kJ : ClassId) (mo m0 m1 m2 m3 m4 m5 m6 m7 : Nat) (u : SM) (p0 : Int32) (Z : Int32 → Prop) (hw : pX6_canGive p0 u Z) : Met l yX6_canGive wsX6_canGive ({ frames := 2, cells := 0, slots := 0, locals := 42 } : Room) (gPr D (gT kI kC kG kJ) [.ref mo, .int p0] (wM kI mo m0 m1 m2 m3 m4 m5 m6 m7 u)) (vp_Si Z) 0 0 (fun _ => False) := by
  refine Met.ofW (cc := cX6_canGive) (maxL := 2) (ret := (some .boolean)) (by decide) rfl ?_
  intro p e s m args below meth c s₁ B hml hv
  obtain ⟨rfl, hP, hK, hE⟩ := hv
  have hx := B.exec
  have hb := B.bytes
  have hr := B.returns
  have hts := atoms_spec (ws := wsX6_canGive) B.pre
  have hown : s.vm.findClass RX6 = some m.cls := findClass_of_methodNamed B.named
  have hlocks := B.notSynchronized
  have hS : va_S (fun _ => False) s.heap s.heap [] := va_S.rf
  have hl := lv_entry ([.ref mo, .int p0]) (n := 2) (Nat.le_of_ble_eq_true rfl)
  rw [lg_entry_eq]
  generalize (lg_sl ([.ref mo, .int p0]) ++ List.replicate (2 - (lg_sl ([.ref mo, .int p0])).length) Slot.unset).toArray = ls at hl ⊢
  have hl : lv_has ls 2 [(0, .ref mo), (1, .int p0)] := hl
  unfold pX6_canGive at hw
  refine lv_aload_n hx hb dX6_canGive_0 rfl (lv_at hl 0 rfl) ?_
  refine gVi (As := []) (rest := []) (cs' := wM kI mo m0 m1 m2 m3 m4 m5 m6 m7 u) ⟨hx, hb, hml, hown, hts⟩ (kX6_isOverNow l D kI kC kG kJ mo m0 m1 m2 m3 m4 m5 m6 m7 u _ hw) (cwV 0 hts gX6_canGive_X6_isOverNow rfl rfl rfl hdX6_isOverNow ⟨Nat.le_of_ble_eq_true rfl, Nat.le_of_ble_eq_true rfl⟩) hK hP hE hS [0, 1, 2, 3, 4, 5, 6, 7, 8] rfl (ci := 5) (q0 := 0) rfl rfl rfl rfl hl.1 rfl (Nat.le_of_ble_eq_true rfl) dX6_canGive_1 ⟨Nat.le_of_ble_eq_true rfl, Nat.le_of_ble_eq_true rfl⟩ (fun r1 hw => ?_)
  refine lv_if_ne (tgt := 30) hx hb dX6_canGive_4 (by decide) (fun c2 => ?_) (fun c2 => ?_)
  · replace hw := Eq.mp (if_neg c2) hw
    refine lv_iconst (v := 0) hx hb dX6_canGive_30 (by decide) ?_
    exact W.zret (v := 0) hx hb hr rfl (fun t ht hW => ⟨_, rfl, hw, ht⟩) (fun _ h => by cases h) dX6_canGive_31
  · replace hw := Eq.mp (if_pos c2) hw
    refine lv_aload_n hx hb dX6_canGive_7 rfl (lv_at hl 0 rfl) ?_
    refine va_get (D := D) (ci := 5) (v := .ref m0) (C := RX6) (T := TX6) (N := 18) hx hb hts (fun _ h => List.mem_cons_of_mem _ (List.mem_append_right _ h)) hown hK hP 0 rfl rfl 0 (by decide) (hts (.fieldLink RX6 7 "HazelGiftModel" "all" "[I") (List.mem_of_getElem? (i := 1) rfl)) (fun _ h9 => h9) rfl dX6_canGive_8 ?_
    refine lv_bipush (v := 16) hx hb dX6_canGive_11 (by decide) ?_
    refine gIald (k := 16) hx hb hK hP 1 0 rfl rfl (gin (by decide)) (by decide) dX6_canGive_13 ?_
    refine lv_if_ne (tgt := 30) hx hb dX6_canGive_14 (by decide) (fun c3 => ?_) (fun c3 => ?_)
    · replace hw := Eq.mp (if_neg c3) hw
      refine lv_iconst (v := 0) hx hb dX6_canGive_30 (by decide) ?_
      exact W.zret (v := 0) hx hb hr rfl (fun t ht hW => ⟨_, rfl, hw, ht⟩) (fun _ h => by cases h) dX6_canGive_31
    · replace hw := Eq.mp (if_pos c3) hw
      refine lv_aload_n hx hb dX6_canGive_17 rfl (lv_at hl 0 rfl) ?_
      refine lv_iload_n hx hb dX6_canGive_18 rfl (lv_at hl 1 rfl) ?_
      refine gVi (As := [.int p0]) (rest := []) (cs' := wM kI mo m0 m1 m2 m3 m4 m5 m6 m7 u) ⟨hx, hb, hml, hown, hts⟩ (kX6_cell l D kI kC kG kJ mo m0 m1 m2 m3 m4 m5 m6 m7 u p0 _ hw) (cwV 1 hts gX6_canGive_X6_cell rfl rfl rfl hdX6_cell ⟨Nat.le_of_ble_eq_true rfl, Nat.le_of_ble_eq_true rfl⟩) hK hP hE hS [0, 1, 2, 3, 4, 5, 6, 7, 8] rfl (ci := 5) (q0 := 0) rfl rfl rfl rfl hl.1 rfl (Nat.le_of_ble_eq_true rfl) dX6_canGive_19 ⟨Nat.le_of_ble_eq_true rfl, Nat.le_of_ble_eq_true rfl⟩ (fun r4 hw => ?_)
      refine lv_iconst (v := (-1)) hx hb dX6_canGive_22 (by decide) ?_
      refine lv_icmp_ne (tgt := 30) hx hb dX6_canGive_23 (by decide) (fun c5 => ?_) (fun c5 => ?_)
      · replace hw := Eq.mp (if_neg c5) hw
        refine lv_iconst (v := 0) hx hb dX6_canGive_30 (by decide) ?_
        exact W.zret (v := 0) hx hb hr rfl (fun t ht hW => ⟨_, rfl, hw, ht⟩) (fun _ h => by cases h) dX6_canGive_31
      · replace hw := Eq.mp (if_pos c5) hw
        refine lv_iconst (v := 1) hx hb dX6_canGive_26 (by decide) ?_
        refine lv_goto (tgt := 31) hx hb dX6_canGive_27 (by decide) ?_
        exact W.zret (v := 1) hx hb hr rfl (fun t ht hW => ⟨_, rfl, hw, ht⟩) (fun _ h => by cases h) dX6_canGive_31
set_option maxHeartbeats 4000000 in
set_option maxRecDepth 100000 in
theorem kX6_canPlace (l : Launch) (D : va_G) (kI kC kG kJ : ClassId) (mo m0 m1 m2 m3 m4 m5 m6 m7 : Nat) (u : SM) (p0 : Int32) (Z : Int32 → Prop) (hw : pX6_canPlace p0 u Z) : Met l yX6_canPlace wsX6_canPlace ({ frames := 0, cells := 0, slots := 0, locals := 0 } : Room) (gPr D (gT kI kC kG kJ) [.ref mo, .int p0] (wM kI mo m0 m1 m2 m3 m4 m5 m6 m7 u)) (vp_Si Z) 0 0 (fun _ => False) := by
  refine Met.ofW (cc := cX6_canPlace) (maxL := 2) (ret := (some .boolean)) (by decide) rfl ?_
  intro p e s m args below meth c s₁ B hml hv
  obtain ⟨rfl, hP, hK, hE⟩ := hv
  have hx := B.exec
  have hb := B.bytes
  have hr := B.returns
  have hts := atoms_spec (ws := wsX6_canPlace) B.pre
  have hown : s.vm.findClass RX6 = some m.cls := findClass_of_methodNamed B.named
  have hlocks := B.notSynchronized
  have hS : va_S (fun _ => False) s.heap s.heap [] := va_S.rf
  have hl := lv_entry ([.ref mo, .int p0]) (n := 2) (Nat.le_of_ble_eq_true rfl)
  rw [lg_entry_eq]
  generalize (lg_sl ([.ref mo, .int p0]) ++ List.replicate (2 - (lg_sl ([.ref mo, .int p0])).length) Slot.unset).toArray = ls at hl ⊢
  have hl : lv_has ls 2 [(0, .ref mo), (1, .int p0)] := hl
  unfold pX6_canPlace at hw
  refine lv_aload_n hx hb dX6_canPlace_0 rfl (lv_at hl 0 rfl) ?_
  refine va_get (D := D) (ci := 5) (v := .ref m0) (C := RX6) (T := TX6) (N := 18) hx hb hts (fun _ h => List.mem_cons_of_mem _ (List.mem_append_right _ h)) hown hK hP 0 rfl rfl 0 (by decide) (hts (.fieldLink RX6 7 "HazelGiftModel" "all" "[I") (List.mem_of_getElem? (i := 1) rfl)) (fun _ h9 => h9) rfl dX6_canPlace_1 ?_
  refine lv_bipush (v := 16) hx hb dX6_canPlace_4 (by decide) ?_
  refine gIald (k := 16) hx hb hK hP 1 0 rfl rfl (gin (by decide)) (by decide) dX6_canPlace_6 ?_
  refine lv_if_le (tgt := 25) hx hb dX6_canPlace_7 (by decide) (fun c1 => ?_) (fun c1 => ?_)
  · replace hw := Eq.mp (if_pos c1) hw
    refine lv_iconst (v := 0) hx hb dX6_canPlace_25 (by decide) ?_
    exact W.zret (v := 0) hx hb hr rfl (fun t ht hW => ⟨_, rfl, hw, ht⟩) (fun _ h => by cases h) dX6_canPlace_26
  · replace hw := Eq.mp (if_neg c1) hw
    refine lv_aload_n hx hb dX6_canPlace_10 rfl (lv_at hl 0 rfl) ?_
    refine va_get (D := D) (ci := 5) (v := .ref m0) (C := RX6) (T := TX6) (N := 18) hx hb hts (fun _ h => List.mem_cons_of_mem _ (List.mem_append_right _ h)) hown hK hP 0 rfl rfl 0 (by decide) (hts (.fieldLink RX6 7 "HazelGiftModel" "all" "[I") (List.mem_of_getElem? (i := 1) rfl)) (fun _ h9 => h9) rfl dX6_canPlace_11 ?_
    refine lv_iconst (v := 0) hx hb dX6_canPlace_14 (by decide) ?_
    refine lv_iload_n hx hb dX6_canPlace_15 rfl (lv_at hl 1 rfl) ?_
    refine lv_iadd hx hb dX6_canPlace_16 ?_
    obtain ⟨hi2, hw⟩ := hw
    refine gIald (k := ((0 + p0)).toNatClampNeg) hx hb hK hP 1 0 rfl rfl hi2 rfl dX6_canPlace_17 ?_
    refine lv_if_ne (tgt := 25) hx hb dX6_canPlace_18 (by decide) (fun c3 => ?_) (fun c3 => ?_)
    · replace hw := Eq.mp (if_neg c3) hw
      refine lv_iconst (v := 0) hx hb dX6_canPlace_25 (by decide) ?_
      exact W.zret (v := 0) hx hb hr rfl (fun t ht hW => ⟨_, rfl, hw, ht⟩) (fun _ h => by cases h) dX6_canPlace_26
    · replace hw := Eq.mp (if_pos c3) hw
      refine lv_iconst (v := 1) hx hb dX6_canPlace_21 (by decide) ?_
      refine lv_goto (tgt := 26) hx hb dX6_canPlace_22 (by decide) ?_
      exact W.zret (v := 1) hx hb hr rfl (fun t ht hW => ⟨_, rfl, hw, ht⟩) (fun _ h => by cases h) dX6_canPlace_26
set_option maxHeartbeats 4000000 in
set_option maxRecDepth 100000 in
theorem kX6_gives (l : Launch) (D : va_G) (kI kC kG kJ : ClassId) (mo m0 m1 m2 m3 m4 m5 m6 m7 : Nat) (sz : Nat) (u : SM) (p0 : Int32) (Z : Int32 → SM → Prop) (hw : pX6_gives p0 u Z) : Met l yX6_gives wsX6_gives ({ frames := 2, cells := 0, slots := 0, locals := 43 } : Room) (gPw D (gT kI kC kG kJ) [.ref mo, .int p0] (wM kI mo m0 m1 m2 m3 m4 m5 m6 m7 u) sz) (va_Qi Z (gB D (gT kI kC kG kJ) (fun (zz : SM) => wM kI mo m0 m1 m2 m3 m4 m5 m6 m7 zz) (va_A (wM kI mo m0 m1 m2 m3 m4 m5 m6 m7 u) sz)) (va_A (wM kI mo m0 m1 m2 m3 m4 m5 m6 m7 u) sz)) 0 0 (va_A (wM kI mo m0 m1 m2 m3 m4 m5 m6 m7 u) sz) := by
  refine Met.ofW (cc := cX6_gives) (maxL := 2) (ret := (some .int)) (by decide) rfl ?_
  intro p e s m args below meth c s₁ B hml hv
  obtain ⟨rfl, hsz, hP, hK, hD0, hE⟩ := hv
  have hx := B.exec
  have hb := B.bytes
  have hr := B.returns
  have hts := atoms_spec (ws := wsX6_gives) B.pre
  have hown : s.vm.findClass RX6 = some m.cls := findClass_of_methodNamed B.named
  have hlocks := B.notSynchronized
  subst hsz
  have hD := hD0.self (sz := s.heap.size)
  generalize hAe : va_A (wM kI mo m0 m1 m2 m3 m4 m5 m6 m7 u) s.heap.size = A at hD hE ⊢
  have hA : ∀ q : Nat, s.heap.size ≤ q → A q := fun q h => by rw [← hAe]; exact Or.inr h
  have hS : va_S A s.heap s.heap [] := va_S.rf
  clear hAe hD0
  have hl := lv_entry ([.ref mo, .int p0]) (n := 2) (Nat.le_of_ble_eq_true rfl)
  rw [lg_entry_eq]
  generalize (lg_sl ([.ref mo, .int p0]) ++ List.replicate (2 - (lg_sl ([.ref mo, .int p0])).length) Slot.unset).toArray = ls at hl ⊢
  have hl : lv_has ls 2 [(0, .ref mo), (1, .int p0)] := hl
  have hP : va_P D vwCl (wM kI mo m0 m1 m2 m3 m4 m5 m6 m7 u) s.heap := hP
  unfold pX6_gives at hw
  refine lv_aload_n hx hb dX6_gives_0 rfl (lv_at hl 0 rfl) ?_
  refine va_get (D := D) (ci := 5) (v := .ref m0) (C := RX6) (T := TX6) (N := 18) hx hb hts (fun _ h => List.mem_cons_of_mem _ (List.mem_append_right _ h)) hown hK hP 0 rfl rfl 0 (by decide) (hts (.fieldLink RX6 7 "HazelGiftModel" "all" "[I") (List.mem_of_getElem? (i := 1) rfl)) (fun _ h9 => h9) rfl dX6_gives_1 ?_
  refine lv_bipush (v := 16) hx hb dX6_gives_4 (by decide) ?_
  refine lv_iload_n hx hb dX6_gives_6 rfl (lv_at hl 1 rfl) ?_
  refine lv_iconst (v := 1) hx hb dX6_gives_7 (by decide) ?_
  refine lv_iadd hx hb dX6_gives_8 ?_
  refine lv_topi (fun x1 ex1 => ?_)
  replace hw := hw x1 ex1
  refine gIast (k := 16) hx hb hK hP hD hS 1 0 rfl rfl (gin (by decide)) (by decide) dX6_gives_9 (fun H locs hP hD hS => ?_)
  have hP : va_P D vwCl (wM kI mo m0 m1 m2 m3 m4 m5 m6 m7 ((upd u.1 16 x1), u.2.1, u.2.2.1, u.2.2.2.1, u.2.2.2.2.1, u.2.2.2.2.2.1, u.2.2.2.2.2.2.1, u.2.2.2.2.2.2.2.1, u.2.2.2.2.2.2.2.2.1, u.2.2.2.2.2.2.2.2.2.1, u.2.2.2.2.2.2.2.2.2.2.1, u.2.2.2.2.2.2.2.2.2.2.2.1, u.2.2.2.2.2.2.2.2.2.2.2.2.1, u.2.2.2.2.2.2.2.2.2.2.2.2.2.1, u.2.2.2.2.2.2.2.2.2.2.2.2.2.2.1, u.2.2.2.2.2.2.2.2.2.2.2.2.2.2.2.1, u.2.2.2.2.2.2.2.2.2.2.2.2.2.2.2.2.1, u.2.2.2.2.2.2.2.2.2.2.2.2.2.2.2.2.2)) H := hP
  have hD : va_D A (wM kI mo m0 m1 m2 m3 m4 m5 m6 m7 ((upd u.1 16 x1), u.2.1, u.2.2.1, u.2.2.2.1, u.2.2.2.2.1, u.2.2.2.2.2.1, u.2.2.2.2.2.2.1, u.2.2.2.2.2.2.2.1, u.2.2.2.2.2.2.2.2.1, u.2.2.2.2.2.2.2.2.2.1, u.2.2.2.2.2.2.2.2.2.2.1, u.2.2.2.2.2.2.2.2.2.2.2.1, u.2.2.2.2.2.2.2.2.2.2.2.2.1, u.2.2.2.2.2.2.2.2.2.2.2.2.2.1, u.2.2.2.2.2.2.2.2.2.2.2.2.2.2.1, u.2.2.2.2.2.2.2.2.2.2.2.2.2.2.2.1, u.2.2.2.2.2.2.2.2.2.2.2.2.2.2.2.2.1, u.2.2.2.2.2.2.2.2.2.2.2.2.2.2.2.2.2)) := hD
  refine lv_aload_n hx hb dX6_gives_10 rfl (lv_at hl 0 rfl) ?_
  refine gVi (As := []) (rest := []) (cs' := wM kI mo m0 m1 m2 m3 m4 m5 m6 m7 ((upd u.1 16 x1), u.2.1, u.2.2.1, u.2.2.2.1, u.2.2.2.2.1, u.2.2.2.2.2.1, u.2.2.2.2.2.2.1, u.2.2.2.2.2.2.2.1, u.2.2.2.2.2.2.2.2.1, u.2.2.2.2.2.2.2.2.2.1, u.2.2.2.2.2.2.2.2.2.2.1, u.2.2.2.2.2.2.2.2.2.2.2.1, u.2.2.2.2.2.2.2.2.2.2.2.2.1, u.2.2.2.2.2.2.2.2.2.2.2.2.2.1, u.2.2.2.2.2.2.2.2.2.2.2.2.2.2.1, u.2.2.2.2.2.2.2.2.2.2.2.2.2.2.2.1, u.2.2.2.2.2.2.2.2.2.2.2.2.2.2.2.2.1, u.2.2.2.2.2.2.2.2.2.2.2.2.2.2.2.2.2)) ⟨hx, hb, hml, hown, hts⟩ (kX6_mover l D kI kC kG kJ mo m0 m1 m2 m3 m4 m5 m6 m7 ((upd u.1 16 x1), u.2.1, u.2.2.1, u.2.2.2.1, u.2.2.2.2.1, u.2.2.2.2.2.1, u.2.2.2.2.2.2.1, u.2.2.2.2.2.2.2.1, u.2.2.2.2.2.2.2.2.1, u.2.2.2.2.2.2.2.2.2.1, u.2.2.2.2.2.2.2.2.2.2.1, u.2.2.2.2.2.2.2.2.2.2.2.1, u.2.2.2.2.2.2.2.2.2.2.2.2.1, u.2.2.2.2.2.2.2.2.2.2.2.2.2.1, u.2.2.2.2.2.2.2.2.2.2.2.2.2.2.1, u.2.2.2.2.2.2.2.2.2.2.2.2.2.2.2.1, u.2.2.2.2.2.2.2.2.2.2.2.2.2.2.2.2.1, u.2.2.2.2.2.2.2.2.2.2.2.2.2.2.2.2.2) _ hw) (cwV 0 hts gX6_gives_X6_mover rfl rfl rfl hdX6_mover ⟨Nat.le_of_ble_eq_true rfl, Nat.le_of_ble_eq_true rfl⟩) hK hP hE hS [0, 1, 2, 3, 4, 5, 6, 7, 8] rfl (ci := 5) (q0 := 0) rfl rfl rfl rfl hl.1 rfl (Nat.le_of_ble_eq_true rfl) dX6_gives_11 ⟨Nat.le_of_ble_eq_true rfl, Nat.le_of_ble_eq_true rfl⟩ (fun r2 hw => ?_)
  exact W.iret (v := r2) hx hb hr (fun t ht hW => ⟨⟨r2, ((upd u.1 16 x1), u.2.1, u.2.2.1, u.2.2.2.1, u.2.2.2.2.1, u.2.2.2.2.2.1, u.2.2.2.2.2.2.1, u.2.2.2.2.2.2.2.1, u.2.2.2.2.2.2.2.2.1, u.2.2.2.2.2.2.2.2.2.1, u.2.2.2.2.2.2.2.2.2.2.1, u.2.2.2.2.2.2.2.2.2.2.2.1, u.2.2.2.2.2.2.2.2.2.2.2.2.1, u.2.2.2.2.2.2.2.2.2.2.2.2.2.1, u.2.2.2.2.2.2.2.2.2.2.2.2.2.2.1, u.2.2.2.2.2.2.2.2.2.2.2.2.2.2.2.1, u.2.2.2.2.2.2.2.2.2.2.2.2.2.2.2.2.1, u.2.2.2.2.2.2.2.2.2.2.2.2.2.2.2.2.2), rfl, hw, by rw [ht]; exact hP, va_K.moved hW.alike hK, hD⟩, hS.F ht⟩) hS.2.2 dX6_gives_14
set_option maxHeartbeats 4000000 in
set_option maxRecDepth 100000 in
theorem kX6_places (l : Launch) (D : va_G) (kI kC kG kJ : ClassId) (mo m0 m1 m2 m3 m4 m5 m6 m7 : Nat) (sz : Nat) (u : SM) (p0 : Int32) (Z : Int32 → SM → Prop) (hw : pX6_places p0 u Z) : Met l yX6_places wsX6_places ({ frames := 3, cells := 0, slots := 0, locals := 68 } : Room) (gPw D (gT kI kC kG kJ) [.ref mo, .int p0] (wM kI mo m0 m1 m2 m3 m4 m5 m6 m7 u) sz) (va_Qi Z (gB D (gT kI kC kG kJ) (fun (zz : SM) => wM kI mo m0 m1 m2 m3 m4 m5 m6 m7 zz) (va_A (wM kI mo m0 m1 m2 m3 m4 m5 m6 m7 u) sz)) (va_A (wM kI mo m0 m1 m2 m3 m4 m5 m6 m7 u) sz)) 0 0 (va_A (wM kI mo m0 m1 m2 m3 m4 m5 m6 m7 u) sz) := by
  refine Met.ofW (cc := cX6_places) (maxL := 4) (ret := (some .boolean)) (by decide) rfl ?_
  intro p e s m args below meth c s₁ B hml hv
  obtain ⟨rfl, hsz, hP, hK, hD0, hE⟩ := hv
  have hx := B.exec
  have hb := B.bytes
  have hr := B.returns
  have hts := atoms_spec (ws := wsX6_places) B.pre
  have hown : s.vm.findClass RX6 = some m.cls := findClass_of_methodNamed B.named
  have hlocks := B.notSynchronized
  subst hsz
  have hD := hD0.self (sz := s.heap.size)
  generalize hAe : va_A (wM kI mo m0 m1 m2 m3 m4 m5 m6 m7 u) s.heap.size = A at hD hE ⊢
  have hA : ∀ q : Nat, s.heap.size ≤ q → A q := fun q h => by rw [← hAe]; exact Or.inr h
  have hS : va_S A s.heap s.heap [] := va_S.rf
  clear hAe hD0
  have hl := lv_entry ([.ref mo, .int p0]) (n := 4) (Nat.le_of_ble_eq_true rfl)
  rw [lg_entry_eq]
  generalize (lg_sl ([.ref mo, .int p0]) ++ List.replicate (4 - (lg_sl ([.ref mo, .int p0])).length) Slot.unset).toArray = ls at hl ⊢
  have hl : lv_has ls 4 [(0, .ref mo), (1, .int p0)] := hl
  have hP : va_P D vwCl (wM kI mo m0 m1 m2 m3 m4 m5 m6 m7 u) s.heap := hP
  unfold pX6_places at hw
  refine lv_aload_n hx hb dX6_places_0 rfl (lv_at hl 0 rfl) ?_
  refine gVi (As := []) (rest := []) (cs' := wM kI mo m0 m1 m2 m3 m4 m5 m6 m7 u) ⟨hx, hb, hml, hown, hts⟩ (kX6_mover l D kI kC kG kJ mo m0 m1 m2 m3 m4 m5 m6 m7 u _ hw) (cwV 0 hts gX6_places_X6_mover rfl rfl rfl hdX6_mover ⟨Nat.le_of_ble_eq_true rfl, Nat.le_of_ble_eq_true rfl⟩) hK hP hE hS [0, 1, 2, 3, 4, 5, 6, 7, 8] rfl (ci := 5) (q0 := 0) rfl rfl rfl rfl hl.1 rfl (Nat.le_of_ble_eq_true rfl) dX6_places_1 ⟨Nat.le_of_ble_eq_true rfl, Nat.le_of_ble_eq_true rfl⟩ (fun r1 hw => ?_)
  refine lv_istore_n (lv' := [(2, .int r1), (0, .ref mo), (1, .int p0)]) hx hb dX6_places_4 rfl hl (by decide) rfl (fun ls hl => ?_)
  refine lv_aload_n hx hb dX6_places_5 rfl (lv_at hl 1 rfl) ?_
  refine va_get (D := D) (ci := 5) (v := .ref m0) (C := RX6) (T := TX6) (N := 18) hx hb hts (fun _ h => List.mem_cons_of_mem _ (List.mem_append_right _ h)) hown hK hP 0 rfl rfl 0 (by decide) (hts (.fieldLink RX6 7 "HazelGiftModel" "all" "[I") (List.mem_of_getElem? (i := 1) rfl)) (fun _ h9 => h9) rfl dX6_places_6 ?_
  refine lv_iconst (v := 0) hx hb dX6_places_9 (by decide) ?_
  refine lv_iload_n hx hb dX6_places_10 rfl (lv_at hl 2 rfl) ?_
  refine lv_iadd hx hb dX6_places_11 ?_
  refine lv_aload_n hx hb dX6_places_12 rfl (lv_at hl 1 rfl) ?_
  refine va_get (D := D) (ci := 5) (v := .ref m0) (C := RX6) (T := TX6) (N := 18) hx hb hts (fun _ h => List.mem_cons_of_mem _ (List.mem_append_right _ h)) hown hK hP 0 rfl rfl 0 (by decide) (hts (.fieldLink RX6 7 "HazelGiftModel" "all" "[I") (List.mem_of_getElem? (i := 1) rfl)) (fun _ h9 => h9) rfl dX6_places_13 ?_
  refine lv_bipush (v := 16) hx hb dX6_places_16 (by decide) ?_
  refine gIald (k := 16) hx hb hK hP 1 0 rfl rfl (gin (by decide)) (by decide) dX6_places_18 ?_
  refine lv_topi (fun x2 ex2 => ?_)
  replace hw := hw x2 ex2
  obtain ⟨hi3, hw⟩ := hw
  refine gIast (k := ((0 + p0)).toNatClampNeg) hx hb hK hP hD hS 1 0 rfl rfl hi3 rfl dX6_places_19 (fun H locs hP hD hS => ?_)
  have hP : va_P D vwCl (wM kI mo m0 m1 m2 m3 m4 m5 m6 m7 ((upd u.1 ((0 + p0)).toNatClampNeg x2), u.2.1, u.2.2.1, u.2.2.2.1, u.2.2.2.2.1, u.2.2.2.2.2.1, u.2.2.2.2.2.2.1, u.2.2.2.2.2.2.2.1, u.2.2.2.2.2.2.2.2.1, u.2.2.2.2.2.2.2.2.2.1, u.2.2.2.2.2.2.2.2.2.2.1, u.2.2.2.2.2.2.2.2.2.2.2.1, u.2.2.2.2.2.2.2.2.2.2.2.2.1, u.2.2.2.2.2.2.2.2.2.2.2.2.2.1, u.2.2.2.2.2.2.2.2.2.2.2.2.2.2.1, u.2.2.2.2.2.2.2.2.2.2.2.2.2.2.2.1, u.2.2.2.2.2.2.2.2.2.2.2.2.2.2.2.2.1, u.2.2.2.2.2.2.2.2.2.2.2.2.2.2.2.2.2)) H := hP
  have hD : va_D A (wM kI mo m0 m1 m2 m3 m4 m5 m6 m7 ((upd u.1 ((0 + p0)).toNatClampNeg x2), u.2.1, u.2.2.1, u.2.2.2.1, u.2.2.2.2.1, u.2.2.2.2.2.1, u.2.2.2.2.2.2.1, u.2.2.2.2.2.2.2.1, u.2.2.2.2.2.2.2.2.1, u.2.2.2.2.2.2.2.2.2.1, u.2.2.2.2.2.2.2.2.2.2.1, u.2.2.2.2.2.2.2.2.2.2.2.1, u.2.2.2.2.2.2.2.2.2.2.2.2.1, u.2.2.2.2.2.2.2.2.2.2.2.2.2.1, u.2.2.2.2.2.2.2.2.2.2.2.2.2.2.1, u.2.2.2.2.2.2.2.2.2.2.2.2.2.2.2.1, u.2.2.2.2.2.2.2.2.2.2.2.2.2.2.2.2.1, u.2.2.2.2.2.2.2.2.2.2.2.2.2.2.2.2.2)) := hD
  refine lv_aload_n hx hb dX6_places_20 rfl (lv_at hl 1 rfl) ?_
  refine va_get (D := D) (ci := 5) (v := .ref m0) (C := RX6) (T := TX6) (N := 18) hx hb hts (fun _ h => List.mem_cons_of_mem _ (List.mem_append_right _ h)) hown hK hP 0 rfl rfl 0 (by decide) (hts (.fieldLink RX6 7 "HazelGiftModel" "all" "[I") (List.mem_of_getElem? (i := 1) rfl)) (fun _ h9 => h9) rfl dX6_places_21 ?_
  refine lv_bipush (v := 16) hx hb dX6_places_24 (by decide) ?_
  refine lv_iconst (v := 0) hx hb dX6_places_26 (by decide) ?_
  refine gIast (k := 16) hx hb hK hP hD hS 1 0 rfl rfl (gin (by decide)) (by decide) dX6_places_27 (fun H locs hP hD hS => ?_)
  have hP : va_P D vwCl (wM kI mo m0 m1 m2 m3 m4 m5 m6 m7 ((upd (upd u.1 ((0 + p0)).toNatClampNeg x2) 16 0), u.2.1, u.2.2.1, u.2.2.2.1, u.2.2.2.2.1, u.2.2.2.2.2.1, u.2.2.2.2.2.2.1, u.2.2.2.2.2.2.2.1, u.2.2.2.2.2.2.2.2.1, u.2.2.2.2.2.2.2.2.2.1, u.2.2.2.2.2.2.2.2.2.2.1, u.2.2.2.2.2.2.2.2.2.2.2.1, u.2.2.2.2.2.2.2.2.2.2.2.2.1, u.2.2.2.2.2.2.2.2.2.2.2.2.2.1, u.2.2.2.2.2.2.2.2.2.2.2.2.2.2.1, u.2.2.2.2.2.2.2.2.2.2.2.2.2.2.2.1, u.2.2.2.2.2.2.2.2.2.2.2.2.2.2.2.2.1, u.2.2.2.2.2.2.2.2.2.2.2.2.2.2.2.2.2)) H := hP
  have hD : va_D A (wM kI mo m0 m1 m2 m3 m4 m5 m6 m7 ((upd (upd u.1 ((0 + p0)).toNatClampNeg x2) 16 0), u.2.1, u.2.2.1, u.2.2.2.1, u.2.2.2.2.1, u.2.2.2.2.2.1, u.2.2.2.2.2.2.1, u.2.2.2.2.2.2.2.1, u.2.2.2.2.2.2.2.2.1, u.2.2.2.2.2.2.2.2.2.1, u.2.2.2.2.2.2.2.2.2.2.1, u.2.2.2.2.2.2.2.2.2.2.2.1, u.2.2.2.2.2.2.2.2.2.2.2.2.1, u.2.2.2.2.2.2.2.2.2.2.2.2.2.1, u.2.2.2.2.2.2.2.2.2.2.2.2.2.2.1, u.2.2.2.2.2.2.2.2.2.2.2.2.2.2.2.1, u.2.2.2.2.2.2.2.2.2.2.2.2.2.2.2.2.1, u.2.2.2.2.2.2.2.2.2.2.2.2.2.2.2.2.2)) := hD
  refine lv_aload_n hx hb dX6_places_28 rfl (lv_at hl 1 rfl) ?_
  refine gVi (As := []) (rest := []) (cs' := wM kI mo m0 m1 m2 m3 m4 m5 m6 m7 ((upd (upd u.1 ((0 + p0)).toNatClampNeg x2) 16 0), u.2.1, u.2.2.1, u.2.2.2.1, u.2.2.2.2.1, u.2.2.2.2.2.1, u.2.2.2.2.2.2.1, u.2.2.2.2.2.2.2.1, u.2.2.2.2.2.2.2.2.1, u.2.2.2.2.2.2.2.2.2.1, u.2.2.2.2.2.2.2.2.2.2.1, u.2.2.2.2.2.2.2.2.2.2.2.1, u.2.2.2.2.2.2.2.2.2.2.2.2.1, u.2.2.2.2.2.2.2.2.2.2.2.2.2.1, u.2.2.2.2.2.2.2.2.2.2.2.2.2.2.1, u.2.2.2.2.2.2.2.2.2.2.2.2.2.2.2.1, u.2.2.2.2.2.2.2.2.2.2.2.2.2.2.2.2.1, u.2.2.2.2.2.2.2.2.2.2.2.2.2.2.2.2.2)) ⟨hx, hb, hml, hown, hts⟩ (kX6_won l D kI kC kG kJ mo m0 m1 m2 m3 m4 m5 m6 m7 ((upd (upd u.1 ((0 + p0)).toNatClampNeg x2) 16 0), u.2.1, u.2.2.1, u.2.2.2.1, u.2.2.2.2.1, u.2.2.2.2.2.1, u.2.2.2.2.2.2.1, u.2.2.2.2.2.2.2.1, u.2.2.2.2.2.2.2.2.1, u.2.2.2.2.2.2.2.2.2.1, u.2.2.2.2.2.2.2.2.2.2.1, u.2.2.2.2.2.2.2.2.2.2.2.1, u.2.2.2.2.2.2.2.2.2.2.2.2.1, u.2.2.2.2.2.2.2.2.2.2.2.2.2.1, u.2.2.2.2.2.2.2.2.2.2.2.2.2.2.1, u.2.2.2.2.2.2.2.2.2.2.2.2.2.2.2.1, u.2.2.2.2.2.2.2.2.2.2.2.2.2.2.2.2.1, u.2.2.2.2.2.2.2.2.2.2.2.2.2.2.2.2.2) _ hw) (cwV 0 hts gX6_places_X6_won rfl rfl rfl hdX6_won ⟨Nat.le_of_ble_eq_true rfl, Nat.le_of_ble_eq_true rfl⟩) hK hP hE hS [0, 1, 2, 3, 4, 5, 6, 7, 8] rfl (ci := 5) (q0 := 0) rfl rfl rfl rfl hl.1 rfl (Nat.le_of_ble_eq_true rfl) dX6_places_29 ⟨Nat.le_of_ble_eq_true rfl, Nat.le_of_ble_eq_true rfl⟩ (fun r4 hw => ?_)
  refine lv_if_le (tgt := 39) hx hb dX6_places_32 (by decide) (fun c5 => ?_) (fun c5 => ?_)
  · replace hw := Eq.mp (if_pos c5) hw
    refine lv_iconst (v := 0) hx hb dX6_places_39 (by decide) ?_
    refine lv_istore_n (lv' := [(3, .int 0), (2, .int r1), (0, .ref mo), (1, .int p0)]) hx hb dX6_places_40 rfl hl (by decide) rfl (fun ls hl => ?_)
    refine lv_aload_n hx hb dX6_places_41 rfl (lv_at hl 2 rfl) ?_
    refine va_get (D := D) (ci := 5) (v := .ref m0) (C := RX6) (T := TX6) (N := 18) hx hb hts (fun _ h => List.mem_cons_of_mem _ (List.mem_append_right _ h)) hown hK hP 0 rfl rfl 0 (by decide) (hts (.fieldLink RX6 7 "HazelGiftModel" "all" "[I") (List.mem_of_getElem? (i := 1) rfl)) (fun _ h9 => h9) rfl dX6_places_42 ?_
    refine lv_bipush (v := 18) hx hb dX6_places_45 (by decide) ?_
    refine lv_iload_n hx hb dX6_places_47 rfl (lv_at hl 1 rfl) ?_
    refine lv_iadd hx hb dX6_places_48 ?_
    refine lv_dup2_11 hx hb dX6_places_49 rfl rfl ?_
    obtain ⟨hi6, hw⟩ := hw
    refine gIald (k := ((18 + r1)).toNatClampNeg) hx hb hK hP 1 0 rfl rfl hi6 rfl dX6_places_50 ?_
    refine lv_iload_n hx hb dX6_places_51 rfl (lv_at hl 0 rfl) ?_
    refine lv_if_eq (tgt := 59) hx hb dX6_places_52 (by decide) (fun c7 => ?_) (fun c7 => ?_)
    · skip
      refine lv_iconst (v := 0) hx hb dX6_places_59 (by decide) ?_
      refine lv_iadd hx hb dX6_places_60 ?_
      refine lv_topi (fun x8 ex8 => ?_)
      replace hw := hw x8 ex8
      obtain ⟨hi9, hw⟩ := hw
      refine gIast (k := ((18 + r1)).toNatClampNeg) hx hb hK hP hD hS 1 0 rfl rfl hi9 rfl dX6_places_61 (fun H locs hP hD hS => ?_)
      have hP : va_P D vwCl (wM kI mo m0 m1 m2 m3 m4 m5 m6 m7 ((upd (upd (upd u.1 ((0 + p0)).toNatClampNeg x2) 16 0) ((18 + r1)).toNatClampNeg x8), u.2.1, u.2.2.1, u.2.2.2.1, u.2.2.2.2.1, u.2.2.2.2.2.1, u.2.2.2.2.2.2.1, u.2.2.2.2.2.2.2.1, u.2.2.2.2.2.2.2.2.1, u.2.2.2.2.2.2.2.2.2.1, u.2.2.2.2.2.2.2.2.2.2.1, u.2.2.2.2.2.2.2.2.2.2.2.1, u.2.2.2.2.2.2.2.2.2.2.2.2.1, u.2.2.2.2.2.2.2.2.2.2.2.2.2.1, u.2.2.2.2.2.2.2.2.2.2.2.2.2.2.1, u.2.2.2.2.2.2.2.2.2.2.2.2.2.2.2.1, u.2.2.2.2.2.2.2.2.2.2.2.2.2.2.2.2.1, u.2.2.2.2.2.2.2.2.2.2.2.2.2.2.2.2.2)) H := hP
      have hD : va_D A (wM kI mo m0 m1 m2 m3 m4 m5 m6 m7 ((upd (upd (upd u.1 ((0 + p0)).toNatClampNeg x2) 16 0) ((18 + r1)).toNatClampNeg x8), u.2.1, u.2.2.1, u.2.2.2.1, u.2.2.2.2.1, u.2.2.2.2.2.1, u.2.2.2.2.2.2.1, u.2.2.2.2.2.2.2.1, u.2.2.2.2.2.2.2.2.1, u.2.2.2.2.2.2.2.2.2.1, u.2.2.2.2.2.2.2.2.2.2.1, u.2.2.2.2.2.2.2.2.2.2.2.1, u.2.2.2.2.2.2.2.2.2.2.2.2.1, u.2.2.2.2.2.2.2.2.2.2.2.2.2.1, u.2.2.2.2.2.2.2.2.2.2.2.2.2.2.1, u.2.2.2.2.2.2.2.2.2.2.2.2.2.2.2.1, u.2.2.2.2.2.2.2.2.2.2.2.2.2.2.2.2.1, u.2.2.2.2.2.2.2.2.2.2.2.2.2.2.2.2.2)) := hD
      refine lv_aload_n hx hb dX6_places_62 rfl (lv_at hl 2 rfl) ?_
      refine va_get (D := D) (ci := 5) (v := .ref m0) (C := RX6) (T := TX6) (N := 18) hx hb hts (fun _ h => List.mem_cons_of_mem _ (List.mem_append_right _ h)) hown hK hP 0 rfl rfl 0 (by decide) (hts (.fieldLink RX6 7 "HazelGiftModel" "all" "[I") (List.mem_of_getElem? (i := 1) rfl)) (fun _ h9 => h9) rfl dX6_places_63 ?_
      refine lv_bipush (v := 20) hx hb dX6_places_66 (by decide) ?_
      refine lv_iload_n hx hb dX6_places_68 rfl (lv_at hl 0 rfl) ?_
      refine lv_if_eq (tgt := 78) hx hb dX6_places_69 (by decide) (fun c10 => ?_) (fun c10 => ?_)
      · skip
        refine lv_iconst (v := 0) hx hb dX6_places_78 (by decide) ?_
        refine gIast (k := 20) hx hb hK hP hD hS 1 0 rfl rfl (gin (by decide)) (by decide) dX6_places_79 (fun H locs hP hD hS => ?_)
        have hP : va_P D vwCl (wM kI mo m0 m1 m2 m3 m4 m5 m6 m7 ((upd (upd (upd (upd u.1 ((0 + p0)).toNatClampNeg x2) 16 0) ((18 + r1)).toNatClampNeg x8) 20 0), u.2.1, u.2.2.1, u.2.2.2.1, u.2.2.2.2.1, u.2.2.2.2.2.1, u.2.2.2.2.2.2.1, u.2.2.2.2.2.2.2.1, u.2.2.2.2.2.2.2.2.1, u.2.2.2.2.2.2.2.2.2.1, u.2.2.2.2.2.2.2.2.2.2.1, u.2.2.2.2.2.2.2.2.2.2.2.1, u.2.2.2.2.2.2.2.2.2.2.2.2.1, u.2.2.2.2.2.2.2.2.2.2.2.2.2.1, u.2.2.2.2.2.2.2.2.2.2.2.2.2.2.1, u.2.2.2.2.2.2.2.2.2.2.2.2.2.2.2.1, u.2.2.2.2.2.2.2.2.2.2.2.2.2.2.2.2.1, u.2.2.2.2.2.2.2.2.2.2.2.2.2.2.2.2.2)) H := hP
        have hD : va_D A (wM kI mo m0 m1 m2 m3 m4 m5 m6 m7 ((upd (upd (upd (upd u.1 ((0 + p0)).toNatClampNeg x2) 16 0) ((18 + r1)).toNatClampNeg x8) 20 0), u.2.1, u.2.2.1, u.2.2.2.1, u.2.2.2.2.1, u.2.2.2.2.2.1, u.2.2.2.2.2.2.1, u.2.2.2.2.2.2.2.1, u.2.2.2.2.2.2.2.2.1, u.2.2.2.2.2.2.2.2.2.1, u.2.2.2.2.2.2.2.2.2.2.1, u.2.2.2.2.2.2.2.2.2.2.2.1, u.2.2.2.2.2.2.2.2.2.2.2.2.1, u.2.2.2.2.2.2.2.2.2.2.2.2.2.1, u.2.2.2.2.2.2.2.2.2.2.2.2.2.2.1, u.2.2.2.2.2.2.2.2.2.2.2.2.2.2.2.1, u.2.2.2.2.2.2.2.2.2.2.2.2.2.2.2.2.1, u.2.2.2.2.2.2.2.2.2.2.2.2.2.2.2.2.2)) := hD
        refine lv_iload_n hx hb dX6_places_80 rfl (lv_at hl 0 rfl) ?_
        exact W.zret (v := 0) hx hb hr rfl (fun t ht hW => ⟨⟨0, ((upd (upd (upd (upd u.1 ((0 + p0)).toNatClampNeg x2) 16 0) ((18 + r1)).toNatClampNeg x8) 20 0), u.2.1, u.2.2.1, u.2.2.2.1, u.2.2.2.2.1, u.2.2.2.2.2.1, u.2.2.2.2.2.2.1, u.2.2.2.2.2.2.2.1, u.2.2.2.2.2.2.2.2.1, u.2.2.2.2.2.2.2.2.2.1, u.2.2.2.2.2.2.2.2.2.2.1, u.2.2.2.2.2.2.2.2.2.2.2.1, u.2.2.2.2.2.2.2.2.2.2.2.2.1, u.2.2.2.2.2.2.2.2.2.2.2.2.2.1, u.2.2.2.2.2.2.2.2.2.2.2.2.2.2.1, u.2.2.2.2.2.2.2.2.2.2.2.2.2.2.2.1, u.2.2.2.2.2.2.2.2.2.2.2.2.2.2.2.2.1, u.2.2.2.2.2.2.2.2.2.2.2.2.2.2.2.2.2), rfl, hw, by rw [ht]; exact hP, va_K.moved hW.alike hK, hD⟩, hS.F ht⟩) hS.2.2 dX6_places_81
      · exact absurd (by decide) c10
    · exact absurd (by decide) c7
  · replace hw := Eq.mp (if_neg c5) hw
    refine lv_iconst (v := 1) hx hb dX6_places_35 (by decide) ?_
    refine lv_goto (tgt := 40) hx hb dX6_places_36 (by decide) ?_
    refine lv_istore_n (lv' := [(3, .int 1), (2, .int r1), (0, .ref mo), (1, .int p0)]) hx hb dX6_places_40 rfl hl (by decide) rfl (fun ls hl => ?_)
    refine lv_aload_n hx hb dX6_places_41 rfl (lv_at hl 2 rfl) ?_
    refine va_get (D := D) (ci := 5) (v := .ref m0) (C := RX6) (T := TX6) (N := 18) hx hb hts (fun _ h => List.mem_cons_of_mem _ (List.mem_append_right _ h)) hown hK hP 0 rfl rfl 0 (by decide) (hts (.fieldLink RX6 7 "HazelGiftModel" "all" "[I") (List.mem_of_getElem? (i := 1) rfl)) (fun _ h9 => h9) rfl dX6_places_42 ?_
    refine lv_bipush (v := 18) hx hb dX6_places_45 (by decide) ?_
    refine lv_iload_n hx hb dX6_places_47 rfl (lv_at hl 1 rfl) ?_
    refine lv_iadd hx hb dX6_places_48 ?_
    refine lv_dup2_11 hx hb dX6_places_49 rfl rfl ?_
    obtain ⟨hi11, hw⟩ := hw
    refine gIald (k := ((18 + r1)).toNatClampNeg) hx hb hK hP 1 0 rfl rfl hi11 rfl dX6_places_50 ?_
    refine lv_iload_n hx hb dX6_places_51 rfl (lv_at hl 0 rfl) ?_
    refine lv_if_eq (tgt := 59) hx hb dX6_places_52 (by decide) (fun c12 => ?_) (fun c12 => ?_)
    · exact absurd c12 (by decide)
    refine lv_iconst (v := 1) hx hb dX6_places_55 (by decide) ?_
    refine lv_goto (tgt := 60) hx hb dX6_places_56 (by decide) ?_
    refine lv_iadd hx hb dX6_places_60 ?_
    refine lv_topi (fun x13 ex13 => ?_)
    replace hw := hw x13 ex13
    obtain ⟨hi14, hw⟩ := hw
    refine gIast (k := ((18 + r1)).toNatClampNeg) hx hb hK hP hD hS 1 0 rfl rfl hi14 rfl dX6_places_61 (fun H locs hP hD hS => ?_)
    have hP : va_P D vwCl (wM kI mo m0 m1 m2 m3 m4 m5 m6 m7 ((upd (upd (upd u.1 ((0 + p0)).toNatClampNeg x2) 16 0) ((18 + r1)).toNatClampNeg x13), u.2.1, u.2.2.1, u.2.2.2.1, u.2.2.2.2.1, u.2.2.2.2.2.1, u.2.2.2.2.2.2.1, u.2.2.2.2.2.2.2.1, u.2.2.2.2.2.2.2.2.1, u.2.2.2.2.2.2.2.2.2.1, u.2.2.2.2.2.2.2.2.2.2.1, u.2.2.2.2.2.2.2.2.2.2.2.1, u.2.2.2.2.2.2.2.2.2.2.2.2.1, u.2.2.2.2.2.2.2.2.2.2.2.2.2.1, u.2.2.2.2.2.2.2.2.2.2.2.2.2.2.1, u.2.2.2.2.2.2.2.2.2.2.2.2.2.2.2.1, u.2.2.2.2.2.2.2.2.2.2.2.2.2.2.2.2.1, u.2.2.2.2.2.2.2.2.2.2.2.2.2.2.2.2.2)) H := hP
    have hD : va_D A (wM kI mo m0 m1 m2 m3 m4 m5 m6 m7 ((upd (upd (upd u.1 ((0 + p0)).toNatClampNeg x2) 16 0) ((18 + r1)).toNatClampNeg x13), u.2.1, u.2.2.1, u.2.2.2.1, u.2.2.2.2.1, u.2.2.2.2.2.1, u.2.2.2.2.2.2.1, u.2.2.2.2.2.2.2.1, u.2.2.2.2.2.2.2.2.1, u.2.2.2.2.2.2.2.2.2.1, u.2.2.2.2.2.2.2.2.2.2.1, u.2.2.2.2.2.2.2.2.2.2.2.1, u.2.2.2.2.2.2.2.2.2.2.2.2.1, u.2.2.2.2.2.2.2.2.2.2.2.2.2.1, u.2.2.2.2.2.2.2.2.2.2.2.2.2.2.1, u.2.2.2.2.2.2.2.2.2.2.2.2.2.2.2.1, u.2.2.2.2.2.2.2.2.2.2.2.2.2.2.2.2.1, u.2.2.2.2.2.2.2.2.2.2.2.2.2.2.2.2.2)) := hD
    refine lv_aload_n hx hb dX6_places_62 rfl (lv_at hl 2 rfl) ?_
    refine va_get (D := D) (ci := 5) (v := .ref m0) (C := RX6) (T := TX6) (N := 18) hx hb hts (fun _ h => List.mem_cons_of_mem _ (List.mem_append_right _ h)) hown hK hP 0 rfl rfl 0 (by decide) (hts (.fieldLink RX6 7 "HazelGiftModel" "all" "[I") (List.mem_of_getElem? (i := 1) rfl)) (fun _ h9 => h9) rfl dX6_places_63 ?_
    refine lv_bipush (v := 20) hx hb dX6_places_66 (by decide) ?_
    refine lv_iload_n hx hb dX6_places_68 rfl (lv_at hl 0 rfl) ?_
    refine lv_if_eq (tgt := 78) hx hb dX6_places_69 (by decide) (fun c15 => ?_) (fun c15 => ?_)
    · exact absurd c15 (by decide)
    refine lv_iload_n hx hb dX6_places_72 rfl (lv_at hl 1 rfl) ?_
    refine lv_iconst (v := 1) hx hb dX6_places_73 (by decide) ?_
    refine lv_iadd hx hb dX6_places_74 ?_
    refine lv_goto (tgt := 79) hx hb dX6_places_75 (by decide) ?_
    refine lv_topi (fun x16 ex16 => ?_)
    replace hw := hw x16 ex16
    refine gIast (k := 20) hx hb hK hP hD hS 1 0 rfl rfl (gin (by decide)) (by decide) dX6_places_79 (fun H locs hP hD hS => ?_)
    have hP : va_P D vwCl (wM kI mo m0 m1 m2 m3 m4 m5 m6 m7 ((upd (upd (upd (upd u.1 ((0 + p0)).toNatClampNeg x2) 16 0) ((18 + r1)).toNatClampNeg x13) 20 x16), u.2.1, u.2.2.1, u.2.2.2.1, u.2.2.2.2.1, u.2.2.2.2.2.1, u.2.2.2.2.2.2.1, u.2.2.2.2.2.2.2.1, u.2.2.2.2.2.2.2.2.1, u.2.2.2.2.2.2.2.2.2.1, u.2.2.2.2.2.2.2.2.2.2.1, u.2.2.2.2.2.2.2.2.2.2.2.1, u.2.2.2.2.2.2.2.2.2.2.2.2.1, u.2.2.2.2.2.2.2.2.2.2.2.2.2.1, u.2.2.2.2.2.2.2.2.2.2.2.2.2.2.1, u.2.2.2.2.2.2.2.2.2.2.2.2.2.2.2.1, u.2.2.2.2.2.2.2.2.2.2.2.2.2.2.2.2.1, u.2.2.2.2.2.2.2.2.2.2.2.2.2.2.2.2.2)) H := hP
    have hD : va_D A (wM kI mo m0 m1 m2 m3 m4 m5 m6 m7 ((upd (upd (upd (upd u.1 ((0 + p0)).toNatClampNeg x2) 16 0) ((18 + r1)).toNatClampNeg x13) 20 x16), u.2.1, u.2.2.1, u.2.2.2.1, u.2.2.2.2.1, u.2.2.2.2.2.1, u.2.2.2.2.2.2.1, u.2.2.2.2.2.2.2.1, u.2.2.2.2.2.2.2.2.1, u.2.2.2.2.2.2.2.2.2.1, u.2.2.2.2.2.2.2.2.2.2.1, u.2.2.2.2.2.2.2.2.2.2.2.1, u.2.2.2.2.2.2.2.2.2.2.2.2.1, u.2.2.2.2.2.2.2.2.2.2.2.2.2.1, u.2.2.2.2.2.2.2.2.2.2.2.2.2.2.1, u.2.2.2.2.2.2.2.2.2.2.2.2.2.2.2.1, u.2.2.2.2.2.2.2.2.2.2.2.2.2.2.2.2.1, u.2.2.2.2.2.2.2.2.2.2.2.2.2.2.2.2.2)) := hD
    refine lv_iload_n hx hb dX6_places_80 rfl (lv_at hl 0 rfl) ?_
    exact W.zret (v := 1) hx hb hr rfl (fun t ht hW => ⟨⟨1, ((upd (upd (upd (upd u.1 ((0 + p0)).toNatClampNeg x2) 16 0) ((18 + r1)).toNatClampNeg x13) 20 x16), u.2.1, u.2.2.1, u.2.2.2.1, u.2.2.2.2.1, u.2.2.2.2.2.1, u.2.2.2.2.2.2.1, u.2.2.2.2.2.2.2.1, u.2.2.2.2.2.2.2.2.1, u.2.2.2.2.2.2.2.2.2.1, u.2.2.2.2.2.2.2.2.2.2.1, u.2.2.2.2.2.2.2.2.2.2.2.1, u.2.2.2.2.2.2.2.2.2.2.2.2.1, u.2.2.2.2.2.2.2.2.2.2.2.2.2.1, u.2.2.2.2.2.2.2.2.2.2.2.2.2.2.1, u.2.2.2.2.2.2.2.2.2.2.2.2.2.2.2.1, u.2.2.2.2.2.2.2.2.2.2.2.2.2.2.2.2.1, u.2.2.2.2.2.2.2.2.2.2.2.2.2.2.2.2.2), rfl, hw, by rw [ht]; exact hP, va_K.moved hW.alike hK, hD⟩, hS.F ht⟩) hS.2.2 dX6_places_81
