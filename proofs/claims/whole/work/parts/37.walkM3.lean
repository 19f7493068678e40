set_option maxHeartbeats 4000000 in
set_option maxRecDepth 100000 in
theorem kX6_undo (l : Launch) (D : va_G) (kI kC kG kJ : ClassId) (mo m0 m1 m2 m3 m4 m5 m6 m7 : Nat) (sz : Nat) (u : SM) (Z : Int32 → SM → Prop) (hw : pX6_undo u Z) : Met l yX6_undo wsX6_undo ({ frames := 1, cells := 0, slots := 0, locals := 21 } : Room) (gPw D (gT kI kC kG kJ) [.ref mo] (wM kI mo m0 m1 m2 m3 m4 m5 m6 m7 u) sz) (va_Qi Z (gB D (gT kI kC kG kJ) (fun (zz : SM) => wM kI mo m0 m1 m2 m3 m4 m5 m6 m7 zz) (va_A (wM kI mo m0 m1 m2 m3 m4 m5 m6 m7 u) sz)) (va_A (wM kI mo m0 m1 m2 m3 m4 m5 m6 m7 u) sz)) 0 0 (va_A (wM kI mo m0 m1 m2 m3 m4 m5 m6 m7 u) sz) := by
  refine Met.ofW (cc := cX6_undo) (maxL := 2) (ret := (some .int)) (by decide) rfl ?_
  intro p e s m args below meth c s₁ B hml hv
  obtain ⟨rfl, hsz, hP, hK, hD0, hE⟩ := hv
  have hx := B.exec
  have hb := B.bytes
  have hr := B.returns
  have hts := atoms_spec (ws := wsX6_undo) B.pre
  have hown : s.vm.findClass RX6 = some m.cls := findClass_of_methodNamed B.named
  have hlocks := B.notSynchronized
  subst hsz
  have hD := hD0.self (sz := s.heap.size)
  generalize hAe : va_A (wM kI mo m0 m1 m2 m3 m4 m5 m6 m7 u) s.heap.size = A at hD hE ⊢
  have hA : ∀ q : Nat, s.heap.size ≤ q → A q := fun q h => by rw [← hAe]; exact Or.inr h
  have hS : va_S A s.heap s.heap [] := va_S.rf
  clear hAe hD0
  have hl := lv_entry ([.ref mo]) (n := 2) (Nat.le_of_ble_eq_true rfl)
  rw [lg_entry_eq]
  generalize (lg_sl ([.ref mo]) ++ List.replicate (2 - (lg_sl ([.ref mo])).length) Slot.unset).toArray = ls at hl ⊢
  have hl : lv_has ls 2 [(0, .ref mo)] := hl
  have hP : va_P D vwCl (wM kI mo m0 m1 m2 m3 m4 m5 m6 m7 u) s.heap := hP
  have L30 : ∀ (_ : Unit), ∀ (n : Nat), ∀ (v1 : Int32) (u : SM) (H : Heap) (locs : List Loc) (ls : Array Slot), va_P D vwCl (wM kI mo m0 m1 m2 m3 m4 m5 m6 m7 u) H → va_D A (wM kI mo m0 m1 m2 m3 m4 m5 m6 m7 u) → va_S A s.heap H locs → lv_has ls 2 [(0, .ref mo), (1, .int v1)] → pX6_undo_30 Z n v1 u → W p l e (headSpec wsX6_undo ({ frames := 1, cells := 0, slots := 0, locals := 21 } : Room)).room s m ([.ref mo] : List Value).toArray below meth c H locs 0 0 (MQ below (va_Qi Z (gB D (gT kI kC kG kJ) (fun (zz : SM) => wM kI mo m0 m1 m2 m3 m4 m5 m6 m7 zz) A) A) ([.ref mo] : List Value).toArray s 0 0 A) (F0 m 30 ls []) := by
    intro _ n
    induction n with
    | zero => intro v1 u H locs ls hP hD hS hl hw; exact hw.elim
    | succ n ih =>
    intro v1 u H locs ls hP hD hS hl hw
    rw [pX6_undo_30] at hw
    refine lv_iload_n hx hb dX6_undo_30 rfl (lv_at hl 1 rfl) ?_
    refine lv_bipush (v := 21) hx hb dX6_undo_31 (by decide) ?_
    refine lv_icmp_ge (tgt := 62) hx hb dX6_undo_33 (by decide) (fun c3 => ?_) (fun c3 => ?_)
    · replace hw := Eq.mp (if_pos c3) hw
      refine lv_aload_n hx hb dX6_undo_62 rfl (lv_at hl 0 rfl) ?_
      refine va_get (D := D) (ci := 5) (v := .int u.2.2.2.2.2.2.2.2.1) (C := RX6) (T := TX6) (N := 18) hx hb hts (fun _ h => List.mem_cons_of_mem _ (List.mem_append_right _ h)) hown hK hP 0 rfl rfl 3 (by decide) (hts (.fieldLink RX6 38 "HazelGiftModel" "recordedLong" "I") (List.mem_of_getElem? (i := 1) rfl)) (fun _ h9 => h9) rfl dX6_undo_63 ?_
      exact W.iret (v := u.2.2.2.2.2.2.2.2.1) hx hb hr (fun t ht hW => ⟨⟨u.2.2.2.2.2.2.2.2.1, u, rfl, hw, by rw [ht]; exact hP, va_K.moved hW.alike hK, hD⟩, hS.F ht⟩) hS.2.2 dX6_undo_66
    · replace hw := Eq.mp (if_neg c3) hw
      refine lv_aload_n hx hb dX6_undo_36 rfl (lv_at hl 0 rfl) ?_
      refine va_get (D := D) (ci := 5) (v := .ref m0) (C := RX6) (T := TX6) (N := 18) hx hb hts (fun _ h => List.mem_cons_of_mem _ (List.mem_append_right _ h)) hown hK hP 0 rfl rfl 0 (by decide) (hts (.fieldLink RX6 7 "HazelGiftModel" "all" "[I") (List.mem_of_getElem? (i := 3) rfl)) (fun _ h9 => h9) rfl dX6_undo_37 ?_
      refine lv_iload_n hx hb dX6_undo_40 rfl (lv_at hl 1 rfl) ?_
      refine lv_aload_n hx hb dX6_undo_41 rfl (lv_at hl 0 rfl) ?_
      refine va_get (D := D) (ci := 5) (v := .ref m2) (C := RX6) (T := TX6) (N := 18) hx hb hts (fun _ h => List.mem_cons_of_mem _ (List.mem_append_right _ h)) hown hK hP 0 rfl rfl 2 (by decide) (hts (.fieldLink RX6 16 "HazelGiftModel" "recorded" "[I") (List.mem_of_getElem? (i := 4) rfl)) (fun _ h9 => h9) rfl dX6_undo_42 ?_
      refine lv_bipush (v := 21) hx hb dX6_undo_45 (by decide) ?_
      refine lv_aload_n hx hb dX6_undo_47 rfl (lv_at hl 0 rfl) ?_
      refine va_get (D := D) (ci := 5) (v := .int u.2.2.2.2.2.2.2.2.1) (C := RX6) (T := TX6) (N := 18) hx hb hts (fun _ h => List.mem_cons_of_mem _ (List.mem_append_right _ h)) hown hK hP 0 rfl rfl 3 (by decide) (hts (.fieldLink RX6 38 "HazelGiftModel" "recordedLong" "I") (List.mem_of_getElem? (i := 1) rfl)) (fun _ h9 => h9) rfl dX6_undo_48 ?_
      refine lv_imul hx hb dX6_undo_51 ?_
      refine lv_iload_n hx hb dX6_undo_52 rfl (lv_at hl 1 rfl) ?_
      refine lv_iadd hx hb dX6_undo_53 ?_
      obtain ⟨hi4, hw⟩ := hw
      refine gIald (k := (((21 * u.2.2.2.2.2.2.2.2.1) + v1)).toNatClampNeg) hx hb hK hP 3 0 rfl rfl hi4 rfl dX6_undo_54 ?_
      refine lv_topi (fun x5 ex5 => ?_)
      replace hw := hw x5 ex5
      obtain ⟨hi6, hw⟩ := hw
      refine gIast (k := (v1).toNatClampNeg) hx hb hK hP hD hS 1 0 rfl rfl hi6 rfl dX6_undo_55 (fun H locs hP hD hS => ?_)
      have hP : va_P D vwCl (wM kI mo m0 m1 m2 m3 m4 m5 m6 m7 ((upd u.1 (v1).toNatClampNeg x5), u.2.1, u.2.2.1, u.2.2.2.1, u.2.2.2.2.1, u.2.2.2.2.2.1, u.2.2.2.2.2.2.1, u.2.2.2.2.2.2.2.1, u.2.2.2.2.2.2.2.2.1, u.2.2.2.2.2.2.2.2.2.1, u.2.2.2.2.2.2.2.2.2.2.1, u.2.2.2.2.2.2.2.2.2.2.2.1, u.2.2.2.2.2.2.2.2.2.2.2.2.1, u.2.2.2.2.2.2.2.2.2.2.2.2.2.1, u.2.2.2.2.2.2.2.2.2.2.2.2.2.2.1, u.2.2.2.2.2.2.2.2.2.2.2.2.2.2.2.1, u.2.2.2.2.2.2.2.2.2.2.2.2.2.2.2.2.1, u.2.2.2.2.2.2.2.2.2.2.2.2.2.2.2.2.2)) H := hP
      have hD : va_D A (wM kI mo m0 m1 m2 m3 m4 m5 m6 m7 ((upd u.1 (v1).toNatClampNeg x5), u.2.1, u.2.2.1, u.2.2.2.1, u.2.2.2.2.1, u.2.2.2.2.2.1, u.2.2.2.2.2.2.1, u.2.2.2.2.2.2.2.1, u.2.2.2.2.2.2.2.2.1, u.2.2.2.2.2.2.2.2.2.1, u.2.2.2.2.2.2.2.2.2.2.1, u.2.2.2.2.2.2.2.2.2.2.2.1, u.2.2.2.2.2.2.2.2.2.2.2.2.1, u.2.2.2.2.2.2.2.2.2.2.2.2.2.1, u.2.2.2.2.2.2.2.2.2.2.2.2.2.2.1, u.2.2.2.2.2.2.2.2.2.2.2.2.2.2.2.1, u.2.2.2.2.2.2.2.2.2.2.2.2.2.2.2.2.1, u.2.2.2.2.2.2.2.2.2.2.2.2.2.2.2.2.2)) := hD
      obtain ⟨x7, ex7⟩ : ∃ y : Int32, y = (v1 + 1) := ⟨_, rfl⟩
      replace hw := hw x7 ex7
      refine lv_iinc (v := x7) (lv' := [(1, .int x7), (0, .ref mo)]) hx hb dX6_undo_56 hl (k := 1) rfl (by rw [ex7]; rfl) (by decide) rfl (fun ls hl => ?_)
      refine lv_goto (tgt := 30) hx hb dX6_undo_59 (by decide) ?_
      exact ih x7 ((upd u.1 (v1).toNatClampNeg x5), u.2.1, u.2.2.1, u.2.2.2.1, u.2.2.2.2.1, u.2.2.2.2.2.1, u.2.2.2.2.2.2.1, u.2.2.2.2.2.2.2.1, u.2.2.2.2.2.2.2.2.1, u.2.2.2.2.2.2.2.2.2.1, u.2.2.2.2.2.2.2.2.2.2.1, u.2.2.2.2.2.2.2.2.2.2.2.1, u.2.2.2.2.2.2.2.2.2.2.2.2.1, u.2.2.2.2.2.2.2.2.2.2.2.2.2.1, u.2.2.2.2.2.2.2.2.2.2.2.2.2.2.1, u.2.2.2.2.2.2.2.2.2.2.2.2.2.2.2.1, u.2.2.2.2.2.2.2.2.2.2.2.2.2.2.2.2.1, u.2.2.2.2.2.2.2.2.2.2.2.2.2.2.2.2.2) H locs ls hP hD hS (lv_sub hl [1, 0] rfl) hw
  unfold pX6_undo at hw
  refine lv_aload_n hx hb dX6_undo_0 rfl (lv_at hl 0 rfl) ?_
  refine va_get (D := D) (ci := 5) (v := .int u.2.2.2.2.2.2.2.2.1) (C := RX6) (T := TX6) (N := 18) hx hb hts (fun _ h => List.mem_cons_of_mem _ (List.mem_append_right _ h)) hown hK hP 0 rfl rfl 3 (by decide) (hts (.fieldLink RX6 38 "HazelGiftModel" "recordedLong" "I") (List.mem_of_getElem? (i := 1) rfl)) (fun _ h9 => h9) rfl dX6_undo_1 ?_
  refine lv_if_ne (tgt := 13) hx hb dX6_undo_4 (by decide) (fun c1 => ?_) (fun c1 => ?_)
  · replace hw := Eq.mp (if_neg c1) hw
    refine lv_aload_n hx hb dX6_undo_13 rfl (lv_at hl 0 rfl) ?_
    refine lv_iconst (v := 0) hx hb dX6_undo_14 (by decide) ?_
    refine va_put (D := D) (ci := 5) (v := .int 0) (ty := tyX6 6) (C := RX6) (T := TX6) (N := 18) hx hb hts (fun _ h => List.mem_cons_of_mem _ (List.mem_append_right _ h)) tyX6 tyX6_ok nmX6 hown hK hP hD hS 0 rfl rfl 6 (by decide) (hts (.fieldLink RX6 34 "HazelGiftModel" "thrown" "I") (List.mem_of_getElem? (i := 2) rfl)) (fun _ h9 => h9) rfl (tyX6_ok 6 (by decide)) rfl rfl (Nat.le_of_ble_eq_true rfl) dX6_undo_15 (fun H locs hP hD hS => ?_)
    have hP : va_P D vwCl (wM kI mo m0 m1 m2 m3 m4 m5 m6 m7 (u.1, u.2.1, u.2.2.1, u.2.2.2.1, u.2.2.2.2.1, u.2.2.2.2.2.1, u.2.2.2.2.2.2.1, u.2.2.2.2.2.2.2.1, u.2.2.2.2.2.2.2.2.1, u.2.2.2.2.2.2.2.2.2.1, 0, u.2.2.2.2.2.2.2.2.2.2.2.1, u.2.2.2.2.2.2.2.2.2.2.2.2.1, u.2.2.2.2.2.2.2.2.2.2.2.2.2.1, u.2.2.2.2.2.2.2.2.2.2.2.2.2.2.1, u.2.2.2.2.2.2.2.2.2.2.2.2.2.2.2.1, u.2.2.2.2.2.2.2.2.2.2.2.2.2.2.2.2.1, u.2.2.2.2.2.2.2.2.2.2.2.2.2.2.2.2.2)) H := hP
    have hD : va_D A (wM kI mo m0 m1 m2 m3 m4 m5 m6 m7 (u.1, u.2.1, u.2.2.1, u.2.2.2.1, u.2.2.2.2.1, u.2.2.2.2.2.1, u.2.2.2.2.2.2.1, u.2.2.2.2.2.2.2.1, u.2.2.2.2.2.2.2.2.1, u.2.2.2.2.2.2.2.2.2.1, 0, u.2.2.2.2.2.2.2.2.2.2.2.1, u.2.2.2.2.2.2.2.2.2.2.2.2.1, u.2.2.2.2.2.2.2.2.2.2.2.2.2.1, u.2.2.2.2.2.2.2.2.2.2.2.2.2.2.1, u.2.2.2.2.2.2.2.2.2.2.2.2.2.2.2.1, u.2.2.2.2.2.2.2.2.2.2.2.2.2.2.2.2.1, u.2.2.2.2.2.2.2.2.2.2.2.2.2.2.2.2.2)) := hD
    refine lv_aload_n hx hb dX6_undo_18 rfl (lv_at hl 0 rfl) ?_
    refine lv_dup hx hb dX6_undo_19 rfl ?_
    refine va_get (D := D) (ci := 5) (v := .int u.2.2.2.2.2.2.2.2.1) (C := RX6) (T := TX6) (N := 18) hx hb hts (fun _ h => List.mem_cons_of_mem _ (List.mem_append_right _ h)) hown hK hP 0 rfl rfl 3 (by decide) (hts (.fieldLink RX6 38 "HazelGiftModel" "recordedLong" "I") (List.mem_of_getElem? (i := 1) rfl)) (fun _ h9 => h9) rfl dX6_undo_20 ?_
    refine lv_iconst (v := 1) hx hb dX6_undo_23 (by decide) ?_
    refine lv_isub hx hb dX6_undo_24 ?_
    refine lv_topi (fun x2 ex2 => ?_)
    replace hw := hw x2 ex2
    refine va_put (D := D) (ci := 5) (v := .int x2) (ty := tyX6 3) (C := RX6) (T := TX6) (N := 18) hx hb hts (fun _ h => List.mem_cons_of_mem _ (List.mem_append_right _ h)) tyX6 tyX6_ok nmX6 hown hK hP hD hS 0 rfl rfl 3 (by decide) (hts (.fieldLink RX6 38 "HazelGiftModel" "recordedLong" "I") (List.mem_of_getElem? (i := 1) rfl)) (fun _ h9 => h9) rfl (tyX6_ok 3 (by decide)) rfl rfl (Nat.le_of_ble_eq_true rfl) dX6_undo_25 (fun H locs hP hD hS => ?_)
    have hP : va_P D vwCl (wM kI mo m0 m1 m2 m3 m4 m5 m6 m7 (u.1, u.2.1, u.2.2.1, u.2.2.2.1, u.2.2.2.2.1, u.2.2.2.2.2.1, u.2.2.2.2.2.2.1, u.2.2.2.2.2.2.2.1, x2, u.2.2.2.2.2.2.2.2.2.1, 0, u.2.2.2.2.2.2.2.2.2.2.2.1, u.2.2.2.2.2.2.2.2.2.2.2.2.1, u.2.2.2.2.2.2.2.2.2.2.2.2.2.1, u.2.2.2.2.2.2.2.2.2.2.2.2.2.2.1, u.2.2.2.2.2.2.2.2.2.2.2.2.2.2.2.1, u.2.2.2.2.2.2.2.2.2.2.2.2.2.2.2.2.1, u.2.2.2.2.2.2.2.2.2.2.2.2.2.2.2.2.2)) H := hP
    have hD : va_D A (wM kI mo m0 m1 m2 m3 m4 m5 m6 m7 (u.1, u.2.1, u.2.2.1, u.2.2.2.1, u.2.2.2.2.1, u.2.2.2.2.2.1, u.2.2.2.2.2.2.1, u.2.2.2.2.2.2.2.1, x2, u.2.2.2.2.2.2.2.2.2.1, 0, u.2.2.2.2.2.2.2.2.2.2.2.1, u.2.2.2.2.2.2.2.2.2.2.2.2.1, u.2.2.2.2.2.2.2.2.2.2.2.2.2.1, u.2.2.2.2.2.2.2.2.2.2.2.2.2.2.1, u.2.2.2.2.2.2.2.2.2.2.2.2.2.2.2.1, u.2.2.2.2.2.2.2.2.2.2.2.2.2.2.2.2.1, u.2.2.2.2.2.2.2.2.2.2.2.2.2.2.2.2.2)) := hD
    refine lv_iconst (v := 0) hx hb dX6_undo_28 (by decide) ?_
    refine lv_istore_n (lv' := [(1, .int 0), (0, .ref mo)]) hx hb dX6_undo_29 rfl hl (by decide) rfl (fun ls hl => ?_)
    obtain ⟨n9, hw⟩ := hw
    exact L30 () n9 0 (u.1, u.2.1, u.2.2.1, u.2.2.2.1, u.2.2.2.2.1, u.2.2.2.2.2.1, u.2.2.2.2.2.2.1, u.2.2.2.2.2.2.2.1, x2, u.2.2.2.2.2.2.2.2.2.1, 0, u.2.2.2.2.2.2.2.2.2.2.2.1, u.2.2.2.2.2.2.2.2.2.2.2.2.1, u.2.2.2.2.2.2.2.2.2.2.2.2.2.1, u.2.2.2.2.2.2.2.2.2.2.2.2.2.2.1, u.2.2.2.2.2.2.2.2.2.2.2.2.2.2.2.1, u.2.2.2.2.2.2.2.2.2.2.2.2.2.2.2.2.1, u.2.2.2.2.2.2.2.2.2.2.2.2.2.2.2.2.2) H locs ls hP hD hS (lv_sub hl [1, 0] rfl) hw
  · replace hw := Eq.mp (if_pos c1) hw
    refine lv_aload_n hx hb dX6_undo_7 rfl (lv_at hl 0 rfl) ?_
    refine lv_iconst (v := 1) hx hb dX6_undo_8 (by decide) ?_
    refine gWVi (S := SM) (As := [.int 1]) (rest := []) (wc := wM kI mo m0 m1 m2 m3 m4 m5 m6 m7 u) (wr := []) (cs1 := (fun zz : SM => wM kI mo m0 m1 m2 m3 m4 m5 m6 m7 zz)) (ws2 := (fun zz : SM => wM kI mo m0 m1 m2 m3 m4 m5 m6 m7 zz)) ⟨hx, hb, hml, hown, hts⟩ (fun sz => kX6_fails l D kI kC kG kJ mo m0 m1 m2 m3 m4 m5 m6 m7 sz u 1 _ hw) (cwV 1 hts gX6_undo_X6_fails rfl rfl rfl hdX6_fails ⟨Nat.le_of_ble_eq_true rfl, Nat.le_of_ble_eq_true rfl⟩) hK hP hD hE hS hA [0, 1, 2, 3, 4, 5, 6, 7, 8] [] rfl rfl rfl rfl (by decide) [0, 1, 2, 3, 4, 5, 6, 7, 8] rfl (fun _ => rfl) (ci := 5) (q0 := 0) rfl rfl rfl rfl hl.1 rfl (Nat.le_of_ble_eq_true rfl) dX6_undo_9 ⟨Nat.le_of_ble_eq_true rfl, Nat.le_of_ble_eq_true rfl⟩ (fun r8 w8 H locs hw hP hD hS => ?_)
    have hP : va_P D vwCl (wM kI mo m0 m1 m2 m3 m4 m5 m6 m7 w8) H := hP
    have hD : va_D A (wM kI mo m0 m1 m2 m3 m4 m5 m6 m7 w8) := hD
    exact W.iret (v := r8) hx hb hr (fun t ht hW => ⟨⟨r8, w8, rfl, hw, by rw [ht]; exact hP, va_K.moved hW.alike hK, hD⟩, hS.F ht⟩) hS.2.2 dX6_undo_12
set_option maxHeartbeats 4000000 in
set_option maxRecDepth 100000 in
theorem kX6_takeSnapshot (l : Launch) (D : va_G) (kI kC kG kJ : ClassId) (mo m0 m1 m2 m3 m4 m5 m6 m7 : Nat) (sz : Nat) (u : SM) (Z : Int32 → SM → Prop) (hw : pX6_takeSnapshot u Z) : Met l yX6_takeSnapshot wsX6_takeSnapshot ({ frames := 1, cells := 0, slots := 0, locals := 22 } : Room) (gPw D (gT kI kC kG kJ) [.ref mo] (wM kI mo m0 m1 m2 m3 m4 m5 m6 m7 u) sz) (va_Qi Z (gB D (gT kI kC kG kJ) (fun (zz : SM) => wM kI mo m0 m1 m2 m3 m4 m5 m6 m7 zz) (va_A (wM kI mo m0 m1 m2 m3 m4 m5 m6 m7 u) sz)) (va_A (wM kI mo m0 m1 m2 m3 m4 m5 m6 m7 u) sz)) 0 0 (va_A (wM kI mo m0 m1 m2 m3 m4 m5 m6 m7 u) sz) := by
  refine Met.ofW (cc := cX6_takeSnapshot) (maxL := 2) (ret := (some .int)) (by decide) rfl ?_
  intro p e s m args below meth c s₁ B hml hv
  obtain ⟨rfl, hsz, hP, hK, hD0, hE⟩ := hv
  have hx := B.exec
  have hb := B.bytes
  have hr := B.returns
  have hts := atoms_spec (ws := wsX6_takeSnapshot) B.pre
  have hown : s.vm.findClass RX6 = some m.cls := findClass_of_methodNamed B.named
  have hlocks := B.notSynchronized
  subst hsz
  have hD := hD0.self (sz := s.heap.size)
  generalize hAe : va_A (wM kI mo m0 m1 m2 m3 m4 m5 m6 m7 u) s.heap.size = A at hD hE ⊢
  have hA : ∀ q : Nat, s.heap.size ≤ q → A q := fun q h => by rw [← hAe]; exact Or.inr h
  have hS : va_S A s.heap s.heap [] := va_S.rf
  clear hAe hD0
  have hl := lv_entry ([.ref mo]) (n := 2) (Nat.le_of_ble_eq_true rfl)
  rw [lg_entry_eq]
  generalize (lg_sl ([.ref mo]) ++ List.replicate (2 - (lg_sl ([.ref mo])).length) Slot.unset).toArray = ls at hl ⊢
  have hl : lv_has ls 2 [(0, .ref mo)] := hl
  have hP : va_P D vwCl (wM kI mo m0 m1 m2 m3 m4 m5 m6 m7 u) s.heap := hP
  have L2 : ∀ (_ : Unit), ∀ (n : Nat), ∀ (v1 : Int32) (u : SM) (H : Heap) (locs : List Loc) (ls : Array Slot), va_P D vwCl (wM kI mo m0 m1 m2 m3 m4 m5 m6 m7 u) H → va_D A (wM kI mo m0 m1 m2 m3 m4 m5 m6 m7 u) → va_S A s.heap H locs → lv_has ls 2 [(0, .ref mo), (1, .int v1)] → pX6_takeSnapshot_2 Z n v1 u → W p l e (headSpec wsX6_takeSnapshot ({ frames := 1, cells := 0, slots := 0, locals := 22 } : Room)).room s m ([.ref mo] : List Value).toArray below meth c H locs 0 0 (MQ below (va_Qi Z (gB D (gT kI kC kG kJ) (fun (zz : SM) => wM kI mo m0 m1 m2 m3 m4 m5 m6 m7 zz) A) A) ([.ref mo] : List Value).toArray s 0 0 A) (F0 m 2 ls []) := by
    intro _ n
    induction n with
    | zero => intro v1 u H locs ls hP hD hS hl hw; exact hw.elim
    | succ n ih =>
    intro v1 u H locs ls hP hD hS hl hw
    rw [pX6_takeSnapshot_2] at hw
    refine lv_iload_n hx hb dX6_takeSnapshot_2 rfl (lv_at hl 1 rfl) ?_
    refine lv_bipush (v := 21) hx hb dX6_takeSnapshot_3 (by decide) ?_
    refine lv_icmp_ge (tgt := 26) hx hb dX6_takeSnapshot_5 (by decide) (fun c1 => ?_) (fun c1 => ?_)
    · replace hw := Eq.mp (if_pos c1) hw
      refine lv_aload_n hx hb dX6_takeSnapshot_26 rfl (lv_at hl 0 rfl) ?_
      refine lv_iconst (v := 1) hx hb dX6_takeSnapshot_27 (by decide) ?_
      refine va_put (D := D) (ci := 5) (v := .int 1) (ty := tyX6 5) (C := RX6) (T := TX6) (N := 18) hx hb hts (fun _ h => List.mem_cons_of_mem _ (List.mem_append_right _ h)) tyX6 tyX6_ok nmX6 hown hK hP hD hS 0 rfl rfl 5 (by decide) (hts (.fieldLink RX6 147 "HazelGiftModel" "isKept" "I") (List.mem_of_getElem? (i := 3) rfl)) (fun _ h9 => h9) rfl (tyX6_ok 5 (by decide)) rfl rfl (Nat.le_of_ble_eq_true rfl) dX6_takeSnapshot_28 (fun H locs hP hD hS => ?_)
      have hP : va_P D vwCl (wM kI mo m0 m1 m2 m3 m4 m5 m6 m7 (u.1, u.2.1, u.2.2.1, u.2.2.2.1, u.2.2.2.2.1, u.2.2.2.2.2.1, u.2.2.2.2.2.2.1, u.2.2.2.2.2.2.2.1, u.2.2.2.2.2.2.2.2.1, 1, u.2.2.2.2.2.2.2.2.2.2.1, u.2.2.2.2.2.2.2.2.2.2.2.1, u.2.2.2.2.2.2.2.2.2.2.2.2.1, u.2.2.2.2.2.2.2.2.2.2.2.2.2.1, u.2.2.2.2.2.2.2.2.2.2.2.2.2.2.1, u.2.2.2.2.2.2.2.2.2.2.2.2.2.2.2.1, u.2.2.2.2.2.2.2.2.2.2.2.2.2.2.2.2.1, u.2.2.2.2.2.2.2.2.2.2.2.2.2.2.2.2.2)) H := hP
      have hD : va_D A (wM kI mo m0 m1 m2 m3 m4 m5 m6 m7 (u.1, u.2.1, u.2.2.1, u.2.2.2.1, u.2.2.2.2.1, u.2.2.2.2.2.1, u.2.2.2.2.2.2.1, u.2.2.2.2.2.2.2.1, u.2.2.2.2.2.2.2.2.1, 1, u.2.2.2.2.2.2.2.2.2.2.1, u.2.2.2.2.2.2.2.2.2.2.2.1, u.2.2.2.2.2.2.2.2.2.2.2.2.1, u.2.2.2.2.2.2.2.2.2.2.2.2.2.1, u.2.2.2.2.2.2.2.2.2.2.2.2.2.2.1, u.2.2.2.2.2.2.2.2.2.2.2.2.2.2.2.1, u.2.2.2.2.2.2.2.2.2.2.2.2.2.2.2.2.1, u.2.2.2.2.2.2.2.2.2.2.2.2.2.2.2.2.2)) := hD
      refine lv_aload_n hx hb dX6_takeSnapshot_31 rfl (lv_at hl 0 rfl) ?_
      refine lv_aload_n hx hb dX6_takeSnapshot_32 rfl (lv_at hl 0 rfl) ?_
      refine gVi (As := []) (rest := [.ref mo]) (cs' := wM kI mo m0 m1 m2 m3 m4 m5 m6 m7 (u.1, u.2.1, u.2.2.1, u.2.2.2.1, u.2.2.2.2.1, u.2.2.2.2.2.1, u.2.2.2.2.2.2.1, u.2.2.2.2.2.2.2.1, u.2.2.2.2.2.2.2.2.1, 1, u.2.2.2.2.2.2.2.2.2.2.1, u.2.2.2.2.2.2.2.2.2.2.2.1, u.2.2.2.2.2.2.2.2.2.2.2.2.1, u.2.2.2.2.2.2.2.2.2.2.2.2.2.1, u.2.2.2.2.2.2.2.2.2.2.2.2.2.2.1, u.2.2.2.2.2.2.2.2.2.2.2.2.2.2.2.1, u.2.2.2.2.2.2.2.2.2.2.2.2.2.2.2.2.1, u.2.2.2.2.2.2.2.2.2.2.2.2.2.2.2.2.2)) ⟨hx, hb, hml, hown, hts⟩ (kX6_count l D kI kC kG kJ mo m0 m1 m2 m3 m4 m5 m6 m7 (u.1, u.2.1, u.2.2.1, u.2.2.2.1, u.2.2.2.2.1, u.2.2.2.2.2.1, u.2.2.2.2.2.2.1, u.2.2.2.2.2.2.2.1, u.2.2.2.2.2.2.2.2.1, 1, u.2.2.2.2.2.2.2.2.2.2.1, u.2.2.2.2.2.2.2.2.2.2.2.1, u.2.2.2.2.2.2.2.2.2.2.2.2.1, u.2.2.2.2.2.2.2.2.2.2.2.2.2.1, u.2.2.2.2.2.2.2.2.2.2.2.2.2.2.1, u.2.2.2.2.2.2.2.2.2.2.2.2.2.2.2.1, u.2.2.2.2.2.2.2.2.2.2.2.2.2.2.2.2.1, u.2.2.2.2.2.2.2.2.2.2.2.2.2.2.2.2.2) _ hw) (cwV 0 hts gX6_takeSnapshot_X6_count rfl rfl rfl hdX6_count ⟨Nat.le_of_ble_eq_true rfl, Nat.le_of_ble_eq_true rfl⟩) hK hP hE hS [0, 1, 2, 3, 4, 5, 6, 7, 8] rfl (ci := 5) (q0 := 0) rfl rfl rfl rfl hl.1 rfl (Nat.le_of_ble_eq_true rfl) dX6_takeSnapshot_33 ⟨Nat.le_of_ble_eq_true rfl, Nat.le_of_ble_eq_true rfl⟩ (fun r2 hw => ?_)
      refine gWVi (S := SM) (As := [.int r2]) (rest := []) (wc := wM kI mo m0 m1 m2 m3 m4 m5 m6 m7 (u.1, u.2.1, u.2.2.1, u.2.2.2.1, u.2.2.2.2.1, u.2.2.2.2.2.1, u.2.2.2.2.2.2.1, u.2.2.2.2.2.2.2.1, u.2.2.2.2.2.2.2.2.1, 1, u.2.2.2.2.2.2.2.2.2.2.1, u.2.2.2.2.2.2.2.2.2.2.2.1, u.2.2.2.2.2.2.2.2.2.2.2.2.1, u.2.2.2.2.2.2.2.2.2.2.2.2.2.1, u.2.2.2.2.2.2.2.2.2.2.2.2.2.2.1, u.2.2.2.2.2.2.2.2.2.2.2.2.2.2.2.1, u.2.2.2.2.2.2.2.2.2.2.2.2.2.2.2.2.1, u.2.2.2.2.2.2.2.2.2.2.2.2.2.2.2.2.2)) (wr := []) (cs1 := (fun zz : SM => wM kI mo m0 m1 m2 m3 m4 m5 m6 m7 zz)) (ws2 := (fun zz : SM => wM kI mo m0 m1 m2 m3 m4 m5 m6 m7 zz)) ⟨hx, hb, hml, hown, hts⟩ (fun sz => kX6_told l D kI kC kG kJ mo m0 m1 m2 m3 m4 m5 m6 m7 sz (u.1, u.2.1, u.2.2.1, u.2.2.2.1, u.2.2.2.2.1, u.2.2.2.2.2.1, u.2.2.2.2.2.2.1, u.2.2.2.2.2.2.2.1, u.2.2.2.2.2.2.2.2.1, 1, u.2.2.2.2.2.2.2.2.2.2.1, u.2.2.2.2.2.2.2.2.2.2.2.1, u.2.2.2.2.2.2.2.2.2.2.2.2.1, u.2.2.2.2.2.2.2.2.2.2.2.2.2.1, u.2.2.2.2.2.2.2.2.2.2.2.2.2.2.1, u.2.2.2.2.2.2.2.2.2.2.2.2.2.2.2.1, u.2.2.2.2.2.2.2.2.2.2.2.2.2.2.2.2.1, u.2.2.2.2.2.2.2.2.2.2.2.2.2.2.2.2.2) r2 _ hw) (cwV 1 hts gX6_takeSnapshot_X6_told rfl rfl rfl hdX6_told ⟨Nat.le_of_ble_eq_true rfl, Nat.le_of_ble_eq_true rfl⟩) hK hP hD hE hS hA [0, 1, 2, 3, 4, 5, 6, 7, 8] [] rfl rfl rfl rfl (by decide) [0, 1, 2, 3, 4, 5, 6, 7, 8] rfl (fun _ => rfl) (ci := 5) (q0 := 0) rfl rfl rfl rfl hl.1 rfl (Nat.le_of_ble_eq_true rfl) dX6_takeSnapshot_36 ⟨Nat.le_of_ble_eq_true rfl, Nat.le_of_ble_eq_true rfl⟩ (fun r3 w3 H locs hw hP hD hS => ?_)
      have hP : va_P D vwCl (wM kI mo m0 m1 m2 m3 m4 m5 m6 m7 w3) H := hP
      have hD : va_D A (wM kI mo m0 m1 m2 m3 m4 m5 m6 m7 w3) := hD
      exact W.iret (v := r3) hx hb hr (fun t ht hW => ⟨⟨r3, w3, rfl, hw, by rw [ht]; exact hP, va_K.moved hW.alike hK, hD⟩, hS.F ht⟩) hS.2.2 dX6_takeSnapshot_39
    · replace hw := Eq.mp (if_neg c1) hw
      refine lv_aload_n hx hb dX6_takeSnapshot_8 rfl (lv_at hl 0 rfl) ?_
      refine va_get (D := D) (ci := 5) (v := .ref m3) (C := RX6) (T := TX6) (N := 18) hx hb hts (fun _ h => List.mem_cons_of_mem _ (List.mem_append_right _ h)) hown hK hP 0 rfl rfl 4 (by decide) (hts (.fieldLink RX6 19 "HazelGiftModel" "snapshot" "[I") (List.mem_of_getElem? (i := 1) rfl)) (fun _ h9 => h9) rfl dX6_takeSnapshot_9 ?_
      refine lv_iload_n hx hb dX6_takeSnapshot_12 rfl (lv_at hl 1 rfl) ?_
      refine lv_aload_n hx hb dX6_takeSnapshot_13 rfl (lv_at hl 0 rfl) ?_
      refine va_get (D := D) (ci := 5) (v := .ref m0) (C := RX6) (T := TX6) (N := 18) hx hb hts (fun _ h => List.mem_cons_of_mem _ (List.mem_append_right _ h)) hown hK hP 0 rfl rfl 0 (by decide) (hts (.fieldLink RX6 7 "HazelGiftModel" "all" "[I") (List.mem_of_getElem? (i := 2) rfl)) (fun _ h9 => h9) rfl dX6_takeSnapshot_14 ?_
      refine lv_iload_n hx hb dX6_takeSnapshot_17 rfl (lv_at hl 1 rfl) ?_
      obtain ⟨hi4, hw⟩ := hw
      refine gIald (k := (v1).toNatClampNeg) hx hb hK hP 1 0 rfl rfl hi4 rfl dX6_takeSnapshot_18 ?_
      refine lv_topi (fun x5 ex5 => ?_)
      replace hw := hw x5 ex5
      obtain ⟨hi6, hw⟩ := hw
      refine gIast (k := (v1).toNatClampNeg) hx hb hK hP hD hS 4 0 rfl rfl hi6 rfl dX6_takeSnapshot_19 (fun H locs hP hD hS => ?_)
      have hP : va_P D vwCl (wM kI mo m0 m1 m2 m3 m4 m5 m6 m7 (u.1, u.2.1, u.2.2.1, (upd u.2.2.2.1 (v1).toNatClampNeg x5), u.2.2.2.2.1, u.2.2.2.2.2.1, u.2.2.2.2.2.2.1, u.2.2.2.2.2.2.2.1, u.2.2.2.2.2.2.2.2.1, u.2.2.2.2.2.2.2.2.2.1, u.2.2.2.2.2.2.2.2.2.2.1, u.2.2.2.2.2.2.2.2.2.2.2.1, u.2.2.2.2.2.2.2.2.2.2.2.2.1, u.2.2.2.2.2.2.2.2.2.2.2.2.2.1, u.2.2.2.2.2.2.2.2.2.2.2.2.2.2.1, u.2.2.2.2.2.2.2.2.2.2.2.2.2.2.2.1, u.2.2.2.2.2.2.2.2.2.2.2.2.2.2.2.2.1, u.2.2.2.2.2.2.2.2.2.2.2.2.2.2.2.2.2)) H := hP
      have hD : va_D A (wM kI mo m0 m1 m2 m3 m4 m5 m6 m7 (u.1, u.2.1, u.2.2.1, (upd u.2.2.2.1 (v1).toNatClampNeg x5), u.2.2.2.2.1, u.2.2.2.2.2.1, u.2.2.2.2.2.2.1, u.2.2.2.2.2.2.2.1, u.2.2.2.2.2.2.2.2.1, u.2.2.2.2.2.2.2.2.2.1, u.2.2.2.2.2.2.2.2.2.2.1, u.2.2.2.2.2.2.2.2.2.2.2.1, u.2.2.2.2.2.2.2.2.2.2.2.2.1, u.2.2.2.2.2.2.2.2.2.2.2.2.2.1, u.2.2.2.2.2.2.2.2.2.2.2.2.2.2.1, u.2.2.2.2.2.2.2.2.2.2.2.2.2.2.2.1, u.2.2.2.2.2.2.2.2.2.2.2.2.2.2.2.2.1, u.2.2.2.2.2.2.2.2.2.2.2.2.2.2.2.2.2)) := hD
      obtain ⟨x7, ex7⟩ : ∃ y : Int32, y = (v1 + 1) := ⟨_, rfl⟩
      replace hw := hw x7 ex7
      refine lv_iinc (v := x7) (lv' := [(1, .int x7), (0, .ref mo)]) hx hb dX6_takeSnapshot_20 hl (k := 1) rfl (by rw [ex7]; rfl) (by decide) rfl (fun ls hl => ?_)
      refine lv_goto (tgt := 2) hx hb dX6_takeSnapshot_23 (by decide) ?_
      exact ih x7 (u.1, u.2.1, u.2.2.1, (upd u.2.2.2.1 (v1).toNatClampNeg x5), u.2.2.2.2.1, u.2.2.2.2.2.1, u.2.2.2.2.2.2.1, u.2.2.2.2.2.2.2.1, u.2.2.2.2.2.2.2.2.1, u.2.2.2.2.2.2.2.2.2.1, u.2.2.2.2.2.2.2.2.2.2.1, u.2.2.2.2.2.2.2.2.2.2.2.1, u.2.2.2.2.2.2.2.2.2.2.2.2.1, u.2.2.2.2.2.2.2.2.2.2.2.2.2.1, u.2.2.2.2.2.2.2.2.2.2.2.2.2.2.1, u.2.2.2.2.2.2.2.2.2.2.2.2.2.2.2.1, u.2.2.2.2.2.2.2.2.2.2.2.2.2.2.2.2.1, u.2.2.2.2.2.2.2.2.2.2.2.2.2.2.2.2.2) H locs ls hP hD hS (lv_sub hl [1, 0] rfl) hw
  unfold pX6_takeSnapshot at hw
  refine lv_iconst (v := 0) hx hb dX6_takeSnapshot_0 (by decide) ?_
  refine lv_istore_n (lv' := [(1, .int 0), (0, .ref mo)]) hx hb dX6_takeSnapshot_1 rfl hl (by decide) rfl (fun ls hl => ?_)
  obtain ⟨n9, hw⟩ := hw
  exact L2 () n9 0 u s.heap [] ls hP hD hS (lv_sub hl [1, 0] rfl) hw
set_option maxHeartbeats 4000000 in
set_option maxRecDepth 100000 in
theorem kX6_restoreSnapshot (l : Launch) (D : va_G) (kI kC kG kJ : ClassId) (mo m0 m1 m2 m3 m4 m5 m6 m7 : Nat) (sz : Nat) (u : SM) (Z : Int32 → SM → Prop) (hw : pX6_restoreSnapshot u Z) : Met l yX6_restoreSnapshot wsX6_restoreSnapshot ({ frames := 1, cells := 0, slots := 0, locals := 22 } : Room) (gPw D (gT kI kC kG kJ) [.ref mo] (wM kI mo m0 m1 m2 m3 m4 m5 m6 m7 u) sz) (va_Qi Z (gB D (gT kI kC kG kJ) (fun (zz : SM) => wM kI mo m0 m1 m2 m3 m4 m5 m6 m7 zz) (va_A (wM kI mo m0 m1 m2 m3 m4 m5 m6 m7 u) sz)) (va_A (wM kI mo m0 m1 m2 m3 m4 m5 m6 m7 u) sz)) 0 0 (va_A (wM kI mo m0 m1 m2 m3 m4 m5 m6 m7 u) sz) := by
  refine Met.ofW (cc := cX6_restoreSnapshot) (maxL := 2) (ret := (some .int)) (by decide) rfl ?_
  intro p e s m args below meth c s₁ B hml hv
  obtain ⟨rfl, hsz, hP, hK, hD0, hE⟩ := hv
  have hx := B.exec
  have hb := B.bytes
  have hr := B.returns
  have hts := atoms_spec (ws := wsX6_restoreSnapshot) B.pre
  have hown : s.vm.findClass RX6 = some m.cls := findClass_of_methodNamed B.named
  have hlocks := B.notSynchronized
  subst hsz
  have hD := hD0.self (sz := s.heap.size)
  generalize hAe : va_A (wM kI mo m0 m1 m2 m3 m4 m5 m6 m7 u) s.heap.size = A at hD hE ⊢
  have hA : ∀ q : Nat, s.heap.size ≤ q → A q := fun q h => by rw [← hAe]; exact Or.inr h
  have hS : va_S A s.heap s.heap [] := va_S.rf
  clear hAe hD0
  have hl := lv_entry ([.ref mo]) (n := 2) (Nat.le_of_ble_eq_true rfl)
  rw [lg_entry_eq]
  generalize (lg_sl ([.ref mo]) ++ List.replicate (2 - (lg_sl ([.ref mo])).length) Slot.unset).toArray = ls at hl ⊢
  have hl : lv_has ls 2 [(0, .ref mo)] := hl
  have hP : va_P D vwCl (wM kI mo m0 m1 m2 m3 m4 m5 m6 m7 u) s.heap := hP
  have L19 : ∀ (_ : Unit), ∀ (n : Nat), ∀ (v1 : Int32) (u : SM) (H : Heap) (locs : List Loc) (ls : Array Slot), va_P D vwCl (wM kI mo m0 m1 m2 m3 m4 m5 m6 m7 u) H → va_D A (wM kI mo m0 m1 m2 m3 m4 m5 m6 m7 u) → va_S A s.heap H locs → lv_has ls 2 [(0, .ref mo), (1, .int v1)] → pX6_restoreSnapshot_19 Z n v1 u → W p l e (headSpec wsX6_restoreSnapshot ({ frames := 1, cells := 0, slots := 0, locals := 22 } : Room)).room s m ([.ref mo] : List Value).toArray below meth c H locs 0 0 (MQ below (va_Qi Z (gB D (gT kI kC kG kJ) (fun (zz : SM) => wM kI mo m0 m1 m2 m3 m4 m5 m6 m7 zz) A) A) ([.ref mo] : List Value).toArray s 0 0 A) (F0 m 19 ls []) := by
    intro _ n
    induction n with
    | zero => intro v1 u H locs ls hP hD hS hl hw; exact hw.elim
    | succ n ih =>
    intro v1 u H locs ls hP hD hS hl hw
    rw [pX6_restoreSnapshot_19] at hw
    refine lv_iload_n hx hb dX6_restoreSnapshot_19 rfl (lv_at hl 1 rfl) ?_
    refine lv_bipush (v := 21) hx hb dX6_restoreSnapshot_20 (by decide) ?_
    refine lv_icmp_ge (tgt := 43) hx hb dX6_restoreSnapshot_22 (by decide) (fun c3 => ?_) (fun c3 => ?_)
    · replace hw := Eq.mp (if_pos c3) hw
      refine lv_aload_n hx hb dX6_restoreSnapshot_43 rfl (lv_at hl 0 rfl) ?_
      refine gVi (As := []) (rest := []) (cs' := wM kI mo m0 m1 m2 m3 m4 m5 m6 m7 u) ⟨hx, hb, hml, hown, hts⟩ (kX6_count l D kI kC kG kJ mo m0 m1 m2 m3 m4 m5 m6 m7 u _ hw) (cwV 0 hts gX6_restoreSnapshot_X6_count rfl rfl rfl hdX6_count ⟨Nat.le_of_ble_eq_true rfl, Nat.le_of_ble_eq_true rfl⟩) hK hP hE hS [0, 1, 2, 3, 4, 5, 6, 7, 8] rfl (ci := 5) (q0 := 0) rfl rfl rfl rfl hl.1 rfl (Nat.le_of_ble_eq_true rfl) dX6_restoreSnapshot_44 ⟨Nat.le_of_ble_eq_true rfl, Nat.le_of_ble_eq_true rfl⟩ (fun r4 hw => ?_)
      exact W.iret (v := r4) hx hb hr (fun t ht hW => ⟨⟨r4, u, rfl, hw, by rw [ht]; exact hP, va_K.moved hW.alike hK, hD⟩, hS.F ht⟩) hS.2.2 dX6_restoreSnapshot_47
    · replace hw := Eq.mp (if_neg c3) hw
      refine lv_aload_n hx hb dX6_restoreSnapshot_25 rfl (lv_at hl 0 rfl) ?_
      refine va_get (D := D) (ci := 5) (v := .ref m0) (C := RX6) (T := TX6) (N := 18) hx hb hts (fun _ h => List.mem_cons_of_mem _ (List.mem_append_right _ h)) hown hK hP 0 rfl rfl 0 (by decide) (hts (.fieldLink RX6 7 "HazelGiftModel" "all" "[I") (List.mem_of_getElem? (i := 2) rfl)) (fun _ h9 => h9) rfl dX6_restoreSnapshot_26 ?_
      refine lv_iload_n hx hb dX6_restoreSnapshot_29 rfl (lv_at hl 1 rfl) ?_
      refine lv_aload_n hx hb dX6_restoreSnapshot_30 rfl (lv_at hl 0 rfl) ?_
      refine va_get (D := D) (ci := 5) (v := .ref m3) (C := RX6) (T := TX6) (N := 18) hx hb hts (fun _ h => List.mem_cons_of_mem _ (List.mem_append_right _ h)) hown hK hP 0 rfl rfl 4 (by decide) (hts (.fieldLink RX6 19 "HazelGiftModel" "snapshot" "[I") (List.mem_of_getElem? (i := 3) rfl)) (fun _ h9 => h9) rfl dX6_restoreSnapshot_31 ?_
      refine lv_iload_n hx hb dX6_restoreSnapshot_34 rfl (lv_at hl 1 rfl) ?_
      obtain ⟨hi5, hw⟩ := hw
      refine gIald (k := (v1).toNatClampNeg) hx hb hK hP 4 0 rfl rfl hi5 rfl dX6_restoreSnapshot_35 ?_
      refine lv_topi (fun x6 ex6 => ?_)
      replace hw := hw x6 ex6
      obtain ⟨hi7, hw⟩ := hw
      refine gIast (k := (v1).toNatClampNeg) hx hb hK hP hD hS 1 0 rfl rfl hi7 rfl dX6_restoreSnapshot_36 (fun H locs hP hD hS => ?_)
      have hP : va_P D vwCl (wM kI mo m0 m1 m2 m3 m4 m5 m6 m7 ((upd u.1 (v1).toNatClampNeg x6), u.2.1, u.2.2.1, u.2.2.2.1, u.2.2.2.2.1, u.2.2.2.2.2.1, u.2.2.2.2.2.2.1, u.2.2.2.2.2.2.2.1, u.2.2.2.2.2.2.2.2.1, u.2.2.2.2.2.2.2.2.2.1, u.2.2.2.2.2.2.2.2.2.2.1, u.2.2.2.2.2.2.2.2.2.2.2.1, u.2.2.2.2.2.2.2.2.2.2.2.2.1, u.2.2.2.2.2.2.2.2.2.2.2.2.2.1, u.2.2.2.2.2.2.2.2.2.2.2.2.2.2.1, u.2.2.2.2.2.2.2.2.2.2.2.2.2.2.2.1, u.2.2.2.2.2.2.2.2.2.2.2.2.2.2.2.2.1, u.2.2.2.2.2.2.2.2.2.2.2.2.2.2.2.2.2)) H := hP
      have hD : va_D A (wM kI mo m0 m1 m2 m3 m4 m5 m6 m7 ((upd u.1 (v1).toNatClampNeg x6), u.2.1, u.2.2.1, u.2.2.2.1, u.2.2.2.2.1, u.2.2.2.2.2.1, u.2.2.2.2.2.2.1, u.2.2.2.2.2.2.2.1, u.2.2.2.2.2.2.2.2.1, u.2.2.2.2.2.2.2.2.2.1, u.2.2.2.2.2.2.2.2.2.2.1, u.2.2.2.2.2.2.2.2.2.2.2.1, u.2.2.2.2.2.2.2.2.2.2.2.2.1, u.2.2.2.2.2.2.2.2.2.2.2.2.2.1, u.2.2.2.2.2.2.2.2.2.2.2.2.2.2.1, u.2.2.2.2.2.2.2.2.2.2.2.2.2.2.2.1, u.2.2.2.2.2.2.2.2.2.2.2.2.2.2.2.2.1, u.2.2.2.2.2.2.2.2.2.2.2.2.2.2.2.2.2)) := hD
      obtain ⟨x8, ex8⟩ : ∃ y : Int32, y = (v1 + 1) := ⟨_, rfl⟩
      replace hw := hw x8 ex8
      refine lv_iinc (v := x8) (lv' := [(1, .int x8), (0, .ref mo)]) hx hb dX6_restoreSnapshot_37 hl (k := 1) rfl (by rw [ex8]; rfl) (by decide) rfl (fun ls hl => ?_)
      refine lv_goto (tgt := 19) hx hb dX6_restoreSnapshot_40 (by decide) ?_
      exact ih x8 ((upd u.1 (v1).toNatClampNeg x6), u.2.1, u.2.2.1, u.2.2.2.1, u.2.2.2.2.1, u.2.2.2.2.2.1, u.2.2.2.2.2.2.1, u.2.2.2.2.2.2.2.1, u.2.2.2.2.2.2.2.2.1, u.2.2.2.2.2.2.2.2.2.1, u.2.2.2.2.2.2.2.2.2.2.1, u.2.2.2.2.2.2.2.2.2.2.2.1, u.2.2.2.2.2.2.2.2.2.2.2.2.1, u.2.2.2.2.2.2.2.2.2.2.2.2.2.1, u.2.2.2.2.2.2.2.2.2.2.2.2.2.2.1, u.2.2.2.2.2.2.2.2.2.2.2.2.2.2.2.1, u.2.2.2.2.2.2.2.2.2.2.2.2.2.2.2.2.1, u.2.2.2.2.2.2.2.2.2.2.2.2.2.2.2.2.2) H locs ls hP hD hS (lv_sub hl [1, 0] rfl) hw
  unfold pX6_restoreSnapshot at hw
  refine lv_aload_n hx hb dX6_restoreSnapshot_0 rfl (lv_at hl 0 rfl) ?_
  refine va_get (D := D) (ci := 5) (v := .int u.2.2.2.2.2.2.2.2.2.1) (C := RX6) (T := TX6) (N := 18) hx hb hts (fun _ h => List.mem_cons_of_mem _ (List.mem_append_right _ h)) hown hK hP 0 rfl rfl 5 (by decide) (hts (.fieldLink RX6 147 "HazelGiftModel" "isKept" "I") (List.mem_of_getElem? (i := 1) rfl)) (fun _ h9 => h9) rfl dX6_restoreSnapshot_1 ?_
  refine lv_if_ne (tgt := 13) hx hb dX6_restoreSnapshot_4 (by decide) (fun c1 => ?_) (fun c1 => ?_)
  · replace hw := Eq.mp (if_neg c1) hw
    refine lv_aload_n hx hb dX6_restoreSnapshot_13 rfl (lv_at hl 0 rfl) ?_
    refine gWVv (S := SM) (As := []) (rest := []) (wc := wM kI mo m0 m1 m2 m3 m4 m5 m6 m7 u) (wr := []) (cs1 := (fun zz : SM => wM kI mo m0 m1 m2 m3 m4 m5 m6 m7 zz)) (ws2 := (fun zz : SM => wM kI mo m0 m1 m2 m3 m4 m5 m6 m7 zz)) ⟨hx, hb, hml, hown, hts⟩ (fun sz => kX6_records l D kI kC kG kJ mo m0 m1 m2 m3 m4 m5 m6 m7 sz u _ hw) (cwV 0 hts gX6_restoreSnapshot_X6_records rfl rfl rfl hdX6_records ⟨Nat.le_of_ble_eq_true rfl, Nat.le_of_ble_eq_true rfl⟩) hK hP hD hE hS hA [0, 1, 2, 3, 4, 5, 6, 7, 8] [] rfl rfl rfl rfl (by decide) [0, 1, 2, 3, 4, 5, 6, 7, 8] rfl (fun _ => rfl) (ci := 5) (q0 := 0) rfl rfl rfl rfl hl.1 rfl (Nat.le_of_ble_eq_true rfl) dX6_restoreSnapshot_14 ⟨Nat.le_of_ble_eq_true rfl, Nat.le_of_ble_eq_true rfl⟩ (fun w2 H locs hw hP hD hS => ?_)
    have hP : va_P D vwCl (wM kI mo m0 m1 m2 m3 m4 m5 m6 m7 w2) H := hP
    have hD : va_D A (wM kI mo m0 m1 m2 m3 m4 m5 m6 m7 w2) := hD
    refine lv_iconst (v := 0) hx hb dX6_restoreSnapshot_17 (by decide) ?_
    refine lv_istore_n (lv' := [(1, .int 0), (0, .ref mo)]) hx hb dX6_restoreSnapshot_18 rfl hl (by decide) rfl (fun ls hl => ?_)
    obtain ⟨n9, hw⟩ := hw
    exact L19 () n9 0 w2 H locs ls hP hD hS (lv_sub hl [1, 0] rfl) hw
  · replace hw := Eq.mp (if_pos c1) hw
    refine lv_aload_n hx hb dX6_restoreSnapshot_7 rfl (lv_at hl 0 rfl) ?_
    refine lv_iconst (v := 1) hx hb dX6_restoreSnapshot_8 (by decide) ?_
    refine gWVi (S := SM) (As := [.int 1]) (rest := []) (wc := wM kI mo m0 m1 m2 m3 m4 m5 m6 m7 u) (wr := []) (cs1 := (fun zz : SM => wM kI mo m0 m1 m2 m3 m4 m5 m6 m7 zz)) (ws2 := (fun zz : SM => wM kI mo m0 m1 m2 m3 m4 m5 m6 m7 zz)) ⟨hx, hb, hml, hown, hts⟩ (fun sz => kX6_fails l D kI kC kG kJ mo m0 m1 m2 m3 m4 m5 m6 m7 sz u 1 _ hw) (cwV 1 hts gX6_restoreSnapshot_X6_fails rfl rfl rfl hdX6_fails ⟨Nat.le_of_ble_eq_true rfl, Nat.le_of_ble_eq_true rfl⟩) hK hP hD hE hS hA [0, 1, 2, 3, 4, 5, 6, 7, 8] [] rfl rfl rfl rfl (by decide) [0, 1, 2, 3, 4, 5, 6, 7, 8] rfl (fun _ => rfl) (ci := 5) (q0 := 0) rfl rfl rfl rfl hl.1 rfl (Nat.le_of_ble_eq_true rfl) dX6_restoreSnapshot_9 ⟨Nat.le_of_ble_eq_true rfl, Nat.le_of_ble_eq_true rfl⟩ (fun r9 w9 H locs hw hP hD hS => ?_)
    have hP : va_P D vwCl (wM kI mo m0 m1 m2 m3 m4 m5 m6 m7 w9) H := hP
    have hD : va_D A (wM kI mo m0 m1 m2 m3 m4 m5 m6 m7 w9) := hD
    exact W.iret (v := r9) hx hb hr (fun t ht hW => ⟨⟨r9, w9, rfl, hw, by rw [ht]; exact hP, va_K.moved hW.alike hK, hD⟩, hS.F ht⟩) hS.2.2 dX6_restoreSnapshot_12
set_option maxHeartbeats 4000000 in
set_option maxRecDepth 100000 in
theorem kX6_playerToMove (l : Launch) (D : va_G) (kI kC kG kJ : ClassId) (mo m0 m1 m2 m3 m4 m5 m6 m7 : Nat) (sz : Nat) (u : SM) (Z : Int32 → SM → Prop) (hw : pX6_playerToMove u Z) : Met l yX6_playerToMove wsX6_playerToMove ({ frames := 2, cells := 0, slots := 0, locals := 43 } : Room) (gPw D (gT kI kC kG kJ) [.ref mo] (wM kI mo m0 m1 m2 m3 m4 m5 m6 m7 u) sz) (va_Qi Z (gB D (gT kI kC kG kJ) (fun (zz : SM) => wM kI mo m0 m1 m2 m3 m4 m5 m6 m7 zz) (va_A (wM kI mo m0 m1 m2 m3 m4 m5 m6 m7 u) sz)) (va_A (wM kI mo m0 m1 m2 m3 m4 m5 m6 m7 u) sz)) 0 0 (va_A (wM kI mo m0 m1 m2 m3 m4 m5 m6 m7 u) sz) := by
  refine Met.ofW (cc := cX6_playerToMove) (maxL := 1) (ret := (some .int)) (by decide) rfl ?_
  intro p e s m args below meth c s₁ B hml hv
  obtain ⟨rfl, hsz, hP, hK, hD0, hE⟩ := hv
  have hx := B.exec
  have hb := B.bytes
  have hr := B.returns
  have hts := atoms_spec (ws := wsX6_playerToMove) B.pre
  have hown : s.vm.findClass RX6 = some m.cls := findClass_of_methodNamed B.named
  have hlocks := B.notSynchronized
  subst hsz
  have hD := hD0.self (sz := s.heap.size)
  generalize hAe : va_A (wM kI mo m0 m1 m2 m3 m4 m5 m6 m7 u) s.heap.size = A at hD hE ⊢
  have hA : ∀ q : Nat, s.heap.size ≤ q → A q := fun q h => by rw [← hAe]; exact Or.inr h
  have hS : va_S A s.heap s.heap [] := va_S.rf
  clear hAe hD0
  have hl := lv_entry ([.ref mo]) (n := 1) (Nat.le_of_ble_eq_true rfl)
  rw [lg_entry_eq]
  generalize (lg_sl ([.ref mo]) ++ List.replicate (1 - (lg_sl ([.ref mo])).length) Slot.unset).toArray = ls at hl ⊢
  have hl : lv_has ls 1 [(0, .ref mo)] := hl
  have hP : va_P D vwCl (wM kI mo m0 m1 m2 m3 m4 m5 m6 m7 u) s.heap := hP
  unfold pX6_playerToMove at hw
  refine lv_aload_n hx hb dX6_playerToMove_0 rfl (lv_at hl 0 rfl) ?_
  refine lv_aload_n hx hb dX6_playerToMove_1 rfl (lv_at hl 0 rfl) ?_
  refine gVi (As := []) (rest := [.ref mo]) (cs' := wM kI mo m0 m1 m2 m3 m4 m5 m6 m7 u) ⟨hx, hb, hml, hown, hts⟩ (kX6_isOverNow l D kI kC kG kJ mo m0 m1 m2 m3 m4 m5 m6 m7 u _ hw) (cwV 0 hts gX6_playerToMove_X6_isOverNow rfl rfl rfl hdX6_isOverNow ⟨Nat.le_of_ble_eq_true rfl, Nat.le_of_ble_eq_true rfl⟩) hK hP hE hS [0, 1, 2, 3, 4, 5, 6, 7, 8] rfl (ci := 5) (q0 := 0) rfl rfl rfl rfl hl.1 rfl (Nat.le_of_ble_eq_true rfl) dX6_playerToMove_2 ⟨Nat.le_of_ble_eq_true rfl, Nat.le_of_ble_eq_true rfl⟩ (fun r1 hw => ?_)
  refine lv_if_eq (tgt := 12) hx hb dX6_playerToMove_5 (by decide) (fun c2 => ?_) (fun c2 => ?_)
  · replace hw := Eq.mp (if_pos c2) hw
    refine lv_aload_n hx hb dX6_playerToMove_12 rfl (lv_at hl 0 rfl) ?_
    refine gVi (As := []) (rest := [.ref mo]) (cs' := wM kI mo m0 m1 m2 m3 m4 m5 m6 m7 u) ⟨hx, hb, hml, hown, hts⟩ (kX6_mover l D kI kC kG kJ mo m0 m1 m2 m3 m4 m5 m6 m7 u _ hw) (cwV 0 hts gX6_playerToMove_X6_mover rfl rfl rfl hdX6_mover ⟨Nat.le_of_ble_eq_true rfl, Nat.le_of_ble_eq_true rfl⟩) hK hP hE hS [0, 1, 2, 3, 4, 5, 6, 7, 8] rfl (ci := 5) (q0 := 0) rfl rfl rfl rfl hl.1 rfl (Nat.le_of_ble_eq_true rfl) dX6_playerToMove_13 ⟨Nat.le_of_ble_eq_true rfl, Nat.le_of_ble_eq_true rfl⟩ (fun r3 hw => ?_)
    refine gWVi (S := SM) (As := [.int r3]) (rest := []) (wc := wM kI mo m0 m1 m2 m3 m4 m5 m6 m7 u) (wr := []) (cs1 := (fun zz : SM => wM kI mo m0 m1 m2 m3 m4 m5 m6 m7 zz)) (ws2 := (fun zz : SM => wM kI mo m0 m1 m2 m3 m4 m5 m6 m7 zz)) ⟨hx, hb, hml, hown, hts⟩ (fun sz => kX6_told l D kI kC kG kJ mo m0 m1 m2 m3 m4 m5 m6 m7 sz u r3 _ hw) (cwV 1 hts gX6_playerToMove_X6_told rfl rfl rfl hdX6_told ⟨Nat.le_of_ble_eq_true rfl, Nat.le_of_ble_eq_true rfl⟩) hK hP hD hE hS hA [0, 1, 2, 3, 4, 5, 6, 7, 8] [] rfl rfl rfl rfl (by decide) [0, 1, 2, 3, 4, 5, 6, 7, 8] rfl (fun _ => rfl) (ci := 5) (q0 := 0) rfl rfl rfl rfl hl.1 rfl (Nat.le_of_ble_eq_true rfl) dX6_playerToMove_16 ⟨Nat.le_of_ble_eq_true rfl, Nat.le_of_ble_eq_true rfl⟩ (fun r4 w4 H locs hw hP hD hS => ?_)
    have hP : va_P D vwCl (wM kI mo m0 m1 m2 m3 m4 m5 m6 m7 w4) H := hP
    have hD : va_D A (wM kI mo m0 m1 m2 m3 m4 m5 m6 m7 w4) := hD
    exact W.iret (v := r4) hx hb hr (fun t ht hW => ⟨⟨r4, w4, rfl, hw, by rw [ht]; exact hP, va_K.moved hW.alike hK, hD⟩, hS.F ht⟩) hS.2.2 dX6_playerToMove_19
  · replace hw := Eq.mp (if_neg c2) hw
    refine lv_iconst (v := (-1)) hx hb dX6_playerToMove_8 (by decide) ?_
    refine lv_goto (tgt := 16) hx hb dX6_playerToMove_9 (by decide) ?_
    refine gWVi (S := SM) (As := [.int (-1)]) (rest := []) (wc := wM kI mo m0 m1 m2 m3 m4 m5 m6 m7 u) (wr := []) (cs1 := (fun zz : SM => wM kI mo m0 m1 m2 m3 m4 m5 m6 m7 zz)) (ws2 := (fun zz : SM => wM kI mo m0 m1 m2 m3 m4 m5 m6 m7 zz)) ⟨hx, hb, hml, hown, hts⟩ (fun sz => kX6_told l D kI kC kG kJ mo m0 m1 m2 m3 m4 m5 m6 m7 sz u (-1) _ hw) (cwV 1 hts gX6_playerToMove_X6_told rfl rfl rfl hdX6_told ⟨Nat.le_of_ble_eq_true rfl, Nat.le_of_ble_eq_true rfl⟩) hK hP hD hE hS hA [0, 1, 2, 3, 4, 5, 6, 7, 8] [] rfl rfl rfl rfl (by decide) [0, 1, 2, 3, 4, 5, 6, 7, 8] rfl (fun _ => rfl) (ci := 5) (q0 := 0) rfl rfl rfl rfl hl.1 rfl (Nat.le_of_ble_eq_true rfl) dX6_playerToMove_16 ⟨Nat.le_of_ble_eq_true rfl, Nat.le_of_ble_eq_true rfl⟩ (fun r5 w5 H locs hw hP hD hS => ?_)
    have hP : va_P D vwCl (wM kI mo m0 m1 m2 m3 m4 m5 m6 m7 w5) H := hP
    have hD : va_D A (wM kI mo m0 m1 m2 m3 m4 m5 m6 m7 w5) := hD
    exact W.iret (v := r5) hx hb hr (fun t ht hW => ⟨⟨r5, w5, rfl, hw, by rw [ht]; exact hP, va_K.moved hW.alike hK, hD⟩, hS.F ht⟩) hS.2.2 dX6_playerToMove_19
set_option maxHeartbeats 4000000 in
set_option maxRecDepth 100000 in
theorem kX6_gift (l : Launch) (D : va_G) (kI kC kG kJ : ClassId) (mo m0 m1 m2 m3 m4 m5 m6 m7 : Nat) (sz : Nat) (u : SM) (Z : Int32 → SM → Prop) (hw : pX6_gift u Z) : Met l yX6_gift wsX6_gift ({ frames := 1, cells := 0, slots := 0, locals := 21 } : Room) (gPw D (gT kI kC kG kJ) [.ref mo] (wM kI mo m0 m1 m2 m3 m4 m5 m6 m7 u) sz) (va_Qi Z (gB D (gT kI kC kG kJ) (fun (zz : SM) => wM kI mo m0 m1 m2 m3 m4 m5 m6 m7 zz) (va_A (wM kI mo m0 m1 m2 m3 m4 m5 m6 m7 u) sz)) (va_A (wM kI mo m0 m1 m2 m3 m4 m5 m6 m7 u) sz)) 0 0 (va_A (wM kI mo m0 m1 m2 m3 m4 m5 m6 m7 u) sz) := by
  refine Met.ofW (cc := cX6_gift) (maxL := 1) (ret := (some .int)) (by decide) rfl ?_
  intro p e s m args below meth c s₁ B hml hv
  obtain ⟨rfl, hsz, hP, hK, hD0, hE⟩ := hv
  have hx := B.exec
  have hb := B.bytes
  have hr := B.returns
  have hts := atoms_spec (ws := wsX6_gift) B.pre
  have hown : s.vm.findClass RX6 = some m.cls := findClass_of_methodNamed B.named
  have hlocks := B.notSynchronized
  subst hsz
  have hD := hD0.self (sz := s.heap.size)
  generalize hAe : va_A (wM kI mo m0 m1 m2 m3 m4 m5 m6 m7 u) s.heap.size = A at hD hE ⊢
  have hA : ∀ q : Nat, s.heap.size ≤ q → A q := fun q h => by rw [← hAe]; exact Or.inr h
  have hS : va_S A s.heap s.heap [] := va_S.rf
  clear hAe hD0
  have hl := lv_entry ([.ref mo]) (n := 1) (Nat.le_of_ble_eq_true rfl)
  rw [lg_entry_eq]
  generalize (lg_sl ([.ref mo]) ++ List.replicate (1 - (lg_sl ([.ref mo])).length) Slot.unset).toArray = ls at hl ⊢
  have hl : lv_has ls 1 [(0, .ref mo)] := hl
  have hP : va_P D vwCl (wM kI mo m0 m1 m2 m3 m4 m5 m6 m7 u) s.heap := hP
  unfold pX6_gift at hw
  refine lv_aload_n hx hb dX6_gift_0 rfl (lv_at hl 0 rfl) ?_
  refine lv_aload_n hx hb dX6_gift_1 rfl (lv_at hl 0 rfl) ?_
  refine va_get (D := D) (ci := 5) (v := .ref m0) (C := RX6) (T := TX6) (N := 18) hx hb hts (fun _ h => List.mem_cons_of_mem _ (List.mem_append_right _ h)) hown hK hP 0 rfl rfl 0 (by decide) (hts (.fieldLink RX6 7 "HazelGiftModel" "all" "[I") (List.mem_of_getElem? (i := 1) rfl)) (fun _ h9 => h9) rfl dX6_gift_2 ?_
  refine lv_bipush (v := 16) hx hb dX6_gift_5 (by decide) ?_
  refine gIald (k := 16) hx hb hK hP 1 0 rfl rfl (gin (by decide)) (by decide) dX6_gift_7 ?_
  refine lv_iconst (v := 1) hx hb dX6_gift_8 (by decide) ?_
  refine lv_isub hx hb dX6_gift_9 ?_
  refine gWVi (S := SM) (As := [.int ((u.1 16) - 1)]) (rest := []) (wc := wM kI mo m0 m1 m2 m3 m4 m5 m6 m7 u) (wr := []) (cs1 := (fun zz : SM => wM kI mo m0 m1 m2 m3 m4 m5 m6 m7 zz)) (ws2 := (fun zz : SM => wM kI mo m0 m1 m2 m3 m4 m5 m6 m7 zz)) ⟨hx, hb, hml, hown, hts⟩ (fun sz => kX6_told l D kI kC kG kJ mo m0 m1 m2 m3 m4 m5 m6 m7 sz u ((u.1 16) - 1) _ hw) (cwV 1 hts gX6_gift_X6_told rfl rfl rfl hdX6_told ⟨Nat.le_of_ble_eq_true rfl, Nat.le_of_ble_eq_true rfl⟩) hK hP hD hE hS hA [0, 1, 2, 3, 4, 5, 6, 7, 8] [] rfl rfl rfl rfl (by decide) [0, 1, 2, 3, 4, 5, 6, 7, 8] rfl (fun _ => rfl) (ci := 5) (q0 := 0) rfl rfl rfl rfl hl.1 rfl (Nat.le_of_ble_eq_true rfl) dX6_gift_10 ⟨Nat.le_of_ble_eq_true rfl, Nat.le_of_ble_eq_true rfl⟩ (fun r1 w1 H locs hw hP hD hS => ?_)
  have hP : va_P D vwCl (wM kI mo m0 m1 m2 m3 m4 m5 m6 m7 w1) H := hP
  have hD : va_D A (wM kI mo m0 m1 m2 m3 m4 m5 m6 m7 w1) := hD
  exact W.iret (v := r1) hx hb hr (fun t ht hW => ⟨⟨r1, w1, rfl, hw, by rw [ht]; exact hP, va_K.moved hW.alike hK, hD⟩, hS.F ht⟩) hS.2.2 dX6_gift_13
set_option maxHeartbeats 4000000 in
set_option maxRecDepth 100000 in
theorem kX6_pieceOn (l : Launch) (D : va_G) (kI kC kG kJ : ClassId) (mo m0 m1 m2 m3 m4 m5 m6 m7 : Nat) (sz : Nat) (u : SM) (p0 : Int32) (Z : Int32 → SM → Prop) (hw : pX6_pieceOn p0 u Z) : Met l yX6_pieceOn wsX6_pieceOn ({ frames := 2, cells := 0, slots := 0, locals := 45 } : Room) (gPw D (gT kI kC kG kJ) [.ref mo, .int p0] (wM kI mo m0 m1 m2 m3 m4 m5 m6 m7 u) sz) (va_Qi Z (gB D (gT kI kC kG kJ) (fun (zz : SM) => wM kI mo m0 m1 m2 m3 m4 m5 m6 m7 zz) (va_A (wM kI mo m0 m1 m2 m3 m4 m5 m6 m7 u) sz)) (va_A (wM kI mo m0 m1 m2 m3 m4 m5 m6 m7 u) sz)) 0 0 (va_A (wM kI mo m0 m1 m2 m3 m4 m5 m6 m7 u) sz) := by
  refine Met.ofW (cc := cX6_pieceOn) (maxL := 2) (ret := (some .int)) (by decide) rfl ?_
  intro p e s m args below meth c s₁ B hml hv
  obtain ⟨rfl, hsz, hP, hK, hD0, hE⟩ := hv
  have hx := B.exec
  have hb := B.bytes
  have hr := B.returns
  have hts := atoms_spec (ws := wsX6_pieceOn) B.pre
  have hown : s.vm.findClass RX6 = some m.cls := findClass_of_methodNamed B.named
  have hlocks := B.notSynchronized
  subst hsz
  have hD := hD0.self (sz := s.heap.size)
  generalize hAe : va_A (wM kI mo m0 m1 m2 m3 m4 m5 m6 m7 u) s.heap.size = A at hD hE ⊢
  have hA : ∀ q : Nat, s.heap.size ≤ q → A q := fun q h => by rw [← hAe]; exact Or.inr h
  have hS : va_S A s.heap s.heap [] := va_S.rf
  clear hAe hD0
  have hl := lv_entry ([.ref mo, .int p0]) (n := 2) (Nat.le_of_ble_eq_true rfl)
  rw [lg_entry_eq]
  generalize (lg_sl ([.ref mo, .int p0]) ++ List.replicate (2 - (lg_sl ([.ref mo, .int p0])).length) Slot.unset).toArray = ls at hl ⊢
  have hl : lv_has ls 2 [(0, .ref mo), (1, .int p0)] := hl
  have hP : va_P D vwCl (wM kI mo m0 m1 m2 m3 m4 m5 m6 m7 u) s.heap := hP
  unfold pX6_pieceOn at hw
  refine lv_iload_n hx hb dX6_pieceOn_0 rfl (lv_at hl 1 rfl) ?_
  refine gSi (As := [.int p0]) (rest := []) (cs' := ([] : va_W)) ⟨hx, hb, hml, hown, hts⟩ (kX6_isPlace l D kI kC kG kJ p0 _ hw) (va_cwS 1 hts gX6_pieceOn_X6_isPlace rfl rfl rfl hdX6_isPlace ⟨Nat.le_of_ble_eq_true rfl, Nat.le_of_ble_eq_true rfl⟩) hK hP hE hS [] rfl rfl hl.1 rfl (Nat.le_of_ble_eq_true rfl) dX6_pieceOn_1 ⟨Nat.le_of_ble_eq_true rfl, Nat.le_of_ble_eq_true rfl⟩ (fun r1 hw => ?_)
  refine lv_if_eq (tgt := 24) hx hb dX6_pieceOn_4 (by decide) (fun c2 => ?_) (fun c2 => ?_)
  · replace hw := Eq.mp (if_pos c2) hw
    refine lv_aload_n hx hb dX6_pieceOn_24 rfl (lv_at hl 0 rfl) ?_
    refine lv_iconst (v := 1) hx hb dX6_pieceOn_25 (by decide) ?_
    refine gWVi (S := SM) (As := [.int 1]) (rest := []) (wc := wM kI mo m0 m1 m2 m3 m4 m5 m6 m7 u) (wr := []) (cs1 := (fun zz : SM => wM kI mo m0 m1 m2 m3 m4 m5 m6 m7 zz)) (ws2 := (fun zz : SM => wM kI mo m0 m1 m2 m3 m4 m5 m6 m7 zz)) ⟨hx, hb, hml, hown, hts⟩ (fun sz => kX6_fails l D kI kC kG kJ mo m0 m1 m2 m3 m4 m5 m6 m7 sz u 1 _ hw) (cwV 1 hts gX6_pieceOn_X6_fails rfl rfl rfl hdX6_fails ⟨Nat.le_of_ble_eq_true rfl, Nat.le_of_ble_eq_true rfl⟩) hK hP hD hE hS hA [0, 1, 2, 3, 4, 5, 6, 7, 8] [] rfl rfl rfl rfl (by decide) [0, 1, 2, 3, 4, 5, 6, 7, 8] rfl (fun _ => rfl) (ci := 5) (q0 := 0) rfl rfl rfl rfl hl.1 rfl (Nat.le_of_ble_eq_true rfl) dX6_pieceOn_26 ⟨Nat.le_of_ble_eq_true rfl, Nat.le_of_ble_eq_true rfl⟩ (fun r3 w3 H locs hw hP hD hS => ?_)
    have hP : va_P D vwCl (wM kI mo m0 m1 m2 m3 m4 m5 m6 m7 w3) H := hP
    have hD : va_D A (wM kI mo m0 m1 m2 m3 m4 m5 m6 m7 w3) := hD
    exact W.iret (v := r3) hx hb hr (fun t ht hW => ⟨⟨r3, w3, rfl, hw, by rw [ht]; exact hP, va_K.moved hW.alike hK, hD⟩, hS.F ht⟩) hS.2.2 dX6_pieceOn_29
  · replace hw := Eq.mp (if_neg c2) hw
    refine lv_aload_n hx hb dX6_pieceOn_7 rfl (lv_at hl 0 rfl) ?_
    refine lv_aload_n hx hb dX6_pieceOn_8 rfl (lv_at hl 0 rfl) ?_
    refine va_get (D := D) (ci := 5) (v := .ref m0) (C := RX6) (T := TX6) (N := 18) hx hb hts (fun _ h => List.mem_cons_of_mem _ (List.mem_append_right _ h)) hown hK hP 0 rfl rfl 0 (by decide) (hts (.fieldLink RX6 7 "HazelGiftModel" "all" "[I") (List.mem_of_getElem? (i := 1) rfl)) (fun _ h9 => h9) rfl dX6_pieceOn_9 ?_
    refine lv_iconst (v := 0) hx hb dX6_pieceOn_12 (by decide) ?_
    refine lv_iload_n hx hb dX6_pieceOn_13 rfl (lv_at hl 1 rfl) ?_
    refine lv_iadd hx hb dX6_pieceOn_14 ?_
    obtain ⟨hi4, hw⟩ := hw
    refine gIald (k := ((0 + p0)).toNatClampNeg) hx hb hK hP 1 0 rfl rfl hi4 rfl dX6_pieceOn_15 ?_
    refine lv_iconst (v := 1) hx hb dX6_pieceOn_16 (by decide) ?_
    refine lv_isub hx hb dX6_pieceOn_17 ?_
    refine gWVi (S := SM) (As := [.int ((u.1 ((0 + p0)).toNatClampNeg) - 1)]) (rest := []) (wc := wM kI mo m0 m1 m2 m3 m4 m5 m6 m7 u) (wr := []) (cs1 := (fun zz : SM => wM kI mo m0 m1 m2 m3 m4 m5 m6 m7 zz)) (ws2 := (fun zz : SM => wM kI mo m0 m1 m2 m3 m4 m5 m6 m7 zz)) ⟨hx, hb, hml, hown, hts⟩ (fun sz => kX6_told l D kI kC kG kJ mo m0 m1 m2 m3 m4 m5 m6 m7 sz u ((u.1 ((0 + p0)).toNatClampNeg) - 1) _ hw) (cwV 1 hts gX6_pieceOn_X6_told rfl rfl rfl hdX6_told ⟨Nat.le_of_ble_eq_true rfl, Nat.le_of_ble_eq_true rfl⟩) hK hP hD hE hS hA [0, 1, 2, 3, 4, 5, 6, 7, 8] [] rfl rfl rfl rfl (by decide) [0, 1, 2, 3, 4, 5, 6, 7, 8] rfl (fun _ => rfl) (ci := 5) (q0 := 0) rfl rfl rfl rfl hl.1 rfl (Nat.le_of_ble_eq_true rfl) dX6_pieceOn_18 ⟨Nat.le_of_ble_eq_true rfl, Nat.le_of_ble_eq_true rfl⟩ (fun r5 w5 H locs hw hP hD hS => ?_)
    have hP : va_P D vwCl (wM kI mo m0 m1 m2 m3 m4 m5 m6 m7 w5) H := hP
    have hD : va_D A (wM kI mo m0 m1 m2 m3 m4 m5 m6 m7 w5) := hD
    refine lv_goto (tgt := 29) hx hb dX6_pieceOn_21 (by decide) ?_
    exact W.iret (v := r5) hx hb hr (fun t ht hW => ⟨⟨r5, w5, rfl, hw, by rw [ht]; exact hP, va_K.moved hW.alike hK, hD⟩, hS.F ht⟩) hS.2.2 dX6_pieceOn_29
set_option maxHeartbeats 4000000 in
set_option maxRecDepth 100000 in
theorem kX6_cellOf (l : Launch) (D : va_G) (kI kC kG kJ : ClassId) (mo m0 m1 m2 m3 m4 m5 m6 m7 : Nat) (sz : Nat) (u : SM) (p0 : Int32) (Z : Int32 → SM → Prop) (hw : pX6_cellOf p0 u Z) : Met l yX6_cellOf wsX6_cellOf ({ frames := 2, cells := 0, slots := 0, locals := 45 } : Room) (gPw D (gT kI kC kG kJ) [.ref mo, .int p0] (wM kI mo m0 m1 m2 m3 m4 m5 m6 m7 u) sz) (va_Qi Z (gB D (gT kI kC kG kJ) (fun (zz : SM) => wM kI mo m0 m1 m2 m3 m4 m5 m6 m7 zz) (va_A (wM kI mo m0 m1 m2 m3 m4 m5 m6 m7 u) sz)) (va_A (wM kI mo m0 m1 m2 m3 m4 m5 m6 m7 u) sz)) 0 0 (va_A (wM kI mo m0 m1 m2 m3 m4 m5 m6 m7 u) sz) := by
  refine Met.ofW (cc := cX6_cellOf) (maxL := 2) (ret := (some .int)) (by decide) rfl ?_
  intro p e s m args below meth c s₁ B hml hv
  obtain ⟨rfl, hsz, hP, hK, hD0, hE⟩ := hv
  have hx := B.exec
  have hb := B.bytes
  have hr := B.returns
  have hts := atoms_spec (ws := wsX6_cellOf) B.pre
  have hown : s.vm.findClass RX6 = some m.cls := findClass_of_methodNamed B.named
  have hlocks := B.notSynchronized
  subst hsz
  have hD := hD0.self (sz := s.heap.size)
  generalize hAe : va_A (wM kI mo m0 m1 m2 m3 m4 m5 m6 m7 u) s.heap.size = A at hD hE ⊢
  have hA : ∀ q : Nat, s.heap.size ≤ q → A q := fun q h => by rw [← hAe]; exact Or.inr h
  have hS : va_S A s.heap s.heap [] := va_S.rf
  clear hAe hD0
  have hl := lv_entry ([.ref mo, .int p0]) (n := 2) (Nat.le_of_ble_eq_true rfl)
  rw [lg_entry_eq]
  generalize (lg_sl ([.ref mo, .int p0]) ++ List.replicate (2 - (lg_sl ([.ref mo, .int p0])).length) Slot.unset).toArray = ls at hl ⊢
  have hl : lv_has ls 2 [(0, .ref mo), (1, .int p0)] := hl
  have hP : va_P D vwCl (wM kI mo m0 m1 m2 m3 m4 m5 m6 m7 u) s.heap := hP
  unfold pX6_cellOf at hw
  refine lv_iload_n hx hb dX6_cellOf_0 rfl (lv_at hl 1 rfl) ?_
  refine gSi (As := [.int p0]) (rest := []) (cs' := ([] : va_W)) ⟨hx, hb, hml, hown, hts⟩ (kX6_isPlace l D kI kC kG kJ p0 _ hw) (va_cwS 1 hts gX6_cellOf_X6_isPlace rfl rfl rfl hdX6_isPlace ⟨Nat.le_of_ble_eq_true rfl, Nat.le_of_ble_eq_true rfl⟩) hK hP hE hS [] rfl rfl hl.1 rfl (Nat.le_of_ble_eq_true rfl) dX6_cellOf_1 ⟨Nat.le_of_ble_eq_true rfl, Nat.le_of_ble_eq_true rfl⟩ (fun r1 hw => ?_)
  refine lv_if_eq (tgt := 19) hx hb dX6_cellOf_4 (by decide) (fun c2 => ?_) (fun c2 => ?_)
  · replace hw := Eq.mp (if_pos c2) hw
    refine lv_aload_n hx hb dX6_cellOf_19 rfl (lv_at hl 0 rfl) ?_
    refine lv_iconst (v := 1) hx hb dX6_cellOf_20 (by decide) ?_
    refine gWVi (S := SM) (As := [.int 1]) (rest := []) (wc := wM kI mo m0 m1 m2 m3 m4 m5 m6 m7 u) (wr := []) (cs1 := (fun zz : SM => wM kI mo m0 m1 m2 m3 m4 m5 m6 m7 zz)) (ws2 := (fun zz : SM => wM kI mo m0 m1 m2 m3 m4 m5 m6 m7 zz)) ⟨hx, hb, hml, hown, hts⟩ (fun sz => kX6_fails l D kI kC kG kJ mo m0 m1 m2 m3 m4 m5 m6 m7 sz u 1 _ hw) (cwV 1 hts gX6_cellOf_X6_fails rfl rfl rfl hdX6_fails ⟨Nat.le_of_ble_eq_true rfl, Nat.le_of_ble_eq_true rfl⟩) hK hP hD hE hS hA [0, 1, 2, 3, 4, 5, 6, 7, 8] [] rfl rfl rfl rfl (by decide) [0, 1, 2, 3, 4, 5, 6, 7, 8] rfl (fun _ => rfl) (ci := 5) (q0 := 0) rfl rfl rfl rfl hl.1 rfl (Nat.le_of_ble_eq_true rfl) dX6_cellOf_21 ⟨Nat.le_of_ble_eq_true rfl, Nat.le_of_ble_eq_true rfl⟩ (fun r3 w3 H locs hw hP hD hS => ?_)
    have hP : va_P D vwCl (wM kI mo m0 m1 m2 m3 m4 m5 m6 m7 w3) H := hP
    have hD : va_D A (wM kI mo m0 m1 m2 m3 m4 m5 m6 m7 w3) := hD
    exact W.iret (v := r3) hx hb hr (fun t ht hW => ⟨⟨r3, w3, rfl, hw, by rw [ht]; exact hP, va_K.moved hW.alike hK, hD⟩, hS.F ht⟩) hS.2.2 dX6_cellOf_24
  · replace hw := Eq.mp (if_neg c2) hw
    refine lv_aload_n hx hb dX6_cellOf_7 rfl (lv_at hl 0 rfl) ?_
    refine lv_aload_n hx hb dX6_cellOf_8 rfl (lv_at hl 0 rfl) ?_
    refine lv_iload_n hx hb dX6_cellOf_9 rfl (lv_at hl 1 rfl) ?_
    refine gVi (As := [.int p0]) (rest := [.ref mo]) (cs' := wM kI mo m0 m1 m2 m3 m4 m5 m6 m7 u) ⟨hx, hb, hml, hown, hts⟩ (kX6_cell l D kI kC kG kJ mo m0 m1 m2 m3 m4 m5 m6 m7 u p0 _ hw) (cwV 1 hts gX6_cellOf_X6_cell rfl rfl rfl hdX6_cell ⟨Nat.le_of_ble_eq_true rfl, Nat.le_of_ble_eq_true rfl⟩) hK hP hE hS [0, 1, 2, 3, 4, 5, 6, 7, 8] rfl (ci := 5) (q0 := 0) rfl rfl rfl rfl hl.1 rfl (Nat.le_of_ble_eq_true rfl) dX6_cellOf_10 ⟨Nat.le_of_ble_eq_true rfl, Nat.le_of_ble_eq_true rfl⟩ (fun r4 hw => ?_)
    refine gWVi (S := SM) (As := [.int r4]) (rest := []) (wc := wM kI mo m0 m1 m2 m3 m4 m5 m6 m7 u) (wr := []) (cs1 := (fun zz : SM => wM kI mo m0 m1 m2 m3 m4 m5 m6 m7 zz)) (ws2 := (fun zz : SM => wM kI mo m0 m1 m2 m3 m4 m5 m6 m7 zz)) ⟨hx, hb, hml, hown, hts⟩ (fun sz => kX6_told l D kI kC kG kJ mo m0 m1 m2 m3 m4 m5 m6 m7 sz u r4 _ hw) (cwV 1 hts gX6_cellOf_X6_told rfl rfl rfl hdX6_told ⟨Nat.le_of_ble_eq_true rfl, Nat.le_of_ble_eq_true rfl⟩) hK hP hD hE hS hA [0, 1, 2, 3, 4, 5, 6, 7, 8] [] rfl rfl rfl rfl (by decide) [0, 1, 2, 3, 4, 5, 6, 7, 8] rfl (fun _ => rfl) (ci := 5) (q0 := 0) rfl rfl rfl rfl hl.1 rfl (Nat.le_of_ble_eq_true rfl) dX6_cellOf_13 ⟨Nat.le_of_ble_eq_true rfl, Nat.le_of_ble_eq_true rfl⟩ (fun r5 w5 H locs hw hP hD hS => ?_)
    have hP : va_P D vwCl (wM kI mo m0 m1 m2 m3 m4 m5 m6 m7 w5) H := hP
    have hD : va_D A (wM kI mo m0 m1 m2 m3 m4 m5 m6 m7 w5) := hD
    refine lv_goto (tgt := 24) hx hb dX6_cellOf_16 (by decide) ?_
    exact W.iret (v := r5) hx hb hr (fun t ht hW => ⟨⟨r5, w5, rfl, hw, by rw [ht]; exact hP, va_K.moved hW.alike hK, hD⟩, hS.F ht⟩) hS.2.2 dX6_cellOf_24
set_option maxHeartbeats 4000000 in
set_option maxRecDepth 100000 in
theorem kX6_placed (l : Launch) (D : va_G) (kI kC kG kJ : ClassId) (mo m0 m1 m2 m3 m4 m5 m6 m7 : Nat) (sz : Nat) (u : SM) (Z : Int32 → SM → Prop) (hw : pX6_placed u Z) : Met l yX6_placed wsX6_placed ({ frames := 1, cells := 0, slots := 0, locals := 22 } : Room) (gPw D (gT kI kC kG kJ) [.ref mo] (wM kI mo m0 m1 m2 m3 m4 m5 m6 m7 u) sz) (va_Qi Z (gB D (gT kI kC kG kJ) (fun (zz : SM) => wM kI mo m0 m1 m2 m3 m4 m5 m6 m7 zz) (va_A (wM kI mo m0 m1 m2 m3 m4 m5 m6 m7 u) sz)) (va_A (wM kI mo m0 m1 m2 m3 m4 m5 m6 m7 u) sz)) 0 0 (va_A (wM kI mo m0 m1 m2 m3 m4 m5 m6 m7 u) sz) := by
  refine Met.ofW (cc := cX6_placed) (maxL := 1) (ret := (some .int)) (by decide) rfl ?_
  intro p e s m args below meth c s₁ B hml hv
  obtain ⟨rfl, hsz, hP, hK, hD0, hE⟩ := hv
  have hx := B.exec
  have hb := B.bytes
  have hr := B.returns
  have hts := atoms_spec (ws := wsX6_placed) B.pre
  have hown : s.vm.findClass RX6 = some m.cls := findClass_of_methodNamed B.named
  have hlocks := B.notSynchronized
  subst hsz
  have hD := hD0.self (sz := s.heap.size)
  generalize hAe : va_A (wM kI mo m0 m1 m2 m3 m4 m5 m6 m7 u) s.heap.size = A at hD hE ⊢
  have hA : ∀ q : Nat, s.heap.size ≤ q → A q := fun q h => by rw [← hAe]; exact Or.inr h
  have hS : va_S A s.heap s.heap [] := va_S.rf
  clear hAe hD0
  have hl := lv_entry ([.ref mo]) (n := 1) (Nat.le_of_ble_eq_true rfl)
  rw [lg_entry_eq]
  generalize (lg_sl ([.ref mo]) ++ List.replicate (1 - (lg_sl ([.ref mo])).length) Slot.unset).toArray = ls at hl ⊢
  have hl : lv_has ls 1 [(0, .ref mo)] := hl
  have hP : va_P D vwCl (wM kI mo m0 m1 m2 m3 m4 m5 m6 m7 u) s.heap := hP
  unfold pX6_placed at hw
  refine lv_aload_n hx hb dX6_placed_0 rfl (lv_at hl 0 rfl) ?_
  refine lv_aload_n hx hb dX6_placed_1 rfl (lv_at hl 0 rfl) ?_
  refine gVi (As := []) (rest := [.ref mo]) (cs' := wM kI mo m0 m1 m2 m3 m4 m5 m6 m7 u) ⟨hx, hb, hml, hown, hts⟩ (kX6_count l D kI kC kG kJ mo m0 m1 m2 m3 m4 m5 m6 m7 u _ hw) (cwV 0 hts gX6_placed_X6_count rfl rfl rfl hdX6_count ⟨Nat.le_of_ble_eq_true rfl, Nat.le_of_ble_eq_true rfl⟩) hK hP hE hS [0, 1, 2, 3, 4, 5, 6, 7, 8] rfl (ci := 5) (q0 := 0) rfl rfl rfl rfl hl.1 rfl (Nat.le_of_ble_eq_true rfl) dX6_placed_2 ⟨Nat.le_of_ble_eq_true rfl, Nat.le_of_ble_eq_true rfl⟩ (fun r1 hw => ?_)
  refine gWVi (S := SM) (As := [.int r1]) (rest := []) (wc := wM kI mo m0 m1 m2 m3 m4 m5 m6 m7 u) (wr := []) (cs1 := (fun zz : SM => wM kI mo m0 m1 m2 m3 m4 m5 m6 m7 zz)) (ws2 := (fun zz : SM => wM kI mo m0 m1 m2 m3 m4 m5 m6 m7 zz)) ⟨hx, hb, hml, hown, hts⟩ (fun sz => kX6_told l D kI kC kG kJ mo m0 m1 m2 m3 m4 m5 m6 m7 sz u r1 _ hw) (cwV 1 hts gX6_placed_X6_told rfl rfl rfl hdX6_told ⟨Nat.le_of_ble_eq_true rfl, Nat.le_of_ble_eq_true rfl⟩) hK hP hD hE hS hA [0, 1, 2, 3, 4, 5, 6, 7, 8] [] rfl rfl rfl rfl (by decide) [0, 1, 2, 3, 4, 5, 6, 7, 8] rfl (fun _ => rfl) (ci := 5) (q0 := 0) rfl rfl rfl rfl hl.1 rfl (Nat.le_of_ble_eq_true rfl) dX6_placed_5 ⟨Nat.le_of_ble_eq_true rfl, Nat.le_of_ble_eq_true rfl⟩ (fun r2 w2 H locs hw hP hD hS => ?_)
  have hP : va_P D vwCl (wM kI mo m0 m1 m2 m3 m4 m5 m6 m7 w2) H := hP
  have hD : va_D A (wM kI mo m0 m1 m2 m3 m4 m5 m6 m7 w2) := hD
  exact W.iret (v := r2) hx hb hr (fun t ht hW => ⟨⟨r2, w2, rfl, hw, by rw [ht]; exact hP, va_K.moved hW.alike hK, hD⟩, hS.F ht⟩) hS.2.2 dX6_placed_8
set_option maxHeartbeats 4000000 in
set_option maxRecDepth 100000 in
theorem kX6_winner (l : Launch) (D : va_G) (kI kC kG kJ : ClassId) (mo m0 m1 m2 m3 m4 m5 m6 m7 : Nat) (sz : Nat) (u : SM) (Z : Int32 → SM → Prop) (hw : pX6_winner u Z) : Met l yX6_winner wsX6_winner ({ frames := 1, cells := 0, slots := 0, locals := 21 } : Room) (gPw D (gT kI kC kG kJ) [.ref mo] (wM kI mo m0 m1 m2 m3 m4 m5 m6 m7 u) sz) (va_Qi Z (gB D (gT kI kC kG kJ) (fun (zz : SM) => wM kI mo m0 m1 m2 m3 m4 m5 m6 m7 zz) (va_A (wM kI mo m0 m1 m2 m3 m4 m5 m6 m7 u) sz)) (va_A (wM kI mo m0 m1 m2 m3 m4 m5 m6 m7 u) sz)) 0 0 (va_A (wM kI mo m0 m1 m2 m3 m4 m5 m6 m7 u) sz) := by
  refine Met.ofW (cc := cX6_winner) (maxL := 1) (ret := (some .int)) (by decide) rfl ?_
  intro p e s m args below meth c s₁ B hml hv
  obtain ⟨rfl, hsz, hP, hK, hD0, hE⟩ := hv
  have hx := B.exec
  have hb := B.bytes
  have hr := B.returns
  have hts := atoms_spec (ws := wsX6_winner) B.pre
  have hown : s.vm.findClass RX6 = some m.cls := findClass_of_methodNamed B.named
  have hlocks := B.notSynchronized
  subst hsz
  have hD := hD0.self (sz := s.heap.size)
  generalize hAe : va_A (wM kI mo m0 m1 m2 m3 m4 m5 m6 m7 u) s.heap.size = A at hD hE ⊢
  have hA : ∀ q : Nat, s.heap.size ≤ q → A q := fun q h => by rw [← hAe]; exact Or.inr h
  have hS : va_S A s.heap s.heap [] := va_S.rf
  clear hAe hD0
  have hl := lv_entry ([.ref mo]) (n := 1) (Nat.le_of_ble_eq_true rfl)
  rw [lg_entry_eq]
  generalize (lg_sl ([.ref mo]) ++ List.replicate (1 - (lg_sl ([.ref mo])).length) Slot.unset).toArray = ls at hl ⊢
  have hl : lv_has ls 1 [(0, .ref mo)] := hl
  have hP : va_P D vwCl (wM kI mo m0 m1 m2 m3 m4 m5 m6 m7 u) s.heap := hP
  unfold pX6_winner at hw
  refine lv_aload_n hx hb dX6_winner_0 rfl (lv_at hl 0 rfl) ?_
  refine lv_aload_n hx hb dX6_winner_1 rfl (lv_at hl 0 rfl) ?_
  refine va_get (D := D) (ci := 5) (v := .ref m0) (C := RX6) (T := TX6) (N := 18) hx hb hts (fun _ h => List.mem_cons_of_mem _ (List.mem_append_right _ h)) hown hK hP 0 rfl rfl 0 (by decide) (hts (.fieldLink RX6 7 "HazelGiftModel" "all" "[I") (List.mem_of_getElem? (i := 1) rfl)) (fun _ h9 => h9) rfl dX6_winner_2 ?_
  refine lv_bipush (v := 20) hx hb dX6_winner_5 (by decide) ?_
  refine gIald (k := 20) hx hb hK hP 1 0 rfl rfl (gin (by decide)) (by decide) dX6_winner_7 ?_
  refine lv_iconst (v := 1) hx hb dX6_winner_8 (by decide) ?_
  refine lv_isub hx hb dX6_winner_9 ?_
  refine gWVi (S := SM) (As := [.int ((u.1 20) - 1)]) (rest := []) (wc := wM kI mo m0 m1 m2 m3 m4 m5 m6 m7 u) (wr := []) (cs1 := (fun zz : SM => wM kI mo m0 m1 m2 m3 m4 m5 m6 m7 zz)) (ws2 := (fun zz : SM => wM kI mo m0 m1 m2 m3 m4 m5 m6 m7 zz)) ⟨hx, hb, hml, hown, hts⟩ (fun sz => kX6_told l D kI kC kG kJ mo m0 m1 m2 m3 m4 m5 m6 m7 sz u ((u.1 20) - 1) _ hw) (cwV 1 hts gX6_winner_X6_told rfl rfl rfl hdX6_told ⟨Nat.le_of_ble_eq_true rfl, Nat.le_of_ble_eq_true rfl⟩) hK hP hD hE hS hA [0, 1, 2, 3, 4, 5, 6, 7, 8] [] rfl rfl rfl rfl (by decide) [0, 1, 2, 3, 4, 5, 6, 7, 8] rfl (fun _ => rfl) (ci := 5) (q0 := 0) rfl rfl rfl rfl hl.1 rfl (Nat.le_of_ble_eq_true rfl) dX6_winner_10 ⟨Nat.le_of_ble_eq_true rfl, Nat.le_of_ble_eq_true rfl⟩ (fun r1 w1 H locs hw hP hD hS => ?_)
  have hP : va_P D vwCl (wM kI mo m0 m1 m2 m3 m4 m5 m6 m7 w1) H := hP
  have hD : va_D A (wM kI mo m0 m1 m2 m3 m4 m5 m6 m7 w1) := hD
  exact W.iret (v := r1) hx hb hr (fun t ht hW => ⟨⟨r1, w1, rfl, hw, by rw [ht]; exact hP, va_K.moved hW.alike hK, hD⟩, hS.F ht⟩) hS.2.2 dX6_winner_13
set_option maxHeartbeats 4000000 in
set_option maxRecDepth 100000 in
theorem kX6_isOver (l : Launch) (D : va_G) (kI kC kG kJ : ClassId) (mo m0 m1 m2 m3 m4 m5 m6 m7 : Nat) (sz : Nat) (u : SM) (Z : Int32 → SM → Prop) (hw : pX6_isOver u Z) : Met l yX6_isOver wsX6_isOver ({ frames := 2, cells := 0, slots := 0, locals := 42 } : Room) (gPw D (gT kI kC kG kJ) [.ref mo] (wM kI mo m0 m1 m2 m3 m4 m5 m6 m7 u) sz) (va_Qi Z (gB D (gT kI kC kG kJ) (fun (zz : SM) => wM kI mo m0 m1 m2 m3 m4 m5 m6 m7 zz) (va_A (wM kI mo m0 m1 m2 m3 m4 m5 m6 m7 u) sz)) (va_A (wM kI mo m0 m1 m2 m3 m4 m5 m6 m7 u) sz)) 0 0 (va_A (wM kI mo m0 m1 m2 m3 m4 m5 m6 m7 u) sz) := by
  refine Met.ofW (cc := cX6_isOver) (maxL := 1) (ret := (some .boolean)) (by decide) rfl ?_
  intro p e s m args below meth c s₁ B hml hv
  obtain ⟨rfl, hsz, hP, hK, hD0, hE⟩ := hv
  have hx := B.exec
  have hb := B.bytes
  have hr := B.returns
  have hts := atoms_spec (ws := wsX6_isOver) B.pre
  have hown : s.vm.findClass RX6 = some m.cls := findClass_of_methodNamed B.named
  have hlocks := B.notSynchronized
  subst hsz
  have hD := hD0.self (sz := s.heap.size)
  generalize hAe : va_A (wM kI mo m0 m1 m2 m3 m4 m5 m6 m7 u) s.heap.size = A at hD hE ⊢
  have hA : ∀ q : Nat, s.heap.size ≤ q → A q := fun q h => by rw [← hAe]; exact Or.inr h
  have hS : va_S A s.heap s.heap [] := va_S.rf
  clear hAe hD0
  have hl := lv_entry ([.ref mo]) (n := 1) (Nat.le_of_ble_eq_true rfl)
  rw [lg_entry_eq]
  generalize (lg_sl ([.ref mo]) ++ List.replicate (1 - (lg_sl ([.ref mo])).length) Slot.unset).toArray = ls at hl ⊢
  have hl : lv_has ls 1 [(0, .ref mo)] := hl
  have hP : va_P D vwCl (wM kI mo m0 m1 m2 m3 m4 m5 m6 m7 u) s.heap := hP
  unfold pX6_isOver at hw
  refine lv_aload_n hx hb dX6_isOver_0 rfl (lv_at hl 0 rfl) ?_
  refine lv_iconst (v := 0) hx hb dX6_isOver_1 (by decide) ?_
  refine va_put (D := D) (ci := 5) (v := .int 0) (ty := tyX6 6) (C := RX6) (T := TX6) (N := 18) hx hb hts (fun _ h => List.mem_cons_of_mem _ (List.mem_append_right _ h)) tyX6 tyX6_ok nmX6 hown hK hP hD hS 0 rfl rfl 6 (by decide) (hts (.fieldLink RX6 34 "HazelGiftModel" "thrown" "I") (List.mem_of_getElem? (i := 1) rfl)) (fun _ h9 => h9) rfl (tyX6_ok 6 (by decide)) rfl rfl (Nat.le_of_ble_eq_true rfl) dX6_isOver_2 (fun H locs hP hD hS => ?_)
  have hP : va_P D vwCl (wM kI mo m0 m1 m2 m3 m4 m5 m6 m7 (u.1, u.2.1, u.2.2.1, u.2.2.2.1, u.2.2.2.2.1, u.2.2.2.2.2.1, u.2.2.2.2.2.2.1, u.2.2.2.2.2.2.2.1, u.2.2.2.2.2.2.2.2.1, u.2.2.2.2.2.2.2.2.2.1, 0, u.2.2.2.2.2.2.2.2.2.2.2.1, u.2.2.2.2.2.2.2.2.2.2.2.2.1, u.2.2.2.2.2.2.2.2.2.2.2.2.2.1, u.2.2.2.2.2.2.2.2.2.2.2.2.2.2.1, u.2.2.2.2.2.2.2.2.2.2.2.2.2.2.2.1, u.2.2.2.2.2.2.2.2.2.2.2.2.2.2.2.2.1, u.2.2.2.2.2.2.2.2.2.2.2.2.2.2.2.2.2)) H := hP
  have hD : va_D A (wM kI mo m0 m1 m2 m3 m4 m5 m6 m7 (u.1, u.2.1, u.2.2.1, u.2.2.2.1, u.2.2.2.2.1, u.2.2.2.2.2.1, u.2.2.2.2.2.2.1, u.2.2.2.2.2.2.2.1, u.2.2.2.2.2.2.2.2.1, u.2.2.2.2.2.2.2.2.2.1, 0, u.2.2.2.2.2.2.2.2.2.2.2.1, u.2.2.2.2.2.2.2.2.2.2.2.2.1, u.2.2.2.2.2.2.2.2.2.2.2.2.2.1, u.2.2.2.2.2.2.2.2.2.2.2.2.2.2.1, u.2.2.2.2.2.2.2.2.2.2.2.2.2.2.2.1, u.2.2.2.2.2.2.2.2.2.2.2.2.2.2.2.2.1, u.2.2.2.2.2.2.2.2.2.2.2.2.2.2.2.2.2)) := hD
  refine lv_aload_n hx hb dX6_isOver_5 rfl (lv_at hl 0 rfl) ?_
  refine gVi (As := []) (rest := []) (cs' := wM kI mo m0 m1 m2 m3 m4 m5 m6 m7 (u.1, u.2.1, u.2.2.1, u.2.2.2.1, u.2.2.2.2.1, u.2.2.2.2.2.1, u.2.2.2.2.2.2.1, u.2.2.2.2.2.2.2.1, u.2.2.2.2.2.2.2.2.1, u.2.2.2.2.2.2.2.2.2.1, 0, u.2.2.2.2.2.2.2.2.2.2.2.1, u.2.2.2.2.2.2.2.2.2.2.2.2.1, u.2.2.2.2.2.2.2.2.2.2.2.2.2.1, u.2.2.2.2.2.2.2.2.2.2.2.2.2.2.1, u.2.2.2.2.2.2.2.2.2.2.2.2.2.2.2.1, u.2.2.2.2.2.2.2.2.2.2.2.2.2.2.2.2.1, u.2.2.2.2.2.2.2.2.2.2.2.2.2.2.2.2.2)) ⟨hx, hb, hml, hown, hts⟩ (kX6_isOverNow l D kI kC kG kJ mo m0 m1 m2 m3 m4 m5 m6 m7 (u.1, u.2.1, u.2.2.1, u.2.2.2.1, u.2.2.2.2.1, u.2.2.2.2.2.1, u.2.2.2.2.2.2.1, u.2.2.2.2.2.2.2.1, u.2.2.2.2.2.2.2.2.1, u.2.2.2.2.2.2.2.2.2.1, 0, u.2.2.2.2.2.2.2.2.2.2.2.1, u.2.2.2.2.2.2.2.2.2.2.2.2.1, u.2.2.2.2.2.2.2.2.2.2.2.2.2.1, u.2.2.2.2.2.2.2.2.2.2.2.2.2.2.1, u.2.2.2.2.2.2.2.2.2.2.2.2.2.2.2.1, u.2.2.2.2.2.2.2.2.2.2.2.2.2.2.2.2.1, u.2.2.2.2.2.2.2.2.2.2.2.2.2.2.2.2.2) _ hw) (cwV 0 hts gX6_isOver_X6_isOverNow rfl rfl rfl hdX6_isOverNow ⟨Nat.le_of_ble_eq_true rfl, Nat.le_of_ble_eq_true rfl⟩) hK hP hE hS [0, 1, 2, 3, 4, 5, 6, 7, 8] rfl (ci := 5) (q0 := 0) rfl rfl rfl rfl hl.1 rfl (Nat.le_of_ble_eq_true rfl) dX6_isOver_6 ⟨Nat.le_of_ble_eq_true rfl, Nat.le_of_ble_eq_true rfl⟩ (fun r1 hw => ?_)
  obtain ⟨hn, hw⟩ := hw
  exact W.zret (v := r1) hx hb hr hn (fun t ht hW => ⟨⟨r1, (u.1, u.2.1, u.2.2.1, u.2.2.2.1, u.2.2.2.2.1, u.2.2.2.2.2.1, u.2.2.2.2.2.2.1, u.2.2.2.2.2.2.2.1, u.2.2.2.2.2.2.2.2.1, u.2.2.2.2.2.2.2.2.2.1, 0, u.2.2.2.2.2.2.2.2.2.2.2.1, u.2.2.2.2.2.2.2.2.2.2.2.2.1, u.2.2.2.2.2.2.2.2.2.2.2.2.2.1, u.2.2.2.2.2.2.2.2.2.2.2.2.2.2.1, u.2.2.2.2.2.2.2.2.2.2.2.2.2.2.2.1, u.2.2.2.2.2.2.2.2.2.2.2.2.2.2.2.2.1, u.2.2.2.2.2.2.2.2.2.2.2.2.2.2.2.2.2), rfl, hw, by rw [ht]; exact hP, va_K.moved hW.alike hK, hD⟩, hS.F ht⟩) hS.2.2 dX6_isOver_9
set_option maxHeartbeats 4000000 in
set_option maxRecDepth 100000 in
theorem kX6_lines (l : Launch) (D : va_G) (kI kC kG kJ : ClassId) (mo m0 m1 m2 m3 m4 m5 m6 m7 : Nat) (sz : Nat) (u : SM) (Z : Int32 → SM → Prop) (hw : pX6_lines u Z) : Met l yX6_lines wsX6_lines ({ frames := 1, cells := 0, slots := 0, locals := 21 } : Room) (gPw D (gT kI kC kG kJ) [.ref mo] (wM kI mo m0 m1 m2 m3 m4 m5 m6 m7 u) sz) (va_Qi Z (gB D (gT kI kC kG kJ) (fun (zz : SM) => wM kI mo m0 m1 m2 m3 m4 m5 m6 m7 zz) (va_A (wM kI mo m0 m1 m2 m3 m4 m5 m6 m7 u) sz)) (va_A (wM kI mo m0 m1 m2 m3 m4 m5 m6 m7 u) sz)) 0 0 (va_A (wM kI mo m0 m1 m2 m3 m4 m5 m6 m7 u) sz) := by
  refine Met.ofW (cc := cX6_lines) (maxL := 1) (ret := (some .int)) (by decide) rfl ?_
  intro p e s m args below meth c s₁ B hml hv
  obtain ⟨rfl, hsz, hP, hK, hD0, hE⟩ := hv
  have hx := B.exec
  have hb := B.bytes
  have hr := B.returns
  have hts := atoms_spec (ws := wsX6_lines) B.pre
  have hown : s.vm.findClass RX6 = some m.cls := findClass_of_methodNamed B.named
  have hlocks := B.notSynchronized
  subst hsz
  have hD := hD0.self (sz := s.heap.size)
  generalize hAe : va_A (wM kI mo m0 m1 m2 m3 m4 m5 m6 m7 u) s.heap.size = A at hD hE ⊢
  have hA : ∀ q : Nat, s.heap.size ≤ q → A q := fun q h => by rw [← hAe]; exact Or.inr h
  have hS : va_S A s.heap s.heap [] := va_S.rf
  clear hAe hD0
  have hl := lv_entry ([.ref mo]) (n := 1) (Nat.le_of_ble_eq_true rfl)
  rw [lg_entry_eq]
  generalize (lg_sl ([.ref mo]) ++ List.replicate (1 - (lg_sl ([.ref mo])).length) Slot.unset).toArray = ls at hl ⊢
  have hl : lv_has ls 1 [(0, .ref mo)] := hl
  have hP : va_P D vwCl (wM kI mo m0 m1 m2 m3 m4 m5 m6 m7 u) s.heap := hP
  unfold pX6_lines at hw
  refine lv_aload_n hx hb dX6_lines_0 rfl (lv_at hl 0 rfl) ?_
  refine lv_aload_n hx hb dX6_lines_1 rfl (lv_at hl 0 rfl) ?_
  refine gVi (As := []) (rest := [.ref mo]) (cs' := wM kI mo m0 m1 m2 m3 m4 m5 m6 m7 u) ⟨hx, hb, hml, hown, hts⟩ (kX6_linesNow l D kI kC kG kJ mo m0 m1 m2 m3 m4 m5 m6 m7 u _ hw) (cwV 0 hts gX6_lines_X6_linesNow rfl rfl rfl hdX6_linesNow ⟨Nat.le_of_ble_eq_true rfl, Nat.le_of_ble_eq_true rfl⟩) hK hP hE hS [0, 1, 2, 3, 4, 5, 6, 7, 8] rfl (ci := 5) (q0 := 0) rfl rfl rfl rfl hl.1 rfl (Nat.le_of_ble_eq_true rfl) dX6_lines_2 ⟨Nat.le_of_ble_eq_true rfl, Nat.le_of_ble_eq_true rfl⟩ (fun r1 hw => ?_)
  refine gWVi (S := SM) (As := [.int r1]) (rest := []) (wc := wM kI mo m0 m1 m2 m3 m4 m5 m6 m7 u) (wr := []) (cs1 := (fun zz : SM => wM kI mo m0 m1 m2 m3 m4 m5 m6 m7 zz)) (ws2 := (fun zz : SM => wM kI mo m0 m1 m2 m3 m4 m5 m6 m7 zz)) ⟨hx, hb, hml, hown, hts⟩ (fun sz => kX6_told l D kI kC kG kJ mo m0 m1 m2 m3 m4 m5 m6 m7 sz u r1 _ hw) (cwV 1 hts gX6_lines_X6_told rfl rfl rfl hdX6_told ⟨Nat.le_of_ble_eq_true rfl, Nat.le_of_ble_eq_true rfl⟩) hK hP hD hE hS hA [0, 1, 2, 3, 4, 5, 6, 7, 8] [] rfl rfl rfl rfl (by decide) [0, 1, 2, 3, 4, 5, 6, 7, 8] rfl (fun _ => rfl) (ci := 5) (q0 := 0) rfl rfl rfl rfl hl.1 rfl (Nat.le_of_ble_eq_true rfl) dX6_lines_5 ⟨Nat.le_of_ble_eq_true rfl, Nat.le_of_ble_eq_true rfl⟩ (fun r2 w2 H locs hw hP hD hS => ?_)
  have hP : va_P D vwCl (wM kI mo m0 m1 m2 m3 m4 m5 m6 m7 w2) H := hP
  have hD : va_D A (wM kI mo m0 m1 m2 m3 m4 m5 m6 m7 w2) := hD
  exact W.iret (v := r2) hx hb hr (fun t ht hW => ⟨⟨r2, w2, rfl, hw, by rw [ht]; exact hP, va_K.moved hW.alike hK, hD⟩, hS.F ht⟩) hS.2.2 dX6_lines_8
set_option maxHeartbeats 4000000 in
set_option maxRecDepth 100000 in
theorem kX6_piecesOn (l : Launch) (D : va_G) (kI kC kG kJ : ClassId) (mo m0 m1 m2 m3 m4 m5 m6 m7 : Nat) (sz : Nat) (u : SM) (p0 : Int32) (Z : Int32 → SM → Prop) (hw : pX6_piecesOn p0 u Z) : Met l yX6_piecesOn wsX6_piecesOn ({ frames := 2, cells := 0, slots := 0, locals := 45 } : Room) (gPw D (gT kI kC kG kJ) [.ref mo, .int p0] (wM kI mo m0 m1 m2 m3 m4 m5 m6 m7 u) sz) (va_Qi Z (gB D (gT kI kC kG kJ) (fun (zz : SM) => wM kI mo m0 m1 m2 m3 m4 m5 m6 m7 zz) (va_A (wM kI mo m0 m1 m2 m3 m4 m5 m6 m7 u) sz)) (va_A (wM kI mo m0 m1 m2 m3 m4 m5 m6 m7 u) sz)) 0 0 (va_A (wM kI mo m0 m1 m2 m3 m4 m5 m6 m7 u) sz) := by
  refine Met.ofW (cc := cX6_piecesOn) (maxL := 2) (ret := (some .int)) (by decide) rfl ?_
  intro p e s m args below meth c s₁ B hml hv
  obtain ⟨rfl, hsz, hP, hK, hD0, hE⟩ := hv
  have hx := B.exec
  have hb := B.bytes
  have hr := B.returns
  have hts := atoms_spec (ws := wsX6_piecesOn) B.pre
  have hown : s.vm.findClass RX6 = some m.cls := findClass_of_methodNamed B.named
  have hlocks := B.notSynchronized
  subst hsz
  have hD := hD0.self (sz := s.heap.size)
  generalize hAe : va_A (wM kI mo m0 m1 m2 m3 m4 m5 m6 m7 u) s.heap.size = A at hD hE ⊢
  have hA : ∀ q : Nat, s.heap.size ≤ q → A q := fun q h => by rw [← hAe]; exact Or.inr h
  have hS : va_S A s.heap s.heap [] := va_S.rf
  clear hAe hD0
  have hl := lv_entry ([.ref mo, .int p0]) (n := 2) (Nat.le_of_ble_eq_true rfl)
  rw [lg_entry_eq]
  generalize (lg_sl ([.ref mo, .int p0]) ++ List.replicate (2 - (lg_sl ([.ref mo, .int p0])).length) Slot.unset).toArray = ls at hl ⊢
  have hl : lv_has ls 2 [(0, .ref mo), (1, .int p0)] := hl
  have hP : va_P D vwCl (wM kI mo m0 m1 m2 m3 m4 m5 m6 m7 u) s.heap := hP
  unfold pX6_piecesOn at hw
  refine lv_iload_n hx hb dX6_piecesOn_0 rfl (lv_at hl 1 rfl) ?_
  refine lv_i2l (v := p0.toInt64) hx hb dX6_piecesOn_1 rfl ?_
  refine lv_lconst (v := 0) hx hb dX6_piecesOn_2 (by decide) ?_
  refine lv_aload_n hx hb dX6_piecesOn_3 rfl (lv_at hl 0 rfl) ?_
  refine gVi (As := []) (rest := [.long 0, .long p0.toInt64]) (cs' := wM kI mo m0 m1 m2 m3 m4 m5 m6 m7 u) ⟨hx, hb, hml, hown, hts⟩ (kX6_linesNow l D kI kC kG kJ mo m0 m1 m2 m3 m4 m5 m6 m7 u _ hw) (cwV 0 hts gX6_piecesOn_X6_linesNow rfl rfl rfl hdX6_linesNow ⟨Nat.le_of_ble_eq_true rfl, Nat.le_of_ble_eq_true rfl⟩) hK hP hE hS [0, 1, 2, 3, 4, 5, 6, 7, 8] rfl (ci := 5) (q0 := 0) rfl rfl rfl rfl hl.1 rfl (Nat.le_of_ble_eq_true rfl) dX6_piecesOn_4 ⟨Nat.le_of_ble_eq_true rfl, Nat.le_of_ble_eq_true rfl⟩ (fun r1 hw => ?_)
  refine lv_i2l (v := r1.toInt64) hx hb dX6_piecesOn_7 rfl ?_
  refine lv_lconst (v := 1) hx hb dX6_piecesOn_8 (by decide) ?_
  refine lv_lsub hx hb dX6_piecesOn_9 ?_
  refine gSi (As := [.long p0.toInt64, .long 0, .long (r1.toInt64 - 1)]) (rest := []) (cs' := ([] : va_W)) ⟨hx, hb, hml, hown, hts⟩ (kX6_in l D kI kC kG kJ p0.toInt64 0 (r1.toInt64 - 1) _ hw) (va_cwS 3 hts gX6_piecesOn_X6_in rfl rfl rfl hdX6_in ⟨Nat.le_of_ble_eq_true rfl, Nat.le_of_ble_eq_true rfl⟩) hK hP hE hS [] rfl rfl hl.1 rfl (Nat.le_of_ble_eq_true rfl) dX6_piecesOn_10 ⟨Nat.le_of_ble_eq_true rfl, Nat.le_of_ble_eq_true rfl⟩ (fun r2 hw => ?_)
  refine lv_if_eq (tgt := 28) hx hb dX6_piecesOn_13 (by decide) (fun c3 => ?_) (fun c3 => ?_)
  · replace hw := Eq.mp (if_pos c3) hw
    refine lv_aload_n hx hb dX6_piecesOn_28 rfl (lv_at hl 0 rfl) ?_
    refine lv_iconst (v := 1) hx hb dX6_piecesOn_29 (by decide) ?_
    refine gWVi (S := SM) (As := [.int 1]) (rest := []) (wc := wM kI mo m0 m1 m2 m3 m4 m5 m6 m7 u) (wr := []) (cs1 := (fun zz : SM => wM kI mo m0 m1 m2 m3 m4 m5 m6 m7 zz)) (ws2 := (fun zz : SM => wM kI mo m0 m1 m2 m3 m4 m5 m6 m7 zz)) ⟨hx, hb, hml, hown, hts⟩ (fun sz => kX6_fails l D kI kC kG kJ mo m0 m1 m2 m3 m4 m5 m6 m7 sz u 1 _ hw) (cwV 1 hts gX6_piecesOn_X6_fails rfl rfl rfl hdX6_fails ⟨Nat.le_of_ble_eq_true rfl, Nat.le_of_ble_eq_true rfl⟩) hK hP hD hE hS hA [0, 1, 2, 3, 4, 5, 6, 7, 8] [] rfl rfl rfl rfl (by decide) [0, 1, 2, 3, 4, 5, 6, 7, 8] rfl (fun _ => rfl) (ci := 5) (q0 := 0) rfl rfl rfl rfl hl.1 rfl (Nat.le_of_ble_eq_true rfl) dX6_piecesOn_30 ⟨Nat.le_of_ble_eq_true rfl, Nat.le_of_ble_eq_true rfl⟩ (fun r4 w4 H locs hw hP hD hS => ?_)
    have hP : va_P D vwCl (wM kI mo m0 m1 m2 m3 m4 m5 m6 m7 w4) H := hP
    have hD : va_D A (wM kI mo m0 m1 m2 m3 m4 m5 m6 m7 w4) := hD
    exact W.iret (v := r4) hx hb hr (fun t ht hW => ⟨⟨r4, w4, rfl, hw, by rw [ht]; exact hP, va_K.moved hW.alike hK, hD⟩, hS.F ht⟩) hS.2.2 dX6_piecesOn_33
  · replace hw := Eq.mp (if_neg c3) hw
    refine lv_aload_n hx hb dX6_piecesOn_16 rfl (lv_at hl 0 rfl) ?_
    refine lv_aload_n hx hb dX6_piecesOn_17 rfl (lv_at hl 0 rfl) ?_
    refine lv_iload_n hx hb dX6_piecesOn_18 rfl (lv_at hl 1 rfl) ?_
    refine gVi (As := [.int p0]) (rest := [.ref mo]) (cs' := wM kI mo m0 m1 m2 m3 m4 m5 m6 m7 u) ⟨hx, hb, hml, hown, hts⟩ (kX6_many l D kI kC kG kJ mo m0 m1 m2 m3 m4 m5 m6 m7 u p0 _ hw) (cwV 1 hts gX6_piecesOn_X6_many rfl rfl rfl hdX6_many ⟨Nat.le_of_ble_eq_true rfl, Nat.le_of_ble_eq_true rfl⟩) hK hP hE hS [0, 1, 2, 3, 4, 5, 6, 7, 8] rfl (ci := 5) (q0 := 0) rfl rfl rfl rfl hl.1 rfl (Nat.le_of_ble_eq_true rfl) dX6_piecesOn_19 ⟨Nat.le_of_ble_eq_true rfl, Nat.le_of_ble_eq_true rfl⟩ (fun r5 hw => ?_)
    refine gWVi (S := SM) (As := [.int r5]) (rest := []) (wc := wM kI mo m0 m1 m2 m3 m4 m5 m6 m7 u) (wr := []) (cs1 := (fun zz : SM => wM kI mo m0 m1 m2 m3 m4 m5 m6 m7 zz)) (ws2 := (fun zz : SM => wM kI mo m0 m1 m2 m3 m4 m5 m6 m7 zz)) ⟨hx, hb, hml, hown, hts⟩ (fun sz => kX6_told l D kI kC kG kJ mo m0 m1 m2 m3 m4 m5 m6 m7 sz u r5 _ hw) (cwV 1 hts gX6_piecesOn_X6_told rfl rfl rfl hdX6_told ⟨Nat.le_of_ble_eq_true rfl, Nat.le_of_ble_eq_true rfl⟩) hK hP hD hE hS hA [0, 1, 2, 3, 4, 5, 6, 7, 8] [] rfl rfl rfl rfl (by decide) [0, 1, 2, 3, 4, 5, 6, 7, 8] rfl (fun _ => rfl) (ci := 5) (q0 := 0) rfl rfl rfl rfl hl.1 rfl (Nat.le_of_ble_eq_true rfl) dX6_piecesOn_22 ⟨Nat.le_of_ble_eq_true rfl, Nat.le_of_ble_eq_true rfl⟩ (fun r6 w6 H locs hw hP hD hS => ?_)
    have hP : va_P D vwCl (wM kI mo m0 m1 m2 m3 m4 m5 m6 m7 w6) H := hP
    have hD : va_D A (wM kI mo m0 m1 m2 m3 m4 m5 m6 m7 w6) := hD
    refine lv_goto (tgt := 33) hx hb dX6_piecesOn_25 (by decide) ?_
    exact W.iret (v := r6) hx hb hr (fun t ht hW => ⟨⟨r6, w6, rfl, hw, by rw [ht]; exact hP, va_K.moved hW.alike hK, hD⟩, hS.F ht⟩) hS.2.2 dX6_piecesOn_33
set_option maxHeartbeats 4000000 in
set_option maxRecDepth 100000 in
theorem kX6_sharedOn (l : Launch) (D : va_G) (kI kC kG kJ : ClassId) (mo m0 m1 m2 m3 m4 m5 m6 m7 : Nat) (sz : Nat) (u : SM) (p0 : Int32) (Z : Int32 → SM → Prop) (hw : pX6_sharedOn p0 u Z) : Met l yX6_sharedOn wsX6_sharedOn ({ frames := 2, cells := 0, slots := 0, locals := 46 } : Room) (gPw D (gT kI kC kG kJ) [.ref mo, .int p0] (wM kI mo m0 m1 m2 m3 m4 m5 m6 m7 u) sz) (va_Qi Z (gB D (gT kI kC kG kJ) (fun (zz : SM) => wM kI mo m0 m1 m2 m3 m4 m5 m6 m7 zz) (va_A (wM kI mo m0 m1 m2 m3 m4 m5 m6 m7 u) sz)) (va_A (wM kI mo m0 m1 m2 m3 m4 m5 m6 m7 u) sz)) 0 0 (va_A (wM kI mo m0 m1 m2 m3 m4 m5 m6 m7 u) sz) := by
  refine Met.ofW (cc := cX6_sharedOn) (maxL := 2) (ret := (some .int)) (by decide) rfl ?_
  intro p e s m args below meth c s₁ B hml hv
  obtain ⟨rfl, hsz, hP, hK, hD0, hE⟩ := hv
  have hx := B.exec
  have hb := B.bytes
  have hr := B.returns
  have hts := atoms_spec (ws := wsX6_sharedOn) B.pre
  have hown : s.vm.findClass RX6 = some m.cls := findClass_of_methodNamed B.named
  have hlocks := B.notSynchronized
  subst hsz
  have hD := hD0.self (sz := s.heap.size)
  generalize hAe : va_A (wM kI mo m0 m1 m2 m3 m4 m5 m6 m7 u) s.heap.size = A at hD hE ⊢
  have hA : ∀ q : Nat, s.heap.size ≤ q → A q := fun q h => by rw [← hAe]; exact Or.inr h
  have hS : va_S A s.heap s.heap [] := va_S.rf
  clear hAe hD0
  have hl := lv_entry ([.ref mo, .int p0]) (n := 2) (Nat.le_of_ble_eq_true rfl)
  rw [lg_entry_eq]
  generalize (lg_sl ([.ref mo, .int p0]) ++ List.replicate (2 - (lg_sl ([.ref mo, .int p0])).length) Slot.unset).toArray = ls at hl ⊢
  have hl : lv_has ls 2 [(0, .ref mo), (1, .int p0)] := hl
  have hP : va_P D vwCl (wM kI mo m0 m1 m2 m3 m4 m5 m6 m7 u) s.heap := hP
  unfold pX6_sharedOn at hw
  refine lv_iload_n hx hb dX6_sharedOn_0 rfl (lv_at hl 1 rfl) ?_
  refine lv_i2l (v := p0.toInt64) hx hb dX6_sharedOn_1 rfl ?_
  refine lv_lconst (v := 0) hx hb dX6_sharedOn_2 (by decide) ?_
  refine lv_aload_n hx hb dX6_sharedOn_3 rfl (lv_at hl 0 rfl) ?_
  refine gVi (As := []) (rest := [.long 0, .long p0.toInt64]) (cs' := wM kI mo m0 m1 m2 m3 m4 m5 m6 m7 u) ⟨hx, hb, hml, hown, hts⟩ (kX6_linesNow l D kI kC kG kJ mo m0 m1 m2 m3 m4 m5 m6 m7 u _ hw) (cwV 0 hts gX6_sharedOn_X6_linesNow rfl rfl rfl hdX6_linesNow ⟨Nat.le_of_ble_eq_true rfl, Nat.le_of_ble_eq_true rfl⟩) hK hP hE hS [0, 1, 2, 3, 4, 5, 6, 7, 8] rfl (ci := 5) (q0 := 0) rfl rfl rfl rfl hl.1 rfl (Nat.le_of_ble_eq_true rfl) dX6_sharedOn_4 ⟨Nat.le_of_ble_eq_true rfl, Nat.le_of_ble_eq_true rfl⟩ (fun r1 hw => ?_)
  refine lv_i2l (v := r1.toInt64) hx hb dX6_sharedOn_7 rfl ?_
  refine lv_lconst (v := 1) hx hb dX6_sharedOn_8 (by decide) ?_
  refine lv_lsub hx hb dX6_sharedOn_9 ?_
  refine gSi (As := [.long p0.toInt64, .long 0, .long (r1.toInt64 - 1)]) (rest := []) (cs' := ([] : va_W)) ⟨hx, hb, hml, hown, hts⟩ (kX6_in l D kI kC kG kJ p0.toInt64 0 (r1.toInt64 - 1) _ hw) (va_cwS 3 hts gX6_sharedOn_X6_in rfl rfl rfl hdX6_in ⟨Nat.le_of_ble_eq_true rfl, Nat.le_of_ble_eq_true rfl⟩) hK hP hE hS [] rfl rfl hl.1 rfl (Nat.le_of_ble_eq_true rfl) dX6_sharedOn_10 ⟨Nat.le_of_ble_eq_true rfl, Nat.le_of_ble_eq_true rfl⟩ (fun r2 hw => ?_)
  refine lv_if_eq (tgt := 28) hx hb dX6_sharedOn_13 (by decide) (fun c3 => ?_) (fun c3 => ?_)
  · replace hw := Eq.mp (if_pos c3) hw
    refine lv_aload_n hx hb dX6_sharedOn_28 rfl (lv_at hl 0 rfl) ?_
    refine lv_iconst (v := 1) hx hb dX6_sharedOn_29 (by decide) ?_
    refine gWVi (S := SM) (As := [.int 1]) (rest := []) (wc := wM kI mo m0 m1 m2 m3 m4 m5 m6 m7 u) (wr := []) (cs1 := (fun zz : SM => wM kI mo m0 m1 m2 m3 m4 m5 m6 m7 zz)) (ws2 := (fun zz : SM => wM kI mo m0 m1 m2 m3 m4 m5 m6 m7 zz)) ⟨hx, hb, hml, hown, hts⟩ (fun sz => kX6_fails l D kI kC kG kJ mo m0 m1 m2 m3 m4 m5 m6 m7 sz u 1 _ hw) (cwV 1 hts gX6_sharedOn_X6_fails rfl rfl rfl hdX6_fails ⟨Nat.le_of_ble_eq_true rfl, Nat.le_of_ble_eq_true rfl⟩) hK hP hD hE hS hA [0, 1, 2, 3, 4, 5, 6, 7, 8] [] rfl rfl rfl rfl (by decide) [0, 1, 2, 3, 4, 5, 6, 7, 8] rfl (fun _ => rfl) (ci := 5) (q0 := 0) rfl rfl rfl rfl hl.1 rfl (Nat.le_of_ble_eq_true rfl) dX6_sharedOn_30 ⟨Nat.le_of_ble_eq_true rfl, Nat.le_of_ble_eq_true rfl⟩ (fun r4 w4 H locs hw hP hD hS => ?_)
    have hP : va_P D vwCl (wM kI mo m0 m1 m2 m3 m4 m5 m6 m7 w4) H := hP
    have hD : va_D A (wM kI mo m0 m1 m2 m3 m4 m5 m6 m7 w4) := hD
    exact W.iret (v := r4) hx hb hr (fun t ht hW => ⟨⟨r4, w4, rfl, hw, by rw [ht]; exact hP, va_K.moved hW.alike hK, hD⟩, hS.F ht⟩) hS.2.2 dX6_sharedOn_33
  · replace hw := Eq.mp (if_neg c3) hw
    refine lv_aload_n hx hb dX6_sharedOn_16 rfl (lv_at hl 0 rfl) ?_
    refine lv_aload_n hx hb dX6_sharedOn_17 rfl (lv_at hl 0 rfl) ?_
    refine lv_iload_n hx hb dX6_sharedOn_18 rfl (lv_at hl 1 rfl) ?_
    refine gVi (As := [.int p0]) (rest := [.ref mo]) (cs' := wM kI mo m0 m1 m2 m3 m4 m5 m6 m7 u) ⟨hx, hb, hml, hown, hts⟩ (kX6_shared l D kI kC kG kJ mo m0 m1 m2 m3 m4 m5 m6 m7 u p0 _ hw) (cwV 1 hts gX6_sharedOn_X6_shared rfl rfl rfl hdX6_shared ⟨Nat.le_of_ble_eq_true rfl, Nat.le_of_ble_eq_true rfl⟩) hK hP hE hS [0, 1, 2, 3, 4, 5, 6, 7, 8] rfl (ci := 5) (q0 := 0) rfl rfl rfl rfl hl.1 rfl (Nat.le_of_ble_eq_true rfl) dX6_sharedOn_19 ⟨Nat.le_of_ble_eq_true rfl, Nat.le_of_ble_eq_true rfl⟩ (fun r5 hw => ?_)
    refine gWVi (S := SM) (As := [.int r5]) (rest := []) (wc := wM kI mo m0 m1 m2 m3 m4 m5 m6 m7 u) (wr := []) (cs1 := (fun zz : SM => wM kI mo m0 m1 m2 m3 m4 m5 m6 m7 zz)) (ws2 := (fun zz : SM => wM kI mo m0 m1 m2 m3 m4 m5 m6 m7 zz)) ⟨hx, hb, hml, hown, hts⟩ (fun sz => kX6_told l D kI kC kG kJ mo m0 m1 m2 m3 m4 m5 m6 m7 sz u r5 _ hw) (cwV 1 hts gX6_sharedOn_X6_told rfl rfl rfl hdX6_told ⟨Nat.le_of_ble_eq_true rfl, Nat.le_of_ble_eq_true rfl⟩) hK hP hD hE hS hA [0, 1, 2, 3, 4, 5, 6, 7, 8] [] rfl rfl rfl rfl (by decide) [0, 1, 2, 3, 4, 5, 6, 7, 8] rfl (fun _ => rfl) (ci := 5) (q0 := 0) rfl rfl rfl rfl hl.1 rfl (Nat.le_of_ble_eq_true rfl) dX6_sharedOn_22 ⟨Nat.le_of_ble_eq_true rfl, Nat.le_of_ble_eq_true rfl⟩ (fun r6 w6 H locs hw hP hD hS => ?_)
    have hP : va_P D vwCl (wM kI mo m0 m1 m2 m3 m4 m5 m6 m7 w6) H := hP
    have hD : va_D A (wM kI mo m0 m1 m2 m3 m4 m5 m6 m7 w6) := hD
    refine lv_goto (tgt := 33) hx hb dX6_sharedOn_25 (by decide) ?_
    exact W.iret (v := r6) hx hb hr (fun t ht hW => ⟨⟨r6, w6, rfl, hw, by rw [ht]; exact hP, va_K.moved hW.alike hK, hD⟩, hS.F ht⟩) hS.2.2 dX6_sharedOn_33
set_option maxHeartbeats 4000000 in
set_option maxRecDepth 100000 in
theorem kX6_wonLines (l : Launch) (D : va_G) (kI kC kG kJ : ClassId) (mo m0 m1 m2 m3 m4 m5 m6 m7 : Nat) (sz : Nat) (u : SM) (Z : Int32 → SM → Prop) (hw : pX6_wonLines u Z) : Met l yX6_wonLines wsX6_wonLines ({ frames := 3, cells := 0, slots := 0, locals := 68 } : Room) (gPw D (gT kI kC kG kJ) [.ref mo] (wM kI mo m0 m1 m2 m3 m4 m5 m6 m7 u) sz) (va_Qi Z (gB D (gT kI kC kG kJ) (fun (zz : SM) => wM kI mo m0 m1 m2 m3 m4 m5 m6 m7 zz) (va_A (wM kI mo m0 m1 m2 m3 m4 m5 m6 m7 u) sz)) (va_A (wM kI mo m0 m1 m2 m3 m4 m5 m6 m7 u) sz)) 0 0 (va_A (wM kI mo m0 m1 m2 m3 m4 m5 m6 m7 u) sz) := by
  refine Met.ofW (cc := cX6_wonLines) (maxL := 1) (ret := (some .int)) (by decide) rfl ?_
  intro p e s m args below meth c s₁ B hml hv
  obtain ⟨rfl, hsz, hP, hK, hD0, hE⟩ := hv
  have hx := B.exec
  have hb := B.bytes
  have hr := B.returns
  have hts := atoms_spec (ws := wsX6_wonLines) B.pre
  have hown : s.vm.findClass RX6 = some m.cls := findClass_of_methodNamed B.named
  have hlocks := B.notSynchronized
  subst hsz
  have hD := hD0.self (sz := s.heap.size)
  generalize hAe : va_A (wM kI mo m0 m1 m2 m3 m4 m5 m6 m7 u) s.heap.size = A at hD hE ⊢
  have hA : ∀ q : Nat, s.heap.size ≤ q → A q := fun q h => by rw [← hAe]; exact Or.inr h
  have hS : va_S A s.heap s.heap [] := va_S.rf
  clear hAe hD0
  have hl := lv_entry ([.ref mo]) (n := 1) (Nat.le_of_ble_eq_true rfl)
  rw [lg_entry_eq]
  generalize (lg_sl ([.ref mo]) ++ List.replicate (1 - (lg_sl ([.ref mo])).length) Slot.unset).toArray = ls at hl ⊢
  have hl : lv_has ls 1 [(0, .ref mo)] := hl
  have hP : va_P D vwCl (wM kI mo m0 m1 m2 m3 m4 m5 m6 m7 u) s.heap := hP
  unfold pX6_wonLines at hw
  refine lv_aload_n hx hb dX6_wonLines_0 rfl (lv_at hl 0 rfl) ?_
  refine lv_aload_n hx hb dX6_wonLines_1 rfl (lv_at hl 0 rfl) ?_
  refine gVi (As := []) (rest := [.ref mo]) (cs' := wM kI mo m0 m1 m2 m3 m4 m5 m6 m7 u) ⟨hx, hb, hml, hown, hts⟩ (kX6_won l D kI kC kG kJ mo m0 m1 m2 m3 m4 m5 m6 m7 u _ hw) (cwV 0 hts gX6_wonLines_X6_won rfl rfl rfl hdX6_won ⟨Nat.le_of_ble_eq_true rfl, Nat.le_of_ble_eq_true rfl⟩) hK hP hE hS [0, 1, 2, 3, 4, 5, 6, 7, 8] rfl (ci := 5) (q0 := 0) rfl rfl rfl rfl hl.1 rfl (Nat.le_of_ble_eq_true rfl) dX6_wonLines_2 ⟨Nat.le_of_ble_eq_true rfl, Nat.le_of_ble_eq_true rfl⟩ (fun r1 hw => ?_)
  refine gWVi (S := SM) (As := [.int r1]) (rest := []) (wc := wM kI mo m0 m1 m2 m3 m4 m5 m6 m7 u) (wr := []) (cs1 := (fun zz : SM => wM kI mo m0 m1 m2 m3 m4 m5 m6 m7 zz)) (ws2 := (fun zz : SM => wM kI mo m0 m1 m2 m3 m4 m5 m6 m7 zz)) ⟨hx, hb, hml, hown, hts⟩ (fun sz => kX6_told l D kI kC kG kJ mo m0 m1 m2 m3 m4 m5 m6 m7 sz u r1 _ hw) (cwV 1 hts gX6_wonLines_X6_told rfl rfl rfl hdX6_told ⟨Nat.le_of_ble_eq_true rfl, Nat.le_of_ble_eq_true rfl⟩) hK hP hD hE hS hA [0, 1, 2, 3, 4, 5, 6, 7, 8] [] rfl rfl rfl rfl (by decide) [0, 1, 2, 3, 4, 5, 6, 7, 8] rfl (fun _ => rfl) (ci := 5) (q0 := 0) rfl rfl rfl rfl hl.1 rfl (Nat.le_of_ble_eq_true rfl) dX6_wonLines_5 ⟨Nat.le_of_ble_eq_true rfl, Nat.le_of_ble_eq_true rfl⟩ (fun r2 w2 H locs hw hP hD hS => ?_)
  have hP : va_P D vwCl (wM kI mo m0 m1 m2 m3 m4 m5 m6 m7 w2) H := hP
  have hD : va_D A (wM kI mo m0 m1 m2 m3 m4 m5 m6 m7 w2) := hD
  exact W.iret (v := r2) hx hb hr (fun t ht hW => ⟨⟨r2, w2, rfl, hw, by rw [ht]; exact hP, va_K.moved hW.alike hK, hD⟩, hS.F ht⟩) hS.2.2 dX6_wonLines_8
set_option maxHeartbeats 4000000 in
set_option maxRecDepth 100000 in
theorem kX6_winsOf (l : Launch) (D : va_G) (kI kC kG kJ : ClassId) (mo m0 m1 m2 m3 m4 m5 m6 m7 : Nat) (sz : Nat) (u : SM) (p0 : Int32) (Z : Int32 → SM → Prop) (hw : pX6_winsOf p0 u Z) : Met l yX6_winsOf wsX6_winsOf ({ frames := 1, cells := 0, slots := 0, locals := 25 } : Room) (gPw D (gT kI kC kG kJ) [.ref mo, .int p0] (wM kI mo m0 m1 m2 m3 m4 m5 m6 m7 u) sz) (va_Qi Z (gB D (gT kI kC kG kJ) (fun (zz : SM) => wM kI mo m0 m1 m2 m3 m4 m5 m6 m7 zz) (va_A (wM kI mo m0 m1 m2 m3 m4 m5 m6 m7 u) sz)) (va_A (wM kI mo m0 m1 m2 m3 m4 m5 m6 m7 u) sz)) 0 0 (va_A (wM kI mo m0 m1 m2 m3 m4 m5 m6 m7 u) sz) := by
  refine Met.ofW (cc := cX6_winsOf) (maxL := 2) (ret := (some .int)) (by decide) rfl ?_
  intro p e s m args below meth c s₁ B hml hv
  obtain ⟨rfl, hsz, hP, hK, hD0, hE⟩ := hv
  have hx := B.exec
  have hb := B.bytes
  have hr := B.returns
  have hts := atoms_spec (ws := wsX6_winsOf) B.pre
  have hown : s.vm.findClass RX6 = some m.cls := findClass_of_methodNamed B.named
  have hlocks := B.notSynchronized
  subst hsz
  have hD := hD0.self (sz := s.heap.size)
  generalize hAe : va_A (wM kI mo m0 m1 m2 m3 m4 m5 m6 m7 u) s.heap.size = A at hD hE ⊢
  have hA : ∀ q : Nat, s.heap.size ≤ q → A q := fun q h => by rw [← hAe]; exact Or.inr h
  have hS : va_S A s.heap s.heap [] := va_S.rf
  clear hAe hD0
  have hl := lv_entry ([.ref mo, .int p0]) (n := 2) (Nat.le_of_ble_eq_true rfl)
  rw [lg_entry_eq]
  generalize (lg_sl ([.ref mo, .int p0]) ++ List.replicate (2 - (lg_sl ([.ref mo, .int p0])).length) Slot.unset).toArray = ls at hl ⊢
  have hl : lv_has ls 2 [(0, .ref mo), (1, .int p0)] := hl
  have hP : va_P D vwCl (wM kI mo m0 m1 m2 m3 m4 m5 m6 m7 u) s.heap := hP
  unfold pX6_winsOf at hw
  refine lv_iload_n hx hb dX6_winsOf_0 rfl (lv_at hl 1 rfl) ?_
  refine lv_i2l (v := p0.toInt64) hx hb dX6_winsOf_1 rfl ?_
  refine lv_lconst (v := 0) hx hb dX6_winsOf_2 (by decide) ?_
  refine lv_lconst (v := 1) hx hb dX6_winsOf_3 (by decide) ?_
  refine gSi (As := [.long p0.toInt64, .long 0, .long 1]) (rest := []) (cs' := ([] : va_W)) ⟨hx, hb, hml, hown, hts⟩ (kX6_in l D kI kC kG kJ p0.toInt64 0 1 _ hw) (va_cwS 3 hts gX6_winsOf_X6_in rfl rfl rfl hdX6_in ⟨Nat.le_of_ble_eq_true rfl, Nat.le_of_ble_eq_true rfl⟩) hK hP hE hS [] rfl rfl hl.1 rfl (Nat.le_of_ble_eq_true rfl) dX6_winsOf_4 ⟨Nat.le_of_ble_eq_true rfl, Nat.le_of_ble_eq_true rfl⟩ (fun r1 hw => ?_)
  refine lv_if_eq (tgt := 26) hx hb dX6_winsOf_7 (by decide) (fun c2 => ?_) (fun c2 => ?_)
  · replace hw := Eq.mp (if_pos c2) hw
    refine lv_aload_n hx hb dX6_winsOf_26 rfl (lv_at hl 0 rfl) ?_
    refine lv_iconst (v := 1) hx hb dX6_winsOf_27 (by decide) ?_
    refine gWVi (S := SM) (As := [.int 1]) (rest := []) (wc := wM kI mo m0 m1 m2 m3 m4 m5 m6 m7 u) (wr := []) (cs1 := (fun zz : SM => wM kI mo m0 m1 m2 m3 m4 m5 m6 m7 zz)) (ws2 := (fun zz : SM => wM kI mo m0 m1 m2 m3 m4 m5 m6 m7 zz)) ⟨hx, hb, hml, hown, hts⟩ (fun sz => kX6_fails l D kI kC kG kJ mo m0 m1 m2 m3 m4 m5 m6 m7 sz u 1 _ hw) (cwV 1 hts gX6_winsOf_X6_fails rfl rfl rfl hdX6_fails ⟨Nat.le_of_ble_eq_true rfl, Nat.le_of_ble_eq_true rfl⟩) hK hP hD hE hS hA [0, 1, 2, 3, 4, 5, 6, 7, 8] [] rfl rfl rfl rfl (by decide) [0, 1, 2, 3, 4, 5, 6, 7, 8] rfl (fun _ => rfl) (ci := 5) (q0 := 0) rfl rfl rfl rfl hl.1 rfl (Nat.le_of_ble_eq_true rfl) dX6_winsOf_28 ⟨Nat.le_of_ble_eq_true rfl, Nat.le_of_ble_eq_true rfl⟩ (fun r3 w3 H locs hw hP hD hS => ?_)
    have hP : va_P D vwCl (wM kI mo m0 m1 m2 m3 m4 m5 m6 m7 w3) H := hP
    have hD : va_D A (wM kI mo m0 m1 m2 m3 m4 m5 m6 m7 w3) := hD
    exact W.iret (v := r3) hx hb hr (fun t ht hW => ⟨⟨r3, w3, rfl, hw, by rw [ht]; exact hP, va_K.moved hW.alike hK, hD⟩, hS.F ht⟩) hS.2.2 dX6_winsOf_31
  · replace hw := Eq.mp (if_neg c2) hw
    refine lv_aload_n hx hb dX6_winsOf_10 rfl (lv_at hl 0 rfl) ?_
    refine lv_aload_n hx hb dX6_winsOf_11 rfl (lv_at hl 0 rfl) ?_
    refine va_get (D := D) (ci := 5) (v := .ref m0) (C := RX6) (T := TX6) (N := 18) hx hb hts (fun _ h => List.mem_cons_of_mem _ (List.mem_append_right _ h)) hown hK hP 0 rfl rfl 0 (by decide) (hts (.fieldLink RX6 7 "HazelGiftModel" "all" "[I") (List.mem_of_getElem? (i := 1) rfl)) (fun _ h9 => h9) rfl dX6_winsOf_12 ?_
    refine lv_bipush (v := 18) hx hb dX6_winsOf_15 (by decide) ?_
    refine lv_iload_n hx hb dX6_winsOf_17 rfl (lv_at hl 1 rfl) ?_
    refine lv_iadd hx hb dX6_winsOf_18 ?_
    obtain ⟨hi4, hw⟩ := hw
    refine gIald (k := ((18 + p0)).toNatClampNeg) hx hb hK hP 1 0 rfl rfl hi4 rfl dX6_winsOf_19 ?_
    refine gWVi (S := SM) (As := [.int (u.1 ((18 + p0)).toNatClampNeg)]) (rest := []) (wc := wM kI mo m0 m1 m2 m3 m4 m5 m6 m7 u) (wr := []) (cs1 := (fun zz : SM => wM kI mo m0 m1 m2 m3 m4 m5 m6 m7 zz)) (ws2 := (fun zz : SM => wM kI mo m0 m1 m2 m3 m4 m5 m6 m7 zz)) ⟨hx, hb, hml, hown, hts⟩ (fun sz => kX6_told l D kI kC kG kJ mo m0 m1 m2 m3 m4 m5 m6 m7 sz u (u.1 ((18 + p0)).toNatClampNeg) _ hw) (cwV 1 hts gX6_winsOf_X6_told rfl rfl rfl hdX6_told ⟨Nat.le_of_ble_eq_true rfl, Nat.le_of_ble_eq_true rfl⟩) hK hP hD hE hS hA [0, 1, 2, 3, 4, 5, 6, 7, 8] [] rfl rfl rfl rfl (by decide) [0, 1, 2, 3, 4, 5, 6, 7, 8] rfl (fun _ => rfl) (ci := 5) (q0 := 0) rfl rfl rfl rfl hl.1 rfl (Nat.le_of_ble_eq_true rfl) dX6_winsOf_20 ⟨Nat.le_of_ble_eq_true rfl, Nat.le_of_ble_eq_true rfl⟩ (fun r5 w5 H locs hw hP hD hS => ?_)
    have hP : va_P D vwCl (wM kI mo m0 m1 m2 m3 m4 m5 m6 m7 w5) H := hP
    have hD : va_D A (wM kI mo m0 m1 m2 m3 m4 m5 m6 m7 w5) := hD
    refine lv_goto (tgt := 31) hx hb dX6_winsOf_23 (by decide) ?_
    exact W.iret (v := r5) hx hb hr (fun t ht hW => ⟨⟨r5, w5, rfl, hw, by rw [ht]; exact hP, va_K.moved hW.alike hK, hD⟩, hS.F ht⟩) hS.2.2 dX6_winsOf_31
set_option maxHeartbeats 4000000 in
set_option maxRecDepth 100000 in
theorem kX6_winningCell (l : Launch) (D : va_G) (kI kC kG kJ : ClassId) (mo m0 m1 m2 m3 m4 m5 m6 m7 : Nat) (sz : Nat) (u : SM) (p0 : Int32) (Z : Int32 → SM → Prop) (hw : pX6_winningCell p0 u Z) : Met l yX6_winningCell wsX6_winningCell ({ frames := 5, cells := 0, slots := 0, locals := 113 } : Room) (gPw D (gT kI kC kG kJ) [.ref mo, .int p0] (wM kI mo m0 m1 m2 m3 m4 m5 m6 m7 u) sz) (va_Qi Z (gB D (gT kI kC kG kJ) (fun (zz : SM) => wM kI mo m0 m1 m2 m3 m4 m5 m6 m7 zz) (va_A (wM kI mo m0 m1 m2 m3 m4 m5 m6 m7 u) sz)) (va_A (wM kI mo m0 m1 m2 m3 m4 m5 m6 m7 u) sz)) 0 0 (va_A (wM kI mo m0 m1 m2 m3 m4 m5 m6 m7 u) sz) := by
  refine Met.ofW (cc := cX6_winningCell) (maxL := 2) (ret := (some .int)) (by decide) rfl ?_
  intro p e s m args below meth c s₁ B hml hv
  obtain ⟨rfl, hsz, hP, hK, hD0, hE⟩ := hv
  have hx := B.exec
  have hb := B.bytes
  have hr := B.returns
  have hts := atoms_spec (ws := wsX6_winningCell) B.pre
  have hown : s.vm.findClass RX6 = some m.cls := findClass_of_methodNamed B.named
  have hlocks := B.notSynchronized
  subst hsz
  have hD := hD0.self (sz := s.heap.size)
  generalize hAe : va_A (wM kI mo m0 m1 m2 m3 m4 m5 m6 m7 u) s.heap.size = A at hD hE ⊢
  have hA : ∀ q : Nat, s.heap.size ≤ q → A q := fun q h => by rw [← hAe]; exact Or.inr h
  have hS : va_S A s.heap s.heap [] := va_S.rf
  clear hAe hD0
  have hl := lv_entry ([.ref mo, .int p0]) (n := 2) (Nat.le_of_ble_eq_true rfl)
  rw [lg_entry_eq]
  generalize (lg_sl ([.ref mo, .int p0]) ++ List.replicate (2 - (lg_sl ([.ref mo, .int p0])).length) Slot.unset).toArray = ls at hl ⊢
  have hl : lv_has ls 2 [(0, .ref mo), (1, .int p0)] := hl
  have hP : va_P D vwCl (wM kI mo m0 m1 m2 m3 m4 m5 m6 m7 u) s.heap := hP
  unfold pX6_winningCell at hw
  refine lv_iload_n hx hb dX6_winningCell_0 rfl (lv_at hl 1 rfl) ?_
  refine gSi (As := [.int p0]) (rest := []) (cs' := ([] : va_W)) ⟨hx, hb, hml, hown, hts⟩ (kX6_isPlace l D kI kC kG kJ p0 _ hw) (va_cwS 1 hts gX6_winningCell_X6_isPlace rfl rfl rfl hdX6_isPlace ⟨Nat.le_of_ble_eq_true rfl, Nat.le_of_ble_eq_true rfl⟩) hK hP hE hS [] rfl rfl hl.1 rfl (Nat.le_of_ble_eq_true rfl) dX6_winningCell_1 ⟨Nat.le_of_ble_eq_true rfl, Nat.le_of_ble_eq_true rfl⟩ (fun r1 hw => ?_)
  refine lv_if_eq (tgt := 19) hx hb dX6_winningCell_4 (by decide) (fun c2 => ?_) (fun c2 => ?_)
  · replace hw := Eq.mp (if_pos c2) hw
    refine lv_aload_n hx hb dX6_winningCell_19 rfl (lv_at hl 0 rfl) ?_
    refine lv_iconst (v := 1) hx hb dX6_winningCell_20 (by decide) ?_
    refine gWVi (S := SM) (As := [.int 1]) (rest := []) (wc := wM kI mo m0 m1 m2 m3 m4 m5 m6 m7 u) (wr := []) (cs1 := (fun zz : SM => wM kI mo m0 m1 m2 m3 m4 m5 m6 m7 zz)) (ws2 := (fun zz : SM => wM kI mo m0 m1 m2 m3 m4 m5 m6 m7 zz)) ⟨hx, hb, hml, hown, hts⟩ (fun sz => kX6_fails l D kI kC kG kJ mo m0 m1 m2 m3 m4 m5 m6 m7 sz u 1 _ hw) (cwV 1 hts gX6_winningCell_X6_fails rfl rfl rfl hdX6_fails ⟨Nat.le_of_ble_eq_true rfl, Nat.le_of_ble_eq_true rfl⟩) hK hP hD hE hS hA [0, 1, 2, 3, 4, 5, 6, 7, 8] [] rfl rfl rfl rfl (by decide) [0, 1, 2, 3, 4, 5, 6, 7, 8] rfl (fun _ => rfl) (ci := 5) (q0 := 0) rfl rfl rfl rfl hl.1 rfl (Nat.le_of_ble_eq_true rfl) dX6_winningCell_21 ⟨Nat.le_of_ble_eq_true rfl, Nat.le_of_ble_eq_true rfl⟩ (fun r3 w3 H locs hw hP hD hS => ?_)
    have hP : va_P D vwCl (wM kI mo m0 m1 m2 m3 m4 m5 m6 m7 w3) H := hP
    have hD : va_D A (wM kI mo m0 m1 m2 m3 m4 m5 m6 m7 w3) := hD
    exact W.iret (v := r3) hx hb hr (fun t ht hW => ⟨⟨r3, w3, rfl, hw, by rw [ht]; exact hP, va_K.moved hW.alike hK, hD⟩, hS.F ht⟩) hS.2.2 dX6_winningCell_24
  · replace hw := Eq.mp (if_neg c2) hw
    refine lv_aload_n hx hb dX6_winningCell_7 rfl (lv_at hl 0 rfl) ?_
    refine lv_aload_n hx hb dX6_winningCell_8 rfl (lv_at hl 0 rfl) ?_
    refine lv_iload_n hx hb dX6_winningCell_9 rfl (lv_at hl 1 rfl) ?_
    refine gWVi (S := SM) (As := [.int p0]) (rest := [.ref mo]) (wc := wM kI mo m0 m1 m2 m3 m4 m5 m6 m7 u) (wr := []) (cs1 := (fun zz : SM => wM kI mo m0 m1 m2 m3 m4 m5 m6 m7 zz)) (ws2 := (fun zz : SM => wM kI mo m0 m1 m2 m3 m4 m5 m6 m7 zz)) ⟨hx, hb, hml, hown, hts⟩ (fun sz => kX6_winning l D kI kC kG kJ mo m0 m1 m2 m3 m4 m5 m6 m7 sz u p0 _ hw) (cwV 1 hts gX6_winningCell_X6_winning rfl rfl rfl hdX6_winning ⟨Nat.le_of_ble_eq_true rfl, Nat.le_of_ble_eq_true rfl⟩) hK hP hD hE hS hA [0, 1, 2, 3, 4, 5, 6, 7, 8] [] rfl rfl rfl rfl (by decide) [0, 1, 2, 3, 4, 5, 6, 7, 8] rfl (fun _ => rfl) (ci := 5) (q0 := 0) rfl rfl rfl rfl hl.1 rfl (Nat.le_of_ble_eq_true rfl) dX6_winningCell_10 ⟨Nat.le_of_ble_eq_true rfl, Nat.le_of_ble_eq_true rfl⟩ (fun r4 w4 H locs hw hP hD hS => ?_)
    have hP : va_P D vwCl (wM kI mo m0 m1 m2 m3 m4 m5 m6 m7 w4) H := hP
    have hD : va_D A (wM kI mo m0 m1 m2 m3 m4 m5 m6 m7 w4) := hD
    refine gWVi (S := SM) (As := [.int r4]) (rest := []) (wc := wM kI mo m0 m1 m2 m3 m4 m5 m6 m7 w4) (wr := []) (cs1 := (fun zz : SM => wM kI mo m0 m1 m2 m3 m4 m5 m6 m7 zz)) (ws2 := (fun zz : SM => wM kI mo m0 m1 m2 m3 m4 m5 m6 m7 zz)) ⟨hx, hb, hml, hown, hts⟩ (fun sz => kX6_told l D kI kC kG kJ mo m0 m1 m2 m3 m4 m5 m6 m7 sz w4 r4 _ hw) (cwV 1 hts gX6_winningCell_X6_told rfl rfl rfl hdX6_told ⟨Nat.le_of_ble_eq_true rfl, Nat.le_of_ble_eq_true rfl⟩) hK hP hD hE hS hA [0, 1, 2, 3, 4, 5, 6, 7, 8] [] rfl rfl rfl rfl (by decide) [0, 1, 2, 3, 4, 5, 6, 7, 8] rfl (fun _ => rfl) (ci := 5) (q0 := 0) rfl rfl rfl rfl hl.1 rfl (Nat.le_of_ble_eq_true rfl) dX6_winningCell_13 ⟨Nat.le_of_ble_eq_true rfl, Nat.le_of_ble_eq_true rfl⟩ (fun r5 w5 H locs hw hP hD hS => ?_)
    have hP : va_P D vwCl (wM kI mo m0 m1 m2 m3 m4 m5 m6 m7 w5) H := hP
    have hD : va_D A (wM kI mo m0 m1 m2 m3 m4 m5 m6 m7 w5) := hD
    refine lv_goto (tgt := 24) hx hb dX6_winningCell_16 (by decide) ?_
    exact W.iret (v := r5) hx hb hr (fun t ht hW => ⟨⟨r5, w5, rfl, hw, by rw [ht]; exact hP, va_K.moved hW.alike hK, hD⟩, hS.F ht⟩) hS.2.2 dX6_winningCell_24
set_option maxHeartbeats 4000000 in
set_option maxRecDepth 100000 in
theorem kX6_safe (l : Launch) (D : va_G) (kI kC kG kJ : ClassId) (mo m0 m1 m2 m3 m4 m5 m6 m7 : Nat) (sz : Nat) (u : SM) (Z : Int32 → SM → Prop) (hw : pX6_safe u Z) : Met l yX6_safe wsX6_safe ({ frames := 5, cells := 0, slots := 0, locals := 113 } : Room) (gPw D (gT kI kC kG kJ) [.ref mo] (wM kI mo m0 m1 m2 m3 m4 m5 m6 m7 u) sz) (va_Qi Z (gB D (gT kI kC kG kJ) (fun (zz : SM) => wM kI mo m0 m1 m2 m3 m4 m5 m6 m7 zz) (va_A (wM kI mo m0 m1 m2 m3 m4 m5 m6 m7 u) sz)) (va_A (wM kI mo m0 m1 m2 m3 m4 m5 m6 m7 u) sz)) 0 0 (va_A (wM kI mo m0 m1 m2 m3 m4 m5 m6 m7 u) sz) := by
  refine Met.ofW (cc := cX6_safe) (maxL := 3) (ret := (some .int)) (by decide) rfl ?_
  intro p e s m args below meth c s₁ B hml hv
  obtain ⟨rfl, hsz, hP, hK, hD0, hE⟩ := hv
  have hx := B.exec
  have hb := B.bytes
  have hr := B.returns
  have hts := atoms_spec (ws := wsX6_safe) B.pre
  have hown : s.vm.findClass RX6 = some m.cls := findClass_of_methodNamed B.named
  have hlocks := B.notSynchronized
  subst hsz
  have hD := hD0.self (sz := s.heap.size)
  generalize hAe : va_A (wM kI mo m0 m1 m2 m3 m4 m5 m6 m7 u) s.heap.size = A at hD hE ⊢
  have hA : ∀ q : Nat, s.heap.size ≤ q → A q := fun q h => by rw [← hAe]; exact Or.inr h
  have hS : va_S A s.heap s.heap [] := va_S.rf
  clear hAe hD0
  have hl := lv_entry ([.ref mo]) (n := 3) (Nat.le_of_ble_eq_true rfl)
  rw [lg_entry_eq]
  generalize (lg_sl ([.ref mo]) ++ List.replicate (3 - (lg_sl ([.ref mo])).length) Slot.unset).toArray = ls at hl ⊢
  have hl : lv_has ls 3 [(0, .ref mo)] := hl
  have hP : va_P D vwCl (wM kI mo m0 m1 m2 m3 m4 m5 m6 m7 u) s.heap := hP
  have L4 : ∀ (_ : Unit), ∀ (n : Nat), ∀ (v1 : Int32) (v2 : Int32) (u : SM) (H : Heap) (locs : List Loc) (ls : Array Slot), va_P D vwCl (wM kI mo m0 m1 m2 m3 m4 m5 m6 m7 u) H → va_D A (wM kI mo m0 m1 m2 m3 m4 m5 m6 m7 u) → va_S A s.heap H locs → lv_has ls 3 [(0, .ref mo), (1, .int v1), (2, .int v2)] → pX6_safe_4 Z n v1 v2 u → W p l e (headSpec wsX6_safe ({ frames := 5, cells := 0, slots := 0, locals := 113 } : Room)).room s m ([.ref mo] : List Value).toArray below meth c H locs 0 0 (MQ below (va_Qi Z (gB D (gT kI kC kG kJ) (fun (zz : SM) => wM kI mo m0 m1 m2 m3 m4 m5 m6 m7 zz) A) A) ([.ref mo] : List Value).toArray s 0 0 A) (F0 m 4 ls []) := by
    intro _ n
    induction n with
    | zero => intro v1 v2 u H locs ls hP hD hS hl hw; exact hw.elim
    | succ n ih =>
    intro v1 v2 u H locs ls hP hD hS hl hw
    rw [pX6_safe_4] at hw
    refine lv_iload_n hx hb dX6_safe_4 rfl (lv_at hl 2 rfl) ?_
    refine lv_bipush (v := 16) hx hb dX6_safe_5 (by decide) ?_
    refine lv_icmp_ge (tgt := 64) hx hb dX6_safe_7 (by decide) (fun c1 => ?_) (fun c1 => ?_)
    · replace hw := Eq.mp (if_pos c1) hw
      refine lv_iload_n hx hb dX6_safe_64 rfl (lv_at hl 1 rfl) ?_
      exact W.iret (v := v1) hx hb hr (fun t ht hW => ⟨⟨v1, u, rfl, hw, by rw [ht]; exact hP, va_K.moved hW.alike hK, hD⟩, hS.F ht⟩) hS.2.2 dX6_safe_65
    · replace hw := Eq.mp (if_neg c1) hw
      refine lv_aload_n hx hb dX6_safe_10 rfl (lv_at hl 0 rfl) ?_
      refine gVi (As := []) (rest := []) (cs' := wM kI mo m0 m1 m2 m3 m4 m5 m6 m7 u) ⟨hx, hb, hml, hown, hts⟩ (kX6_isOverNow l D kI kC kG kJ mo m0 m1 m2 m3 m4 m5 m6 m7 u _ hw) (cwV 0 hts gX6_safe_X6_isOverNow rfl rfl rfl hdX6_isOverNow ⟨Nat.le_of_ble_eq_true rfl, Nat.le_of_ble_eq_true rfl⟩) hK hP hE hS [0, 1, 2, 3, 4, 5, 6, 7, 8] rfl (ci := 5) (q0 := 0) rfl rfl rfl rfl hl.1 rfl (Nat.le_of_ble_eq_true rfl) dX6_safe_11 ⟨Nat.le_of_ble_eq_true rfl, Nat.le_of_ble_eq_true rfl⟩ (fun r2 hw => ?_)
      refine lv_if_ne (tgt := 64) hx hb dX6_safe_14 (by decide) (fun c3 => ?_) (fun c3 => ?_)
      · replace hw := Eq.mp (if_neg c3) hw
        refine lv_iload_n hx hb dX6_safe_64 rfl (lv_at hl 1 rfl) ?_
        exact W.iret (v := v1) hx hb hr (fun t ht hW => ⟨⟨v1, u, rfl, hw, by rw [ht]; exact hP, va_K.moved hW.alike hK, hD⟩, hS.F ht⟩) hS.2.2 dX6_safe_65
      · replace hw := Eq.mp (if_pos c3) hw
        refine lv_iload_n hx hb dX6_safe_17 rfl (lv_at hl 1 rfl) ?_
        refine lv_aload_n hx hb dX6_safe_18 rfl (lv_at hl 0 rfl) ?_
        refine lv_iload_n hx hb dX6_safe_19 rfl (lv_at hl 2 rfl) ?_
        refine gVi (As := [.int v2]) (rest := [.int v1]) (cs' := wM kI mo m0 m1 m2 m3 m4 m5 m6 m7 u) ⟨hx, hb, hml, hown, hts⟩ (kX6_cell l D kI kC kG kJ mo m0 m1 m2 m3 m4 m5 m6 m7 u v2 _ hw) (cwV 1 hts gX6_safe_X6_cell rfl rfl rfl hdX6_cell ⟨Nat.le_of_ble_eq_true rfl, Nat.le_of_ble_eq_true rfl⟩) hK hP hE hS [0, 1, 2, 3, 4, 5, 6, 7, 8] rfl (ci := 5) (q0 := 0) rfl rfl rfl rfl hl.1 rfl (Nat.le_of_ble_eq_true rfl) dX6_safe_20 ⟨Nat.le_of_ble_eq_true rfl, Nat.le_of_ble_eq_true rfl⟩ (fun r4 hw => ?_)
        refine lv_iconst (v := (-1)) hx hb dX6_safe_23 (by decide) ?_
        refine lv_icmp_ne (tgt := 55) hx hb dX6_safe_24 (by decide) (fun c5 => ?_) (fun c5 => ?_)
        · replace hw := Eq.mp (if_neg c5) hw
          refine lv_iconst (v := 0) hx hb dX6_safe_55 (by decide) ?_
          refine lv_ior hx hb dX6_safe_56 ?_
          refine lv_topi (fun x6 ex6 => ?_)
          replace hw := hw x6 ex6
          refine lv_istore_n (lv' := [(1, .int x6), (0, .ref mo), (2, .int v2)]) hx hb dX6_safe_57 rfl hl (by decide) rfl (fun ls hl => ?_)
          obtain ⟨x7, ex7⟩ : ∃ y : Int32, y = (v2 + 1) := ⟨_, rfl⟩
          replace hw := hw x7 ex7
          refine lv_iinc (v := x7) (lv' := [(2, .int x7), (1, .int x6), (0, .ref mo)]) hx hb dX6_safe_58 hl (k := 2) rfl (by rw [ex7]; rfl) (by decide) rfl (fun ls hl => ?_)
          refine lv_goto (tgt := 4) hx hb dX6_safe_61 (by decide) ?_
          exact ih x6 x7 u H locs ls hP hD hS (lv_sub hl [2, 1, 0] rfl) hw
        · replace hw := Eq.mp (if_pos c5) hw
          refine lv_aload_n hx hb dX6_safe_27 rfl (lv_at hl 0 rfl) ?_
          refine va_get (D := D) (ci := 5) (v := .ref m0) (C := RX6) (T := TX6) (N := 18) hx hb hts (fun _ h => List.mem_cons_of_mem _ (List.mem_append_right _ h)) hown hK hP 0 rfl rfl 0 (by decide) (hts (.fieldLink RX6 7 "HazelGiftModel" "all" "[I") (List.mem_of_getElem? (i := 1) rfl)) (fun _ h9 => h9) rfl dX6_safe_28 ?_
          refine lv_bipush (v := 16) hx hb dX6_safe_31 (by decide) ?_
          refine gIald (k := 16) hx hb hK hP 1 0 rfl rfl (gin (by decide)) (by decide) dX6_safe_33 ?_
          refine lv_iload_n hx hb dX6_safe_34 rfl (lv_at hl 2 rfl) ?_
          refine lv_iconst (v := 1) hx hb dX6_safe_35 (by decide) ?_
          refine lv_iadd hx hb dX6_safe_36 ?_
          refine lv_icmp_eq (tgt := 55) hx hb dX6_safe_37 (by decide) (fun c8 => ?_) (fun c8 => ?_)
          · replace hw := Eq.mp (if_pos c8) hw
            refine lv_iconst (v := 0) hx hb dX6_safe_55 (by decide) ?_
            refine lv_ior hx hb dX6_safe_56 ?_
            refine lv_topi (fun x9 ex9 => ?_)
            replace hw := hw x9 ex9
            refine lv_istore_n (lv' := [(1, .int x9), (0, .ref mo), (2, .int v2)]) hx hb dX6_safe_57 rfl hl (by decide) rfl (fun ls hl => ?_)
            obtain ⟨x10, ex10⟩ : ∃ y : Int32, y = (v2 + 1) := ⟨_, rfl⟩
            replace hw := hw x10 ex10
            refine lv_iinc (v := x10) (lv' := [(2, .int x10), (1, .int x9), (0, .ref mo)]) hx hb dX6_safe_58 hl (k := 2) rfl (by rw [ex10]; rfl) (by decide) rfl (fun ls hl => ?_)
            refine lv_goto (tgt := 4) hx hb dX6_safe_61 (by decide) ?_
            exact ih x9 x10 u H locs ls hP hD hS (lv_sub hl [2, 1, 0] rfl) hw
          · replace hw := Eq.mp (if_neg c8) hw
            refine lv_aload_n hx hb dX6_safe_40 rfl (lv_at hl 0 rfl) ?_
            refine lv_iload_n hx hb dX6_safe_41 rfl (lv_at hl 2 rfl) ?_
            refine gWVi (S := SM) (As := [.int v2]) (rest := [.int v1]) (wc := wM kI mo m0 m1 m2 m3 m4 m5 m6 m7 u) (wr := []) (cs1 := (fun zz : SM => wM kI mo m0 m1 m2 m3 m4 m5 m6 m7 zz)) (ws2 := (fun zz : SM => wM kI mo m0 m1 m2 m3 m4 m5 m6 m7 zz)) ⟨hx, hb, hml, hown, hts⟩ (fun sz => kX6_winning l D kI kC kG kJ mo m0 m1 m2 m3 m4 m5 m6 m7 sz u v2 _ hw) (cwV 1 hts gX6_safe_X6_winning rfl rfl rfl hdX6_winning ⟨Nat.le_of_ble_eq_true rfl, Nat.le_of_ble_eq_true rfl⟩) hK hP hD hE hS hA [0, 1, 2, 3, 4, 5, 6, 7, 8] [] rfl rfl rfl rfl (by decide) [0, 1, 2, 3, 4, 5, 6, 7, 8] rfl (fun _ => rfl) (ci := 5) (q0 := 0) rfl rfl rfl rfl hl.1 rfl (Nat.le_of_ble_eq_true rfl) dX6_safe_42 ⟨Nat.le_of_ble_eq_true rfl, Nat.le_of_ble_eq_true rfl⟩ (fun r11 w11 H locs hw hP hD hS => ?_)
            have hP : va_P D vwCl (wM kI mo m0 m1 m2 m3 m4 m5 m6 m7 w11) H := hP
            have hD : va_D A (wM kI mo m0 m1 m2 m3 m4 m5 m6 m7 w11) := hD
            refine lv_iconst (v := (-1)) hx hb dX6_safe_45 (by decide) ?_
            refine lv_icmp_ne (tgt := 55) hx hb dX6_safe_46 (by decide) (fun c12 => ?_) (fun c12 => ?_)
            · replace hw := Eq.mp (if_neg c12) hw
              refine lv_iconst (v := 0) hx hb dX6_safe_55 (by decide) ?_
              refine lv_ior hx hb dX6_safe_56 ?_
              refine lv_topi (fun x13 ex13 => ?_)
              replace hw := hw x13 ex13
              refine lv_istore_n (lv' := [(1, .int x13), (0, .ref mo), (2, .int v2)]) hx hb dX6_safe_57 rfl hl (by decide) rfl (fun ls hl => ?_)
              obtain ⟨x14, ex14⟩ : ∃ y : Int32, y = (v2 + 1) := ⟨_, rfl⟩
              replace hw := hw x14 ex14
              refine lv_iinc (v := x14) (lv' := [(2, .int x14), (1, .int x13), (0, .ref mo)]) hx hb dX6_safe_58 hl (k := 2) rfl (by rw [ex14]; rfl) (by decide) rfl (fun ls hl => ?_)
              refine lv_goto (tgt := 4) hx hb dX6_safe_61 (by decide) ?_
              exact ih x13 x14 w11 H locs ls hP hD hS (lv_sub hl [2, 1, 0] rfl) hw
            · replace hw := Eq.mp (if_pos c12) hw
              refine lv_iconst (v := 1) hx hb dX6_safe_49 (by decide) ?_
              refine lv_iload_n hx hb dX6_safe_50 rfl (lv_at hl 2 rfl) ?_
              refine lv_ishl hx hb dX6_safe_51 ?_
              refine lv_goto (tgt := 56) hx hb dX6_safe_52 (by decide) ?_
              refine lv_ior hx hb dX6_safe_56 ?_
              refine lv_topi (fun x15 ex15 => ?_)
              replace hw := hw x15 ex15
              refine lv_istore_n (lv' := [(1, .int x15), (0, .ref mo), (2, .int v2)]) hx hb dX6_safe_57 rfl hl (by decide) rfl (fun ls hl => ?_)
              obtain ⟨x16, ex16⟩ : ∃ y : Int32, y = (v2 + 1) := ⟨_, rfl⟩
              replace hw := hw x16 ex16
              refine lv_iinc (v := x16) (lv' := [(2, .int x16), (1, .int x15), (0, .ref mo)]) hx hb dX6_safe_58 hl (k := 2) rfl (by rw [ex16]; rfl) (by decide) rfl (fun ls hl => ?_)
              refine lv_goto (tgt := 4) hx hb dX6_safe_61 (by decide) ?_
              exact ih x15 x16 w11 H locs ls hP hD hS (lv_sub hl [2, 1, 0] rfl) hw
  unfold pX6_safe at hw
  refine lv_iconst (v := 0) hx hb dX6_safe_0 (by decide) ?_
  refine lv_istore_n (lv' := [(1, .int 0), (0, .ref mo)]) hx hb dX6_safe_1 rfl hl (by decide) rfl (fun ls hl => ?_)
  refine lv_iconst (v := 0) hx hb dX6_safe_2 (by decide) ?_
  refine lv_istore_n (lv' := [(2, .int 0), (1, .int 0), (0, .ref mo)]) hx hb dX6_safe_3 rfl hl (by decide) rfl (fun ls hl => ?_)
  obtain ⟨n9, hw⟩ := hw
  exact L4 () n9 0 0 u s.heap [] ls hP hD hS (lv_sub hl [2, 1, 0] rfl) hw
set_option maxHeartbeats 4000000 in
set_option maxRecDepth 100000 in
theorem kX6_safeByTrying (l : Launch) (D : va_G) (kI kC kG kJ : ClassId) (mo m0 m1 m2 m3 m4 m5 m6 m7 : Nat) (sz : Nat) (u : SM) (Z : Int32 → SM → Prop) (hw : pX6_safeByTrying u Z) : Met l yX6_safeByTrying wsX6_safeByTrying ({ frames := 6, cells := 0, slots := 0, locals := 135 } : Room) (gPw D (gT kI kC kG kJ) [.ref mo] (wM kI mo m0 m1 m2 m3 m4 m5 m6 m7 u) sz) (va_Qi Z (gB D (gT kI kC kG kJ) (fun (zz : SM) => wM kI mo m0 m1 m2 m3 m4 m5 m6 m7 zz) (va_A (wM kI mo m0 m1 m2 m3 m4 m5 m6 m7 u) sz)) (va_A (wM kI mo m0 m1 m2 m3 m4 m5 m6 m7 u) sz)) 0 0 (va_A (wM kI mo m0 m1 m2 m3 m4 m5 m6 m7 u) sz) := by
  refine Met.ofW (cc := cX6_safeByTrying) (maxL := 1) (ret := (some .int)) (by decide) rfl ?_
  intro p e s m args below meth c s₁ B hml hv
  obtain ⟨rfl, hsz, hP, hK, hD0, hE⟩ := hv
  have hx := B.exec
  have hb := B.bytes
  have hr := B.returns
  have hts := atoms_spec (ws := wsX6_safeByTrying) B.pre
  have hown : s.vm.findClass RX6 = some m.cls := findClass_of_methodNamed B.named
  have hlocks := B.notSynchronized
  subst hsz
  have hD := hD0.self (sz := s.heap.size)
  generalize hAe : va_A (wM kI mo m0 m1 m2 m3 m4 m5 m6 m7 u) s.heap.size = A at hD hE ⊢
  have hA : ∀ q : Nat, s.heap.size ≤ q → A q := fun q h => by rw [← hAe]; exact Or.inr h
  have hS : va_S A s.heap s.heap [] := va_S.rf
  clear hAe hD0
  have hl := lv_entry ([.ref mo]) (n := 1) (Nat.le_of_ble_eq_true rfl)
  rw [lg_entry_eq]
  generalize (lg_sl ([.ref mo]) ++ List.replicate (1 - (lg_sl ([.ref mo])).length) Slot.unset).toArray = ls at hl ⊢
  have hl : lv_has ls 1 [(0, .ref mo)] := hl
  have hP : va_P D vwCl (wM kI mo m0 m1 m2 m3 m4 m5 m6 m7 u) s.heap := hP
  unfold pX6_safeByTrying at hw
  refine lv_aload_n hx hb dX6_safeByTrying_0 rfl (lv_at hl 0 rfl) ?_
  refine lv_aload_n hx hb dX6_safeByTrying_1 rfl (lv_at hl 0 rfl) ?_
  refine gWVi (S := SM) (As := []) (rest := [.ref mo]) (wc := wM kI mo m0 m1 m2 m3 m4 m5 m6 m7 u) (wr := []) (cs1 := (fun zz : SM => wM kI mo m0 m1 m2 m3 m4 m5 m6 m7 zz)) (ws2 := (fun zz : SM => wM kI mo m0 m1 m2 m3 m4 m5 m6 m7 zz)) ⟨hx, hb, hml, hown, hts⟩ (fun sz => kX6_safe l D kI kC kG kJ mo m0 m1 m2 m3 m4 m5 m6 m7 sz u _ hw) (cwV 0 hts gX6_safeByTrying_X6_safe rfl rfl rfl hdX6_safe ⟨Nat.le_of_ble_eq_true rfl, Nat.le_of_ble_eq_true rfl⟩) hK hP hD hE hS hA [0, 1, 2, 3, 4, 5, 6, 7, 8] [] rfl rfl rfl rfl (by decide) [0, 1, 2, 3, 4, 5, 6, 7, 8] rfl (fun _ => rfl) (ci := 5) (q0 := 0) rfl rfl rfl rfl hl.1 rfl (Nat.le_of_ble_eq_true rfl) dX6_safeByTrying_2 ⟨Nat.le_of_ble_eq_true rfl, Nat.le_of_ble_eq_true rfl⟩ (fun r1 w1 H locs hw hP hD hS => ?_)
  have hP : va_P D vwCl (wM kI mo m0 m1 m2 m3 m4 m5 m6 m7 w1) H := hP
  have hD : va_D A (wM kI mo m0 m1 m2 m3 m4 m5 m6 m7 w1) := hD
  refine gWVi (S := SM) (As := [.int r1]) (rest := []) (wc := wM kI mo m0 m1 m2 m3 m4 m5 m6 m7 w1) (wr := []) (cs1 := (fun zz : SM => wM kI mo m0 m1 m2 m3 m4 m5 m6 m7 zz)) (ws2 := (fun zz : SM => wM kI mo m0 m1 m2 m3 m4 m5 m6 m7 zz)) ⟨hx, hb, hml, hown, hts⟩ (fun sz => kX6_told l D kI kC kG kJ mo m0 m1 m2 m3 m4 m5 m6 m7 sz w1 r1 _ hw) (cwV 1 hts gX6_safeByTrying_X6_told rfl rfl rfl hdX6_told ⟨Nat.le_of_ble_eq_true rfl, Nat.le_of_ble_eq_true rfl⟩) hK hP hD hE hS hA [0, 1, 2, 3, 4, 5, 6, 7, 8] [] rfl rfl rfl rfl (by decide) [0, 1, 2, 3, 4, 5, 6, 7, 8] rfl (fun _ => rfl) (ci := 5) (q0 := 0) rfl rfl rfl rfl hl.1 rfl (Nat.le_of_ble_eq_true rfl) dX6_safeByTrying_5 ⟨Nat.le_of_ble_eq_true rfl, Nat.le_of_ble_eq_true rfl⟩ (fun r2 w2 H locs hw hP hD hS => ?_)
  have hP : va_P D vwCl (wM kI mo m0 m1 m2 m3 m4 m5 m6 m7 w2) H := hP
  have hD : va_D A (wM kI mo m0 m1 m2 m3 m4 m5 m6 m7 w2) := hD
  exact W.iret (v := r2) hx hb hr (fun t ht hW => ⟨⟨r2, w2, rfl, hw, by rw [ht]; exact hP, va_K.moved hW.alike hK, hD⟩, hS.F ht⟩) hS.2.2 dX6_safeByTrying_8
set_option maxHeartbeats 4000000 in
set_option maxRecDepth 100000 in
theorem kX6_safeByLines (l : Launch) (D : va_G) (kI kC kG kJ : ClassId) (mo m0 m1 m2 m3 m4 m5 m6 m7 : Nat) (sz : Nat) (u : SM) (Z : Int32 → SM → Prop) (hw : pX6_safeByLines u Z) : Met l yX6_safeByLines wsX6_safeByLines ({ frames := 6, cells := 0, slots := 0, locals := 135 } : Room) (gPw D (gT kI kC kG kJ) [.ref mo] (wM kI mo m0 m1 m2 m3 m4 m5 m6 m7 u) sz) (va_Qi Z (gB D (gT kI kC kG kJ) (fun (zz : SM) => wM kI mo m0 m1 m2 m3 m4 m5 m6 m7 zz) (va_A (wM kI mo m0 m1 m2 m3 m4 m5 m6 m7 u) sz)) (va_A (wM kI mo m0 m1 m2 m3 m4 m5 m6 m7 u) sz)) 0 0 (va_A (wM kI mo m0 m1 m2 m3 m4 m5 m6 m7 u) sz) := by
  refine Met.ofW (cc := cX6_safeByLines) (maxL := 1) (ret := (some .int)) (by decide) rfl ?_
  intro p e s m args below meth c s₁ B hml hv
  obtain ⟨rfl, hsz, hP, hK, hD0, hE⟩ := hv
  have hx := B.exec
  have hb := B.bytes
  have hr := B.returns
  have hts := atoms_spec (ws := wsX6_safeByLines) B.pre
  have hown : s.vm.findClass RX6 = some m.cls := findClass_of_methodNamed B.named
  have hlocks := B.notSynchronized
  subst hsz
  have hD := hD0.self (sz := s.heap.size)
  generalize hAe : va_A (wM kI mo m0 m1 m2 m3 m4 m5 m6 m7 u) s.heap.size = A at hD hE ⊢
  have hA : ∀ q : Nat, s.heap.size ≤ q → A q := fun q h => by rw [← hAe]; exact Or.inr h
  have hS : va_S A s.heap s.heap [] := va_S.rf
  clear hAe hD0
  have hl := lv_entry ([.ref mo]) (n := 1) (Nat.le_of_ble_eq_true rfl)
  rw [lg_entry_eq]
  generalize (lg_sl ([.ref mo]) ++ List.replicate (1 - (lg_sl ([.ref mo])).length) Slot.unset).toArray = ls at hl ⊢
  have hl : lv_has ls 1 [(0, .ref mo)] := hl
  have hP : va_P D vwCl (wM kI mo m0 m1 m2 m3 m4 m5 m6 m7 u) s.heap := hP
  unfold pX6_safeByLines at hw
  refine lv_aload_n hx hb dX6_safeByLines_0 rfl (lv_at hl 0 rfl) ?_
  refine lv_aload_n hx hb dX6_safeByLines_1 rfl (lv_at hl 0 rfl) ?_
  refine gWVi (S := SM) (As := []) (rest := [.ref mo]) (wc := wM kI mo m0 m1 m2 m3 m4 m5 m6 m7 u) (wr := []) (cs1 := (fun zz : SM => wM kI mo m0 m1 m2 m3 m4 m5 m6 m7 zz)) (ws2 := (fun zz : SM => wM kI mo m0 m1 m2 m3 m4 m5 m6 m7 zz)) ⟨hx, hb, hml, hown, hts⟩ (fun sz => kX6_safe l D kI kC kG kJ mo m0 m1 m2 m3 m4 m5 m6 m7 sz u _ hw) (cwV 0 hts gX6_safeByLines_X6_safe rfl rfl rfl hdX6_safe ⟨Nat.le_of_ble_eq_true rfl, Nat.le_of_ble_eq_true rfl⟩) hK hP hD hE hS hA [0, 1, 2, 3, 4, 5, 6, 7, 8] [] rfl rfl rfl rfl (by decide) [0, 1, 2, 3, 4, 5, 6, 7, 8] rfl (fun _ => rfl) (ci := 5) (q0 := 0) rfl rfl rfl rfl hl.1 rfl (Nat.le_of_ble_eq_true rfl) dX6_safeByLines_2 ⟨Nat.le_of_ble_eq_true rfl, Nat.le_of_ble_eq_true rfl⟩ (fun r1 w1 H locs hw hP hD hS => ?_)
  have hP : va_P D vwCl (wM kI mo m0 m1 m2 m3 m4 m5 m6 m7 w1) H := hP
  have hD : va_D A (wM kI mo m0 m1 m2 m3 m4 m5 m6 m7 w1) := hD
  refine gWVi (S := SM) (As := [.int r1]) (rest := []) (wc := wM kI mo m0 m1 m2 m3 m4 m5 m6 m7 w1) (wr := []) (cs1 := (fun zz : SM => wM kI mo m0 m1 m2 m3 m4 m5 m6 m7 zz)) (ws2 := (fun zz : SM => wM kI mo m0 m1 m2 m3 m4 m5 m6 m7 zz)) ⟨hx, hb, hml, hown, hts⟩ (fun sz => kX6_told l D kI kC kG kJ mo m0 m1 m2 m3 m4 m5 m6 m7 sz w1 r1 _ hw) (cwV 1 hts gX6_safeByLines_X6_told rfl rfl rfl hdX6_told ⟨Nat.le_of_ble_eq_true rfl, Nat.le_of_ble_eq_true rfl⟩) hK hP hD hE hS hA [0, 1, 2, 3, 4, 5, 6, 7, 8] [] rfl rfl rfl rfl (by decide) [0, 1, 2, 3, 4, 5, 6, 7, 8] rfl (fun _ => rfl) (ci := 5) (q0 := 0) rfl rfl rfl rfl hl.1 rfl (Nat.le_of_ble_eq_true rfl) dX6_safeByLines_5 ⟨Nat.le_of_ble_eq_true rfl, Nat.le_of_ble_eq_true rfl⟩ (fun r2 w2 H locs hw hP hD hS => ?_)
  have hP : va_P D vwCl (wM kI mo m0 m1 m2 m3 m4 m5 m6 m7 w2) H := hP
  have hD : va_D A (wM kI mo m0 m1 m2 m3 m4 m5 m6 m7 w2) := hD
  exact W.iret (v := r2) hx hb hr (fun t ht hW => ⟨⟨r2, w2, rfl, hw, by rw [ht]; exact hP, va_K.moved hW.alike hK, hD⟩, hS.F ht⟩) hS.2.2 dX6_safeByLines_8
