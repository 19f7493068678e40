set_option maxHeartbeats 4000000 in
set_option maxRecDepth 100000 in
theorem kL_isWell (l : Launch) (D : va_G) (kI kC kG kJ : ClassId) (hlt : l.stackTraces = false) (x : Nat) (ag at_ as_ : AG) (hh hst : Nat) (a0 a1 a2 a3 : AG) (tx tch : Nat) (sz : Nat) (u : SX) (Z : Int32 → SX → Prop) (hw : pL_isWell u Z) : Met l yL_isWell wsL_isWell ({ frames := 6, cells := 0, slots := 0, locals := 133 } : Room) (gPw D (gT kI kC kG kJ) [.ref x] (wX kI kC kG x ag at_ as_ hh hst a0 a1 a2 a3 tx tch u) sz) (va_Qi Z (gB D (gT kI kC kG kJ) (fun (zz : SX) => wX kI kC kG x ag at_ as_ hh hst a0 a1 a2 a3 tx tch zz) (va_A (wX kI kC kG x ag at_ as_ hh hst a0 a1 a2 a3 tx tch u) sz)) (va_A (wX kI kC kG x ag at_ as_ hh hst a0 a1 a2 a3 tx tch u) sz)) 0 0 (va_A (wX kI kC kG x ag at_ as_ hh hst a0 a1 a2 a3 tx tch u) sz) := by
  refine Met.ofW (cc := cL_isWell) (maxL := 8) (ret := (some .boolean)) (by decide) rfl ?_
  intro p e s m args below meth c s₁ B hml hv
  obtain ⟨rfl, hsz, hP, hK, hD0, hE⟩ := hv
  have hx := B.exec
  have hb := B.bytes
  have hr := B.returns
  have hts := atoms_spec (ws := wsL_isWell) B.pre
  have hown : s.vm.findClass RL = some m.cls := findClass_of_methodNamed B.named
  have hlocks := B.notSynchronized
  subst hsz
  have hD := hD0.self (sz := s.heap.size)
  generalize hAe : va_A (wX kI kC kG x ag at_ as_ hh hst a0 a1 a2 a3 tx tch u) s.heap.size = A at hD hE ⊢
  have hA : ∀ q : Nat, s.heap.size ≤ q → A q := fun q h => by rw [← hAe]; exact Or.inr h
  have hS : va_S A s.heap s.heap [] := va_S.rf
  clear hAe hD0
  have hl := lv_entry ([.ref x]) (n := 8) (Nat.le_of_ble_eq_true rfl)
  rw [lg_entry_eq]
  generalize (lg_sl ([.ref x]) ++ List.replicate (8 - (lg_sl ([.ref x])).length) Slot.unset).toArray = ls at hl ⊢
  have hl : lv_has ls 8 [(0, .ref x)] := hl
  have hP : va_P D vwCl (wX kI kC kG x ag at_ as_ hh hst a0 a1 a2 a3 tx tch u) s.heap := hP
  have L446 : ∀ (_ : Unit), ∀ (n : Nat), ∀ (v1 : Int32) (v2 : Int32) (u : SX) (H : Heap) (locs : List Loc) (ls : Array Slot), va_P D vwCl (wX kI kC kG x ag at_ as_ hh hst a0 a1 a2 a3 tx tch u) H → va_D A (wX kI kC kG x ag at_ as_ hh hst a0 a1 a2 a3 tx tch u) → va_S A s.heap H locs → lv_has ls 8 [(0, .ref x), (1, .int v1), (2, .int v2)] → pL_isWell_446 Z n v1 v2 u → W p l e (headSpec wsL_isWell ({ frames := 6, cells := 0, slots := 0, locals := 133 } : Room)).room s m ([.ref x] : List Value).toArray below meth c H locs 0 0 (MQ below (va_Qi Z (gB D (gT kI kC kG kJ) (fun (zz : SX) => wX kI kC kG x ag at_ as_ hh hst a0 a1 a2 a3 tx tch zz) A) A) ([.ref x] : List Value).toArray s 0 0 A) (F0 m 446 ls []) := by
    intro _ n
    induction n with
    | zero => intro v1 v2 u H locs ls hP hD hS hl hw; exact hw.elim
    | succ n ih =>
    intro v1 v2 u H locs ls hP hD hS hl hw
    rw [pL_isWell_446] at hw
    refine lv_iload_n hx hb dL_isWell_446 rfl (lv_at hl 2 rfl) ?_
    refine lv_if_eq (tgt := 460) hx hb dL_isWell_447 (by decide) (fun c27 => ?_) (fun c27 => ?_)
    · replace hw := Eq.mp (if_pos c27) hw
      refine lv_iconst (v := 1) hx hb dL_isWell_460 (by decide) ?_
      refine lv_goto (tgt := 465) hx hb dL_isWell_461 (by decide) ?_
      exact W.zret (v := 1) hx hb hr rfl (fun t ht hW => ⟨⟨1, u, rfl, hw, by rw [ht]; exact hP, va_K.moved hW.alike hK, hD⟩, hS.F ht⟩) hS.2.2 dL_isWell_465
    · replace hw := Eq.mp (if_neg c27) hw
      refine lv_aload_n hx hb dL_isWell_450 rfl (lv_at hl 0 rfl) ?_
      refine gVi (As := []) (rest := []) (cs' := wX kI kC kG x ag at_ as_ hh hst a0 a1 a2 a3 tx tch u) ⟨hx, hb, hml, hown, hts⟩ (kX5_winner l D kI kC kG kJ x ag at_ as_ hh hst a0 a1 a2 a3 tx tch u _ hw) (cwV 0 hts gL_isWell_X5_winner rfl rfl rfl hdX5_winner ⟨Nat.le_of_ble_eq_true rfl, Nat.le_of_ble_eq_true rfl⟩) hK hP hE hS [0, 1, 2, 3, 4, 5, 6, 7, 8, 9, 10, 11, 12, 13, 14, 15, 16, 17, 18, 19, 20, 21, 22, 23, 24, 25, 26, 27, 28, 29, 30, 31, 32] rfl (ci := 4) (q0 := 0) rfl rfl rfl rfl hl.1 rfl (Nat.le_of_ble_eq_true rfl) dL_isWell_451 ⟨Nat.le_of_ble_eq_true rfl, Nat.le_of_ble_eq_true rfl⟩ (fun r28 hw => ?_)
      refine lv_iload_n hx hb dL_isWell_454 rfl (lv_at hl 1 rfl) ?_
      refine lv_iconst (v := 2) hx hb dL_isWell_455 (by decide) ?_
      refine lv_irem hx hb dL_isWell_456 (by decide) ?_
      refine lv_icmp_ne (tgt := 464) hx hb dL_isWell_457 (by decide) (fun c29 => ?_) (fun c29 => ?_)
      · replace hw := Eq.mp (if_neg c29) hw
        refine lv_iconst (v := 0) hx hb dL_isWell_464 (by decide) ?_
        exact W.zret (v := 0) hx hb hr rfl (fun t ht hW => ⟨⟨0, u, rfl, hw, by rw [ht]; exact hP, va_K.moved hW.alike hK, hD⟩, hS.F ht⟩) hS.2.2 dL_isWell_465
      · replace hw := Eq.mp (if_pos c29) hw
        refine lv_iconst (v := 1) hx hb dL_isWell_460 (by decide) ?_
        refine lv_goto (tgt := 465) hx hb dL_isWell_461 (by decide) ?_
        exact W.zret (v := 1) hx hb hr rfl (fun t ht hW => ⟨⟨1, u, rfl, hw, by rw [ht]; exact hP, va_K.moved hW.alike hK, hD⟩, hS.F ht⟩) hS.2.2 dL_isWell_465
  have L428 : ∀ (_ : Unit), ∀ (n : Nat), ∀ (v1 : Int32) (v2 : Int32) (u : SX) (H : Heap) (locs : List Loc) (ls : Array Slot), va_P D vwCl (wX kI kC kG x ag at_ as_ hh hst a0 a1 a2 a3 tx tch u) H → va_D A (wX kI kC kG x ag at_ as_ hh hst a0 a1 a2 a3 tx tch u) → va_S A s.heap H locs → lv_has ls 8 [(0, .ref x), (1, .int v1), (2, .int v2)] → pL_isWell_428 Z n v1 v2 u → W p l e (headSpec wsL_isWell ({ frames := 6, cells := 0, slots := 0, locals := 133 } : Room)).room s m ([.ref x] : List Value).toArray below meth c H locs 0 0 (MQ below (va_Qi Z (gB D (gT kI kC kG kJ) (fun (zz : SX) => wX kI kC kG x ag at_ as_ hh hst a0 a1 a2 a3 tx tch zz) A) A) ([.ref x] : List Value).toArray s 0 0 A) (F0 m 428 ls []) := by
    intro _ n
    induction n with
    | zero => intro v1 v2 u H locs ls hP hD hS hl hw; exact hw.elim
    | succ n ih =>
    intro v1 v2 u H locs ls hP hD hS hl hw
    rw [pL_isWell_428] at hw
    refine lv_aload_n hx hb dL_isWell_428 rfl (lv_at hl 0 rfl) ?_
    refine gVi (As := []) (rest := []) (cs' := wX kI kC kG x ag at_ as_ hh hst a0 a1 a2 a3 tx tch u) ⟨hx, hb, hml, hown, hts⟩ (kX5_gift l D kI kC kG kJ x ag at_ as_ hh hst a0 a1 a2 a3 tx tch u _ hw) (cwV 0 hts gL_isWell_X5_gift rfl rfl rfl hdX5_gift ⟨Nat.le_of_ble_eq_true rfl, Nat.le_of_ble_eq_true rfl⟩) hK hP hE hS [0, 1, 2, 3, 4, 5, 6, 7, 8, 9, 10, 11, 12, 13, 14, 15, 16, 17, 18, 19, 20, 21, 22, 23, 24, 25, 26, 27, 28, 29, 30, 31, 32] rfl (ci := 4) (q0 := 0) rfl rfl rfl rfl hl.1 rfl (Nat.le_of_ble_eq_true rfl) dL_isWell_429 ⟨Nat.le_of_ble_eq_true rfl, Nat.le_of_ble_eq_true rfl⟩ (fun r25 hw => ?_)
    refine lv_if_lt (tgt := 446) hx hb dL_isWell_432 (by decide) (fun c26 => ?_) (fun c26 => ?_)
    · replace hw := Eq.mp (if_pos c26) hw
      obtain ⟨n9, hw⟩ := hw
      exact L446 () n9 v1 v2 u H locs ls hP hD hS (lv_sub hl [0, 1, 2] rfl) hw
    · replace hw := Eq.mp (if_neg c26) hw
      refine lv_aload_n hx hb dL_isWell_435 rfl (lv_at hl 0 rfl) ?_
      refine lv_aload_n hx hb dL_isWell_436 rfl (lv_at hl 0 rfl) ?_
      refine gVi (As := []) (rest := [.ref x]) (cs' := wX kI kC kG x ag at_ as_ hh hst a0 a1 a2 a3 tx tch u) ⟨hx, hb, hml, hown, hts⟩ (kX5_gift l D kI kC kG kJ x ag at_ as_ hh hst a0 a1 a2 a3 tx tch u _ hw) (cwV 0 hts gL_isWell_X5_gift rfl rfl rfl hdX5_gift ⟨Nat.le_of_ble_eq_true rfl, Nat.le_of_ble_eq_true rfl⟩) hK hP hE hS [0, 1, 2, 3, 4, 5, 6, 7, 8, 9, 10, 11, 12, 13, 14, 15, 16, 17, 18, 19, 20, 21, 22, 23, 24, 25, 26, 27, 28, 29, 30, 31, 32] rfl (ci := 4) (q0 := 0) rfl rfl rfl rfl hl.1 rfl (Nat.le_of_ble_eq_true rfl) dL_isWell_437 ⟨Nat.le_of_ble_eq_true rfl, Nat.le_of_ble_eq_true rfl⟩ (fun r30 hw => ?_)
      refine gLSi (mc := 0) (ms := 0) (S := SX) (As := [.ref x, .int r30]) (rest := []) (wc := wX kI kC kG x ag at_ as_ hh hst a0 a1 a2 a3 tx tch u) (wr := []) (cs1 := (fun zz : SX => wX kI kC kG x ag at_ as_ hh hst a0 a1 a2 a3 tx tch zz)) (ws2 := (fun zz : SX => wX kI kC kG x ag at_ as_ hh hst a0 a1 a2 a3 tx tch zz)) ⟨hx, hb, hml, hown, hts⟩ (fun sz => kL_cellOf l D kI kC kG kJ hlt x ag at_ as_ hh hst a0 a1 a2 a3 tx tch sz u r30 _ hw) (vx_cwSW 2 hts gL_isWell_L_cellOf rfl rfl rfl hdL_cellOf ⟨Nat.le_of_ble_eq_true rfl, Nat.le_of_ble_eq_true rfl⟩) hK hP hD hE hS hA [0, 1, 2, 3, 4, 5, 6, 7, 8, 9, 10, 11, 12, 13, 14, 15, 16, 17, 18, 19, 20, 21, 22, 23, 24, 25, 26, 27, 28, 29, 30, 31, 32] [] rfl rfl rfl rfl (by decide) [0, 1, 2, 3, 4, 5, 6, 7, 8, 9, 10, 11, 12, 13, 14, 15, 16, 17, 18, 19, 20, 21, 22, 23, 24, 25, 26, 27, 28, 29, 30, 31, 32] rfl (fun _ => rfl) rfl hl.1 rfl (Nat.le_of_ble_eq_true rfl) dL_isWell_440 ⟨Nat.le_of_ble_eq_true rfl, Nat.le_of_ble_eq_true rfl⟩ (fun r31 w31 H locs hw hP hD hS => ?_)
      have hP : va_P D vwCl (wX kI kC kG x ag at_ as_ hh hst a0 a1 a2 a3 tx tch w31) H := hP
      have hD : va_D A (wX kI kC kG x ag at_ as_ hh hst a0 a1 a2 a3 tx tch w31) := hD
      refine lv_if_ge (tgt := 464) hx hb dL_isWell_443 (by decide) (fun c32 => ?_) (fun c32 => ?_)
      · replace hw := Eq.mp (if_pos c32) hw
        refine lv_iconst (v := 0) hx hb dL_isWell_464 (by decide) ?_
        exact W.zret (v := 0) hx hb hr rfl (fun t ht hW => ⟨⟨0, w31, rfl, hw, by rw [ht]; exact hP, va_K.moved hW.alike hK, hD⟩, hS.F ht⟩) hS.2.2 dL_isWell_465
      · replace hw := Eq.mp (if_neg c32) hw
        obtain ⟨n9, hw⟩ := hw
        exact L446 () n9 v1 v2 w31 H locs ls hP hD hS (lv_sub hl [0, 1, 2] rfl) hw
  have L396 : ∀ (_ : Unit), ∀ (n : Nat), ∀ (v1 : Int32) (v2 : Int32) (v4 : Int32) (v6 : Int32) (u : SX) (H : Heap) (locs : List Loc) (ls : Array Slot), va_P D vwCl (wX kI kC kG x ag at_ as_ hh hst a0 a1 a2 a3 tx tch u) H → va_D A (wX kI kC kG x ag at_ as_ hh hst a0 a1 a2 a3 tx tch u) → va_S A s.heap H locs → lv_has ls 8 [(0, .ref x), (1, .int v1), (2, .int v2), (4, .int v4), (6, .int v6)] → pL_isWell_396 Z n v1 v2 v4 v6 u → W p l e (headSpec wsL_isWell ({ frames := 6, cells := 0, slots := 0, locals := 133 } : Room)).room s m ([.ref x] : List Value).toArray below meth c H locs 0 0 (MQ below (va_Qi Z (gB D (gT kI kC kG kJ) (fun (zz : SX) => wX kI kC kG x ag at_ as_ hh hst a0 a1 a2 a3 tx tch zz) A) A) ([.ref x] : List Value).toArray s 0 0 A) (F0 m 396 ls []) := by
    intro _ n
    induction n with
    | zero => intro v1 v2 v4 v6 u H locs ls hP hD hS hl hw; exact hw.elim
    | succ n ih =>
    intro v1 v2 v4 v6 u H locs ls hP hD hS hl hw
    rw [pL_isWell_396] at hw
    refine lv_aload_n hx hb dL_isWell_396 rfl (lv_at hl 0 rfl) ?_
    refine gVi (As := []) (rest := []) (cs' := wX kI kC kG x ag at_ as_ hh hst a0 a1 a2 a3 tx tch u) ⟨hx, hb, hml, hown, hts⟩ (kX5_playerToMove l D kI kC kG kJ x ag at_ as_ hh hst a0 a1 a2 a3 tx tch u _ hw) (cwV 0 hts gL_isWell_X5_playerToMove rfl rfl rfl hdX5_playerToMove ⟨Nat.le_of_ble_eq_true rfl, Nat.le_of_ble_eq_true rfl⟩) hK hP hE hS [0, 1, 2, 3, 4, 5, 6, 7, 8, 9, 10, 11, 12, 13, 14, 15, 16, 17, 18, 19, 20, 21, 22, 23, 24, 25, 26, 27, 28, 29, 30, 31, 32] rfl (ci := 4) (q0 := 0) rfl rfl rfl rfl hl.1 rfl (Nat.le_of_ble_eq_true rfl) dL_isWell_397 ⟨Nat.le_of_ble_eq_true rfl, Nat.le_of_ble_eq_true rfl⟩ (fun r20 hw => ?_)
    refine lv_iload hx hb dL_isWell_400 (lv_at hl 3 rfl) ?_
    refine lv_if_eq (tgt := 409) hx hb dL_isWell_402 (by decide) (fun c21 => ?_) (fun c21 => ?_)
    · replace hw := Eq.mp (if_pos c21) hw
      refine lv_aload_n hx hb dL_isWell_409 rfl (lv_at hl 0 rfl) ?_
      refine gVi (As := []) (rest := [.int r20]) (cs' := wX kI kC kG x ag at_ as_ hh hst a0 a1 a2 a3 tx tch u) ⟨hx, hb, hml, hown, hts⟩ (kX5_gift l D kI kC kG kJ x ag at_ as_ hh hst a0 a1 a2 a3 tx tch u _ hw) (cwV 0 hts gL_isWell_X5_gift rfl rfl rfl hdX5_gift ⟨Nat.le_of_ble_eq_true rfl, Nat.le_of_ble_eq_true rfl⟩) hK hP hE hS [0, 1, 2, 3, 4, 5, 6, 7, 8, 9, 10, 11, 12, 13, 14, 15, 16, 17, 18, 19, 20, 21, 22, 23, 24, 25, 26, 27, 28, 29, 30, 31, 32] rfl (ci := 4) (q0 := 0) rfl rfl rfl rfl hl.1 rfl (Nat.le_of_ble_eq_true rfl) dL_isWell_410 ⟨Nat.le_of_ble_eq_true rfl, Nat.le_of_ble_eq_true rfl⟩ (fun r22 hw => ?_)
      refine lv_if_ge (tgt := 421) hx hb dL_isWell_413 (by decide) (fun c23 => ?_) (fun c23 => ?_)
      · replace hw := Eq.mp (if_pos c23) hw
        refine lv_iconst (v := 1) hx hb dL_isWell_421 (by decide) ?_
        refine lv_iload hx hb dL_isWell_422 (lv_at hl 4 rfl) ?_
        refine lv_isub hx hb dL_isWell_424 ?_
        refine lv_icmp_ne (tgt := 464) hx hb dL_isWell_425 (by decide) (fun c24 => ?_) (fun c24 => ?_)
        · replace hw := Eq.mp (if_neg c24) hw
          refine lv_iconst (v := 0) hx hb dL_isWell_464 (by decide) ?_
          exact W.zret (v := 0) hx hb hr rfl (fun t ht hW => ⟨⟨0, u, rfl, hw, by rw [ht]; exact hP, va_K.moved hW.alike hK, hD⟩, hS.F ht⟩) hS.2.2 dL_isWell_465
        · replace hw := Eq.mp (if_pos c24) hw
          obtain ⟨n9, hw⟩ := hw
          exact L428 () n9 v1 v2 u H locs ls hP hD hS (lv_sub hl [0, 1, 2] rfl) hw
      · replace hw := Eq.mp (if_neg c23) hw
        refine lv_iload hx hb dL_isWell_416 (lv_at hl 4 rfl) ?_
        refine lv_goto (tgt := 425) hx hb dL_isWell_418 (by decide) ?_
        refine lv_icmp_ne (tgt := 464) hx hb dL_isWell_425 (by decide) (fun c33 => ?_) (fun c33 => ?_)
        · replace hw := Eq.mp (if_neg c33) hw
          refine lv_iconst (v := 0) hx hb dL_isWell_464 (by decide) ?_
          exact W.zret (v := 0) hx hb hr rfl (fun t ht hW => ⟨⟨0, u, rfl, hw, by rw [ht]; exact hP, va_K.moved hW.alike hK, hD⟩, hS.F ht⟩) hS.2.2 dL_isWell_465
        · replace hw := Eq.mp (if_pos c33) hw
          obtain ⟨n9, hw⟩ := hw
          exact L428 () n9 v1 v2 u H locs ls hP hD hS (lv_sub hl [0, 1, 2] rfl) hw
    · replace hw := Eq.mp (if_neg c21) hw
      refine lv_iconst (v := (-1)) hx hb dL_isWell_405 (by decide) ?_
      refine lv_goto (tgt := 425) hx hb dL_isWell_406 (by decide) ?_
      refine lv_icmp_ne (tgt := 464) hx hb dL_isWell_425 (by decide) (fun c34 => ?_) (fun c34 => ?_)
      · replace hw := Eq.mp (if_neg c34) hw
        refine lv_iconst (v := 0) hx hb dL_isWell_464 (by decide) ?_
        exact W.zret (v := 0) hx hb hr rfl (fun t ht hW => ⟨⟨0, u, rfl, hw, by rw [ht]; exact hP, va_K.moved hW.alike hK, hD⟩, hS.F ht⟩) hS.2.2 dL_isWell_465
      · replace hw := Eq.mp (if_pos c34) hw
        obtain ⟨n9, hw⟩ := hw
        exact L428 () n9 v1 v2 u H locs ls hP hD hS (lv_sub hl [0, 1, 2] rfl) hw
  have L376 : ∀ (_ : Unit), ∀ (n : Nat), ∀ (v1 : Int32) (v2 : Int32) (v4 : Int32) (v6 : Int32) (u : SX) (H : Heap) (locs : List Loc) (ls : Array Slot), va_P D vwCl (wX kI kC kG x ag at_ as_ hh hst a0 a1 a2 a3 tx tch u) H → va_D A (wX kI kC kG x ag at_ as_ hh hst a0 a1 a2 a3 tx tch u) → va_S A s.heap H locs → lv_has ls 8 [(0, .ref x), (1, .int v1), (2, .int v2), (4, .int v4), (6, .int v6)] → pL_isWell_376 Z n v1 v2 v4 v6 u → W p l e (headSpec wsL_isWell ({ frames := 6, cells := 0, slots := 0, locals := 133 } : Room)).room s m ([.ref x] : List Value).toArray below meth c H locs 0 0 (MQ below (va_Qi Z (gB D (gT kI kC kG kJ) (fun (zz : SX) => wX kI kC kG x ag at_ as_ hh hst a0 a1 a2 a3 tx tch zz) A) A) ([.ref x] : List Value).toArray s 0 0 A) (F0 m 376 ls []) := by
    intro _ n
    induction n with
    | zero => intro v1 v2 v4 v6 u H locs ls hP hD hS hl hw; exact hw.elim
    | succ n ih =>
    intro v1 v2 v4 v6 u H locs ls hP hD hS hl hw
    rw [pL_isWell_376] at hw
    refine lv_iload hx hb dL_isWell_376 (lv_at hl 3 rfl) ?_
    refine lv_iload_n hx hb dL_isWell_378 rfl (lv_at hl 2 rfl) ?_
    refine lv_if_gt (tgt := 388) hx hb dL_isWell_379 (by decide) (fun c18 => ?_) (fun c18 => ?_)
    · replace hw := Eq.mp (if_pos c18) hw
      refine lv_iconst (v := 1) hx hb dL_isWell_388 (by decide) ?_
      refine lv_goto (tgt := 393) hx hb dL_isWell_389 (by decide) ?_
      refine lv_icmp_ne (tgt := 464) hx hb dL_isWell_393 (by decide) (fun c19 => ?_) (fun c19 => ?_)
      · replace hw := Eq.mp (if_neg c19) hw
        refine lv_iconst (v := 0) hx hb dL_isWell_464 (by decide) ?_
        exact W.zret (v := 0) hx hb hr rfl (fun t ht hW => ⟨⟨0, u, rfl, hw, by rw [ht]; exact hP, va_K.moved hW.alike hK, hD⟩, hS.F ht⟩) hS.2.2 dL_isWell_465
      · replace hw := Eq.mp (if_pos c19) hw
        obtain ⟨n9, hw⟩ := hw
        exact L396 () n9 v1 v2 v4 v6 u H locs ls hP hD hS (lv_sub hl [0, 1, 2, 3, 4] rfl) hw
    · replace hw := Eq.mp (if_neg c18) hw
      refine lv_iload_n hx hb dL_isWell_382 rfl (lv_at hl 1 rfl) ?_
      refine lv_bipush (v := 16) hx hb dL_isWell_383 (by decide) ?_
      refine lv_icmp_ne (tgt := 392) hx hb dL_isWell_385 (by decide) (fun c35 => ?_) (fun c35 => ?_)
      · replace hw := Eq.mp (if_neg c35) hw
        refine lv_iconst (v := 0) hx hb dL_isWell_392 (by decide) ?_
        refine lv_icmp_ne (tgt := 464) hx hb dL_isWell_393 (by decide) (fun c36 => ?_) (fun c36 => ?_)
        · replace hw := Eq.mp (if_neg c36) hw
          refine lv_iconst (v := 0) hx hb dL_isWell_464 (by decide) ?_
          exact W.zret (v := 0) hx hb hr rfl (fun t ht hW => ⟨⟨0, u, rfl, hw, by rw [ht]; exact hP, va_K.moved hW.alike hK, hD⟩, hS.F ht⟩) hS.2.2 dL_isWell_465
        · replace hw := Eq.mp (if_pos c36) hw
          obtain ⟨n9, hw⟩ := hw
          exact L396 () n9 v1 v2 v4 v6 u H locs ls hP hD hS (lv_sub hl [0, 1, 2, 3, 4] rfl) hw
      · replace hw := Eq.mp (if_pos c35) hw
        refine lv_iconst (v := 1) hx hb dL_isWell_388 (by decide) ?_
        refine lv_goto (tgt := 393) hx hb dL_isWell_389 (by decide) ?_
        refine lv_icmp_ne (tgt := 464) hx hb dL_isWell_393 (by decide) (fun c37 => ?_) (fun c37 => ?_)
        · replace hw := Eq.mp (if_neg c37) hw
          refine lv_iconst (v := 0) hx hb dL_isWell_464 (by decide) ?_
          exact W.zret (v := 0) hx hb hr rfl (fun t ht hW => ⟨⟨0, u, rfl, hw, by rw [ht]; exact hP, va_K.moved hW.alike hK, hD⟩, hS.F ht⟩) hS.2.2 dL_isWell_465
        · replace hw := Eq.mp (if_pos c37) hw
          obtain ⟨n9, hw⟩ := hw
          exact L396 () n9 v1 v2 v4 v6 u H locs ls hP hD hS (lv_sub hl [0, 1, 2, 3, 4] rfl) hw
  have L276 : ∀ (v1 : Int32) (v4 : Int32) (K201 : Int32 → Int32 → Int32 → SX → Prop) (hK201 : ∀ (v2 : Int32) (v5 : Int32) (v6 : Int32) (u : SX) (H : Heap) (locs : List Loc) (ls : Array Slot), va_P D vwCl (wX kI kC kG x ag at_ as_ hh hst a0 a1 a2 a3 tx tch u) H → va_D A (wX kI kC kG x ag at_ as_ hh hst a0 a1 a2 a3 tx tch u) → va_S A s.heap H locs → lv_has ls 8 [(0, .ref x), (1, .int v1), (2, .int v2), (4, .int v4), (5, .int v5), (6, .int v6)] → K201 v2 v5 v6 u → W p l e (headSpec wsL_isWell ({ frames := 6, cells := 0, slots := 0, locals := 133 } : Room)).room s m ([.ref x] : List Value).toArray below meth c H locs 0 0 (MQ below (va_Qi Z (gB D (gT kI kC kG kJ) (fun (zz : SX) => wX kI kC kG x ag at_ as_ hh hst a0 a1 a2 a3 tx tch zz) A) A) ([.ref x] : List Value).toArray s 0 0 A) (F0 m 201 ls [])), ∀ (n : Nat), ∀ (v2 : Int32) (v6 : Int32) (u : SX) (H : Heap) (locs : List Loc) (ls : Array Slot), va_P D vwCl (wX kI kC kG x ag at_ as_ hh hst a0 a1 a2 a3 tx tch u) H → va_D A (wX kI kC kG x ag at_ as_ hh hst a0 a1 a2 a3 tx tch u) → va_S A s.heap H locs → lv_has ls 8 [(0, .ref x), (1, .int v1), (2, .int v2), (4, .int v4), (6, .int v6)] → pL_isWell_276 Z K201 v1 v4 n v2 v6 u → W p l e (headSpec wsL_isWell ({ frames := 6, cells := 0, slots := 0, locals := 133 } : Room)).room s m ([.ref x] : List Value).toArray below meth c H locs 0 0 (MQ below (va_Qi Z (gB D (gT kI kC kG kJ) (fun (zz : SX) => wX kI kC kG x ag at_ as_ hh hst a0 a1 a2 a3 tx tch zz) A) A) ([.ref x] : List Value).toArray s 0 0 A) (F0 m 276 ls []) := by
    intro v1 v4 K201 hK201 n
    induction n with
    | zero => intro v2 v6 u H locs ls hP hD hS hl hw; exact hw.elim
    | succ n ih =>
    intro v2 v6 u H locs ls hP hD hS hl hw
    rw [pL_isWell_276] at hw
    refine lv_aload_n hx hb dL_isWell_276 rfl (lv_at hl 0 rfl) ?_
    refine lv_iload hx hb dL_isWell_277 (lv_at hl 4 rfl) ?_
    refine gLSi (mc := 0) (ms := 0) (S := SX) (As := [.ref x, .int v6]) (rest := []) (wc := wX kI kC kG x ag at_ as_ hh hst a0 a1 a2 a3 tx tch u) (wr := []) (cs1 := (fun zz : SX => wX kI kC kG x ag at_ as_ hh hst a0 a1 a2 a3 tx tch zz)) (ws2 := (fun zz : SX => wX kI kC kG x ag at_ as_ hh hst a0 a1 a2 a3 tx tch zz)) ⟨hx, hb, hml, hown, hts⟩ (fun sz => kL_shared l D kI kC kG kJ hlt x ag at_ as_ hh hst a0 a1 a2 a3 tx tch sz u v6 _ hw) (vx_cwSW 2 hts gL_isWell_L_shared rfl rfl rfl hdL_shared ⟨Nat.le_of_ble_eq_true rfl, Nat.le_of_ble_eq_true rfl⟩) hK hP hD hE hS hA [0, 1, 2, 3, 4, 5, 6, 7, 8, 9, 10, 11, 12, 13, 14, 15, 16, 17, 18, 19, 20, 21, 22, 23, 24, 25, 26, 27, 28, 29, 30, 31, 32] [] rfl rfl rfl rfl (by decide) [0, 1, 2, 3, 4, 5, 6, 7, 8, 9, 10, 11, 12, 13, 14, 15, 16, 17, 18, 19, 20, 21, 22, 23, 24, 25, 26, 27, 28, 29, 30, 31, 32] rfl (fun _ => rfl) rfl hl.1 rfl (Nat.le_of_ble_eq_true rfl) dL_isWell_279 ⟨Nat.le_of_ble_eq_true rfl, Nat.le_of_ble_eq_true rfl⟩ (fun r53 w53 H locs hw hP hD hS => ?_)
    have hP : va_P D vwCl (wX kI kC kG x ag at_ as_ hh hst a0 a1 a2 a3 tx tch w53) H := hP
    have hD : va_D A (wX kI kC kG x ag at_ as_ hh hst a0 a1 a2 a3 tx tch w53) := hD
    refine lv_bipush (v := 15) hx hb dL_isWell_282 (by decide) ?_
    refine lv_iand hx hb dL_isWell_284 ?_
    refine lv_aload_n hx hb dL_isWell_285 rfl (lv_at hl 0 rfl) ?_
    refine lv_iload hx hb dL_isWell_286 (lv_at hl 4 rfl) ?_
    refine gLSi (mc := 0) (ms := 0) (S := SX) (As := [.ref x, .int v6]) (rest := [.int (r53 &&& 15)]) (wc := wX kI kC kG x ag at_ as_ hh hst a0 a1 a2 a3 tx tch w53) (wr := []) (cs1 := (fun zz : SX => wX kI kC kG x ag at_ as_ hh hst a0 a1 a2 a3 tx tch zz)) (ws2 := (fun zz : SX => wX kI kC kG x ag at_ as_ hh hst a0 a1 a2 a3 tx tch zz)) ⟨hx, hb, hml, hown, hts⟩ (fun sz => kL_shared l D kI kC kG kJ hlt x ag at_ as_ hh hst a0 a1 a2 a3 tx tch sz w53 v6 _ hw) (vx_cwSW 2 hts gL_isWell_L_shared rfl rfl rfl hdL_shared ⟨Nat.le_of_ble_eq_true rfl, Nat.le_of_ble_eq_true rfl⟩) hK hP hD hE hS hA [0, 1, 2, 3, 4, 5, 6, 7, 8, 9, 10, 11, 12, 13, 14, 15, 16, 17, 18, 19, 20, 21, 22, 23, 24, 25, 26, 27, 28, 29, 30, 31, 32] [] rfl rfl rfl rfl (by decide) [0, 1, 2, 3, 4, 5, 6, 7, 8, 9, 10, 11, 12, 13, 14, 15, 16, 17, 18, 19, 20, 21, 22, 23, 24, 25, 26, 27, 28, 29, 30, 31, 32] rfl (fun _ => rfl) rfl hl.1 rfl (Nat.le_of_ble_eq_true rfl) dL_isWell_288 ⟨Nat.le_of_ble_eq_true rfl, Nat.le_of_ble_eq_true rfl⟩ (fun r54 w54 H locs hw hP hD hS => ?_)
    have hP : va_P D vwCl (wX kI kC kG x ag at_ as_ hh hst a0 a1 a2 a3 tx tch w54) H := hP
    have hD : va_D A (wX kI kC kG x ag at_ as_ hh hst a0 a1 a2 a3 tx tch w54) := hD
    refine lv_bipush (v := 16) hx hb dL_isWell_291 (by decide) ?_
    refine lv_idiv hx hb dL_isWell_293 (by decide) ?_
    refine lv_iand hx hb dL_isWell_294 ?_
    refine lv_aload_n hx hb dL_isWell_295 rfl (lv_at hl 0 rfl) ?_
    refine lv_iload hx hb dL_isWell_296 (lv_at hl 4 rfl) ?_
    refine gLSi (mc := 0) (ms := 0) (S := SX) (As := [.ref x, .int v6]) (rest := [.int ((r53 &&& 15) &&& (r54 / 16))]) (wc := wX kI kC kG x ag at_ as_ hh hst a0 a1 a2 a3 tx tch w54) (wr := []) (cs1 := (fun zz : SX => wX kI kC kG x ag at_ as_ hh hst a0 a1 a2 a3 tx tch zz)) (ws2 := (fun zz : SX => wX kI kC kG x ag at_ as_ hh hst a0 a1 a2 a3 tx tch zz)) ⟨hx, hb, hml, hown, hts⟩ (fun sz => kL_piecesOn l D kI kC kG kJ hlt x ag at_ as_ hh hst a0 a1 a2 a3 tx tch sz w54 v6 _ hw) (vx_cwSW 2 hts gL_isWell_L_piecesOn rfl rfl rfl hdL_piecesOn ⟨Nat.le_of_ble_eq_true rfl, Nat.le_of_ble_eq_true rfl⟩) hK hP hD hE hS hA [0, 1, 2, 3, 4, 5, 6, 7, 8, 9, 10, 11, 12, 13, 14, 15, 16, 17, 18, 19, 20, 21, 22, 23, 24, 25, 26, 27, 28, 29, 30, 31, 32] [] rfl rfl rfl rfl (by decide) [0, 1, 2, 3, 4, 5, 6, 7, 8, 9, 10, 11, 12, 13, 14, 15, 16, 17, 18, 19, 20, 21, 22, 23, 24, 25, 26, 27, 28, 29, 30, 31, 32] rfl (fun _ => rfl) rfl hl.1 rfl (Nat.le_of_ble_eq_true rfl) dL_isWell_298 ⟨Nat.le_of_ble_eq_true rfl, Nat.le_of_ble_eq_true rfl⟩ (fun r55 w55 H locs hw hP hD hS => ?_)
    have hP : va_P D vwCl (wX kI kC kG x ag at_ as_ hh hst a0 a1 a2 a3 tx tch w55) H := hP
    have hD : va_D A (wX kI kC kG x ag at_ as_ hh hst a0 a1 a2 a3 tx tch w55) := hD
    refine lv_if_ne (tgt := 309) hx hb dL_isWell_301 (by decide) (fun c56 => ?_) (fun c56 => ?_)
    · replace hw := Eq.mp (if_neg c56) hw
      refine lv_iconst (v := 0) hx hb dL_isWell_309 (by decide) ?_
      refine lv_icmp_ne (tgt := 317) hx hb dL_isWell_310 (by decide) (fun c57 => ?_) (fun c57 => ?_)
      · replace hw := Eq.mp (if_neg c57) hw
        refine lv_iconst (v := 0) hx hb dL_isWell_317 (by decide) ?_
        refine lv_istore (lv' := [(5, .int 0), (0, .ref x), (1, .int v1), (2, .int v2), (4, .int v4), (6, .int v6)]) hx hb dL_isWell_318 hl (by decide) rfl (fun ls hl => ?_)
        obtain ⟨x58, ex58⟩ : ∃ y : Int32, y = (v6 + 1) := ⟨_, rfl⟩
        replace hw := hw x58 ex58
        refine lv_iinc (v := x58) (lv' := [(6, .int x58), (5, .int 0), (0, .ref x), (1, .int v1), (2, .int v2), (4, .int v4)]) hx hb dL_isWell_320 hl (k := 5) rfl (by rw [ex58]; rfl) (by decide) rfl (fun ls hl => ?_)
        refine lv_goto (tgt := 201) hx hb dL_isWell_323 (by decide) ?_
        exact hK201 v2 0 x58 w55 H locs ls hP hD hS (lv_sub hl [2, 3, 4, 5, 1, 0] rfl) hw
      · replace hw := Eq.mp (if_pos c57) hw
        refine lv_iconst (v := 1) hx hb dL_isWell_313 (by decide) ?_
        refine lv_goto (tgt := 318) hx hb dL_isWell_314 (by decide) ?_
        refine lv_istore (lv' := [(5, .int 1), (0, .ref x), (1, .int v1), (2, .int v2), (4, .int v4), (6, .int v6)]) hx hb dL_isWell_318 hl (by decide) rfl (fun ls hl => ?_)
        obtain ⟨x59, ex59⟩ : ∃ y : Int32, y = (v6 + 1) := ⟨_, rfl⟩
        replace hw := hw x59 ex59
        refine lv_iinc (v := x59) (lv' := [(6, .int x59), (5, .int 1), (0, .ref x), (1, .int v1), (2, .int v2), (4, .int v4)]) hx hb dL_isWell_320 hl (k := 5) rfl (by rw [ex59]; rfl) (by decide) rfl (fun ls hl => ?_)
        refine lv_goto (tgt := 201) hx hb dL_isWell_323 (by decide) ?_
        exact hK201 v2 1 x59 w55 H locs ls hP hD hS (lv_sub hl [2, 3, 4, 5, 1, 0] rfl) hw
    · replace hw := Eq.mp (if_pos c56) hw
      refine lv_bipush (v := 15) hx hb dL_isWell_304 (by decide) ?_
      refine lv_goto (tgt := 310) hx hb dL_isWell_306 (by decide) ?_
      refine lv_icmp_ne (tgt := 317) hx hb dL_isWell_310 (by decide) (fun c60 => ?_) (fun c60 => ?_)
      · replace hw := Eq.mp (if_neg c60) hw
        refine lv_iconst (v := 0) hx hb dL_isWell_317 (by decide) ?_
        refine lv_istore (lv' := [(5, .int 0), (0, .ref x), (1, .int v1), (2, .int v2), (4, .int v4), (6, .int v6)]) hx hb dL_isWell_318 hl (by decide) rfl (fun ls hl => ?_)
        obtain ⟨x61, ex61⟩ : ∃ y : Int32, y = (v6 + 1) := ⟨_, rfl⟩
        replace hw := hw x61 ex61
        refine lv_iinc (v := x61) (lv' := [(6, .int x61), (5, .int 0), (0, .ref x), (1, .int v1), (2, .int v2), (4, .int v4)]) hx hb dL_isWell_320 hl (k := 5) rfl (by rw [ex61]; rfl) (by decide) rfl (fun ls hl => ?_)
        refine lv_goto (tgt := 201) hx hb dL_isWell_323 (by decide) ?_
        exact hK201 v2 0 x61 w55 H locs ls hP hD hS (lv_sub hl [2, 3, 4, 5, 1, 0] rfl) hw
      · replace hw := Eq.mp (if_pos c60) hw
        refine lv_iconst (v := 1) hx hb dL_isWell_313 (by decide) ?_
        refine lv_goto (tgt := 318) hx hb dL_isWell_314 (by decide) ?_
        refine lv_istore (lv' := [(5, .int 1), (0, .ref x), (1, .int v1), (2, .int v2), (4, .int v4), (6, .int v6)]) hx hb dL_isWell_318 hl (by decide) rfl (fun ls hl => ?_)
        obtain ⟨x62, ex62⟩ : ∃ y : Int32, y = (v6 + 1) := ⟨_, rfl⟩
        replace hw := hw x62 ex62
        refine lv_iinc (v := x62) (lv' := [(6, .int x62), (5, .int 1), (0, .ref x), (1, .int v1), (2, .int v2), (4, .int v4)]) hx hb dL_isWell_320 hl (k := 5) rfl (by rw [ex62]; rfl) (by decide) rfl (fun ls hl => ?_)
        refine lv_goto (tgt := 201) hx hb dL_isWell_323 (by decide) ?_
        exact hK201 v2 1 x62 w55 H locs ls hP hD hS (lv_sub hl [2, 3, 4, 5, 1, 0] rfl) hw
  have L237 : ∀ (v1 : Int32) (v4 : Int32) (K201 : Int32 → Int32 → Int32 → SX → Prop) (hK201 : ∀ (v2 : Int32) (v5 : Int32) (v6 : Int32) (u : SX) (H : Heap) (locs : List Loc) (ls : Array Slot), va_P D vwCl (wX kI kC kG x ag at_ as_ hh hst a0 a1 a2 a3 tx tch u) H → va_D A (wX kI kC kG x ag at_ as_ hh hst a0 a1 a2 a3 tx tch u) → va_S A s.heap H locs → lv_has ls 8 [(0, .ref x), (1, .int v1), (2, .int v2), (4, .int v4), (5, .int v5), (6, .int v6)] → K201 v2 v5 v6 u → W p l e (headSpec wsL_isWell ({ frames := 6, cells := 0, slots := 0, locals := 133 } : Room)).room s m ([.ref x] : List Value).toArray below meth c H locs 0 0 (MQ below (va_Qi Z (gB D (gT kI kC kG kJ) (fun (zz : SX) => wX kI kC kG x ag at_ as_ hh hst a0 a1 a2 a3 tx tch zz) A) A) ([.ref x] : List Value).toArray s 0 0 A) (F0 m 201 ls [])), ∀ (n : Nat), ∀ (v2 : Int32) (v5 : Int32) (v6 : Int32) (u : SX) (H : Heap) (locs : List Loc) (ls : Array Slot), va_P D vwCl (wX kI kC kG x ag at_ as_ hh hst a0 a1 a2 a3 tx tch u) H → va_D A (wX kI kC kG x ag at_ as_ hh hst a0 a1 a2 a3 tx tch u) → va_S A s.heap H locs → lv_has ls 8 [(0, .ref x), (1, .int v1), (2, .int v2), (4, .int v4), (5, .int v5), (6, .int v6)] → pL_isWell_237 Z K201 v1 v4 n v2 v5 v6 u → W p l e (headSpec wsL_isWell ({ frames := 6, cells := 0, slots := 0, locals := 133 } : Room)).room s m ([.ref x] : List Value).toArray below meth c H locs 0 0 (MQ below (va_Qi Z (gB D (gT kI kC kG kJ) (fun (zz : SX) => wX kI kC kG x ag at_ as_ hh hst a0 a1 a2 a3 tx tch zz) A) A) ([.ref x] : List Value).toArray s 0 0 A) (F0 m 237 ls []) := by
    intro v1 v4 K201 hK201 n
    induction n with
    | zero => intro v2 v5 v6 u H locs ls hP hD hS hl hw; exact hw.elim
    | succ n ih =>
    intro v2 v5 v6 u H locs ls hP hD hS hl hw
    rw [pL_isWell_237] at hw
    refine lv_iload hx hb dL_isWell_237 (lv_at hl 4 rfl) ?_
    refine lv_if_eq (tgt := 317) hx hb dL_isWell_239 (by decide) (fun c46 => ?_) (fun c46 => ?_)
    · replace hw := Eq.mp (if_pos c46) hw
      refine lv_iconst (v := 0) hx hb dL_isWell_317 (by decide) ?_
      refine lv_istore (lv' := [(5, .int 0), (0, .ref x), (1, .int v1), (2, .int v2), (4, .int v4), (6, .int v6)]) hx hb dL_isWell_318 hl (by decide) rfl (fun ls hl => ?_)
      obtain ⟨x47, ex47⟩ : ∃ y : Int32, y = (v6 + 1) := ⟨_, rfl⟩
      replace hw := hw x47 ex47
      refine lv_iinc (v := x47) (lv' := [(6, .int x47), (5, .int 0), (0, .ref x), (1, .int v1), (2, .int v2), (4, .int v4)]) hx hb dL_isWell_320 hl (k := 5) rfl (by rw [ex47]; rfl) (by decide) rfl (fun ls hl => ?_)
      refine lv_goto (tgt := 201) hx hb dL_isWell_323 (by decide) ?_
      exact hK201 v2 0 x47 u H locs ls hP hD hS (lv_sub hl [2, 3, 4, 5, 1, 0] rfl) hw
    · replace hw := Eq.mp (if_neg c46) hw
      refine lv_aload_n hx hb dL_isWell_242 rfl (lv_at hl 0 rfl) ?_
      refine lv_iload hx hb dL_isWell_243 (lv_at hl 5 rfl) ?_
      refine gLSi (mc := 0) (ms := 0) (S := SX) (As := [.ref x, .int v6]) (rest := []) (wc := wX kI kC kG x ag at_ as_ hh hst a0 a1 a2 a3 tx tch u) (wr := []) (cs1 := (fun zz : SX => wX kI kC kG x ag at_ as_ hh hst a0 a1 a2 a3 tx tch zz)) (ws2 := (fun zz : SX => wX kI kC kG x ag at_ as_ hh hst a0 a1 a2 a3 tx tch zz)) ⟨hx, hb, hml, hown, hts⟩ (fun sz => kL_piecesOn l D kI kC kG kJ hlt x ag at_ as_ hh hst a0 a1 a2 a3 tx tch sz u v6 _ hw) (vx_cwSW 2 hts gL_isWell_L_piecesOn rfl rfl rfl hdL_piecesOn ⟨Nat.le_of_ble_eq_true rfl, Nat.le_of_ble_eq_true rfl⟩) hK hP hD hE hS hA [0, 1, 2, 3, 4, 5, 6, 7, 8, 9, 10, 11, 12, 13, 14, 15, 16, 17, 18, 19, 20, 21, 22, 23, 24, 25, 26, 27, 28, 29, 30, 31, 32] [] rfl rfl rfl rfl (by decide) [0, 1, 2, 3, 4, 5, 6, 7, 8, 9, 10, 11, 12, 13, 14, 15, 16, 17, 18, 19, 20, 21, 22, 23, 24, 25, 26, 27, 28, 29, 30, 31, 32] rfl (fun _ => rfl) rfl hl.1 rfl (Nat.le_of_ble_eq_true rfl) dL_isWell_245 ⟨Nat.le_of_ble_eq_true rfl, Nat.le_of_ble_eq_true rfl⟩ (fun r48 w48 H locs hw hP hD hS => ?_)
      have hP : va_P D vwCl (wX kI kC kG x ag at_ as_ hh hst a0 a1 a2 a3 tx tch w48) H := hP
      have hD : va_D A (wX kI kC kG x ag at_ as_ hh hst a0 a1 a2 a3 tx tch w48) := hD
      refine lv_if_le (tgt := 255) hx hb dL_isWell_248 (by decide) (fun c49 => ?_) (fun c49 => ?_)
      · replace hw := Eq.mp (if_pos c49) hw
        refine lv_iconst (v := 0) hx hb dL_isWell_255 (by decide) ?_
        refine lv_aload_n hx hb dL_isWell_256 rfl (lv_at hl 0 rfl) ?_
        refine lv_iload hx hb dL_isWell_257 (lv_at hl 5 rfl) ?_
        refine gLSi (mc := 0) (ms := 0) (S := SX) (As := [.ref x, .int v6]) (rest := [.int 0]) (wc := wX kI kC kG x ag at_ as_ hh hst a0 a1 a2 a3 tx tch w48) (wr := []) (cs1 := (fun zz : SX => wX kI kC kG x ag at_ as_ hh hst a0 a1 a2 a3 tx tch zz)) (ws2 := (fun zz : SX => wX kI kC kG x ag at_ as_ hh hst a0 a1 a2 a3 tx tch zz)) ⟨hx, hb, hml, hown, hts⟩ (fun sz => kL_shared l D kI kC kG kJ hlt x ag at_ as_ hh hst a0 a1 a2 a3 tx tch sz w48 v6 _ hw) (vx_cwSW 2 hts gL_isWell_L_shared rfl rfl rfl hdL_shared ⟨Nat.le_of_ble_eq_true rfl, Nat.le_of_ble_eq_true rfl⟩) hK hP hD hE hS hA [0, 1, 2, 3, 4, 5, 6, 7, 8, 9, 10, 11, 12, 13, 14, 15, 16, 17, 18, 19, 20, 21, 22, 23, 24, 25, 26, 27, 28, 29, 30, 31, 32] [] rfl rfl rfl rfl (by decide) [0, 1, 2, 3, 4, 5, 6, 7, 8, 9, 10, 11, 12, 13, 14, 15, 16, 17, 18, 19, 20, 21, 22, 23, 24, 25, 26, 27, 28, 29, 30, 31, 32] rfl (fun _ => rfl) rfl hl.1 rfl (Nat.le_of_ble_eq_true rfl) dL_isWell_259 ⟨Nat.le_of_ble_eq_true rfl, Nat.le_of_ble_eq_true rfl⟩ (fun r50 w50 H locs hw hP hD hS => ?_)
        have hP : va_P D vwCl (wX kI kC kG x ag at_ as_ hh hst a0 a1 a2 a3 tx tch w50) H := hP
        have hD : va_D A (wX kI kC kG x ag at_ as_ hh hst a0 a1 a2 a3 tx tch w50) := hD
        refine lv_sipush (v := 255) hx hb dL_isWell_262 (by decide) ?_
        refine lv_icmp_eq (tgt := 272) hx hb dL_isWell_265 (by decide) (fun c51 => ?_) (fun c51 => ?_)
        · replace hw := Eq.mp (if_pos c51) hw
          refine lv_iconst (v := 0) hx hb dL_isWell_272 (by decide) ?_
          refine lv_icmp_ne (tgt := 317) hx hb dL_isWell_273 (by decide) (fun c52 => ?_) (fun c52 => ?_)
          · exact absurd c52 (by decide)
          obtain ⟨n9, hw⟩ := hw
          exact L276 v1 v4 K201 hK201 n9 v2 v6 w50 H locs ls hP hD hS (lv_sub hl [0, 1, 2, 3, 5] rfl) hw
        · replace hw := Eq.mp (if_neg c51) hw
          refine lv_iconst (v := 1) hx hb dL_isWell_268 (by decide) ?_
          refine lv_goto (tgt := 273) hx hb dL_isWell_269 (by decide) ?_
          refine lv_icmp_ne (tgt := 317) hx hb dL_isWell_273 (by decide) (fun c63 => ?_) (fun c63 => ?_)
          · skip
            refine lv_iconst (v := 0) hx hb dL_isWell_317 (by decide) ?_
            refine lv_istore (lv' := [(5, .int 0), (0, .ref x), (1, .int v1), (2, .int v2), (4, .int v4), (6, .int v6)]) hx hb dL_isWell_318 hl (by decide) rfl (fun ls hl => ?_)
            obtain ⟨x64, ex64⟩ : ∃ y : Int32, y = (v6 + 1) := ⟨_, rfl⟩
            replace hw := hw x64 ex64
            refine lv_iinc (v := x64) (lv' := [(6, .int x64), (5, .int 0), (0, .ref x), (1, .int v1), (2, .int v2), (4, .int v4)]) hx hb dL_isWell_320 hl (k := 5) rfl (by rw [ex64]; rfl) (by decide) rfl (fun ls hl => ?_)
            refine lv_goto (tgt := 201) hx hb dL_isWell_323 (by decide) ?_
            exact hK201 v2 0 x64 w50 H locs ls hP hD hS (lv_sub hl [2, 3, 4, 5, 1, 0] rfl) hw
          · first | exact absurd (by decide) c63 | exact absurd c63 (by decide)
      · replace hw := Eq.mp (if_neg c49) hw
        refine lv_iconst (v := 1) hx hb dL_isWell_251 (by decide) ?_
        refine lv_goto (tgt := 256) hx hb dL_isWell_252 (by decide) ?_
        refine lv_aload_n hx hb dL_isWell_256 rfl (lv_at hl 0 rfl) ?_
        refine lv_iload hx hb dL_isWell_257 (lv_at hl 5 rfl) ?_
        refine gLSi (mc := 0) (ms := 0) (S := SX) (As := [.ref x, .int v6]) (rest := [.int 1]) (wc := wX kI kC kG x ag at_ as_ hh hst a0 a1 a2 a3 tx tch w48) (wr := []) (cs1 := (fun zz : SX => wX kI kC kG x ag at_ as_ hh hst a0 a1 a2 a3 tx tch zz)) (ws2 := (fun zz : SX => wX kI kC kG x ag at_ as_ hh hst a0 a1 a2 a3 tx tch zz)) ⟨hx, hb, hml, hown, hts⟩ (fun sz => kL_shared l D kI kC kG kJ hlt x ag at_ as_ hh hst a0 a1 a2 a3 tx tch sz w48 v6 _ hw) (vx_cwSW 2 hts gL_isWell_L_shared rfl rfl rfl hdL_shared ⟨Nat.le_of_ble_eq_true rfl, Nat.le_of_ble_eq_true rfl⟩) hK hP hD hE hS hA [0, 1, 2, 3, 4, 5, 6, 7, 8, 9, 10, 11, 12, 13, 14, 15, 16, 17, 18, 19, 20, 21, 22, 23, 24, 25, 26, 27, 28, 29, 30, 31, 32] [] rfl rfl rfl rfl (by decide) [0, 1, 2, 3, 4, 5, 6, 7, 8, 9, 10, 11, 12, 13, 14, 15, 16, 17, 18, 19, 20, 21, 22, 23, 24, 25, 26, 27, 28, 29, 30, 31, 32] rfl (fun _ => rfl) rfl hl.1 rfl (Nat.le_of_ble_eq_true rfl) dL_isWell_259 ⟨Nat.le_of_ble_eq_true rfl, Nat.le_of_ble_eq_true rfl⟩ (fun r65 w65 H locs hw hP hD hS => ?_)
        have hP : va_P D vwCl (wX kI kC kG x ag at_ as_ hh hst a0 a1 a2 a3 tx tch w65) H := hP
        have hD : va_D A (wX kI kC kG x ag at_ as_ hh hst a0 a1 a2 a3 tx tch w65) := hD
        refine lv_sipush (v := 255) hx hb dL_isWell_262 (by decide) ?_
        refine lv_icmp_eq (tgt := 272) hx hb dL_isWell_265 (by decide) (fun c66 => ?_) (fun c66 => ?_)
        · replace hw := Eq.mp (if_pos c66) hw
          refine lv_iconst (v := 0) hx hb dL_isWell_272 (by decide) ?_
          refine lv_icmp_ne (tgt := 317) hx hb dL_isWell_273 (by decide) (fun c67 => ?_) (fun c67 => ?_)
          · skip
            refine lv_iconst (v := 0) hx hb dL_isWell_317 (by decide) ?_
            refine lv_istore (lv' := [(5, .int 0), (0, .ref x), (1, .int v1), (2, .int v2), (4, .int v4), (6, .int v6)]) hx hb dL_isWell_318 hl (by decide) rfl (fun ls hl => ?_)
            obtain ⟨x68, ex68⟩ : ∃ y : Int32, y = (v6 + 1) := ⟨_, rfl⟩
            replace hw := hw x68 ex68
            refine lv_iinc (v := x68) (lv' := [(6, .int x68), (5, .int 0), (0, .ref x), (1, .int v1), (2, .int v2), (4, .int v4)]) hx hb dL_isWell_320 hl (k := 5) rfl (by rw [ex68]; rfl) (by decide) rfl (fun ls hl => ?_)
            refine lv_goto (tgt := 201) hx hb dL_isWell_323 (by decide) ?_
            exact hK201 v2 0 x68 w65 H locs ls hP hD hS (lv_sub hl [2, 3, 4, 5, 1, 0] rfl) hw
          · first | exact absurd (by decide) c67 | exact absurd c67 (by decide)
        · replace hw := Eq.mp (if_neg c66) hw
          refine lv_iconst (v := 1) hx hb dL_isWell_268 (by decide) ?_
          refine lv_goto (tgt := 273) hx hb dL_isWell_269 (by decide) ?_
          refine lv_icmp_ne (tgt := 317) hx hb dL_isWell_273 (by decide) (fun c69 => ?_) (fun c69 => ?_)
          · exact absurd c69 (by decide)
          obtain ⟨n9, hw⟩ := hw
          exact L276 v1 v4 K201 hK201 n9 v2 v6 w65 H locs ls hP hD hS (lv_sub hl [0, 1, 2, 3, 5] rfl) hw
  have L201 : ∀ (v1 : Int32) (v4 : Int32), ∀ (n : Nat), ∀ (v2 : Int32) (v5 : Int32) (v6 : Int32) (u : SX) (H : Heap) (locs : List Loc) (ls : Array Slot), va_P D vwCl (wX kI kC kG x ag at_ as_ hh hst a0 a1 a2 a3 tx tch u) H → va_D A (wX kI kC kG x ag at_ as_ hh hst a0 a1 a2 a3 tx tch u) → va_S A s.heap H locs → lv_has ls 8 [(0, .ref x), (1, .int v1), (2, .int v2), (4, .int v4), (5, .int v5), (6, .int v6)] → pL_isWell_201 Z v1 v4 n v2 v5 v6 u → W p l e (headSpec wsL_isWell ({ frames := 6, cells := 0, slots := 0, locals := 133 } : Room)).room s m ([.ref x] : List Value).toArray below meth c H locs 0 0 (MQ below (va_Qi Z (gB D (gT kI kC kG kJ) (fun (zz : SX) => wX kI kC kG x ag at_ as_ hh hst a0 a1 a2 a3 tx tch zz) A) A) ([.ref x] : List Value).toArray s 0 0 A) (F0 m 201 ls []) := by
    intro v1 v4 n
    induction n with
    | zero => intro v2 v5 v6 u H locs ls hP hD hS hl hw; exact hw.elim
    | succ n ih =>
    intro v2 v5 v6 u H locs ls hP hD hS hl hw
    rw [pL_isWell_201] at hw
    refine lv_iload hx hb dL_isWell_201 (lv_at hl 5 rfl) ?_
    refine lv_aload_n hx hb dL_isWell_203 rfl (lv_at hl 0 rfl) ?_
    refine gVi (As := []) (rest := [.int v6]) (cs' := wX kI kC kG x ag at_ as_ hh hst a0 a1 a2 a3 tx tch u) ⟨hx, hb, hml, hown, hts⟩ (kX5_lines l D kI kC kG kJ x ag at_ as_ hh hst a0 a1 a2 a3 tx tch u _ hw) (cwV 0 hts gL_isWell_X5_lines rfl rfl rfl hdX5_lines ⟨Nat.le_of_ble_eq_true rfl, Nat.le_of_ble_eq_true rfl⟩) hK hP hE hS [0, 1, 2, 3, 4, 5, 6, 7, 8, 9, 10, 11, 12, 13, 14, 15, 16, 17, 18, 19, 20, 21, 22, 23, 24, 25, 26, 27, 28, 29, 30, 31, 32] rfl (ci := 4) (q0 := 0) rfl rfl rfl rfl hl.1 rfl (Nat.le_of_ble_eq_true rfl) dL_isWell_204 ⟨Nat.le_of_ble_eq_true rfl, Nat.le_of_ble_eq_true rfl⟩ (fun r6 hw => ?_)
    refine lv_icmp_ge (tgt := 326) hx hb dL_isWell_207 (by decide) (fun c7 => ?_) (fun c7 => ?_)
    · replace hw := Eq.mp (if_pos c7) hw
      refine lv_iload_n hx hb dL_isWell_326 rfl (lv_at hl 1 rfl) ?_
      refine lv_iconst (v := 2) hx hb dL_isWell_327 (by decide) ?_
      refine lv_irem hx hb dL_isWell_328 (by decide) ?_
      refine lv_topi (fun x8 ex8 => ?_)
      replace hw := hw x8 ex8
      refine lv_istore (lv' := [(6, .int x8), (0, .ref x), (1, .int v1), (2, .int v2), (4, .int v4), (5, .int v5)]) hx hb dL_isWell_329 hl (by decide) rfl (fun ls hl => ?_)
      refine lv_iload hx hb dL_isWell_331 (lv_at hl 5 rfl) ?_
      refine lv_if_eq (tgt := 464) hx hb dL_isWell_333 (by decide) (fun c9 => ?_) (fun c9 => ?_)
      · replace hw := Eq.mp (if_pos c9) hw
        refine lv_iconst (v := 0) hx hb dL_isWell_464 (by decide) ?_
        exact W.zret (v := 0) hx hb hr rfl (fun t ht hW => ⟨⟨0, u, rfl, hw, by rw [ht]; exact hP, va_K.moved hW.alike hK, hD⟩, hS.F ht⟩) hS.2.2 dL_isWell_465
      · replace hw := Eq.mp (if_neg c9) hw
        refine lv_iload_n hx hb dL_isWell_336 rfl (lv_at hl 2 rfl) ?_
        refine lv_aload_n hx hb dL_isWell_337 rfl (lv_at hl 1 rfl) ?_
        refine gVi (As := []) (rest := [.int v1]) (cs' := wX kI kC kG x ag at_ as_ hh hst a0 a1 a2 a3 tx tch u) ⟨hx, hb, hml, hown, hts⟩ (kX5_placed l D kI kC kG kJ x ag at_ as_ hh hst a0 a1 a2 a3 tx tch u _ hw) (cwV 0 hts gL_isWell_X5_placed rfl rfl rfl hdX5_placed ⟨Nat.le_of_ble_eq_true rfl, Nat.le_of_ble_eq_true rfl⟩) hK hP hE hS [0, 1, 2, 3, 4, 5, 6, 7, 8, 9, 10, 11, 12, 13, 14, 15, 16, 17, 18, 19, 20, 21, 22, 23, 24, 25, 26, 27, 28, 29, 30, 31, 32] rfl (ci := 4) (q0 := 0) rfl rfl rfl rfl hl.1 rfl (Nat.le_of_ble_eq_true rfl) dL_isWell_338 ⟨Nat.le_of_ble_eq_true rfl, Nat.le_of_ble_eq_true rfl⟩ (fun r10 hw => ?_)
        refine lv_icmp_ne (tgt := 464) hx hb dL_isWell_341 (by decide) (fun c11 => ?_) (fun c11 => ?_)
        · replace hw := Eq.mp (if_neg c11) hw
          refine lv_iconst (v := 0) hx hb dL_isWell_464 (by decide) ?_
          exact W.zret (v := 0) hx hb hr rfl (fun t ht hW => ⟨⟨0, u, rfl, hw, by rw [ht]; exact hP, va_K.moved hW.alike hK, hD⟩, hS.F ht⟩) hS.2.2 dL_isWell_465
        · replace hw := Eq.mp (if_pos c11) hw
          refine lv_iload_n hx hb dL_isWell_344 rfl (lv_at hl 3 rfl) ?_
          refine lv_aload_n hx hb dL_isWell_345 rfl (lv_at hl 1 rfl) ?_
          refine gVi (As := []) (rest := [.int v2]) (cs' := wX kI kC kG x ag at_ as_ hh hst a0 a1 a2 a3 tx tch u) ⟨hx, hb, hml, hown, hts⟩ (kX5_wonLines l D kI kC kG kJ x ag at_ as_ hh hst a0 a1 a2 a3 tx tch u _ hw) (cwV 0 hts gL_isWell_X5_wonLines rfl rfl rfl hdX5_wonLines ⟨Nat.le_of_ble_eq_true rfl, Nat.le_of_ble_eq_true rfl⟩) hK hP hE hS [0, 1, 2, 3, 4, 5, 6, 7, 8, 9, 10, 11, 12, 13, 14, 15, 16, 17, 18, 19, 20, 21, 22, 23, 24, 25, 26, 27, 28, 29, 30, 31, 32] rfl (ci := 4) (q0 := 0) rfl rfl rfl rfl hl.1 rfl (Nat.le_of_ble_eq_true rfl) dL_isWell_346 ⟨Nat.le_of_ble_eq_true rfl, Nat.le_of_ble_eq_true rfl⟩ (fun r12 hw => ?_)
          refine lv_icmp_ne (tgt := 464) hx hb dL_isWell_349 (by decide) (fun c13 => ?_) (fun c13 => ?_)
          · replace hw := Eq.mp (if_neg c13) hw
            refine lv_iconst (v := 0) hx hb dL_isWell_464 (by decide) ?_
            exact W.zret (v := 0) hx hb hr rfl (fun t ht hW => ⟨⟨0, u, rfl, hw, by rw [ht]; exact hP, va_K.moved hW.alike hK, hD⟩, hS.F ht⟩) hS.2.2 dL_isWell_465
          · replace hw := Eq.mp (if_pos c13) hw
            refine lv_iload_n hx hb dL_isWell_352 rfl (lv_at hl 3 rfl) ?_
            refine lv_if_le (tgt := 360) hx hb dL_isWell_353 (by decide) (fun c14 => ?_) (fun c14 => ?_)
            · replace hw := Eq.mp (if_pos c14) hw
              refine lv_iconst (v := 0) hx hb dL_isWell_360 (by decide) ?_
              refine lv_aload_n hx hb dL_isWell_361 rfl (lv_at hl 1 rfl) ?_
              refine gVi (As := []) (rest := [.int 0]) (cs' := wX kI kC kG x ag at_ as_ hh hst a0 a1 a2 a3 tx tch u) ⟨hx, hb, hml, hown, hts⟩ (kX5_winner l D kI kC kG kJ x ag at_ as_ hh hst a0 a1 a2 a3 tx tch u _ hw) (cwV 0 hts gL_isWell_X5_winner rfl rfl rfl hdX5_winner ⟨Nat.le_of_ble_eq_true rfl, Nat.le_of_ble_eq_true rfl⟩) hK hP hE hS [0, 1, 2, 3, 4, 5, 6, 7, 8, 9, 10, 11, 12, 13, 14, 15, 16, 17, 18, 19, 20, 21, 22, 23, 24, 25, 26, 27, 28, 29, 30, 31, 32] rfl (ci := 4) (q0 := 0) rfl rfl rfl rfl hl.1 rfl (Nat.le_of_ble_eq_true rfl) dL_isWell_362 ⟨Nat.le_of_ble_eq_true rfl, Nat.le_of_ble_eq_true rfl⟩ (fun r15 hw => ?_)
              refine lv_if_lt (tgt := 372) hx hb dL_isWell_365 (by decide) (fun c16 => ?_) (fun c16 => ?_)
              · replace hw := Eq.mp (if_pos c16) hw
                refine lv_iconst (v := 0) hx hb dL_isWell_372 (by decide) ?_
                refine lv_icmp_ne (tgt := 464) hx hb dL_isWell_373 (by decide) (fun c17 => ?_) (fun c17 => ?_)
                · exact absurd c17 (by decide)
                obtain ⟨n9, hw⟩ := hw
                exact L376 () n9 v1 v2 v4 x8 u H locs ls hP hD hS (lv_sub hl [1, 2, 3, 4, 0] rfl) hw
              · replace hw := Eq.mp (if_neg c16) hw
                refine lv_iconst (v := 1) hx hb dL_isWell_368 (by decide) ?_
                refine lv_goto (tgt := 373) hx hb dL_isWell_369 (by decide) ?_
                refine lv_icmp_ne (tgt := 464) hx hb dL_isWell_373 (by decide) (fun c38 => ?_) (fun c38 => ?_)
                · skip
                  refine lv_iconst (v := 0) hx hb dL_isWell_464 (by decide) ?_
                  exact W.zret (v := 0) hx hb hr rfl (fun t ht hW => ⟨⟨0, u, rfl, hw, by rw [ht]; exact hP, va_K.moved hW.alike hK, hD⟩, hS.F ht⟩) hS.2.2 dL_isWell_465
                · first | exact absurd (by decide) c38 | exact absurd c38 (by decide)
            · replace hw := Eq.mp (if_neg c14) hw
              refine lv_iconst (v := 1) hx hb dL_isWell_356 (by decide) ?_
              refine lv_goto (tgt := 361) hx hb dL_isWell_357 (by decide) ?_
              refine lv_aload_n hx hb dL_isWell_361 rfl (lv_at hl 1 rfl) ?_
              refine gVi (As := []) (rest := [.int 1]) (cs' := wX kI kC kG x ag at_ as_ hh hst a0 a1 a2 a3 tx tch u) ⟨hx, hb, hml, hown, hts⟩ (kX5_winner l D kI kC kG kJ x ag at_ as_ hh hst a0 a1 a2 a3 tx tch u _ hw) (cwV 0 hts gL_isWell_X5_winner rfl rfl rfl hdX5_winner ⟨Nat.le_of_ble_eq_true rfl, Nat.le_of_ble_eq_true rfl⟩) hK hP hE hS [0, 1, 2, 3, 4, 5, 6, 7, 8, 9, 10, 11, 12, 13, 14, 15, 16, 17, 18, 19, 20, 21, 22, 23, 24, 25, 26, 27, 28, 29, 30, 31, 32] rfl (ci := 4) (q0 := 0) rfl rfl rfl rfl hl.1 rfl (Nat.le_of_ble_eq_true rfl) dL_isWell_362 ⟨Nat.le_of_ble_eq_true rfl, Nat.le_of_ble_eq_true rfl⟩ (fun r39 hw => ?_)
              refine lv_if_lt (tgt := 372) hx hb dL_isWell_365 (by decide) (fun c40 => ?_) (fun c40 => ?_)
              · replace hw := Eq.mp (if_pos c40) hw
                refine lv_iconst (v := 0) hx hb dL_isWell_372 (by decide) ?_
                refine lv_icmp_ne (tgt := 464) hx hb dL_isWell_373 (by decide) (fun c41 => ?_) (fun c41 => ?_)
                · skip
                  refine lv_iconst (v := 0) hx hb dL_isWell_464 (by decide) ?_
                  exact W.zret (v := 0) hx hb hr rfl (fun t ht hW => ⟨⟨0, u, rfl, hw, by rw [ht]; exact hP, va_K.moved hW.alike hK, hD⟩, hS.F ht⟩) hS.2.2 dL_isWell_465
                · first | exact absurd (by decide) c41 | exact absurd c41 (by decide)
              · replace hw := Eq.mp (if_neg c40) hw
                refine lv_iconst (v := 1) hx hb dL_isWell_368 (by decide) ?_
                refine lv_goto (tgt := 373) hx hb dL_isWell_369 (by decide) ?_
                refine lv_icmp_ne (tgt := 464) hx hb dL_isWell_373 (by decide) (fun c42 => ?_) (fun c42 => ?_)
                · exact absurd c42 (by decide)
                obtain ⟨n9, hw⟩ := hw
                exact L376 () n9 v1 v2 v4 x8 u H locs ls hP hD hS (lv_sub hl [1, 2, 3, 4, 0] rfl) hw
    · replace hw := Eq.mp (if_neg c7) hw
      refine lv_iload_n hx hb dL_isWell_210 rfl (lv_at hl 2 rfl) ?_
      refine lv_aload_n hx hb dL_isWell_211 rfl (lv_at hl 0 rfl) ?_
      refine lv_iload hx hb dL_isWell_212 (lv_at hl 5 rfl) ?_
      refine gLSi (mc := 0) (ms := 0) (S := SX) (As := [.ref x, .int v6]) (rest := [.int v2]) (wc := wX kI kC kG x ag at_ as_ hh hst a0 a1 a2 a3 tx tch u) (wr := []) (cs1 := (fun zz : SX => wX kI kC kG x ag at_ as_ hh hst a0 a1 a2 a3 tx tch zz)) (ws2 := (fun zz : SX => wX kI kC kG x ag at_ as_ hh hst a0 a1 a2 a3 tx tch zz)) ⟨hx, hb, hml, hown, hts⟩ (fun sz => kL_piecesOn l D kI kC kG kJ hlt x ag at_ as_ hh hst a0 a1 a2 a3 tx tch sz u v6 _ hw) (vx_cwSW 2 hts gL_isWell_L_piecesOn rfl rfl rfl hdL_piecesOn ⟨Nat.le_of_ble_eq_true rfl, Nat.le_of_ble_eq_true rfl⟩) hK hP hD hE hS hA [0, 1, 2, 3, 4, 5, 6, 7, 8, 9, 10, 11, 12, 13, 14, 15, 16, 17, 18, 19, 20, 21, 22, 23, 24, 25, 26, 27, 28, 29, 30, 31, 32] [] rfl rfl rfl rfl (by decide) [0, 1, 2, 3, 4, 5, 6, 7, 8, 9, 10, 11, 12, 13, 14, 15, 16, 17, 18, 19, 20, 21, 22, 23, 24, 25, 26, 27, 28, 29, 30, 31, 32] rfl (fun _ => rfl) rfl hl.1 rfl (Nat.le_of_ble_eq_true rfl) dL_isWell_214 ⟨Nat.le_of_ble_eq_true rfl, Nat.le_of_ble_eq_true rfl⟩ (fun r43 w43 H locs hw hP hD hS => ?_)
      have hP : va_P D vwCl (wX kI kC kG x ag at_ as_ hh hst a0 a1 a2 a3 tx tch w43) H := hP
      have hD : va_D A (wX kI kC kG x ag at_ as_ hh hst a0 a1 a2 a3 tx tch w43) := hD
      refine lv_iconst (v := 4) hx hb dL_isWell_217 (by decide) ?_
      refine lv_icmp_ne (tgt := 234) hx hb dL_isWell_218 (by decide) (fun c44 => ?_) (fun c44 => ?_)
      · replace hw := Eq.mp (if_neg c44) hw
        refine lv_iconst (v := 0) hx hb dL_isWell_234 (by decide) ?_
        refine lv_iadd hx hb dL_isWell_235 ?_
        refine lv_topi (fun x45 ex45 => ?_)
        replace hw := hw x45 ex45
        refine lv_istore_n (lv' := [(2, .int x45), (0, .ref x), (1, .int v1), (4, .int v4), (5, .int v5), (6, .int v6)]) hx hb dL_isWell_236 rfl hl (by decide) rfl (fun ls hl => ?_)
        obtain ⟨n9, hw⟩ := hw
        exact L237 v1 v4 (pL_isWell_201 Z v1 v4 n) ih n9 x45 v5 v6 w43 H locs ls hP hD hS (lv_sub hl [1, 2, 0, 3, 4, 5] rfl) hw
      · replace hw := Eq.mp (if_pos c44) hw
        refine lv_aload_n hx hb dL_isWell_221 rfl (lv_at hl 0 rfl) ?_
        refine lv_iload hx hb dL_isWell_222 (lv_at hl 5 rfl) ?_
        refine gLSi (mc := 0) (ms := 0) (S := SX) (As := [.ref x, .int v6]) (rest := [.int v2]) (wc := wX kI kC kG x ag at_ as_ hh hst a0 a1 a2 a3 tx tch w43) (wr := []) (cs1 := (fun zz : SX => wX kI kC kG x ag at_ as_ hh hst a0 a1 a2 a3 tx tch zz)) (ws2 := (fun zz : SX => wX kI kC kG x ag at_ as_ hh hst a0 a1 a2 a3 tx tch zz)) ⟨hx, hb, hml, hown, hts⟩ (fun sz => kL_shared l D kI kC kG kJ hlt x ag at_ as_ hh hst a0 a1 a2 a3 tx tch sz w43 v6 _ hw) (vx_cwSW 2 hts gL_isWell_L_shared rfl rfl rfl hdL_shared ⟨Nat.le_of_ble_eq_true rfl, Nat.le_of_ble_eq_true rfl⟩) hK hP hD hE hS hA [0, 1, 2, 3, 4, 5, 6, 7, 8, 9, 10, 11, 12, 13, 14, 15, 16, 17, 18, 19, 20, 21, 22, 23, 24, 25, 26, 27, 28, 29, 30, 31, 32] [] rfl rfl rfl rfl (by decide) [0, 1, 2, 3, 4, 5, 6, 7, 8, 9, 10, 11, 12, 13, 14, 15, 16, 17, 18, 19, 20, 21, 22, 23, 24, 25, 26, 27, 28, 29, 30, 31, 32] rfl (fun _ => rfl) rfl hl.1 rfl (Nat.le_of_ble_eq_true rfl) dL_isWell_224 ⟨Nat.le_of_ble_eq_true rfl, Nat.le_of_ble_eq_true rfl⟩ (fun r70 w70 H locs hw hP hD hS => ?_)
        have hP : va_P D vwCl (wX kI kC kG x ag at_ as_ hh hst a0 a1 a2 a3 tx tch w70) H := hP
        have hD : va_D A (wX kI kC kG x ag at_ as_ hh hst a0 a1 a2 a3 tx tch w70) := hD
        refine lv_if_eq (tgt := 234) hx hb dL_isWell_227 (by decide) (fun c71 => ?_) (fun c71 => ?_)
        · replace hw := Eq.mp (if_pos c71) hw
          refine lv_iconst (v := 0) hx hb dL_isWell_234 (by decide) ?_
          refine lv_iadd hx hb dL_isWell_235 ?_
          refine lv_topi (fun x72 ex72 => ?_)
          replace hw := hw x72 ex72
          refine lv_istore_n (lv' := [(2, .int x72), (0, .ref x), (1, .int v1), (4, .int v4), (5, .int v5), (6, .int v6)]) hx hb dL_isWell_236 rfl hl (by decide) rfl (fun ls hl => ?_)
          obtain ⟨n9, hw⟩ := hw
          exact L237 v1 v4 (pL_isWell_201 Z v1 v4 n) ih n9 x72 v5 v6 w70 H locs ls hP hD hS (lv_sub hl [1, 2, 0, 3, 4, 5] rfl) hw
        · replace hw := Eq.mp (if_neg c71) hw
          refine lv_iconst (v := 1) hx hb dL_isWell_230 (by decide) ?_
          refine lv_goto (tgt := 235) hx hb dL_isWell_231 (by decide) ?_
          refine lv_iadd hx hb dL_isWell_235 ?_
          refine lv_topi (fun x73 ex73 => ?_)
          replace hw := hw x73 ex73
          refine lv_istore_n (lv' := [(2, .int x73), (0, .ref x), (1, .int v1), (4, .int v4), (5, .int v5), (6, .int v6)]) hx hb dL_isWell_236 rfl hl (by decide) rfl (fun ls hl => ?_)
          obtain ⟨n9, hw⟩ := hw
          exact L237 v1 v4 (pL_isWell_201 Z v1 v4 n) ih n9 x73 v5 v6 w70 H locs ls hP hD hS (lv_sub hl [1, 2, 0, 3, 4, 5] rfl) hw
  have L139 : ∀ (v2 : Int32) (v3 : Int32) (v4 : Int32) (K54 : Int32 → Int32 → Int32 → SX → Prop) (hK54 : ∀ (v1 : Int32) (v5 : Int32) (v6 : Int32) (u : SX) (H : Heap) (locs : List Loc) (ls : Array Slot), va_P D vwCl (wX kI kC kG x ag at_ as_ hh hst a0 a1 a2 a3 tx tch u) H → va_D A (wX kI kC kG x ag at_ as_ hh hst a0 a1 a2 a3 tx tch u) → va_S A s.heap H locs → lv_has ls 8 [(0, .ref x), (1, .int v1), (2, .int v2), (3, .int v3), (4, .int v4), (5, .int v5), (6, .int v6)] → K54 v1 v5 v6 u → W p l e (headSpec wsL_isWell ({ frames := 6, cells := 0, slots := 0, locals := 133 } : Room)).room s m ([.ref x] : List Value).toArray below meth c H locs 0 0 (MQ below (va_Qi Z (gB D (gT kI kC kG kJ) (fun (zz : SX) => wX kI kC kG x ag at_ as_ hh hst a0 a1 a2 a3 tx tch zz) A) A) ([.ref x] : List Value).toArray s 0 0 A) (F0 m 54 ls [])), ∀ (n : Nat), ∀ (v1 : Int32) (v6 : Int32) (u : SX) (H : Heap) (locs : List Loc) (ls : Array Slot), va_P D vwCl (wX kI kC kG x ag at_ as_ hh hst a0 a1 a2 a3 tx tch u) H → va_D A (wX kI kC kG x ag at_ as_ hh hst a0 a1 a2 a3 tx tch u) → va_S A s.heap H locs → lv_has ls 8 [(0, .ref x), (1, .int v1), (2, .int v2), (3, .int v3), (4, .int v4), (6, .int v6)] → pL_isWell_139 Z K54 v2 v3 v4 n v1 v6 u → W p l e (headSpec wsL_isWell ({ frames := 6, cells := 0, slots := 0, locals := 133 } : Room)).room s m ([.ref x] : List Value).toArray below meth c H locs 0 0 (MQ below (va_Qi Z (gB D (gT kI kC kG kJ) (fun (zz : SX) => wX kI kC kG x ag at_ as_ hh hst a0 a1 a2 a3 tx tch zz) A) A) ([.ref x] : List Value).toArray s 0 0 A) (F0 m 139 ls []) := by
    intro v2 v3 v4 K54 hK54 n
    induction n with
    | zero => intro v1 v6 u H locs ls hP hD hS hl hw; exact hw.elim
    | succ n ih =>
    intro v1 v6 u H locs ls hP hD hS hl hw
    rw [pL_isWell_139] at hw
    refine lv_iload hx hb dL_isWell_139 (lv_at hl 4 rfl) ?_
    refine lv_if_ne (tgt := 185) hx hb dL_isWell_141 (by decide) (fun c83 => ?_) (fun c83 => ?_)
    · replace hw := Eq.mp (if_neg c83) hw
      refine lv_iconst (v := 1) hx hb dL_isWell_185 (by decide) ?_
      refine lv_goto (tgt := 190) hx hb dL_isWell_186 (by decide) ?_
      refine lv_istore (lv' := [(5, .int 1), (0, .ref x), (1, .int v1), (2, .int v2), (3, .int v3), (4, .int v4), (6, .int v6)]) hx hb dL_isWell_190 hl (by decide) rfl (fun ls hl => ?_)
      obtain ⟨x84, ex84⟩ : ∃ y : Int32, y = (v6 + 1) := ⟨_, rfl⟩
      replace hw := hw x84 ex84
      refine lv_iinc (v := x84) (lv' := [(6, .int x84), (5, .int 1), (0, .ref x), (1, .int v1), (2, .int v2), (3, .int v3), (4, .int v4)]) hx hb dL_isWell_192 hl (k := 6) rfl (by rw [ex84]; rfl) (by decide) rfl (fun ls hl => ?_)
      refine lv_goto (tgt := 54) hx hb dL_isWell_195 (by decide) ?_
      exact hK54 v1 1 x84 u H locs ls hP hD hS (lv_sub hl [2, 3, 4, 5, 6, 1, 0] rfl) hw
    · replace hw := Eq.mp (if_pos c83) hw
      refine lv_aload_n hx hb dL_isWell_144 rfl (lv_at hl 0 rfl) ?_
      refine lv_iload hx hb dL_isWell_145 (lv_at hl 5 rfl) ?_
      refine gLSi (mc := 0) (ms := 0) (S := SX) (As := [.ref x, .int v6]) (rest := []) (wc := wX kI kC kG x ag at_ as_ hh hst a0 a1 a2 a3 tx tch u) (wr := []) (cs1 := (fun zz : SX => wX kI kC kG x ag at_ as_ hh hst a0 a1 a2 a3 tx tch zz)) (ws2 := (fun zz : SX => wX kI kC kG x ag at_ as_ hh hst a0 a1 a2 a3 tx tch zz)) ⟨hx, hb, hml, hown, hts⟩ (fun sz => kL_cellOf l D kI kC kG kJ hlt x ag at_ as_ hh hst a0 a1 a2 a3 tx tch sz u v6 _ hw) (vx_cwSW 2 hts gL_isWell_L_cellOf rfl rfl rfl hdL_cellOf ⟨Nat.le_of_ble_eq_true rfl, Nat.le_of_ble_eq_true rfl⟩) hK hP hD hE hS hA [0, 1, 2, 3, 4, 5, 6, 7, 8, 9, 10, 11, 12, 13, 14, 15, 16, 17, 18, 19, 20, 21, 22, 23, 24, 25, 26, 27, 28, 29, 30, 31, 32] [] rfl rfl rfl rfl (by decide) [0, 1, 2, 3, 4, 5, 6, 7, 8, 9, 10, 11, 12, 13, 14, 15, 16, 17, 18, 19, 20, 21, 22, 23, 24, 25, 26, 27, 28, 29, 30, 31, 32] rfl (fun _ => rfl) rfl hl.1 rfl (Nat.le_of_ble_eq_true rfl) dL_isWell_147 ⟨Nat.le_of_ble_eq_true rfl, Nat.le_of_ble_eq_true rfl⟩ (fun r85 w85 H locs hw hP hD hS => ?_)
      have hP : va_P D vwCl (wX kI kC kG x ag at_ as_ hh hst a0 a1 a2 a3 tx tch w85) H := hP
      have hD : va_D A (wX kI kC kG x ag at_ as_ hh hst a0 a1 a2 a3 tx tch w85) := hD
      refine lv_if_ge (tgt := 185) hx hb dL_isWell_150 (by decide) (fun c86 => ?_) (fun c86 => ?_)
      · replace hw := Eq.mp (if_pos c86) hw
        refine lv_iconst (v := 1) hx hb dL_isWell_185 (by decide) ?_
        refine lv_goto (tgt := 190) hx hb dL_isWell_186 (by decide) ?_
        refine lv_istore (lv' := [(5, .int 1), (0, .ref x), (1, .int v1), (2, .int v2), (3, .int v3), (4, .int v4), (6, .int v6)]) hx hb dL_isWell_190 hl (by decide) rfl (fun ls hl => ?_)
        obtain ⟨x87, ex87⟩ : ∃ y : Int32, y = (v6 + 1) := ⟨_, rfl⟩
        replace hw := hw x87 ex87
        refine lv_iinc (v := x87) (lv' := [(6, .int x87), (5, .int 1), (0, .ref x), (1, .int v1), (2, .int v2), (3, .int v3), (4, .int v4)]) hx hb dL_isWell_192 hl (k := 6) rfl (by rw [ex87]; rfl) (by decide) rfl (fun ls hl => ?_)
        refine lv_goto (tgt := 54) hx hb dL_isWell_195 (by decide) ?_
        exact hK54 v1 1 x87 w85 H locs ls hP hD hS (lv_sub hl [2, 3, 4, 5, 6, 1, 0] rfl) hw
      · replace hw := Eq.mp (if_neg c86) hw
        refine lv_aload_n hx hb dL_isWell_153 rfl (lv_at hl 0 rfl) ?_
        refine gVi (As := []) (rest := []) (cs' := wX kI kC kG x ag at_ as_ hh hst a0 a1 a2 a3 tx tch w85) ⟨hx, hb, hml, hown, hts⟩ (kX5_gift l D kI kC kG kJ x ag at_ as_ hh hst a0 a1 a2 a3 tx tch w85 _ hw) (cwV 0 hts gL_isWell_X5_gift rfl rfl rfl hdX5_gift ⟨Nat.le_of_ble_eq_true rfl, Nat.le_of_ble_eq_true rfl⟩) hK hP hE hS [0, 1, 2, 3, 4, 5, 6, 7, 8, 9, 10, 11, 12, 13, 14, 15, 16, 17, 18, 19, 20, 21, 22, 23, 24, 25, 26, 27, 28, 29, 30, 31, 32] rfl (ci := 4) (q0 := 0) rfl rfl rfl rfl hl.1 rfl (Nat.le_of_ble_eq_true rfl) dL_isWell_154 ⟨Nat.le_of_ble_eq_true rfl, Nat.le_of_ble_eq_true rfl⟩ (fun r88 hw => ?_)
        refine lv_iload hx hb dL_isWell_157 (lv_at hl 5 rfl) ?_
        refine lv_icmp_eq (tgt := 185) hx hb dL_isWell_159 (by decide) (fun c89 => ?_) (fun c89 => ?_)
        · replace hw := Eq.mp (if_pos c89) hw
          refine lv_iconst (v := 1) hx hb dL_isWell_185 (by decide) ?_
          refine lv_goto (tgt := 190) hx hb dL_isWell_186 (by decide) ?_
          refine lv_istore (lv' := [(5, .int 1), (0, .ref x), (1, .int v1), (2, .int v2), (3, .int v3), (4, .int v4), (6, .int v6)]) hx hb dL_isWell_190 hl (by decide) rfl (fun ls hl => ?_)
          obtain ⟨x90, ex90⟩ : ∃ y : Int32, y = (v6 + 1) := ⟨_, rfl⟩
          replace hw := hw x90 ex90
          refine lv_iinc (v := x90) (lv' := [(6, .int x90), (5, .int 1), (0, .ref x), (1, .int v1), (2, .int v2), (3, .int v3), (4, .int v4)]) hx hb dL_isWell_192 hl (k := 6) rfl (by rw [ex90]; rfl) (by decide) rfl (fun ls hl => ?_)
          refine lv_goto (tgt := 54) hx hb dL_isWell_195 (by decide) ?_
          exact hK54 v1 1 x90 w85 H locs ls hP hD hS (lv_sub hl [2, 3, 4, 5, 6, 1, 0] rfl) hw
        · replace hw := Eq.mp (if_neg c89) hw
          refine lv_iload_n hx hb dL_isWell_162 rfl (lv_at hl 3 rfl) ?_
          refine lv_iload hx hb dL_isWell_163 (lv_at hl 5 rfl) ?_
          refine lv_ishr hx hb dL_isWell_165 ?_
          refine lv_iconst (v := 1) hx hb dL_isWell_166 (by decide) ?_
          refine lv_iand hx hb dL_isWell_167 ?_
          refine lv_aload_n hx hb dL_isWell_168 rfl (lv_at hl 0 rfl) ?_
          refine lv_iload hx hb dL_isWell_169 (lv_at hl 5 rfl) ?_
          refine gLSi (mc := 0) (ms := 0) (S := SX) (As := [.ref x, .int v6]) (rest := [.int ((v3 >>> (v6 &&& 31)) &&& 1)]) (wc := wX kI kC kG x ag at_ as_ hh hst a0 a1 a2 a3 tx tch w85) (wr := []) (cs1 := (fun zz : SX => wX kI kC kG x ag at_ as_ hh hst a0 a1 a2 a3 tx tch zz)) (ws2 := (fun zz : SX => wX kI kC kG x ag at_ as_ hh hst a0 a1 a2 a3 tx tch zz)) ⟨hx, hb, hml, hown, hts⟩ (fun sz => kL_winningCell l D kI kC kG kJ hlt x ag at_ as_ hh hst a0 a1 a2 a3 tx tch sz w85 v6 _ hw) (vx_cwSW 2 hts gL_isWell_L_winningCell rfl rfl rfl hdL_winningCell ⟨Nat.le_of_ble_eq_true rfl, Nat.le_of_ble_eq_true rfl⟩) hK hP hD hE hS hA [0, 1, 2, 3, 4, 5, 6, 7, 8, 9, 10, 11, 12, 13, 14, 15, 16, 17, 18, 19, 20, 21, 22, 23, 24, 25, 26, 27, 28, 29, 30, 31, 32] [] rfl rfl rfl rfl (by decide) [0, 1, 2, 3, 4, 5, 6, 7, 8, 9, 10, 11, 12, 13, 14, 15, 16, 17, 18, 19, 20, 21, 22, 23, 24, 25, 26, 27, 28, 29, 30, 31, 32] rfl (fun _ => rfl) rfl hl.1 rfl (Nat.le_of_ble_eq_true rfl) dL_isWell_171 ⟨Nat.le_of_ble_eq_true rfl, Nat.le_of_ble_eq_true rfl⟩ (fun r91 w91 H locs hw hP hD hS => ?_)
          have hP : va_P D vwCl (wX kI kC kG x ag at_ as_ hh hst a0 a1 a2 a3 tx tch w91) H := hP
          have hD : va_D A (wX kI kC kG x ag at_ as_ hh hst a0 a1 a2 a3 tx tch w91) := hD
          refine lv_if_ge (tgt := 181) hx hb dL_isWell_174 (by decide) (fun c92 => ?_) (fun c92 => ?_)
          · replace hw := Eq.mp (if_pos c92) hw
            refine lv_iconst (v := 0) hx hb dL_isWell_181 (by decide) ?_
            refine lv_icmp_ne (tgt := 189) hx hb dL_isWell_182 (by decide) (fun c93 => ?_) (fun c93 => ?_)
            · replace hw := Eq.mp (if_neg c93) hw
              refine lv_iconst (v := 0) hx hb dL_isWell_189 (by decide) ?_
              refine lv_istore (lv' := [(5, .int 0), (0, .ref x), (1, .int v1), (2, .int v2), (3, .int v3), (4, .int v4), (6, .int v6)]) hx hb dL_isWell_190 hl (by decide) rfl (fun ls hl => ?_)
              obtain ⟨x94, ex94⟩ : ∃ y : Int32, y = (v6 + 1) := ⟨_, rfl⟩
              replace hw := hw x94 ex94
              refine lv_iinc (v := x94) (lv' := [(6, .int x94), (5, .int 0), (0, .ref x), (1, .int v1), (2, .int v2), (3, .int v3), (4, .int v4)]) hx hb dL_isWell_192 hl (k := 6) rfl (by rw [ex94]; rfl) (by decide) rfl (fun ls hl => ?_)
              refine lv_goto (tgt := 54) hx hb dL_isWell_195 (by decide) ?_
              exact hK54 v1 0 x94 w91 H locs ls hP hD hS (lv_sub hl [2, 3, 4, 5, 6, 1, 0] rfl) hw
            · replace hw := Eq.mp (if_pos c93) hw
              refine lv_iconst (v := 1) hx hb dL_isWell_185 (by decide) ?_
              refine lv_goto (tgt := 190) hx hb dL_isWell_186 (by decide) ?_
              refine lv_istore (lv' := [(5, .int 1), (0, .ref x), (1, .int v1), (2, .int v2), (3, .int v3), (4, .int v4), (6, .int v6)]) hx hb dL_isWell_190 hl (by decide) rfl (fun ls hl => ?_)
              obtain ⟨x95, ex95⟩ : ∃ y : Int32, y = (v6 + 1) := ⟨_, rfl⟩
              replace hw := hw x95 ex95
              refine lv_iinc (v := x95) (lv' := [(6, .int x95), (5, .int 1), (0, .ref x), (1, .int v1), (2, .int v2), (3, .int v3), (4, .int v4)]) hx hb dL_isWell_192 hl (k := 6) rfl (by rw [ex95]; rfl) (by decide) rfl (fun ls hl => ?_)
              refine lv_goto (tgt := 54) hx hb dL_isWell_195 (by decide) ?_
              exact hK54 v1 1 x95 w91 H locs ls hP hD hS (lv_sub hl [2, 3, 4, 5, 6, 1, 0] rfl) hw
          · replace hw := Eq.mp (if_neg c92) hw
            refine lv_iconst (v := 1) hx hb dL_isWell_177 (by decide) ?_
            refine lv_goto (tgt := 182) hx hb dL_isWell_178 (by decide) ?_
            refine lv_icmp_ne (tgt := 189) hx hb dL_isWell_182 (by decide) (fun c96 => ?_) (fun c96 => ?_)
            · replace hw := Eq.mp (if_neg c96) hw
              refine lv_iconst (v := 0) hx hb dL_isWell_189 (by decide) ?_
              refine lv_istore (lv' := [(5, .int 0), (0, .ref x), (1, .int v1), (2, .int v2), (3, .int v3), (4, .int v4), (6, .int v6)]) hx hb dL_isWell_190 hl (by decide) rfl (fun ls hl => ?_)
              obtain ⟨x97, ex97⟩ : ∃ y : Int32, y = (v6 + 1) := ⟨_, rfl⟩
              replace hw := hw x97 ex97
              refine lv_iinc (v := x97) (lv' := [(6, .int x97), (5, .int 0), (0, .ref x), (1, .int v1), (2, .int v2), (3, .int v3), (4, .int v4)]) hx hb dL_isWell_192 hl (k := 6) rfl (by rw [ex97]; rfl) (by decide) rfl (fun ls hl => ?_)
              refine lv_goto (tgt := 54) hx hb dL_isWell_195 (by decide) ?_
              exact hK54 v1 0 x97 w91 H locs ls hP hD hS (lv_sub hl [2, 3, 4, 5, 6, 1, 0] rfl) hw
            · replace hw := Eq.mp (if_pos c96) hw
              refine lv_iconst (v := 1) hx hb dL_isWell_185 (by decide) ?_
              refine lv_goto (tgt := 190) hx hb dL_isWell_186 (by decide) ?_
              refine lv_istore (lv' := [(5, .int 1), (0, .ref x), (1, .int v1), (2, .int v2), (3, .int v3), (4, .int v4), (6, .int v6)]) hx hb dL_isWell_190 hl (by decide) rfl (fun ls hl => ?_)
              obtain ⟨x98, ex98⟩ : ∃ y : Int32, y = (v6 + 1) := ⟨_, rfl⟩
              replace hw := hw x98 ex98
              refine lv_iinc (v := x98) (lv' := [(6, .int x98), (5, .int 1), (0, .ref x), (1, .int v1), (2, .int v2), (3, .int v3), (4, .int v4)]) hx hb dL_isWell_192 hl (k := 6) rfl (by rw [ex98]; rfl) (by decide) rfl (fun ls hl => ?_)
              refine lv_goto (tgt := 54) hx hb dL_isWell_195 (by decide) ?_
              exact hK54 v1 1 x98 w91 H locs ls hP hD hS (lv_sub hl [2, 3, 4, 5, 6, 1, 0] rfl) hw
  have L121 : ∀ (v2 : Int32) (v3 : Int32) (v4 : Int32) (K54 : Int32 → Int32 → Int32 → SX → Prop) (hK54 : ∀ (v1 : Int32) (v5 : Int32) (v6 : Int32) (u : SX) (H : Heap) (locs : List Loc) (ls : Array Slot), va_P D vwCl (wX kI kC kG x ag at_ as_ hh hst a0 a1 a2 a3 tx tch u) H → va_D A (wX kI kC kG x ag at_ as_ hh hst a0 a1 a2 a3 tx tch u) → va_S A s.heap H locs → lv_has ls 8 [(0, .ref x), (1, .int v1), (2, .int v2), (3, .int v3), (4, .int v4), (5, .int v5), (6, .int v6)] → K54 v1 v5 v6 u → W p l e (headSpec wsL_isWell ({ frames := 6, cells := 0, slots := 0, locals := 133 } : Room)).room s m ([.ref x] : List Value).toArray below meth c H locs 0 0 (MQ below (va_Qi Z (gB D (gT kI kC kG kJ) (fun (zz : SX) => wX kI kC kG x ag at_ as_ hh hst a0 a1 a2 a3 tx tch zz) A) A) ([.ref x] : List Value).toArray s 0 0 A) (F0 m 54 ls [])), ∀ (n : Nat), ∀ (v1 : Int32) (v6 : Int32) (u : SX) (H : Heap) (locs : List Loc) (ls : Array Slot), va_P D vwCl (wX kI kC kG x ag at_ as_ hh hst a0 a1 a2 a3 tx tch u) H → va_D A (wX kI kC kG x ag at_ as_ hh hst a0 a1 a2 a3 tx tch u) → va_S A s.heap H locs → lv_has ls 8 [(0, .ref x), (1, .int v1), (2, .int v2), (3, .int v3), (4, .int v4), (6, .int v6)] → pL_isWell_121 Z K54 v2 v3 v4 n v1 v6 u → W p l e (headSpec wsL_isWell ({ frames := 6, cells := 0, slots := 0, locals := 133 } : Room)).room s m ([.ref x] : List Value).toArray below meth c H locs 0 0 (MQ below (va_Qi Z (gB D (gT kI kC kG kJ) (fun (zz : SX) => wX kI kC kG x ag at_ as_ hh hst a0 a1 a2 a3 tx tch zz) A) A) ([.ref x] : List Value).toArray s 0 0 A) (F0 m 121 ls []) := by
    intro v2 v3 v4 K54 hK54 n
    induction n with
    | zero => intro v1 v6 u H locs ls hP hD hS hl hw; exact hw.elim
    | succ n ih =>
    intro v1 v6 u H locs ls hP hD hS hl hw
    rw [pL_isWell_121] at hw
    refine lv_iload_n hx hb dL_isWell_121 rfl (lv_at hl 3 rfl) ?_
    refine lv_iload hx hb dL_isWell_122 (lv_at hl 5 rfl) ?_
    refine lv_ishr hx hb dL_isWell_124 ?_
    refine lv_iconst (v := 1) hx hb dL_isWell_125 (by decide) ?_
    refine lv_iand hx hb dL_isWell_126 ?_
    refine lv_if_eq (tgt := 139) hx hb dL_isWell_127 (by decide) (fun c82 => ?_) (fun c82 => ?_)
    · replace hw := Eq.mp (if_pos c82) hw
      obtain ⟨n9, hw⟩ := hw
      exact L139 v2 v3 v4 K54 hK54 n9 v1 v6 u H locs ls hP hD hS (lv_sub hl [0, 1, 2, 3, 4, 5] rfl) hw
    · replace hw := Eq.mp (if_neg c82) hw
      refine lv_aload_n hx hb dL_isWell_130 rfl (lv_at hl 0 rfl) ?_
      refine lv_iload hx hb dL_isWell_131 (lv_at hl 5 rfl) ?_
      refine gLSi (mc := 0) (ms := 0) (S := SX) (As := [.ref x, .int v6]) (rest := []) (wc := wX kI kC kG x ag at_ as_ hh hst a0 a1 a2 a3 tx tch u) (wr := []) (cs1 := (fun zz : SX => wX kI kC kG x ag at_ as_ hh hst a0 a1 a2 a3 tx tch zz)) (ws2 := (fun zz : SX => wX kI kC kG x ag at_ as_ hh hst a0 a1 a2 a3 tx tch zz)) ⟨hx, hb, hml, hown, hts⟩ (fun sz => kL_winningCell l D kI kC kG kJ hlt x ag at_ as_ hh hst a0 a1 a2 a3 tx tch sz u v6 _ hw) (vx_cwSW 2 hts gL_isWell_L_winningCell rfl rfl rfl hdL_winningCell ⟨Nat.le_of_ble_eq_true rfl, Nat.le_of_ble_eq_true rfl⟩) hK hP hD hE hS hA [0, 1, 2, 3, 4, 5, 6, 7, 8, 9, 10, 11, 12, 13, 14, 15, 16, 17, 18, 19, 20, 21, 22, 23, 24, 25, 26, 27, 28, 29, 30, 31, 32] [] rfl rfl rfl rfl (by decide) [0, 1, 2, 3, 4, 5, 6, 7, 8, 9, 10, 11, 12, 13, 14, 15, 16, 17, 18, 19, 20, 21, 22, 23, 24, 25, 26, 27, 28, 29, 30, 31, 32] rfl (fun _ => rfl) rfl hl.1 rfl (Nat.le_of_ble_eq_true rfl) dL_isWell_133 ⟨Nat.le_of_ble_eq_true rfl, Nat.le_of_ble_eq_true rfl⟩ (fun r99 w99 H locs hw hP hD hS => ?_)
      have hP : va_P D vwCl (wX kI kC kG x ag at_ as_ hh hst a0 a1 a2 a3 tx tch w99) H := hP
      have hD : va_D A (wX kI kC kG x ag at_ as_ hh hst a0 a1 a2 a3 tx tch w99) := hD
      refine lv_if_ge (tgt := 189) hx hb dL_isWell_136 (by decide) (fun c100 => ?_) (fun c100 => ?_)
      · replace hw := Eq.mp (if_pos c100) hw
        refine lv_iconst (v := 0) hx hb dL_isWell_189 (by decide) ?_
        refine lv_istore (lv' := [(5, .int 0), (0, .ref x), (1, .int v1), (2, .int v2), (3, .int v3), (4, .int v4), (6, .int v6)]) hx hb dL_isWell_190 hl (by decide) rfl (fun ls hl => ?_)
        obtain ⟨x101, ex101⟩ : ∃ y : Int32, y = (v6 + 1) := ⟨_, rfl⟩
        replace hw := hw x101 ex101
        refine lv_iinc (v := x101) (lv' := [(6, .int x101), (5, .int 0), (0, .ref x), (1, .int v1), (2, .int v2), (3, .int v3), (4, .int v4)]) hx hb dL_isWell_192 hl (k := 6) rfl (by rw [ex101]; rfl) (by decide) rfl (fun ls hl => ?_)
        refine lv_goto (tgt := 54) hx hb dL_isWell_195 (by decide) ?_
        exact hK54 v1 0 x101 w99 H locs ls hP hD hS (lv_sub hl [2, 3, 4, 5, 6, 1, 0] rfl) hw
      · replace hw := Eq.mp (if_neg c100) hw
        obtain ⟨n9, hw⟩ := hw
        exact L139 v2 v3 v4 K54 hK54 n9 v1 v6 w99 H locs ls hP hD hS (lv_sub hl [0, 1, 2, 3, 4, 5] rfl) hw
  have L103 : ∀ (v2 : Int32) (v3 : Int32) (v4 : Int32) (K54 : Int32 → Int32 → Int32 → SX → Prop) (hK54 : ∀ (v1 : Int32) (v5 : Int32) (v6 : Int32) (u : SX) (H : Heap) (locs : List Loc) (ls : Array Slot), va_P D vwCl (wX kI kC kG x ag at_ as_ hh hst a0 a1 a2 a3 tx tch u) H → va_D A (wX kI kC kG x ag at_ as_ hh hst a0 a1 a2 a3 tx tch u) → va_S A s.heap H locs → lv_has ls 8 [(0, .ref x), (1, .int v1), (2, .int v2), (3, .int v3), (4, .int v4), (5, .int v5), (6, .int v6)] → K54 v1 v5 v6 u → W p l e (headSpec wsL_isWell ({ frames := 6, cells := 0, slots := 0, locals := 133 } : Room)).room s m ([.ref x] : List Value).toArray below meth c H locs 0 0 (MQ below (va_Qi Z (gB D (gT kI kC kG kJ) (fun (zz : SX) => wX kI kC kG x ag at_ as_ hh hst a0 a1 a2 a3 tx tch zz) A) A) ([.ref x] : List Value).toArray s 0 0 A) (F0 m 54 ls [])), ∀ (n : Nat), ∀ (v1 : Int32) (v6 : Int32) (u : SX) (H : Heap) (locs : List Loc) (ls : Array Slot), va_P D vwCl (wX kI kC kG x ag at_ as_ hh hst a0 a1 a2 a3 tx tch u) H → va_D A (wX kI kC kG x ag at_ as_ hh hst a0 a1 a2 a3 tx tch u) → va_S A s.heap H locs → lv_has ls 8 [(0, .ref x), (1, .int v1), (2, .int v2), (3, .int v3), (4, .int v4), (6, .int v6)] → pL_isWell_103 Z K54 v2 v3 v4 n v1 v6 u → W p l e (headSpec wsL_isWell ({ frames := 6, cells := 0, slots := 0, locals := 133 } : Room)).room s m ([.ref x] : List Value).toArray below meth c H locs 0 0 (MQ below (va_Qi Z (gB D (gT kI kC kG kJ) (fun (zz : SX) => wX kI kC kG x ag at_ as_ hh hst a0 a1 a2 a3 tx tch zz) A) A) ([.ref x] : List Value).toArray s 0 0 A) (F0 m 103 ls []) := by
    intro v2 v3 v4 K54 hK54 n
    induction n with
    | zero => intro v1 v6 u H locs ls hP hD hS hl hw; exact hw.elim
    | succ n ih =>
    intro v1 v6 u H locs ls hP hD hS hl hw
    rw [pL_isWell_103] at hw
    refine lv_aload_n hx hb dL_isWell_103 rfl (lv_at hl 0 rfl) ?_
    refine lv_iload hx hb dL_isWell_104 (lv_at hl 5 rfl) ?_
    refine gLSi (mc := 0) (ms := 0) (S := SX) (As := [.ref x, .int v6]) (rest := []) (wc := wX kI kC kG x ag at_ as_ hh hst a0 a1 a2 a3 tx tch u) (wr := []) (cs1 := (fun zz : SX => wX kI kC kG x ag at_ as_ hh hst a0 a1 a2 a3 tx tch zz)) (ws2 := (fun zz : SX => wX kI kC kG x ag at_ as_ hh hst a0 a1 a2 a3 tx tch zz)) ⟨hx, hb, hml, hown, hts⟩ (fun sz => kL_cellOf l D kI kC kG kJ hlt x ag at_ as_ hh hst a0 a1 a2 a3 tx tch sz u v6 _ hw) (vx_cwSW 2 hts gL_isWell_L_cellOf rfl rfl rfl hdL_cellOf ⟨Nat.le_of_ble_eq_true rfl, Nat.le_of_ble_eq_true rfl⟩) hK hP hD hE hS hA [0, 1, 2, 3, 4, 5, 6, 7, 8, 9, 10, 11, 12, 13, 14, 15, 16, 17, 18, 19, 20, 21, 22, 23, 24, 25, 26, 27, 28, 29, 30, 31, 32] [] rfl rfl rfl rfl (by decide) [0, 1, 2, 3, 4, 5, 6, 7, 8, 9, 10, 11, 12, 13, 14, 15, 16, 17, 18, 19, 20, 21, 22, 23, 24, 25, 26, 27, 28, 29, 30, 31, 32] rfl (fun _ => rfl) rfl hl.1 rfl (Nat.le_of_ble_eq_true rfl) dL_isWell_106 ⟨Nat.le_of_ble_eq_true rfl, Nat.le_of_ble_eq_true rfl⟩ (fun r80 w80 H locs hw hP hD hS => ?_)
    have hP : va_P D vwCl (wX kI kC kG x ag at_ as_ hh hst a0 a1 a2 a3 tx tch w80) H := hP
    have hD : va_D A (wX kI kC kG x ag at_ as_ hh hst a0 a1 a2 a3 tx tch w80) := hD
    refine lv_if_lt (tgt := 121) hx hb dL_isWell_109 (by decide) (fun c81 => ?_) (fun c81 => ?_)
    · replace hw := Eq.mp (if_pos c81) hw
      obtain ⟨n9, hw⟩ := hw
      exact L121 v2 v3 v4 K54 hK54 n9 v1 v6 w80 H locs ls hP hD hS (lv_sub hl [0, 1, 2, 3, 4, 5] rfl) hw
    · replace hw := Eq.mp (if_neg c81) hw
      refine lv_iload_n hx hb dL_isWell_112 rfl (lv_at hl 3 rfl) ?_
      refine lv_iload hx hb dL_isWell_113 (lv_at hl 5 rfl) ?_
      refine lv_ishr hx hb dL_isWell_115 ?_
      refine lv_iconst (v := 1) hx hb dL_isWell_116 (by decide) ?_
      refine lv_iand hx hb dL_isWell_117 ?_
      refine lv_if_ne (tgt := 189) hx hb dL_isWell_118 (by decide) (fun c102 => ?_) (fun c102 => ?_)
      · replace hw := Eq.mp (if_neg c102) hw
        refine lv_iconst (v := 0) hx hb dL_isWell_189 (by decide) ?_
        refine lv_istore (lv' := [(5, .int 0), (0, .ref x), (1, .int v1), (2, .int v2), (3, .int v3), (4, .int v4), (6, .int v6)]) hx hb dL_isWell_190 hl (by decide) rfl (fun ls hl => ?_)
        obtain ⟨x103, ex103⟩ : ∃ y : Int32, y = (v6 + 1) := ⟨_, rfl⟩
        replace hw := hw x103 ex103
        refine lv_iinc (v := x103) (lv' := [(6, .int x103), (5, .int 0), (0, .ref x), (1, .int v1), (2, .int v2), (3, .int v3), (4, .int v4)]) hx hb dL_isWell_192 hl (k := 6) rfl (by rw [ex103]; rfl) (by decide) rfl (fun ls hl => ?_)
        refine lv_goto (tgt := 54) hx hb dL_isWell_195 (by decide) ?_
        exact hK54 v1 0 x103 w80 H locs ls hP hD hS (lv_sub hl [2, 3, 4, 5, 6, 1, 0] rfl) hw
      · replace hw := Eq.mp (if_pos c102) hw
        obtain ⟨n9, hw⟩ := hw
        exact L121 v2 v3 v4 K54 hK54 n9 v1 v6 w80 H locs ls hP hD hS (lv_sub hl [0, 1, 2, 3, 4, 5] rfl) hw
  have L82 : ∀ (v2 : Int32) (v3 : Int32) (v4 : Int32) (K54 : Int32 → Int32 → Int32 → SX → Prop) (hK54 : ∀ (v1 : Int32) (v5 : Int32) (v6 : Int32) (u : SX) (H : Heap) (locs : List Loc) (ls : Array Slot), va_P D vwCl (wX kI kC kG x ag at_ as_ hh hst a0 a1 a2 a3 tx tch u) H → va_D A (wX kI kC kG x ag at_ as_ hh hst a0 a1 a2 a3 tx tch u) → va_S A s.heap H locs → lv_has ls 8 [(0, .ref x), (1, .int v1), (2, .int v2), (3, .int v3), (4, .int v4), (5, .int v5), (6, .int v6)] → K54 v1 v5 v6 u → W p l e (headSpec wsL_isWell ({ frames := 6, cells := 0, slots := 0, locals := 133 } : Room)).room s m ([.ref x] : List Value).toArray below meth c H locs 0 0 (MQ below (va_Qi Z (gB D (gT kI kC kG kJ) (fun (zz : SX) => wX kI kC kG x ag at_ as_ hh hst a0 a1 a2 a3 tx tch zz) A) A) ([.ref x] : List Value).toArray s 0 0 A) (F0 m 54 ls [])), ∀ (n : Nat), ∀ (v1 : Int32) (v5 : Int32) (v6 : Int32) (v7 : Int32) (u : SX) (H : Heap) (locs : List Loc) (ls : Array Slot), va_P D vwCl (wX kI kC kG x ag at_ as_ hh hst a0 a1 a2 a3 tx tch u) H → va_D A (wX kI kC kG x ag at_ as_ hh hst a0 a1 a2 a3 tx tch u) → va_S A s.heap H locs → lv_has ls 8 [(0, .ref x), (1, .int v1), (2, .int v2), (3, .int v3), (4, .int v4), (5, .int v5), (6, .int v6), (7, .int v7)] → pL_isWell_82 Z K54 v2 v3 v4 n v1 v5 v6 v7 u → W p l e (headSpec wsL_isWell ({ frames := 6, cells := 0, slots := 0, locals := 133 } : Room)).room s m ([.ref x] : List Value).toArray below meth c H locs 0 0 (MQ below (va_Qi Z (gB D (gT kI kC kG kJ) (fun (zz : SX) => wX kI kC kG x ag at_ as_ hh hst a0 a1 a2 a3 tx tch zz) A) A) ([.ref x] : List Value).toArray s 0 0 A) (F0 m 82 ls []) := by
    intro v2 v3 v4 K54 hK54 n
    induction n with
    | zero => intro v1 v5 v6 v7 u H locs ls hP hD hS hl hw; exact hw.elim
    | succ n ih =>
    intro v1 v5 v6 v7 u H locs ls hP hD hS hl hw
    rw [pL_isWell_82] at hw
    refine lv_iload hx hb dL_isWell_82 (lv_at hl 5 rfl) ?_
    refine lv_if_eq (tgt := 189) hx hb dL_isWell_84 (by decide) (fun c77 => ?_) (fun c77 => ?_)
    · replace hw := Eq.mp (if_pos c77) hw
      refine lv_iconst (v := 0) hx hb dL_isWell_189 (by decide) ?_
      refine lv_istore (lv' := [(5, .int 0), (0, .ref x), (1, .int v1), (2, .int v2), (3, .int v3), (4, .int v4), (6, .int v6), (7, .int v7)]) hx hb dL_isWell_190 hl (by decide) rfl (fun ls hl => ?_)
      obtain ⟨x78, ex78⟩ : ∃ y : Int32, y = (v6 + 1) := ⟨_, rfl⟩
      replace hw := hw x78 ex78
      refine lv_iinc (v := x78) (lv' := [(6, .int x78), (5, .int 0), (0, .ref x), (1, .int v1), (2, .int v2), (3, .int v3), (4, .int v4), (7, .int v7)]) hx hb dL_isWell_192 hl (k := 6) rfl (by rw [ex78]; rfl) (by decide) rfl (fun ls hl => ?_)
      refine lv_goto (tgt := 54) hx hb dL_isWell_195 (by decide) ?_
      exact hK54 v1 0 x78 u H locs ls hP hD hS (lv_sub hl [2, 3, 4, 5, 6, 1, 0] rfl) hw
    · replace hw := Eq.mp (if_neg c77) hw
      refine lv_iload hx hb dL_isWell_87 (lv_at hl 7 rfl) ?_
      refine lv_if_lt (tgt := 103) hx hb dL_isWell_89 (by decide) (fun c79 => ?_) (fun c79 => ?_)
      · replace hw := Eq.mp (if_pos c79) hw
        obtain ⟨n9, hw⟩ := hw
        exact L103 v2 v3 v4 K54 hK54 n9 v1 v6 u H locs ls hP hD hS (lv_sub hl [0, 1, 2, 3, 4, 6] rfl) hw
      · replace hw := Eq.mp (if_neg c79) hw
        refine lv_aload_n hx hb dL_isWell_92 rfl (lv_at hl 0 rfl) ?_
        refine lv_iload hx hb dL_isWell_93 (lv_at hl 7 rfl) ?_
        refine gLSi (mc := 0) (ms := 0) (S := SX) (As := [.ref x, .int v7]) (rest := []) (wc := wX kI kC kG x ag at_ as_ hh hst a0 a1 a2 a3 tx tch u) (wr := []) (cs1 := (fun zz : SX => wX kI kC kG x ag at_ as_ hh hst a0 a1 a2 a3 tx tch zz)) (ws2 := (fun zz : SX => wX kI kC kG x ag at_ as_ hh hst a0 a1 a2 a3 tx tch zz)) ⟨hx, hb, hml, hown, hts⟩ (fun sz => kL_cellOf l D kI kC kG kJ hlt x ag at_ as_ hh hst a0 a1 a2 a3 tx tch sz u v7 _ hw) (vx_cwSW 2 hts gL_isWell_L_cellOf rfl rfl rfl hdL_cellOf ⟨Nat.le_of_ble_eq_true rfl, Nat.le_of_ble_eq_true rfl⟩) hK hP hD hE hS hA [0, 1, 2, 3, 4, 5, 6, 7, 8, 9, 10, 11, 12, 13, 14, 15, 16, 17, 18, 19, 20, 21, 22, 23, 24, 25, 26, 27, 28, 29, 30, 31, 32] [] rfl rfl rfl rfl (by decide) [0, 1, 2, 3, 4, 5, 6, 7, 8, 9, 10, 11, 12, 13, 14, 15, 16, 17, 18, 19, 20, 21, 22, 23, 24, 25, 26, 27, 28, 29, 30, 31, 32] rfl (fun _ => rfl) rfl hl.1 rfl (Nat.le_of_ble_eq_true rfl) dL_isWell_95 ⟨Nat.le_of_ble_eq_true rfl, Nat.le_of_ble_eq_true rfl⟩ (fun r104 w104 H locs hw hP hD hS => ?_)
        have hP : va_P D vwCl (wX kI kC kG x ag at_ as_ hh hst a0 a1 a2 a3 tx tch w104) H := hP
        have hD : va_D A (wX kI kC kG x ag at_ as_ hh hst a0 a1 a2 a3 tx tch w104) := hD
        refine lv_iload hx hb dL_isWell_98 (lv_at hl 6 rfl) ?_
        refine lv_icmp_ne (tgt := 189) hx hb dL_isWell_100 (by decide) (fun c105 => ?_) (fun c105 => ?_)
        · replace hw := Eq.mp (if_neg c105) hw
          refine lv_iconst (v := 0) hx hb dL_isWell_189 (by decide) ?_
          refine lv_istore (lv' := [(5, .int 0), (0, .ref x), (1, .int v1), (2, .int v2), (3, .int v3), (4, .int v4), (6, .int v6), (7, .int v7)]) hx hb dL_isWell_190 hl (by decide) rfl (fun ls hl => ?_)
          obtain ⟨x106, ex106⟩ : ∃ y : Int32, y = (v6 + 1) := ⟨_, rfl⟩
          replace hw := hw x106 ex106
          refine lv_iinc (v := x106) (lv' := [(6, .int x106), (5, .int 0), (0, .ref x), (1, .int v1), (2, .int v2), (3, .int v3), (4, .int v4), (7, .int v7)]) hx hb dL_isWell_192 hl (k := 6) rfl (by rw [ex106]; rfl) (by decide) rfl (fun ls hl => ?_)
          refine lv_goto (tgt := 54) hx hb dL_isWell_195 (by decide) ?_
          exact hK54 v1 0 x106 w104 H locs ls hP hD hS (lv_sub hl [2, 3, 4, 5, 6, 1, 0] rfl) hw
        · replace hw := Eq.mp (if_pos c105) hw
          obtain ⟨n9, hw⟩ := hw
          exact L103 v2 v3 v4 K54 hK54 n9 v1 v6 w104 H locs ls hP hD hS (lv_sub hl [0, 1, 2, 3, 4, 6] rfl) hw
  have L54 : ∀ (v2 : Int32) (v3 : Int32) (v4 : Int32), ∀ (n : Nat), ∀ (v1 : Int32) (v5 : Int32) (v6 : Int32) (u : SX) (H : Heap) (locs : List Loc) (ls : Array Slot), va_P D vwCl (wX kI kC kG x ag at_ as_ hh hst a0 a1 a2 a3 tx tch u) H → va_D A (wX kI kC kG x ag at_ as_ hh hst a0 a1 a2 a3 tx tch u) → va_S A s.heap H locs → lv_has ls 8 [(0, .ref x), (1, .int v1), (2, .int v2), (3, .int v3), (4, .int v4), (5, .int v5), (6, .int v6)] → pL_isWell_54 Z v2 v3 v4 n v1 v5 v6 u → W p l e (headSpec wsL_isWell ({ frames := 6, cells := 0, slots := 0, locals := 133 } : Room)).room s m ([.ref x] : List Value).toArray below meth c H locs 0 0 (MQ below (va_Qi Z (gB D (gT kI kC kG kJ) (fun (zz : SX) => wX kI kC kG x ag at_ as_ hh hst a0 a1 a2 a3 tx tch zz) A) A) ([.ref x] : List Value).toArray s 0 0 A) (F0 m 54 ls []) := by
    intro v2 v3 v4 n
    induction n with
    | zero => intro v1 v5 v6 u H locs ls hP hD hS hl hw; exact hw.elim
    | succ n ih =>
    intro v1 v5 v6 u H locs ls hP hD hS hl hw
    rw [pL_isWell_54] at hw
    refine lv_iload hx hb dL_isWell_54 (lv_at hl 6 rfl) ?_
    refine lv_bipush (v := 16) hx hb dL_isWell_56 (by decide) ?_
    refine lv_icmp_ge (tgt := 198) hx hb dL_isWell_58 (by decide) (fun c5 => ?_) (fun c5 => ?_)
    · replace hw := Eq.mp (if_pos c5) hw
      refine lv_iconst (v := 0) hx hb dL_isWell_198 (by decide) ?_
      refine lv_istore (lv' := [(6, .int 0), (0, .ref x), (1, .int v1), (2, .int v2), (3, .int v3), (4, .int v4), (5, .int v5)]) hx hb dL_isWell_199 hl (by decide) rfl (fun ls hl => ?_)
      obtain ⟨n9, hw⟩ := hw
      exact L201 v1 v4 n9 v2 v5 0 u H locs ls hP hD hS (lv_sub hl [1, 2, 3, 5, 6, 0] rfl) hw
    · replace hw := Eq.mp (if_neg c5) hw
      refine lv_aload_n hx hb dL_isWell_61 rfl (lv_at hl 0 rfl) ?_
      refine lv_iload hx hb dL_isWell_62 (lv_at hl 6 rfl) ?_
      refine gLSi (mc := 0) (ms := 0) (S := SX) (As := [.ref x, .int v6]) (rest := []) (wc := wX kI kC kG x ag at_ as_ hh hst a0 a1 a2 a3 tx tch u) (wr := []) (cs1 := (fun zz : SX => wX kI kC kG x ag at_ as_ hh hst a0 a1 a2 a3 tx tch zz)) (ws2 := (fun zz : SX => wX kI kC kG x ag at_ as_ hh hst a0 a1 a2 a3 tx tch zz)) ⟨hx, hb, hml, hown, hts⟩ (fun sz => kL_pieceOn l D kI kC kG kJ hlt x ag at_ as_ hh hst a0 a1 a2 a3 tx tch sz u v6 _ hw) (vx_cwSW 2 hts gL_isWell_L_pieceOn rfl rfl rfl hdL_pieceOn ⟨Nat.le_of_ble_eq_true rfl, Nat.le_of_ble_eq_true rfl⟩) hK hP hD hE hS hA [0, 1, 2, 3, 4, 5, 6, 7, 8, 9, 10, 11, 12, 13, 14, 15, 16, 17, 18, 19, 20, 21, 22, 23, 24, 25, 26, 27, 28, 29, 30, 31, 32] [] rfl rfl rfl rfl (by decide) [0, 1, 2, 3, 4, 5, 6, 7, 8, 9, 10, 11, 12, 13, 14, 15, 16, 17, 18, 19, 20, 21, 22, 23, 24, 25, 26, 27, 28, 29, 30, 31, 32] rfl (fun _ => rfl) rfl hl.1 rfl (Nat.le_of_ble_eq_true rfl) dL_isWell_64 ⟨Nat.le_of_ble_eq_true rfl, Nat.le_of_ble_eq_true rfl⟩ (fun r74 w74 H locs hw hP hD hS => ?_)
      have hP : va_P D vwCl (wX kI kC kG x ag at_ as_ hh hst a0 a1 a2 a3 tx tch w74) H := hP
      have hD : va_D A (wX kI kC kG x ag at_ as_ hh hst a0 a1 a2 a3 tx tch w74) := hD
      refine lv_istore (lv' := [(7, .int r74), (0, .ref x), (1, .int v1), (2, .int v2), (3, .int v3), (4, .int v4), (5, .int v5), (6, .int v6)]) hx hb dL_isWell_67 hl (by decide) rfl (fun ls hl => ?_)
      refine lv_iload_n hx hb dL_isWell_69 rfl (lv_at hl 2 rfl) ?_
      refine lv_iload hx hb dL_isWell_70 (lv_at hl 0 rfl) ?_
      refine lv_if_ge (tgt := 79) hx hb dL_isWell_72 (by decide) (fun c75 => ?_) (fun c75 => ?_)
      · replace hw := Eq.mp (if_pos c75) hw
        refine lv_iconst (v := 1) hx hb dL_isWell_79 (by decide) ?_
        refine lv_iadd hx hb dL_isWell_80 ?_
        refine lv_topi (fun x76 ex76 => ?_)
        replace hw := hw x76 ex76
        refine lv_istore_n (lv' := [(1, .int x76), (7, .int r74), (0, .ref x), (2, .int v2), (3, .int v3), (4, .int v4), (5, .int v5), (6, .int v6)]) hx hb dL_isWell_81 rfl hl (by decide) rfl (fun ls hl => ?_)
        obtain ⟨n9, hw⟩ := hw
        exact L82 v2 v3 v4 (pL_isWell_54 Z v2 v3 v4 n) ih n9 x76 v5 v6 r74 w74 H locs ls hP hD hS (lv_sub hl [2, 0, 3, 4, 5, 6, 7, 1] rfl) hw
      · replace hw := Eq.mp (if_neg c75) hw
        refine lv_iconst (v := 0) hx hb dL_isWell_75 (by decide) ?_
        refine lv_goto (tgt := 80) hx hb dL_isWell_76 (by decide) ?_
        refine lv_iadd hx hb dL_isWell_80 ?_
        refine lv_topi (fun x107 ex107 => ?_)
        replace hw := hw x107 ex107
        refine lv_istore_n (lv' := [(1, .int x107), (7, .int r74), (0, .ref x), (2, .int v2), (3, .int v3), (4, .int v4), (5, .int v5), (6, .int v6)]) hx hb dL_isWell_81 rfl hl (by decide) rfl (fun ls hl => ?_)
        obtain ⟨n9, hw⟩ := hw
        exact L82 v2 v3 v4 (pL_isWell_54 Z v2 v3 v4 n) ih n9 x107 v5 v6 r74 w74 H locs ls hP hD hS (lv_sub hl [2, 0, 3, 4, 5, 6, 7, 1] rfl) hw
  unfold pL_isWell at hw
  refine lv_iconst (v := 0) hx hb dL_isWell_0 (by decide) ?_
  refine lv_istore_n (lv' := [(1, .int 0), (0, .ref x)]) hx hb dL_isWell_1 rfl hl (by decide) rfl (fun ls hl => ?_)
  refine lv_iconst (v := 0) hx hb dL_isWell_2 (by decide) ?_
  refine lv_istore_n (lv' := [(2, .int 0), (1, .int 0), (0, .ref x)]) hx hb dL_isWell_3 rfl hl (by decide) rfl (fun ls hl => ?_)
  refine lv_aload_n hx hb dL_isWell_4 rfl (lv_at hl 2 rfl) ?_
  refine gWVi (S := SX) (As := []) (rest := []) (wc := wX kI kC kG x ag at_ as_ hh hst a0 a1 a2 a3 tx tch u) (wr := []) (cs1 := (fun zz : SX => wX kI kC kG x ag at_ as_ hh hst a0 a1 a2 a3 tx tch zz)) (ws2 := (fun zz : SX => wX kI kC kG x ag at_ as_ hh hst a0 a1 a2 a3 tx tch zz)) ⟨hx, hb, hml, hown, hts⟩ (fun sz => kX5_safeByTrying l D kI kC kG kJ x ag at_ as_ hh hst a0 a1 a2 a3 tx tch sz u _ hw) (cwV 0 hts gL_isWell_X5_safeByTrying rfl rfl rfl hdX5_safeByTrying ⟨Nat.le_of_ble_eq_true rfl, Nat.le_of_ble_eq_true rfl⟩) hK hP hD hE hS hA [0, 1, 2, 3, 4, 5, 6, 7, 8, 9, 10, 11, 12, 13, 14, 15, 16, 17, 18, 19, 20, 21, 22, 23, 24, 25, 26, 27, 28, 29, 30, 31, 32] [] rfl rfl rfl rfl (by decide) [0, 1, 2, 3, 4, 5, 6, 7, 8, 9, 10, 11, 12, 13, 14, 15, 16, 17, 18, 19, 20, 21, 22, 23, 24, 25, 26, 27, 28, 29, 30, 31, 32] rfl (fun _ => rfl) (ci := 4) (q0 := 0) rfl rfl rfl rfl hl.1 rfl (Nat.le_of_ble_eq_true rfl) dL_isWell_5 ⟨Nat.le_of_ble_eq_true rfl, Nat.le_of_ble_eq_true rfl⟩ (fun r1 w1 H locs hw hP hD hS => ?_)
  have hP : va_P D vwCl (wX kI kC kG x ag at_ as_ hh hst a0 a1 a2 a3 tx tch w1) H := hP
  have hD : va_D A (wX kI kC kG x ag at_ as_ hh hst a0 a1 a2 a3 tx tch w1) := hD
  refine lv_istore_n (lv' := [(3, .int r1), (2, .int 0), (1, .int 0), (0, .ref x)]) hx hb dL_isWell_8 rfl hl (by decide) rfl (fun ls hl => ?_)
  refine lv_aload_n hx hb dL_isWell_9 rfl (lv_at hl 3 rfl) ?_
  refine gVi (As := []) (rest := []) (cs' := wX kI kC kG x ag at_ as_ hh hst a0 a1 a2 a3 tx tch w1) ⟨hx, hb, hml, hown, hts⟩ (kX5_isOver l D kI kC kG kJ x ag at_ as_ hh hst a0 a1 a2 a3 tx tch w1 _ hw) (cwV 0 hts gL_isWell_X5_isOver rfl rfl rfl hdX5_isOver ⟨Nat.le_of_ble_eq_true rfl, Nat.le_of_ble_eq_true rfl⟩) hK hP hE hS [0, 1, 2, 3, 4, 5, 6, 7, 8, 9, 10, 11, 12, 13, 14, 15, 16, 17, 18, 19, 20, 21, 22, 23, 24, 25, 26, 27, 28, 29, 30, 31, 32] rfl (ci := 4) (q0 := 0) rfl rfl rfl rfl hl.1 rfl (Nat.le_of_ble_eq_true rfl) dL_isWell_10 ⟨Nat.le_of_ble_eq_true rfl, Nat.le_of_ble_eq_true rfl⟩ (fun r2 hw => ?_)
  refine lv_istore (lv' := [(4, .int r2), (3, .int r1), (2, .int 0), (1, .int 0), (0, .ref x)]) hx hb dL_isWell_13 hl (by decide) rfl (fun ls hl => ?_)
  refine lv_iload_n hx hb dL_isWell_15 rfl (lv_at hl 1 rfl) ?_
  refine lv_aload_n hx hb dL_isWell_16 rfl (lv_at hl 4 rfl) ?_
  refine gVi (As := []) (rest := [.int r1]) (cs' := wX kI kC kG x ag at_ as_ hh hst a0 a1 a2 a3 tx tch w1) ⟨hx, hb, hml, hown, hts⟩ (kX5_safeByLines l D kI kC kG kJ x ag at_ as_ hh hst a0 a1 a2 a3 tx tch w1 _ hw) (cwV 0 hts gL_isWell_X5_safeByLines rfl rfl rfl hdX5_safeByLines ⟨Nat.le_of_ble_eq_true rfl, Nat.le_of_ble_eq_true rfl⟩) hK hP hE hS [0, 1, 2, 3, 4, 5, 6, 7, 8, 9, 10, 11, 12, 13, 14, 15, 16, 17, 18, 19, 20, 21, 22, 23, 24, 25, 26, 27, 28, 29, 30, 31, 32] rfl (ci := 4) (q0 := 0) rfl rfl rfl rfl hl.1 rfl (Nat.le_of_ble_eq_true rfl) dL_isWell_17 ⟨Nat.le_of_ble_eq_true rfl, Nat.le_of_ble_eq_true rfl⟩ (fun r3 hw => ?_)
  refine lv_icmp_ne (tgt := 48) hx hb dL_isWell_20 (by decide) (fun c4 => ?_) (fun c4 => ?_)
  · replace hw := Eq.mp (if_neg c4) hw
    refine lv_iconst (v := 0) hx hb dL_isWell_48 (by decide) ?_
    refine lv_istore (lv' := [(5, .int 0), (4, .int r2), (3, .int r1), (2, .int 0), (1, .int 0), (0, .ref x)]) hx hb dL_isWell_49 hl (by decide) rfl (fun ls hl => ?_)
    refine lv_iconst (v := 0) hx hb dL_isWell_51 (by decide) ?_
    refine lv_istore (lv' := [(6, .int 0), (5, .int 0), (4, .int r2), (3, .int r1), (2, .int 0), (1, .int 0), (0, .ref x)]) hx hb dL_isWell_52 hl (by decide) rfl (fun ls hl => ?_)
    obtain ⟨n9, hw⟩ := hw
    exact L54 0 r1 r2 n9 0 0 0 w1 H locs ls hP hD hS (lv_sub hl [6, 5, 4, 3, 2, 1, 0] rfl) hw
  · replace hw := Eq.mp (if_pos c4) hw
    refine lv_aload_n hx hb dL_isWell_23 rfl (lv_at hl 4 rfl) ?_
    refine gVi (As := []) (rest := []) (cs' := wX kI kC kG x ag at_ as_ hh hst a0 a1 a2 a3 tx tch w1) ⟨hx, hb, hml, hown, hts⟩ (kX5_lines l D kI kC kG kJ x ag at_ as_ hh hst a0 a1 a2 a3 tx tch w1 _ hw) (cwV 0 hts gL_isWell_X5_lines rfl rfl rfl hdX5_lines ⟨Nat.le_of_ble_eq_true rfl, Nat.le_of_ble_eq_true rfl⟩) hK hP hE hS [0, 1, 2, 3, 4, 5, 6, 7, 8, 9, 10, 11, 12, 13, 14, 15, 16, 17, 18, 19, 20, 21, 22, 23, 24, 25, 26, 27, 28, 29, 30, 31, 32] rfl (ci := 4) (q0 := 0) rfl rfl rfl rfl hl.1 rfl (Nat.le_of_ble_eq_true rfl) dL_isWell_24 ⟨Nat.le_of_ble_eq_true rfl, Nat.le_of_ble_eq_true rfl⟩ (fun r108 hw => ?_)
    refine lv_aload_n hx hb dL_isWell_27 rfl (lv_at hl 4 rfl) ?_
    refine gVi (As := []) (rest := [.int r108]) (cs' := wX kI kC kG x ag at_ as_ hh hst a0 a1 a2 a3 tx tch w1) ⟨hx, hb, hml, hown, hts⟩ (kX5_rule l D kI kC kG kJ x ag at_ as_ hh hst a0 a1 a2 a3 tx tch w1 _ hw) (cwV 0 hts gL_isWell_X5_rule rfl rfl rfl hdX5_rule ⟨Nat.le_of_ble_eq_true rfl, Nat.le_of_ble_eq_true rfl⟩) hK hP hE hS [0, 1, 2, 3, 4, 5, 6, 7, 8, 9, 10, 11, 12, 13, 14, 15, 16, 17, 18, 19, 20, 21, 22, 23, 24, 25, 26, 27, 28, 29, 30, 31, 32] rfl (ci := 4) (q0 := 0) rfl rfl rfl rfl hl.1 rfl (Nat.le_of_ble_eq_true rfl) dL_isWell_28 ⟨Nat.le_of_ble_eq_true rfl, Nat.le_of_ble_eq_true rfl⟩ (fun r109 hw => ?_)
    refine lv_if_ne (tgt := 39) hx hb dL_isWell_31 (by decide) (fun c110 => ?_) (fun c110 => ?_)
    · replace hw := Eq.mp (if_neg c110) hw
      refine lv_bipush (v := 19) hx hb dL_isWell_39 (by decide) ?_
      refine lv_icmp_ne (tgt := 48) hx hb dL_isWell_41 (by decide) (fun c111 => ?_) (fun c111 => ?_)
      · replace hw := Eq.mp (if_neg c111) hw
        refine lv_iconst (v := 0) hx hb dL_isWell_48 (by decide) ?_
        refine lv_istore (lv' := [(5, .int 0), (4, .int r2), (3, .int r1), (2, .int 0), (1, .int 0), (0, .ref x)]) hx hb dL_isWell_49 hl (by decide) rfl (fun ls hl => ?_)
        refine lv_iconst (v := 0) hx hb dL_isWell_51 (by decide) ?_
        refine lv_istore (lv' := [(6, .int 0), (5, .int 0), (4, .int r2), (3, .int r1), (2, .int 0), (1, .int 0), (0, .ref x)]) hx hb dL_isWell_52 hl (by decide) rfl (fun ls hl => ?_)
        obtain ⟨n9, hw⟩ := hw
        exact L54 0 r1 r2 n9 0 0 0 w1 H locs ls hP hD hS (lv_sub hl [6, 5, 4, 3, 2, 1, 0] rfl) hw
      · replace hw := Eq.mp (if_pos c111) hw
        refine lv_iconst (v := 1) hx hb dL_isWell_44 (by decide) ?_
        refine lv_goto (tgt := 49) hx hb dL_isWell_45 (by decide) ?_
        refine lv_istore (lv' := [(5, .int 1), (4, .int r2), (3, .int r1), (2, .int 0), (1, .int 0), (0, .ref x)]) hx hb dL_isWell_49 hl (by decide) rfl (fun ls hl => ?_)
        refine lv_iconst (v := 0) hx hb dL_isWell_51 (by decide) ?_
        refine lv_istore (lv' := [(6, .int 0), (5, .int 1), (4, .int r2), (3, .int r1), (2, .int 0), (1, .int 0), (0, .ref x)]) hx hb dL_isWell_52 hl (by decide) rfl (fun ls hl => ?_)
        obtain ⟨n9, hw⟩ := hw
        exact L54 0 r1 r2 n9 0 1 0 w1 H locs ls hP hD hS (lv_sub hl [6, 5, 4, 3, 2, 1, 0] rfl) hw
    · replace hw := Eq.mp (if_pos c110) hw
      refine lv_bipush (v := 10) hx hb dL_isWell_34 (by decide) ?_
      refine lv_goto (tgt := 41) hx hb dL_isWell_36 (by decide) ?_
      refine lv_icmp_ne (tgt := 48) hx hb dL_isWell_41 (by decide) (fun c112 => ?_) (fun c112 => ?_)
      · replace hw := Eq.mp (if_neg c112) hw
        refine lv_iconst (v := 0) hx hb dL_isWell_48 (by decide) ?_
        refine lv_istore (lv' := [(5, .int 0), (4, .int r2), (3, .int r1), (2, .int 0), (1, .int 0), (0, .ref x)]) hx hb dL_isWell_49 hl (by decide) rfl (fun ls hl => ?_)
        refine lv_iconst (v := 0) hx hb dL_isWell_51 (by decide) ?_
        refine lv_istore (lv' := [(6, .int 0), (5, .int 0), (4, .int r2), (3, .int r1), (2, .int 0), (1, .int 0), (0, .ref x)]) hx hb dL_isWell_52 hl (by decide) rfl (fun ls hl => ?_)
        obtain ⟨n9, hw⟩ := hw
        exact L54 0 r1 r2 n9 0 0 0 w1 H locs ls hP hD hS (lv_sub hl [6, 5, 4, 3, 2, 1, 0] rfl) hw
      · replace hw := Eq.mp (if_pos c112) hw
        refine lv_iconst (v := 1) hx hb dL_isWell_44 (by decide) ?_
        refine lv_goto (tgt := 49) hx hb dL_isWell_45 (by decide) ?_
        refine lv_istore (lv' := [(5, .int 1), (4, .int r2), (3, .int r1), (2, .int 0), (1, .int 0), (0, .ref x)]) hx hb dL_isWell_49 hl (by decide) rfl (fun ls hl => ?_)
        refine lv_iconst (v := 0) hx hb dL_isWell_51 (by decide) ?_
        refine lv_istore (lv' := [(6, .int 0), (5, .int 1), (4, .int r2), (3, .int r1), (2, .int 0), (1, .int 0), (0, .ref x)]) hx hb dL_isWell_52 hl (by decide) rfl (fun ls hl => ?_)
        obtain ⟨n9, hw⟩ := hw
        exact L54 0 r1 r2 n9 0 1 0 w1 H locs ls hP hD hS (lv_sub hl [6, 5, 4, 3, 2, 1, 0] rfl) hw
