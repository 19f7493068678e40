set_option maxHeartbeats 4000000 in
set_option maxRecDepth 100000 in
theorem kL_text (l : Launch) (D : va_G) (kI kC kG kJ : ClassId) (hlt : l.stackTraces = false) (x : Nat) (ag at_ as_ : AG) (hh hst : Nat) (a0 a1 a2 a3 : AG) (tx tch : Nat) (sz : Nat) (u : SX) (p1 : Int32) (p2 : Int32) (Z : Int32 → SX → Prop) (hw : pL_text p1 p2 u Z) : Met l yL_text wsL_text ({ frames := 10, cells := 2, slots := 12, locals := 209 } : Room) (gPw D (gT kI kC kG kJ) [.ref x, .int p1, .int p2] (wX kI kC kG x ag at_ as_ hh hst a0 a1 a2 a3 tx tch u) sz) (va_Qi Z (gB D (gT kI kC kG kJ) (fun (zz : SX) => wX kI kC kG x ag at_ as_ hh hst a0 a1 a2 a3 tx tch zz) (va_A (wX kI kC kG x ag at_ as_ hh hst a0 a1 a2 a3 tx tch u) sz)) (va_A (wX kI kC kG x ag at_ as_ hh hst a0 a1 a2 a3 tx tch u) sz)) 2 12 (va_A (wX kI kC kG x ag at_ as_ hh hst a0 a1 a2 a3 tx tch u) sz) := by
  refine Met.ofW (cc := cL_text) (maxL := 4) (ret := (some .int)) (by decide) rfl ?_
  intro p e s m args below meth c s₁ B hml hv
  obtain ⟨rfl, hsz, hP, hK, hD0, hE⟩ := hv
  have hx := B.exec
  have hb := B.bytes
  have hr := B.returns
  have hts := atoms_spec (ws := wsL_text) B.pre
  have hown : s.vm.findClass RL = some m.cls := findClass_of_methodNamed B.named
  have hlocks := B.notSynchronized
  subst hsz
  have hD := hD0.self (sz := s.heap.size)
  generalize hAe : va_A (wX kI kC kG x ag at_ as_ hh hst a0 a1 a2 a3 tx tch u) s.heap.size = A at hD hE ⊢
  have hA : ∀ q : Nat, s.heap.size ≤ q → A q := fun q h => by rw [← hAe]; exact Or.inr h
  have hS : va_S A s.heap s.heap [] := va_S.rf
  clear hAe hD0
  have hl := lv_entry ([.ref x, .int p1, .int p2]) (n := 4) (Nat.le_of_ble_eq_true rfl)
  rw [lg_entry_eq]
  generalize (lg_sl ([.ref x, .int p1, .int p2]) ++ List.replicate (4 - (lg_sl ([.ref x, .int p1, .int p2])).length) Slot.unset).toArray = ls at hl ⊢
  have hl : lv_has ls 4 [(0, .ref x), (1, .int p1), (2, .int p2)] := hl
  have hP : va_P D vwCl (wX kI kC kG x ag at_ as_ hh hst a0 a1 a2 a3 tx tch u) s.heap := hP
  unfold pL_text at hw
  refine lv_aload_n hx hb dL_text_0 rfl (lv_at hl 0 rfl) ?_
  refine gWVi (S := SX) (As := []) (rest := []) (wc := wX kI kC kG x ag at_ as_ hh hst a0 a1 a2 a3 tx tch u) (wr := []) (cs1 := (fun zz : SX => wX kI kC kG x ag at_ as_ hh hst a0 a1 a2 a3 tx tch zz)) (ws2 := (fun zz : SX => wX kI kC kG x ag at_ as_ hh hst a0 a1 a2 a3 tx tch zz)) ⟨hx, hb, hml, hown, hts⟩ (fun sz => kX5_clearText l D kI kC kG kJ x ag at_ as_ hh hst a0 a1 a2 a3 tx tch sz u _ hw) (cwV 0 hts gL_text_X5_clearText rfl rfl rfl hdX5_clearText ⟨Nat.le_of_ble_eq_true rfl, Nat.le_of_ble_eq_true rfl⟩) hK hP hD hE hS hA [0, 1, 2, 3, 4, 5, 6, 7, 8, 9, 10, 11, 12, 13, 14, 15, 16, 17, 18, 19, 20, 21, 22, 23, 24, 25, 26, 27, 28, 29, 30, 31, 32] [] rfl rfl rfl rfl (by decide) [0, 1, 2, 3, 4, 5, 6, 7, 8, 9, 10, 11, 12, 13, 14, 15, 16, 17, 18, 19, 20, 21, 22, 23, 24, 25, 26, 27, 28, 29, 30, 31, 32] rfl (fun _ => rfl) (ci := 4) (q0 := 0) rfl rfl rfl rfl hl.1 rfl (Nat.le_of_ble_eq_true rfl) dL_text_1 ⟨Nat.le_of_ble_eq_true rfl, Nat.le_of_ble_eq_true rfl⟩ (fun r1 w1 H locs hw hP hD hS => ?_)
  have hP : va_P D vwCl (wX kI kC kG x ag at_ as_ hh hst a0 a1 a2 a3 tx tch w1) H := hP
  have hD : va_D A (wX kI kC kG x ag at_ as_ hh hst a0 a1 a2 a3 tx tch w1) := hD
  refine lv_if_lt (tgt := 51) hx hb dL_text_4 (by decide) (fun c2 => ?_) (fun c2 => ?_)
  · replace hw := Eq.mp (if_pos c2) hw
    refine lv_iconst (v := 0) hx hb dL_text_51 (by decide) ?_
    refine lv_istore_n (lv' := [(3, .int 0), (0, .ref x), (1, .int p1), (2, .int p2)]) hx hb dL_text_52 rfl hl (by decide) rfl (fun ls hl => ?_)
    refine lv_iload_n hx hb dL_text_53 rfl (lv_at hl 0 rfl) ?_
    refine lv_if_eq (tgt := 64) hx hb dL_text_54 (by decide) (fun c3 => ?_) (fun c3 => ?_)
    · skip
      refine lv_bipush (v := (-99)) hx hb dL_text_64 (by decide) ?_
      refine W.widen (k := 2) (n := 12) (Nat.le_of_ble_eq_true rfl) (Nat.le_of_ble_eq_true rfl) ?_
      exact W.iret (v := (-99)) hx hb hr (fun t ht hW => ⟨⟨(-99), w1, rfl, hw, by rw [ht]; exact hP, va_K.moved hW.alike hK, hD⟩, hS.F ht⟩) hS.2.2 dL_text_66
    · first | exact absurd (by decide) c3 | exact absurd c3 (by decide)
  · replace hw := Eq.mp (if_neg c2) hw
    refine lv_aload_n hx hb dL_text_7 rfl (lv_at hl 0 rfl) ?_
    refine lv_iload_n hx hb dL_text_8 rfl (lv_at hl 1 rfl) ?_
    refine gLSi (mc := 0) (ms := 0) (S := SX) (As := [.ref x, .int p1]) (rest := []) (wc := wX kI kC kG x ag at_ as_ hh hst a0 a1 a2 a3 tx tch w1) (wr := []) (cs1 := (fun zz : SX => wX kI kC kG x ag at_ as_ hh hst a0 a1 a2 a3 tx tch zz)) (ws2 := (fun zz : SX => wX kI kC kG x ag at_ as_ hh hst a0 a1 a2 a3 tx tch zz)) ⟨hx, hb, hml, hown, hts⟩ (fun sz => kL_type l D kI kC kG kJ hlt x ag at_ as_ hh hst a0 a1 a2 a3 tx tch sz w1 p1 _ hw) (vx_cwSW 2 hts gL_text_L_type rfl rfl rfl hdL_type ⟨Nat.le_of_ble_eq_true rfl, Nat.le_of_ble_eq_true rfl⟩) hK hP hD hE hS hA [0, 1, 2, 3, 4, 5, 6, 7, 8, 9, 10, 11, 12, 13, 14, 15, 16, 17, 18, 19, 20, 21, 22, 23, 24, 25, 26, 27, 28, 29, 30, 31, 32] [] rfl rfl rfl rfl (by decide) [0, 1, 2, 3, 4, 5, 6, 7, 8, 9, 10, 11, 12, 13, 14, 15, 16, 17, 18, 19, 20, 21, 22, 23, 24, 25, 26, 27, 28, 29, 30, 31, 32] rfl (fun _ => rfl) rfl hl.1 rfl (Nat.le_of_ble_eq_true rfl) dL_text_9 ⟨Nat.le_of_ble_eq_true rfl, Nat.le_of_ble_eq_true rfl⟩ (fun r4 w4 H locs hw hP hD hS => ?_)
    have hP : va_P D vwCl (wX kI kC kG x ag at_ as_ hh hst a0 a1 a2 a3 tx tch w4) H := hP
    have hD : va_D A (wX kI kC kG x ag at_ as_ hh hst a0 a1 a2 a3 tx tch w4) := hD
    refine lv_iconst (v := 1) hx hb dL_text_12 (by decide) ?_
    refine lv_icmp_ne (tgt := 51) hx hb dL_text_13 (by decide) (fun c5 => ?_) (fun c5 => ?_)
    · replace hw := Eq.mp (if_neg c5) hw
      refine lv_iconst (v := 0) hx hb dL_text_51 (by decide) ?_
      refine lv_istore_n (lv' := [(3, .int 0), (0, .ref x), (1, .int p1), (2, .int p2)]) hx hb dL_text_52 rfl hl (by decide) rfl (fun ls hl => ?_)
      refine lv_iload_n hx hb dL_text_53 rfl (lv_at hl 0 rfl) ?_
      refine lv_if_eq (tgt := 64) hx hb dL_text_54 (by decide) (fun c6 => ?_) (fun c6 => ?_)
      · skip
        refine lv_bipush (v := (-99)) hx hb dL_text_64 (by decide) ?_
        refine W.widen (k := 2) (n := 12) (Nat.le_of_ble_eq_true rfl) (Nat.le_of_ble_eq_true rfl) ?_
        exact W.iret (v := (-99)) hx hb hr (fun t ht hW => ⟨⟨(-99), w4, rfl, hw, by rw [ht]; exact hP, va_K.moved hW.alike hK, hD⟩, hS.F ht⟩) hS.2.2 dL_text_66
      · first | exact absurd (by decide) c6 | exact absurd c6 (by decide)
    · replace hw := Eq.mp (if_pos c5) hw
      refine lv_iload_n hx hb dL_text_16 rfl (lv_at hl 2 rfl) ?_
      refine lv_bipush (v := 10) hx hb dL_text_17 (by decide) ?_
      refine lv_icmp_lt (tgt := 32) hx hb dL_text_19 (by decide) (fun c7 => ?_) (fun c7 => ?_)
      · replace hw := Eq.mp (if_pos c7) hw
        refine lv_aload_n hx hb dL_text_32 rfl (lv_at hl 0 rfl) ?_
        refine lv_bipush (v := 48) hx hb dL_text_33 (by decide) ?_
        refine lv_iload_n hx hb dL_text_35 rfl (lv_at hl 2 rfl) ?_
        refine lv_bipush (v := 10) hx hb dL_text_36 (by decide) ?_
        refine lv_irem hx hb dL_text_38 (by decide) ?_
        refine lv_iadd hx hb dL_text_39 ?_
        refine gLSi (mc := 0) (ms := 0) (S := SX) (As := [.ref x, .int (48 + (p2 - p2 / 10 * 10))]) (rest := []) (wc := wX kI kC kG x ag at_ as_ hh hst a0 a1 a2 a3 tx tch w4) (wr := []) (cs1 := (fun zz : SX => wX kI kC kG x ag at_ as_ hh hst a0 a1 a2 a3 tx tch zz)) (ws2 := (fun zz : SX => wX kI kC kG x ag at_ as_ hh hst a0 a1 a2 a3 tx tch zz)) ⟨hx, hb, hml, hown, hts⟩ (fun sz => kL_type l D kI kC kG kJ hlt x ag at_ as_ hh hst a0 a1 a2 a3 tx tch sz w4 (48 + (p2 - p2 / 10 * 10)) _ hw) (vx_cwSW 2 hts gL_text_L_type rfl rfl rfl hdL_type ⟨Nat.le_of_ble_eq_true rfl, Nat.le_of_ble_eq_true rfl⟩) hK hP hD hE hS hA [0, 1, 2, 3, 4, 5, 6, 7, 8, 9, 10, 11, 12, 13, 14, 15, 16, 17, 18, 19, 20, 21, 22, 23, 24, 25, 26, 27, 28, 29, 30, 31, 32] [] rfl rfl rfl rfl (by decide) [0, 1, 2, 3, 4, 5, 6, 7, 8, 9, 10, 11, 12, 13, 14, 15, 16, 17, 18, 19, 20, 21, 22, 23, 24, 25, 26, 27, 28, 29, 30, 31, 32] rfl (fun _ => rfl) rfl hl.1 rfl (Nat.le_of_ble_eq_true rfl) dL_text_40 ⟨Nat.le_of_ble_eq_true rfl, Nat.le_of_ble_eq_true rfl⟩ (fun r8 w8 H locs hw hP hD hS => ?_)
        have hP : va_P D vwCl (wX kI kC kG x ag at_ as_ hh hst a0 a1 a2 a3 tx tch w8) H := hP
        have hD : va_D A (wX kI kC kG x ag at_ as_ hh hst a0 a1 a2 a3 tx tch w8) := hD
        refine lv_iconst (v := 4) hx hb dL_text_43 (by decide) ?_
        refine lv_icmp_ge (tgt := 51) hx hb dL_text_44 (by decide) (fun c9 => ?_) (fun c9 => ?_)
        · replace hw := Eq.mp (if_pos c9) hw
          refine lv_iconst (v := 0) hx hb dL_text_51 (by decide) ?_
          refine lv_istore_n (lv' := [(3, .int 0), (0, .ref x), (1, .int p1), (2, .int p2)]) hx hb dL_text_52 rfl hl (by decide) rfl (fun ls hl => ?_)
          refine lv_iload_n hx hb dL_text_53 rfl (lv_at hl 0 rfl) ?_
          refine lv_if_eq (tgt := 64) hx hb dL_text_54 (by decide) (fun c10 => ?_) (fun c10 => ?_)
          · skip
            refine lv_bipush (v := (-99)) hx hb dL_text_64 (by decide) ?_
            refine W.widen (k := 2) (n := 12) (Nat.le_of_ble_eq_true rfl) (Nat.le_of_ble_eq_true rfl) ?_
            exact W.iret (v := (-99)) hx hb hr (fun t ht hW => ⟨⟨(-99), w8, rfl, hw, by rw [ht]; exact hP, va_K.moved hW.alike hK, hD⟩, hS.F ht⟩) hS.2.2 dL_text_66
          · first | exact absurd (by decide) c10 | exact absurd c10 (by decide)
        · replace hw := Eq.mp (if_neg c9) hw
          refine lv_iconst (v := 1) hx hb dL_text_47 (by decide) ?_
          refine lv_goto (tgt := 52) hx hb dL_text_48 (by decide) ?_
          refine lv_istore_n (lv' := [(3, .int 1), (0, .ref x), (1, .int p1), (2, .int p2)]) hx hb dL_text_52 rfl hl (by decide) rfl (fun ls hl => ?_)
          refine lv_iload_n hx hb dL_text_53 rfl (lv_at hl 0 rfl) ?_
          refine lv_if_eq (tgt := 64) hx hb dL_text_54 (by decide) (fun c11 => ?_) (fun c11 => ?_)
          · exact absurd c11 (by decide)
          refine lv_aload_n hx hb dL_text_57 rfl (lv_at hl 1 rfl) ?_
          refine gLSi (mc := 2) (ms := 12) (S := SX) (As := [.ref x]) (rest := []) (wc := wX kI kC kG x ag at_ as_ hh hst a0 a1 a2 a3 tx tch w8) (wr := []) (cs1 := (fun zz : SX => wX kI kC kG x ag at_ as_ hh hst a0 a1 a2 a3 tx tch zz)) (ws2 := (fun zz : SX => wX kI kC kG x ag at_ as_ hh hst a0 a1 a2 a3 tx tch zz)) ⟨hx, hb, hml, hown, hts⟩ (fun sz => kL_carryOut l D kI kC kG kJ hlt x ag at_ as_ hh hst a0 a1 a2 a3 tx tch sz w8 _ hw) (vx_cwSW 1 hts gL_text_L_carryOut rfl rfl rfl hdL_carryOut ⟨Nat.le_of_ble_eq_true rfl, Nat.le_of_ble_eq_true rfl⟩) hK hP hD hE hS hA [0, 1, 2, 3, 4, 5, 6, 7, 8, 9, 10, 11, 12, 13, 14, 15, 16, 17, 18, 19, 20, 21, 22, 23, 24, 25, 26, 27, 28, 29, 30, 31, 32] [] rfl rfl rfl rfl (by decide) [0, 1, 2, 3, 4, 5, 6, 7, 8, 9, 10, 11, 12, 13, 14, 15, 16, 17, 18, 19, 20, 21, 22, 23, 24, 25, 26, 27, 28, 29, 30, 31, 32] rfl (fun _ => rfl) rfl hl.1 rfl (Nat.le_of_ble_eq_true rfl) dL_text_58 ⟨Nat.le_of_ble_eq_true rfl, Nat.le_of_ble_eq_true rfl⟩ (fun r12 w12 H locs hw hP hD hS => ?_)
          have hP : va_P D vwCl (wX kI kC kG x ag at_ as_ hh hst a0 a1 a2 a3 tx tch w12) H := hP
          have hD : va_D A (wX kI kC kG x ag at_ as_ hh hst a0 a1 a2 a3 tx tch w12) := hD
          refine lv_goto (tgt := 66) hx hb dL_text_61 (by decide) ?_
          refine W.widen (k := 2) (n := 12) (Nat.le_of_ble_eq_true rfl) (Nat.le_of_ble_eq_true rfl) ?_
          exact W.iret (v := r12) hx hb hr (fun t ht hW => ⟨⟨r12, w12, rfl, hw, by rw [ht]; exact hP, va_K.moved hW.alike hK, hD⟩, hS.F ht⟩) hS.2.2 dL_text_66
      · replace hw := Eq.mp (if_neg c7) hw
        refine lv_aload_n hx hb dL_text_22 rfl (lv_at hl 0 rfl) ?_
        refine lv_bipush (v := 49) hx hb dL_text_23 (by decide) ?_
        refine gLSi (mc := 0) (ms := 0) (S := SX) (As := [.ref x, .int 49]) (rest := []) (wc := wX kI kC kG x ag at_ as_ hh hst a0 a1 a2 a3 tx tch w4) (wr := []) (cs1 := (fun zz : SX => wX kI kC kG x ag at_ as_ hh hst a0 a1 a2 a3 tx tch zz)) (ws2 := (fun zz : SX => wX kI kC kG x ag at_ as_ hh hst a0 a1 a2 a3 tx tch zz)) ⟨hx, hb, hml, hown, hts⟩ (fun sz => kL_type l D kI kC kG kJ hlt x ag at_ as_ hh hst a0 a1 a2 a3 tx tch sz w4 49 _ hw) (vx_cwSW 2 hts gL_text_L_type rfl rfl rfl hdL_type ⟨Nat.le_of_ble_eq_true rfl, Nat.le_of_ble_eq_true rfl⟩) hK hP hD hE hS hA [0, 1, 2, 3, 4, 5, 6, 7, 8, 9, 10, 11, 12, 13, 14, 15, 16, 17, 18, 19, 20, 21, 22, 23, 24, 25, 26, 27, 28, 29, 30, 31, 32] [] rfl rfl rfl rfl (by decide) [0, 1, 2, 3, 4, 5, 6, 7, 8, 9, 10, 11, 12, 13, 14, 15, 16, 17, 18, 19, 20, 21, 22, 23, 24, 25, 26, 27, 28, 29, 30, 31, 32] rfl (fun _ => rfl) rfl hl.1 rfl (Nat.le_of_ble_eq_true rfl) dL_text_25 ⟨Nat.le_of_ble_eq_true rfl, Nat.le_of_ble_eq_true rfl⟩ (fun r13 w13 H locs hw hP hD hS => ?_)
        have hP : va_P D vwCl (wX kI kC kG x ag at_ as_ hh hst a0 a1 a2 a3 tx tch w13) H := hP
        have hD : va_D A (wX kI kC kG x ag at_ as_ hh hst a0 a1 a2 a3 tx tch w13) := hD
        refine lv_iconst (v := 2) hx hb dL_text_28 (by decide) ?_
        refine lv_icmp_ne (tgt := 51) hx hb dL_text_29 (by decide) (fun c14 => ?_) (fun c14 => ?_)
        · replace hw := Eq.mp (if_neg c14) hw
          refine lv_iconst (v := 0) hx hb dL_text_51 (by decide) ?_
          refine lv_istore_n (lv' := [(3, .int 0), (0, .ref x), (1, .int p1), (2, .int p2)]) hx hb dL_text_52 rfl hl (by decide) rfl (fun ls hl => ?_)
          refine lv_iload_n hx hb dL_text_53 rfl (lv_at hl 0 rfl) ?_
          refine lv_if_eq (tgt := 64) hx hb dL_text_54 (by decide) (fun c15 => ?_) (fun c15 => ?_)
          · skip
            refine lv_bipush (v := (-99)) hx hb dL_text_64 (by decide) ?_
            refine W.widen (k := 2) (n := 12) (Nat.le_of_ble_eq_true rfl) (Nat.le_of_ble_eq_true rfl) ?_
            exact W.iret (v := (-99)) hx hb hr (fun t ht hW => ⟨⟨(-99), w13, rfl, hw, by rw [ht]; exact hP, va_K.moved hW.alike hK, hD⟩, hS.F ht⟩) hS.2.2 dL_text_66
          · first | exact absurd (by decide) c15 | exact absurd c15 (by decide)
        · replace hw := Eq.mp (if_pos c14) hw
          refine lv_aload_n hx hb dL_text_32 rfl (lv_at hl 0 rfl) ?_
          refine lv_bipush (v := 48) hx hb dL_text_33 (by decide) ?_
          refine lv_iload_n hx hb dL_text_35 rfl (lv_at hl 2 rfl) ?_
          refine lv_bipush (v := 10) hx hb dL_text_36 (by decide) ?_
          refine lv_irem hx hb dL_text_38 (by decide) ?_
          refine lv_iadd hx hb dL_text_39 ?_
          refine gLSi (mc := 0) (ms := 0) (S := SX) (As := [.ref x, .int (48 + (p2 - p2 / 10 * 10))]) (rest := []) (wc := wX kI kC kG x ag at_ as_ hh hst a0 a1 a2 a3 tx tch w13) (wr := []) (cs1 := (fun zz : SX => wX kI kC kG x ag at_ as_ hh hst a0 a1 a2 a3 tx tch zz)) (ws2 := (fun zz : SX => wX kI kC kG x ag at_ as_ hh hst a0 a1 a2 a3 tx tch zz)) ⟨hx, hb, hml, hown, hts⟩ (fun sz => kL_type l D kI kC kG kJ hlt x ag at_ as_ hh hst a0 a1 a2 a3 tx tch sz w13 (48 + (p2 - p2 / 10 * 10)) _ hw) (vx_cwSW 2 hts gL_text_L_type rfl rfl rfl hdL_type ⟨Nat.le_of_ble_eq_true rfl, Nat.le_of_ble_eq_true rfl⟩) hK hP hD hE hS hA [0, 1, 2, 3, 4, 5, 6, 7, 8, 9, 10, 11, 12, 13, 14, 15, 16, 17, 18, 19, 20, 21, 22, 23, 24, 25, 26, 27, 28, 29, 30, 31, 32] [] rfl rfl rfl rfl (by decide) [0, 1, 2, 3, 4, 5, 6, 7, 8, 9, 10, 11, 12, 13, 14, 15, 16, 17, 18, 19, 20, 21, 22, 23, 24, 25, 26, 27, 28, 29, 30, 31, 32] rfl (fun _ => rfl) rfl hl.1 rfl (Nat.le_of_ble_eq_true rfl) dL_text_40 ⟨Nat.le_of_ble_eq_true rfl, Nat.le_of_ble_eq_true rfl⟩ (fun r16 w16 H locs hw hP hD hS => ?_)
          have hP : va_P D vwCl (wX kI kC kG x ag at_ as_ hh hst a0 a1 a2 a3 tx tch w16) H := hP
          have hD : va_D A (wX kI kC kG x ag at_ as_ hh hst a0 a1 a2 a3 tx tch w16) := hD
          refine lv_iconst (v := 4) hx hb dL_text_43 (by decide) ?_
          refine lv_icmp_ge (tgt := 51) hx hb dL_text_44 (by decide) (fun c17 => ?_) (fun c17 => ?_)
          · replace hw := Eq.mp (if_pos c17) hw
            refine lv_iconst (v := 0) hx hb dL_text_51 (by decide) ?_
            refine lv_istore_n (lv' := [(3, .int 0), (0, .ref x), (1, .int p1), (2, .int p2)]) hx hb dL_text_52 rfl hl (by decide) rfl (fun ls hl => ?_)
            refine lv_iload_n hx hb dL_text_53 rfl (lv_at hl 0 rfl) ?_
            refine lv_if_eq (tgt := 64) hx hb dL_text_54 (by decide) (fun c18 => ?_) (fun c18 => ?_)
            · skip
              refine lv_bipush (v := (-99)) hx hb dL_text_64 (by decide) ?_
              refine W.widen (k := 2) (n := 12) (Nat.le_of_ble_eq_true rfl) (Nat.le_of_ble_eq_true rfl) ?_
              exact W.iret (v := (-99)) hx hb hr (fun t ht hW => ⟨⟨(-99), w16, rfl, hw, by rw [ht]; exact hP, va_K.moved hW.alike hK, hD⟩, hS.F ht⟩) hS.2.2 dL_text_66
            · first | exact absurd (by decide) c18 | exact absurd c18 (by decide)
          · replace hw := Eq.mp (if_neg c17) hw
            refine lv_iconst (v := 1) hx hb dL_text_47 (by decide) ?_
            refine lv_goto (tgt := 52) hx hb dL_text_48 (by decide) ?_
            refine lv_istore_n (lv' := [(3, .int 1), (0, .ref x), (1, .int p1), (2, .int p2)]) hx hb dL_text_52 rfl hl (by decide) rfl (fun ls hl => ?_)
            refine lv_iload_n hx hb dL_text_53 rfl (lv_at hl 0 rfl) ?_
            refine lv_if_eq (tgt := 64) hx hb dL_text_54 (by decide) (fun c19 => ?_) (fun c19 => ?_)
            · exact absurd c19 (by decide)
            refine lv_aload_n hx hb dL_text_57 rfl (lv_at hl 1 rfl) ?_
            refine gLSi (mc := 2) (ms := 12) (S := SX) (As := [.ref x]) (rest := []) (wc := wX kI kC kG x ag at_ as_ hh hst a0 a1 a2 a3 tx tch w16) (wr := []) (cs1 := (fun zz : SX => wX kI kC kG x ag at_ as_ hh hst a0 a1 a2 a3 tx tch zz)) (ws2 := (fun zz : SX => wX kI kC kG x ag at_ as_ hh hst a0 a1 a2 a3 tx tch zz)) ⟨hx, hb, hml, hown, hts⟩ (fun sz => kL_carryOut l D kI kC kG kJ hlt x ag at_ as_ hh hst a0 a1 a2 a3 tx tch sz w16 _ hw) (vx_cwSW 1 hts gL_text_L_carryOut rfl rfl rfl hdL_carryOut ⟨Nat.le_of_ble_eq_true rfl, Nat.le_of_ble_eq_true rfl⟩) hK hP hD hE hS hA [0, 1, 2, 3, 4, 5, 6, 7, 8, 9, 10, 11, 12, 13, 14, 15, 16, 17, 18, 19, 20, 21, 22, 23, 24, 25, 26, 27, 28, 29, 30, 31, 32] [] rfl rfl rfl rfl (by decide) [0, 1, 2, 3, 4, 5, 6, 7, 8, 9, 10, 11, 12, 13, 14, 15, 16, 17, 18, 19, 20, 21, 22, 23, 24, 25, 26, 27, 28, 29, 30, 31, 32] rfl (fun _ => rfl) rfl hl.1 rfl (Nat.le_of_ble_eq_true rfl) dL_text_58 ⟨Nat.le_of_ble_eq_true rfl, Nat.le_of_ble_eq_true rfl⟩ (fun r20 w20 H locs hw hP hD hS => ?_)
            have hP : va_P D vwCl (wX kI kC kG x ag at_ as_ hh hst a0 a1 a2 a3 tx tch w20) H := hP
            have hD : va_D A (wX kI kC kG x ag at_ as_ hh hst a0 a1 a2 a3 tx tch w20) := hD
            refine lv_goto (tgt := 66) hx hb dL_text_61 (by decide) ?_
            refine W.widen (k := 2) (n := 12) (Nat.le_of_ble_eq_true rfl) (Nat.le_of_ble_eq_true rfl) ?_
            exact W.iret (v := r20) hx hb hr (fun t ht hW => ⟨⟨r20, w20, rfl, hw, by rw [ht]; exact hP, va_K.moved hW.alike hK, hD⟩, hS.F ht⟩) hS.2.2 dL_text_66
