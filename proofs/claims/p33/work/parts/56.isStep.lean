set_option maxHeartbeats 64000000 in
set_option maxRecDepth 100000 in
theorem kL_isStep (l : Launch) (D : va_G) (kI kC kG kJ : ClassId) (hlt : l.stackTraces = false) (x : Nat) (ag at_ as_ : AG) (hh hst : Nat) (a0 a1 a2 a3 : AG) (tx tch : Nat) (y : Nat) (bg bt_ bs_ : AG) (yh yst : Nat) (b0 b1 b2 b3 : AG) (tyy tych : Nat) (sz : Nat) (u : SX) (ub : SX) (p2 : Int32) (p3 : Int32) (Z : Int32 → SX × SX → Prop) (hw : pL_isStep p2 p3 u ub Z) : Met l yL_isStep wsL_isStep ({ frames := 11, cells := 4, slots := 24, locals := 232 } : Room) (gPw D (gT kI kC kG kJ) [.ref x, .ref y, .int p2, .int p3] (wX kI kC kG x ag at_ as_ hh hst a0 a1 a2 a3 tx tch u ++ wX kI kC kG y bg bt_ bs_ yh yst b0 b1 b2 b3 tyy tych ub) sz) (va_Qi Z (gB D (gT kI kC kG kJ) (fun (zz : SX × SX) => wX kI kC kG x ag at_ as_ hh hst a0 a1 a2 a3 tx tch zz.1 ++ wX kI kC kG y bg bt_ bs_ yh yst b0 b1 b2 b3 tyy tych zz.2) (va_A (wX kI kC kG x ag at_ as_ hh hst a0 a1 a2 a3 tx tch u ++ wX kI kC kG y bg bt_ bs_ yh yst b0 b1 b2 b3 tyy tych ub) sz)) (va_A (wX kI kC kG x ag at_ as_ hh hst a0 a1 a2 a3 tx tch u ++ wX kI kC kG y bg bt_ bs_ yh yst b0 b1 b2 b3 tyy tych ub) sz)) 4 24 (va_A (wX kI kC kG x ag at_ as_ hh hst a0 a1 a2 a3 tx tch u ++ wX kI kC kG y bg bt_ bs_ yh yst b0 b1 b2 b3 tyy tych ub) sz) := by
  refine Met.ofW (cc := cL_isStep) (maxL := 12) (ret := (some .boolean)) (by decide) rfl ?_
  intro p e s m args below meth c s₁ B hml hv
  obtain ⟨rfl, hsz, hP, hK, hD0, hE⟩ := hv
  have hx := B.exec
  have hb := B.bytes
  have hr := B.returns
  have hts := atoms_spec (ws := wsL_isStep) B.pre
  have hown : s.vm.findClass RL = some m.cls := findClass_of_methodNamed B.named
  have hlocks := B.notSynchronized
  subst hsz
  have hD := hD0.self (sz := s.heap.size)
  generalize hAe : va_A (wX kI kC kG x ag at_ as_ hh hst a0 a1 a2 a3 tx tch u ++ wX kI kC kG y bg bt_ bs_ yh yst b0 b1 b2 b3 tyy tych ub) s.heap.size = A at hD hE ⊢
  have hA : ∀ q : Nat, s.heap.size ≤ q → A q := fun q h => by rw [← hAe]; exact Or.inr h
  have hS : va_S A s.heap s.heap [] := va_S.rf
  clear hAe hD0
  have hl := lv_entry ([.ref x, .ref y, .int p2, .int p3]) (n := 12) (Nat.le_of_ble_eq_true rfl)
  rw [lg_entry_eq]
  generalize (lg_sl ([.ref x, .ref y, .int p2, .int p3]) ++ List.replicate (12 - (lg_sl ([.ref x, .ref y, .int p2, .int p3])).length) Slot.unset).toArray = ls at hl ⊢
  have hl : lv_has ls 12 [(0, .ref x), (1, .ref y), (2, .int p2), (3, .int p3)] := hl
  have hP : va_P D vwCl (wX kI kC kG x ag at_ as_ hh hst a0 a1 a2 a3 tx tch u ++ wX kI kC kG y bg bt_ bs_ yh yst b0 b1 b2 b3 tyy tych ub) s.heap := hP
  have L463 : ∀ (_ : Unit), ∀ (n : Nat), ∀ (v5 : Int32) (v6 : Int32) (v7 : Int32) (v8 : Int32) (v10 : Int32) (u : SX) (ub : SX) (H : Heap) (locs : List Loc) (ls : Array Slot), va_P D vwCl (wX kI kC kG x ag at_ as_ hh hst a0 a1 a2 a3 tx tch u ++ wX kI kC kG y bg bt_ bs_ yh yst b0 b1 b2 b3 tyy tych ub) H → va_D A (wX kI kC kG x ag at_ as_ hh hst a0 a1 a2 a3 tx tch u ++ wX kI kC kG y bg bt_ bs_ yh yst b0 b1 b2 b3 tyy tych ub) → va_S A s.heap H locs → lv_has ls 12 [(0, .ref x), (1, .ref y), (5, .int v5), (6, .int v6), (7, .int v7), (8, .int v8), (10, .int v10)] → pL_isStep_463 Z n v5 v6 v7 v8 v10 u ub → W p l e (headSpec wsL_isStep ({ frames := 11, cells := 4, slots := 24, locals := 232 } : Room)).room s m ([.ref x, .ref y, .int p2, .int p3] : List Value).toArray below meth c H locs 0 0 (MQ below (va_Qi Z (gB D (gT kI kC kG kJ) (fun (zz : SX × SX) => wX kI kC kG x ag at_ as_ hh hst a0 a1 a2 a3 tx tch zz.1 ++ wX kI kC kG y bg bt_ bs_ yh yst b0 b1 b2 b3 tyy tych zz.2) A) A) ([.ref x, .ref y, .int p2, .int p3] : List Value).toArray s 4 24 A) (F0 m 463 ls []) := by
    intro _ n
    induction n with
    | zero => intro v5 v6 v7 v8 v10 u ub H locs ls hP hD hS hl hw; exact hw.elim
    | succ n ih =>
    intro v5 v6 v7 v8 v10 u ub H locs ls hP hD hS hl hw
    rw [pL_isStep_463] at hw
    refine lv_aload_n hx hb dL_isStep_463 rfl (lv_at hl 0 rfl) ?_
    refine lv_iload hx hb dL_isStep_464 (lv_at hl 2 rfl) ?_
    refine gLSi (mc := 2) (ms := 12) (S := SX) (As := [.ref x, .int v5]) (rest := []) (wc := wX kI kC kG x ag at_ as_ hh hst a0 a1 a2 a3 tx tch u) (wr := [(y, .inr (4, [.ref bg.1, .ref bt_.1, .ref bs_.1, .int ub.1, .ref yh, .ref tyy]))] ++ wG kI bg ub.2.1 ++ wG kI bt_ ub.2.2.1 ++ wG kI bs_ ub.2.2.2.1 ++ [(yh, .inr (2, [.ref yst, .int ub.2.2.2.2.1.1, .int ub.2.2.2.2.1.2.1])), (yst, .inl (kG, 4, .inr (.inr (.inr (.inr (fH b0 b1 b2 b3))))))] ++ wG kI b0 ub.2.2.2.2.1.2.2.1 ++ wG kI b1 ub.2.2.2.2.1.2.2.2.1 ++ wG kI b2 ub.2.2.2.2.1.2.2.2.2.1 ++ wG kI b3 ub.2.2.2.2.1.2.2.2.2.2 ++ wT kC tyy tych ub.2.2.2.2.2) (cs1 := (fun zz : SX => wX kI kC kG x ag at_ as_ hh hst a0 a1 a2 a3 tx tch zz)) (ws2 := (fun zz : SX => wX kI kC kG x ag at_ as_ hh hst a0 a1 a2 a3 tx tch zz ++ wX kI kC kG y bg bt_ bs_ yh yst b0 b1 b2 b3 tyy tych ub)) ⟨hx, hb, hml, hown, hts⟩ (fun sz => kL_place l D kI kC kG kJ hlt x ag at_ as_ hh hst a0 a1 a2 a3 tx tch sz u v5 _ hw) (vx_cwSW 2 hts gL_isStep_L_place rfl rfl rfl hdL_place ⟨Nat.le_of_ble_eq_true rfl, Nat.le_of_ble_eq_true rfl⟩) hK hP hD hE hS hA [0, 1, 2, 3, 4, 5, 6, 7, 8, 9, 10, 11, 12, 13, 14, 15, 16, 17, 18, 19, 20, 21, 22, 23, 24, 25, 26, 27, 28, 29, 30, 31, 32] [33, 34, 35, 36, 37, 38, 39, 40, 41, 42, 43, 44, 45, 46, 47, 48, 49, 50, 51, 52, 53, 54, 55, 56, 57, 58, 59, 60, 61, 62, 63, 64, 65] rfl rfl rfl rfl (by decide) [33, 34, 35, 36, 37, 38, 39, 40, 41, 42, 43, 44, 45, 46, 47, 48, 49, 50, 51, 52, 53, 54, 55, 56, 57, 58, 59, 60, 61, 62, 63, 64, 65, 0, 1, 2, 3, 4, 5, 6, 7, 8, 9, 10, 11, 12, 13, 14, 15, 16, 17, 18, 19, 20, 21, 22, 23, 24, 25, 26, 27, 28, 29, 30, 31, 32] rfl (fun _ => rfl) rfl hl.1 rfl (Nat.le_of_ble_eq_true rfl) dL_isStep_466 ⟨Nat.le_of_ble_eq_true rfl, Nat.le_of_ble_eq_true rfl⟩ (fun r33 w33 H locs hw hP hD hS => ?_)
    have hP : va_P D vwCl (wX kI kC kG x ag at_ as_ hh hst a0 a1 a2 a3 tx tch w33 ++ wX kI kC kG y bg bt_ bs_ yh yst b0 b1 b2 b3 tyy tych ub) H := hP
    have hD : va_D A (wX kI kC kG x ag at_ as_ hh hst a0 a1 a2 a3 tx tch w33 ++ wX kI kC kG y bg bt_ bs_ yh yst b0 b1 b2 b3 tyy tych ub) := hD
    refine lv_istore (lv' := [(11, .int r33), (0, .ref x), (1, .ref y), (5, .int v5), (6, .int v6), (7, .int v7), (8, .int v8), (10, .int v10)]) hx hb dL_isStep_469 hl (by decide) rfl (fun ls hl => ?_)
    refine lv_aload_n hx hb dL_isStep_471 rfl (lv_at hl 2 rfl) ?_
    refine lv_bipush (v := 112) hx hb dL_isStep_472 (by decide) ?_
    refine lv_iload hx hb dL_isStep_474 (lv_at hl 3 rfl) ?_
    refine gSi (As := [.int v5]) (rest := [.int 112, .ref y]) (cs' := ([] : va_W)) ⟨hx, hb, hml, hown, hts⟩ (kL_turned l D kI kC kG kJ v5 _ hw) (va_cwS 1 hts gL_isStep_L_turned rfl rfl rfl hdL_turned ⟨Nat.le_of_ble_eq_true rfl, Nat.le_of_ble_eq_true rfl⟩) hK hP hE hS [] rfl rfl hl.1 rfl (Nat.le_of_ble_eq_true rfl) dL_isStep_476 ⟨Nat.le_of_ble_eq_true rfl, Nat.le_of_ble_eq_true rfl⟩ (fun r34 hw => ?_)
    refine gWSi (mc := 2) (ms := 12) (S := SX) (As := [.ref y, .int 112, .int r34]) (rest := []) (wc := wX kI kC kG y bg bt_ bs_ yh yst b0 b1 b2 b3 tyy tych ub) (wr := [(x, .inr (4, [.ref ag.1, .ref at_.1, .ref as_.1, .int w33.1, .ref hh, .ref tx]))] ++ wG kI ag w33.2.1 ++ wG kI at_ w33.2.2.1 ++ wG kI as_ w33.2.2.2.1 ++ [(hh, .inr (2, [.ref hst, .int w33.2.2.2.2.1.1, .int w33.2.2.2.2.1.2.1])), (hst, .inl (kG, 4, .inr (.inr (.inr (.inr (fH a0 a1 a2 a3))))))] ++ wG kI a0 w33.2.2.2.2.1.2.2.1 ++ wG kI a1 w33.2.2.2.2.1.2.2.2.1 ++ wG kI a2 w33.2.2.2.2.1.2.2.2.2.1 ++ wG kI a3 w33.2.2.2.2.1.2.2.2.2.2 ++ wT kC tx tch w33.2.2.2.2.2) (cs1 := (fun zz : SX => wX kI kC kG y bg bt_ bs_ yh yst b0 b1 b2 b3 tyy tych zz)) (ws2 := (fun zz : SX => wX kI kC kG x ag at_ as_ hh hst a0 a1 a2 a3 tx tch w33 ++ wX kI kC kG y bg bt_ bs_ yh yst b0 b1 b2 b3 tyy tych zz)) ⟨hx, hb, hml, hown, hts⟩ (fun sz => kL_text l D kI kC kG kJ hlt y bg bt_ bs_ yh yst b0 b1 b2 b3 tyy tych sz ub 112 r34 _ hw) (va_cwS 3 hts gL_isStep_L_text rfl rfl rfl hdL_text ⟨Nat.le_of_ble_eq_true rfl, Nat.le_of_ble_eq_true rfl⟩) hK hP hD hE hS hA [33, 34, 35, 36, 37, 38, 39, 40, 41, 42, 43, 44, 45, 46, 47, 48, 49, 50, 51, 52, 53, 54, 55, 56, 57, 58, 59, 60, 61, 62, 63, 64, 65] [0, 1, 2, 3, 4, 5, 6, 7, 8, 9, 10, 11, 12, 13, 14, 15, 16, 17, 18, 19, 20, 21, 22, 23, 24, 25, 26, 27, 28, 29, 30, 31, 32] rfl rfl rfl rfl (by decide) [0, 1, 2, 3, 4, 5, 6, 7, 8, 9, 10, 11, 12, 13, 14, 15, 16, 17, 18, 19, 20, 21, 22, 23, 24, 25, 26, 27, 28, 29, 30, 31, 32, 33, 34, 35, 36, 37, 38, 39, 40, 41, 42, 43, 44, 45, 46, 47, 48, 49, 50, 51, 52, 53, 54, 55, 56, 57, 58, 59, 60, 61, 62, 63, 64, 65] rfl (fun _ => rfl) rfl hl.1 rfl (Nat.le_of_ble_eq_true rfl) dL_isStep_479 ⟨Nat.le_of_ble_eq_true rfl, Nat.le_of_ble_eq_true rfl⟩ (fun r35 w35 H locs hw hP hD hS => ?_)
    have hP : va_P D vwCl (wX kI kC kG x ag at_ as_ hh hst a0 a1 a2 a3 tx tch w33 ++ wX kI kC kG y bg bt_ bs_ yh yst b0 b1 b2 b3 tyy tych w35) H := hP
    have hD : va_D A (wX kI kC kG x ag at_ as_ hh hst a0 a1 a2 a3 tx tch w33 ++ wX kI kC kG y bg bt_ bs_ yh yst b0 b1 b2 b3 tyy tych w35) := hD
    refine lv_iload hx hb dL_isStep_482 (lv_at hl 0 rfl) ?_
    refine lv_ldc (v := 90002) hx hb hown (hts (.constant RL 20 (90002)) (List.mem_of_getElem? (i := 1) rfl)) dL_isStep_484 ?_
    refine lv_icmp_ne (tgt := 494) hx hb dL_isStep_486 (by decide) (fun c36 => ?_) (fun c36 => ?_)
    · replace hw := Eq.mp (if_neg c36) hw
      refine lv_iconst (v := 1) hx hb dL_isStep_494 (by decide) ?_
      refine lv_icmp_ne (tgt := 588) hx hb dL_isStep_495 (by decide) (fun c37 => ?_) (fun c37 => ?_)
      · replace hw := Eq.mp (if_neg c37) hw
        refine lv_iconst (v := 0) hx hb dL_isStep_588 (by decide) ?_
        refine W.widen (k := 4) (n := 24) (Nat.le_of_ble_eq_true rfl) (Nat.le_of_ble_eq_true rfl) ?_
        exact W.zret (v := 0) hx hb hr rfl (fun t ht hW => ⟨⟨0, (w33, w35), rfl, hw, by rw [ht]; exact hP, va_K.moved hW.alike hK, hD⟩, hS.F ht⟩) hS.2.2 dL_isStep_589
      · replace hw := Eq.mp (if_pos c37) hw
        refine lv_iload hx hb dL_isStep_498 (lv_at hl 0 rfl) ?_
        refine lv_ldc (v := 90002) hx hb hown (hts (.constant RL 20 (90002)) (List.mem_of_getElem? (i := 1) rfl)) dL_isStep_500 ?_
        refine lv_icmp_ne (tgt := 517) hx hb dL_isStep_502 (by decide) (fun c38 => ?_) (fun c38 => ?_)
        · replace hw := Eq.mp (if_neg c38) hw
          refine lv_aload_n hx hb dL_isStep_517 rfl (lv_at hl 1 rfl) ?_
          refine gVi (As := []) (rest := []) (cs' := wX kI kC kG x ag at_ as_ hh hst a0 a1 a2 a3 tx tch w33) ⟨hx, hb, hml, hown, hts⟩ (kX5_placed l D kI kC kG kJ x ag at_ as_ hh hst a0 a1 a2 a3 tx tch w33 _ hw) (cwV 0 hts gL_isStep_X5_placed rfl rfl rfl hdX5_placed ⟨Nat.le_of_ble_eq_true rfl, Nat.le_of_ble_eq_true rfl⟩) hK hP hE hS [0, 1, 2, 3, 4, 5, 6, 7, 8, 9, 10, 11, 12, 13, 14, 15, 16, 17, 18, 19, 20, 21, 22, 23, 24, 25, 26, 27, 28, 29, 30, 31, 32] rfl (ci := 4) (q0 := 0) rfl rfl rfl rfl hl.1 rfl (Nat.le_of_ble_eq_true rfl) dL_isStep_518 ⟨Nat.le_of_ble_eq_true rfl, Nat.le_of_ble_eq_true rfl⟩ (fun r39 hw => ?_)
          refine lv_iload hx hb dL_isStep_521 (lv_at hl 4 rfl) ?_
          refine lv_iconst (v := 1) hx hb dL_isStep_523 (by decide) ?_
          refine lv_iadd hx hb dL_isStep_524 ?_
          refine lv_icmp_ne (tgt := 588) hx hb dL_isStep_525 (by decide) (fun c40 => ?_) (fun c40 => ?_)
          · replace hw := Eq.mp (if_neg c40) hw
            refine lv_iconst (v := 0) hx hb dL_isStep_588 (by decide) ?_
            refine W.widen (k := 4) (n := 24) (Nat.le_of_ble_eq_true rfl) (Nat.le_of_ble_eq_true rfl) ?_
            exact W.zret (v := 0) hx hb hr rfl (fun t ht hW => ⟨⟨0, (w33, w35), rfl, hw, by rw [ht]; exact hP, va_K.moved hW.alike hK, hD⟩, hS.F ht⟩) hS.2.2 dL_isStep_589
          · replace hw := Eq.mp (if_pos c40) hw
            refine lv_aload_n hx hb dL_isStep_528 rfl (lv_at hl 1 rfl) ?_
            refine lv_iload hx hb dL_isStep_529 (lv_at hl 5 rfl) ?_
            refine gLSi (mc := 0) (ms := 0) (S := SX) (As := [.ref x, .int v7]) (rest := []) (wc := wX kI kC kG x ag at_ as_ hh hst a0 a1 a2 a3 tx tch w33) (wr := [(y, .inr (4, [.ref bg.1, .ref bt_.1, .ref bs_.1, .int w35.1, .ref yh, .ref tyy]))] ++ wG kI bg w35.2.1 ++ wG kI bt_ w35.2.2.1 ++ wG kI bs_ w35.2.2.2.1 ++ [(yh, .inr (2, [.ref yst, .int w35.2.2.2.2.1.1, .int w35.2.2.2.2.1.2.1])), (yst, .inl (kG, 4, .inr (.inr (.inr (.inr (fH b0 b1 b2 b3))))))] ++ wG kI b0 w35.2.2.2.2.1.2.2.1 ++ wG kI b1 w35.2.2.2.2.1.2.2.2.1 ++ wG kI b2 w35.2.2.2.2.1.2.2.2.2.1 ++ wG kI b3 w35.2.2.2.2.1.2.2.2.2.2 ++ wT kC tyy tych w35.2.2.2.2.2) (cs1 := (fun zz : SX => wX kI kC kG x ag at_ as_ hh hst a0 a1 a2 a3 tx tch zz)) (ws2 := (fun zz : SX => wX kI kC kG x ag at_ as_ hh hst a0 a1 a2 a3 tx tch zz ++ wX kI kC kG y bg bt_ bs_ yh yst b0 b1 b2 b3 tyy tych w35)) ⟨hx, hb, hml, hown, hts⟩ (fun sz => kL_cellOf l D kI kC kG kJ hlt x ag at_ as_ hh hst a0 a1 a2 a3 tx tch sz w33 v7 _ hw) (vx_cwSW 2 hts gL_isStep_L_cellOf rfl rfl rfl hdL_cellOf ⟨Nat.le_of_ble_eq_true rfl, Nat.le_of_ble_eq_true rfl⟩) hK hP hD hE hS hA [0, 1, 2, 3, 4, 5, 6, 7, 8, 9, 10, 11, 12, 13, 14, 15, 16, 17, 18, 19, 20, 21, 22, 23, 24, 25, 26, 27, 28, 29, 30, 31, 32] [33, 34, 35, 36, 37, 38, 39, 40, 41, 42, 43, 44, 45, 46, 47, 48, 49, 50, 51, 52, 53, 54, 55, 56, 57, 58, 59, 60, 61, 62, 63, 64, 65] rfl rfl rfl rfl (by decide) [33, 34, 35, 36, 37, 38, 39, 40, 41, 42, 43, 44, 45, 46, 47, 48, 49, 50, 51, 52, 53, 54, 55, 56, 57, 58, 59, 60, 61, 62, 63, 64, 65, 0, 1, 2, 3, 4, 5, 6, 7, 8, 9, 10, 11, 12, 13, 14, 15, 16, 17, 18, 19, 20, 21, 22, 23, 24, 25, 26, 27, 28, 29, 30, 31, 32] rfl (fun _ => rfl) rfl hl.1 rfl (Nat.le_of_ble_eq_true rfl) dL_isStep_531 ⟨Nat.le_of_ble_eq_true rfl, Nat.le_of_ble_eq_true rfl⟩ (fun r41 w41 H locs hw hP hD hS => ?_)
            have hP : va_P D vwCl (wX kI kC kG x ag at_ as_ hh hst a0 a1 a2 a3 tx tch w41 ++ wX kI kC kG y bg bt_ bs_ yh yst b0 b1 b2 b3 tyy tych w35) H := hP
            have hD : va_D A (wX kI kC kG x ag at_ as_ hh hst a0 a1 a2 a3 tx tch w41 ++ wX kI kC kG y bg bt_ bs_ yh yst b0 b1 b2 b3 tyy tych w35) := hD
            refine lv_iload hx hb dL_isStep_534 (lv_at hl 3 rfl) ?_
            refine lv_icmp_ne (tgt := 588) hx hb dL_isStep_536 (by decide) (fun c42 => ?_) (fun c42 => ?_)
            · replace hw := Eq.mp (if_neg c42) hw
              refine lv_iconst (v := 0) hx hb dL_isStep_588 (by decide) ?_
              refine W.widen (k := 4) (n := 24) (Nat.le_of_ble_eq_true rfl) (Nat.le_of_ble_eq_true rfl) ?_
              exact W.zret (v := 0) hx hb hr rfl (fun t ht hW => ⟨⟨0, (w41, w35), rfl, hw, by rw [ht]; exact hP, va_K.moved hW.alike hK, hD⟩, hS.F ht⟩) hS.2.2 dL_isStep_589
            · replace hw := Eq.mp (if_pos c42) hw
              refine lv_iload hx hb dL_isStep_539 (lv_at hl 0 rfl) ?_
              refine lv_iconst (v := 1) hx hb dL_isStep_541 (by decide) ?_
              refine lv_icmp_ne (tgt := 549) hx hb dL_isStep_542 (by decide) (fun c43 => ?_) (fun c43 => ?_)
              · replace hw := Eq.mp (if_neg c43) hw
                refine lv_iconst (v := 0) hx hb dL_isStep_549 (by decide) ?_
                refine lv_aload_n hx hb dL_isStep_550 rfl (lv_at hl 1 rfl) ?_
                refine gVi (As := []) (rest := [.int 0]) (cs' := wX kI kC kG x ag at_ as_ hh hst a0 a1 a2 a3 tx tch w41) ⟨hx, hb, hml, hown, hts⟩ (kX5_winner l D kI kC kG kJ x ag at_ as_ hh hst a0 a1 a2 a3 tx tch w41 _ hw) (cwV 0 hts gL_isStep_X5_winner rfl rfl rfl hdX5_winner ⟨Nat.le_of_ble_eq_true rfl, Nat.le_of_ble_eq_true rfl⟩) hK hP hE hS [0, 1, 2, 3, 4, 5, 6, 7, 8, 9, 10, 11, 12, 13, 14, 15, 16, 17, 18, 19, 20, 21, 22, 23, 24, 25, 26, 27, 28, 29, 30, 31, 32] rfl (ci := 4) (q0 := 0) rfl rfl rfl rfl hl.1 rfl (Nat.le_of_ble_eq_true rfl) dL_isStep_551 ⟨Nat.le_of_ble_eq_true rfl, Nat.le_of_ble_eq_true rfl⟩ (fun r44 hw => ?_)
                refine lv_iload hx hb dL_isStep_554 (lv_at hl 6 rfl) ?_
                refine lv_icmp_ne (tgt := 563) hx hb dL_isStep_556 (by decide) (fun c45 => ?_) (fun c45 => ?_)
                · replace hw := Eq.mp (if_neg c45) hw
                  refine lv_iconst (v := 0) hx hb dL_isStep_563 (by decide) ?_
                  refine lv_icmp_ne (tgt := 588) hx hb dL_isStep_564 (by decide) (fun c46 => ?_) (fun c46 => ?_)
                  · exact absurd c46 (by decide)
                  refine lv_iload hx hb dL_isStep_567 (lv_at hl 0 rfl) ?_
                  refine lv_if_eq (tgt := 584) hx hb dL_isStep_569 (by decide) (fun c47 => ?_) (fun c47 => ?_)
                  · replace hw := Eq.mp (if_pos c47) hw
                    refine lv_iconst (v := 1) hx hb dL_isStep_584 (by decide) ?_
                    refine lv_goto (tgt := 589) hx hb dL_isStep_585 (by decide) ?_
                    refine W.widen (k := 4) (n := 24) (Nat.le_of_ble_eq_true rfl) (Nat.le_of_ble_eq_true rfl) ?_
                    exact W.zret (v := 1) hx hb hr rfl (fun t ht hW => ⟨⟨1, (w41, w35), rfl, hw, by rw [ht]; exact hP, va_K.moved hW.alike hK, hD⟩, hS.F ht⟩) hS.2.2 dL_isStep_589
                  · replace hw := Eq.mp (if_neg c47) hw
                    refine lv_iload hx hb dL_isStep_572 (lv_at hl 7 rfl) ?_
                    refine lv_if_lt (tgt := 588) hx hb dL_isStep_574 (by decide) (fun c48 => ?_) (fun c48 => ?_)
                    · replace hw := Eq.mp (if_pos c48) hw
                      refine lv_iconst (v := 0) hx hb dL_isStep_588 (by decide) ?_
                      refine W.widen (k := 4) (n := 24) (Nat.le_of_ble_eq_true rfl) (Nat.le_of_ble_eq_true rfl) ?_
                      exact W.zret (v := 0) hx hb hr rfl (fun t ht hW => ⟨⟨0, (w41, w35), rfl, hw, by rw [ht]; exact hP, va_K.moved hW.alike hK, hD⟩, hS.F ht⟩) hS.2.2 dL_isStep_589
                    · replace hw := Eq.mp (if_neg c48) hw
                      refine lv_iload hx hb dL_isStep_577 (lv_at hl 7 rfl) ?_
                      refine lv_iload hx hb dL_isStep_579 (lv_at hl 3 rfl) ?_
                      refine lv_icmp_gt (tgt := 588) hx hb dL_isStep_581 (by decide) (fun c49 => ?_) (fun c49 => ?_)
                      · replace hw := Eq.mp (if_pos c49) hw
                        refine lv_iconst (v := 0) hx hb dL_isStep_588 (by decide) ?_
                        refine W.widen (k := 4) (n := 24) (Nat.le_of_ble_eq_true rfl) (Nat.le_of_ble_eq_true rfl) ?_
                        exact W.zret (v := 0) hx hb hr rfl (fun t ht hW => ⟨⟨0, (w41, w35), rfl, hw, by rw [ht]; exact hP, va_K.moved hW.alike hK, hD⟩, hS.F ht⟩) hS.2.2 dL_isStep_589
                      · replace hw := Eq.mp (if_neg c49) hw
                        refine lv_iconst (v := 1) hx hb dL_isStep_584 (by decide) ?_
                        refine lv_goto (tgt := 589) hx hb dL_isStep_585 (by decide) ?_
                        refine W.widen (k := 4) (n := 24) (Nat.le_of_ble_eq_true rfl) (Nat.le_of_ble_eq_true rfl) ?_
                        exact W.zret (v := 1) hx hb hr rfl (fun t ht hW => ⟨⟨1, (w41, w35), rfl, hw, by rw [ht]; exact hP, va_K.moved hW.alike hK, hD⟩, hS.F ht⟩) hS.2.2 dL_isStep_589
                · replace hw := Eq.mp (if_pos c45) hw
                  refine lv_iconst (v := 1) hx hb dL_isStep_559 (by decide) ?_
                  refine lv_goto (tgt := 564) hx hb dL_isStep_560 (by decide) ?_
                  refine lv_icmp_ne (tgt := 588) hx hb dL_isStep_564 (by decide) (fun c50 => ?_) (fun c50 => ?_)
                  · skip
                    refine lv_iconst (v := 0) hx hb dL_isStep_588 (by decide) ?_
                    refine W.widen (k := 4) (n := 24) (Nat.le_of_ble_eq_true rfl) (Nat.le_of_ble_eq_true rfl) ?_
                    exact W.zret (v := 0) hx hb hr rfl (fun t ht hW => ⟨⟨0, (w41, w35), rfl, hw, by rw [ht]; exact hP, va_K.moved hW.alike hK, hD⟩, hS.F ht⟩) hS.2.2 dL_isStep_589
                  · first | exact absurd (by decide) c50 | exact absurd c50 (by decide)
              · replace hw := Eq.mp (if_pos c43) hw
                refine lv_iconst (v := 1) hx hb dL_isStep_545 (by decide) ?_
                refine lv_goto (tgt := 550) hx hb dL_isStep_546 (by decide) ?_
                refine lv_aload_n hx hb dL_isStep_550 rfl (lv_at hl 1 rfl) ?_
                refine gVi (As := []) (rest := [.int 1]) (cs' := wX kI kC kG x ag at_ as_ hh hst a0 a1 a2 a3 tx tch w41) ⟨hx, hb, hml, hown, hts⟩ (kX5_winner l D kI kC kG kJ x ag at_ as_ hh hst a0 a1 a2 a3 tx tch w41 _ hw) (cwV 0 hts gL_isStep_X5_winner rfl rfl rfl hdX5_winner ⟨Nat.le_of_ble_eq_true rfl, Nat.le_of_ble_eq_true rfl⟩) hK hP hE hS [0, 1, 2, 3, 4, 5, 6, 7, 8, 9, 10, 11, 12, 13, 14, 15, 16, 17, 18, 19, 20, 21, 22, 23, 24, 25, 26, 27, 28, 29, 30, 31, 32] rfl (ci := 4) (q0 := 0) rfl rfl rfl rfl hl.1 rfl (Nat.le_of_ble_eq_true rfl) dL_isStep_551 ⟨Nat.le_of_ble_eq_true rfl, Nat.le_of_ble_eq_true rfl⟩ (fun r51 hw => ?_)
                refine lv_iload hx hb dL_isStep_554 (lv_at hl 6 rfl) ?_
                refine lv_icmp_ne (tgt := 563) hx hb dL_isStep_556 (by decide) (fun c52 => ?_) (fun c52 => ?_)
                · replace hw := Eq.mp (if_neg c52) hw
                  refine lv_iconst (v := 0) hx hb dL_isStep_563 (by decide) ?_
                  refine lv_icmp_ne (tgt := 588) hx hb dL_isStep_564 (by decide) (fun c53 => ?_) (fun c53 => ?_)
                  · skip
                    refine lv_iconst (v := 0) hx hb dL_isStep_588 (by decide) ?_
                    refine W.widen (k := 4) (n := 24) (Nat.le_of_ble_eq_true rfl) (Nat.le_of_ble_eq_true rfl) ?_
                    exact W.zret (v := 0) hx hb hr rfl (fun t ht hW => ⟨⟨0, (w41, w35), rfl, hw, by rw [ht]; exact hP, va_K.moved hW.alike hK, hD⟩, hS.F ht⟩) hS.2.2 dL_isStep_589
                  · first | exact absurd (by decide) c53 | exact absurd c53 (by decide)
                · replace hw := Eq.mp (if_pos c52) hw
                  refine lv_iconst (v := 1) hx hb dL_isStep_559 (by decide) ?_
                  refine lv_goto (tgt := 564) hx hb dL_isStep_560 (by decide) ?_
                  refine lv_icmp_ne (tgt := 588) hx hb dL_isStep_564 (by decide) (fun c54 => ?_) (fun c54 => ?_)
                  · exact absurd c54 (by decide)
                  refine lv_iload hx hb dL_isStep_567 (lv_at hl 0 rfl) ?_
                  refine lv_if_eq (tgt := 584) hx hb dL_isStep_569 (by decide) (fun c55 => ?_) (fun c55 => ?_)
                  · replace hw := Eq.mp (if_pos c55) hw
                    refine lv_iconst (v := 1) hx hb dL_isStep_584 (by decide) ?_
                    refine lv_goto (tgt := 589) hx hb dL_isStep_585 (by decide) ?_
                    refine W.widen (k := 4) (n := 24) (Nat.le_of_ble_eq_true rfl) (Nat.le_of_ble_eq_true rfl) ?_
                    exact W.zret (v := 1) hx hb hr rfl (fun t ht hW => ⟨⟨1, (w41, w35), rfl, hw, by rw [ht]; exact hP, va_K.moved hW.alike hK, hD⟩, hS.F ht⟩) hS.2.2 dL_isStep_589
                  · replace hw := Eq.mp (if_neg c55) hw
                    refine lv_iload hx hb dL_isStep_572 (lv_at hl 7 rfl) ?_
                    refine lv_if_lt (tgt := 588) hx hb dL_isStep_574 (by decide) (fun c56 => ?_) (fun c56 => ?_)
                    · replace hw := Eq.mp (if_pos c56) hw
                      refine lv_iconst (v := 0) hx hb dL_isStep_588 (by decide) ?_
                      refine W.widen (k := 4) (n := 24) (Nat.le_of_ble_eq_true rfl) (Nat.le_of_ble_eq_true rfl) ?_
                      exact W.zret (v := 0) hx hb hr rfl (fun t ht hW => ⟨⟨0, (w41, w35), rfl, hw, by rw [ht]; exact hP, va_K.moved hW.alike hK, hD⟩, hS.F ht⟩) hS.2.2 dL_isStep_589
                    · replace hw := Eq.mp (if_neg c56) hw
                      refine lv_iload hx hb dL_isStep_577 (lv_at hl 7 rfl) ?_
                      refine lv_iload hx hb dL_isStep_579 (lv_at hl 3 rfl) ?_
                      refine lv_icmp_gt (tgt := 588) hx hb dL_isStep_581 (by decide) (fun c57 => ?_) (fun c57 => ?_)
                      · replace hw := Eq.mp (if_pos c57) hw
                        refine lv_iconst (v := 0) hx hb dL_isStep_588 (by decide) ?_
                        refine W.widen (k := 4) (n := 24) (Nat.le_of_ble_eq_true rfl) (Nat.le_of_ble_eq_true rfl) ?_
                        exact W.zret (v := 0) hx hb hr rfl (fun t ht hW => ⟨⟨0, (w41, w35), rfl, hw, by rw [ht]; exact hP, va_K.moved hW.alike hK, hD⟩, hS.F ht⟩) hS.2.2 dL_isStep_589
                      · replace hw := Eq.mp (if_neg c57) hw
                        refine lv_iconst (v := 1) hx hb dL_isStep_584 (by decide) ?_
                        refine lv_goto (tgt := 589) hx hb dL_isStep_585 (by decide) ?_
                        refine W.widen (k := 4) (n := 24) (Nat.le_of_ble_eq_true rfl) (Nat.le_of_ble_eq_true rfl) ?_
                        exact W.zret (v := 1) hx hb hr rfl (fun t ht hW => ⟨⟨1, (w41, w35), rfl, hw, by rw [ht]; exact hP, va_K.moved hW.alike hK, hD⟩, hS.F ht⟩) hS.2.2 dL_isStep_589
        · replace hw := Eq.mp (if_pos c38) hw
          refine lv_aload_n hx hb dL_isStep_505 rfl (lv_at hl 1 rfl) ?_
          refine lv_iload hx hb dL_isStep_506 (lv_at hl 3 rfl) ?_
          refine gLSi (mc := 0) (ms := 0) (S := SX) (As := [.ref x, .int v5]) (rest := []) (wc := wX kI kC kG x ag at_ as_ hh hst a0 a1 a2 a3 tx tch w33) (wr := [(y, .inr (4, [.ref bg.1, .ref bt_.1, .ref bs_.1, .int w35.1, .ref yh, .ref tyy]))] ++ wG kI bg w35.2.1 ++ wG kI bt_ w35.2.2.1 ++ wG kI bs_ w35.2.2.2.1 ++ [(yh, .inr (2, [.ref yst, .int w35.2.2.2.2.1.1, .int w35.2.2.2.2.1.2.1])), (yst, .inl (kG, 4, .inr (.inr (.inr (.inr (fH b0 b1 b2 b3))))))] ++ wG kI b0 w35.2.2.2.2.1.2.2.1 ++ wG kI b1 w35.2.2.2.2.1.2.2.2.1 ++ wG kI b2 w35.2.2.2.2.1.2.2.2.2.1 ++ wG kI b3 w35.2.2.2.2.1.2.2.2.2.2 ++ wT kC tyy tych w35.2.2.2.2.2) (cs1 := (fun zz : SX => wX kI kC kG x ag at_ as_ hh hst a0 a1 a2 a3 tx tch zz)) (ws2 := (fun zz : SX => wX kI kC kG x ag at_ as_ hh hst a0 a1 a2 a3 tx tch zz ++ wX kI kC kG y bg bt_ bs_ yh yst b0 b1 b2 b3 tyy tych w35)) ⟨hx, hb, hml, hown, hts⟩ (fun sz => kL_pieceOn l D kI kC kG kJ hlt x ag at_ as_ hh hst a0 a1 a2 a3 tx tch sz w33 v5 _ hw) (vx_cwSW 2 hts gL_isStep_L_pieceOn rfl rfl rfl hdL_pieceOn ⟨Nat.le_of_ble_eq_true rfl, Nat.le_of_ble_eq_true rfl⟩) hK hP hD hE hS hA [0, 1, 2, 3, 4, 5, 6, 7, 8, 9, 10, 11, 12, 13, 14, 15, 16, 17, 18, 19, 20, 21, 22, 23, 24, 25, 26, 27, 28, 29, 30, 31, 32] [33, 34, 35, 36, 37, 38, 39, 40, 41, 42, 43, 44, 45, 46, 47, 48, 49, 50, 51, 52, 53, 54, 55, 56, 57, 58, 59, 60, 61, 62, 63, 64, 65] rfl rfl rfl rfl (by decide) [33, 34, 35, 36, 37, 38, 39, 40, 41, 42, 43, 44, 45, 46, 47, 48, 49, 50, 51, 52, 53, 54, 55, 56, 57, 58, 59, 60, 61, 62, 63, 64, 65, 0, 1, 2, 3, 4, 5, 6, 7, 8, 9, 10, 11, 12, 13, 14, 15, 16, 17, 18, 19, 20, 21, 22, 23, 24, 25, 26, 27, 28, 29, 30, 31, 32] rfl (fun _ => rfl) rfl hl.1 rfl (Nat.le_of_ble_eq_true rfl) dL_isStep_508 ⟨Nat.le_of_ble_eq_true rfl, Nat.le_of_ble_eq_true rfl⟩ (fun r58 w58 H locs hw hP hD hS => ?_)
          have hP : va_P D vwCl (wX kI kC kG x ag at_ as_ hh hst a0 a1 a2 a3 tx tch w58 ++ wX kI kC kG y bg bt_ bs_ yh yst b0 b1 b2 b3 tyy tych w35) H := hP
          have hD : va_D A (wX kI kC kG x ag at_ as_ hh hst a0 a1 a2 a3 tx tch w58 ++ wX kI kC kG y bg bt_ bs_ yh yst b0 b1 b2 b3 tyy tych w35) := hD
          refine lv_if_lt (tgt := 588) hx hb dL_isStep_511 (by decide) (fun c59 => ?_) (fun c59 => ?_)
          · replace hw := Eq.mp (if_pos c59) hw
            refine lv_iconst (v := 0) hx hb dL_isStep_588 (by decide) ?_
            refine W.widen (k := 4) (n := 24) (Nat.le_of_ble_eq_true rfl) (Nat.le_of_ble_eq_true rfl) ?_
            exact W.zret (v := 0) hx hb hr rfl (fun t ht hW => ⟨⟨0, (w58, w35), rfl, hw, by rw [ht]; exact hP, va_K.moved hW.alike hK, hD⟩, hS.F ht⟩) hS.2.2 dL_isStep_589
          · replace hw := Eq.mp (if_neg c59) hw
            refine lv_goto (tgt := 584) hx hb dL_isStep_514 (by decide) ?_
            refine lv_iconst (v := 1) hx hb dL_isStep_584 (by decide) ?_
            refine lv_goto (tgt := 589) hx hb dL_isStep_585 (by decide) ?_
            refine W.widen (k := 4) (n := 24) (Nat.le_of_ble_eq_true rfl) (Nat.le_of_ble_eq_true rfl) ?_
            exact W.zret (v := 1) hx hb hr rfl (fun t ht hW => ⟨⟨1, (w58, w35), rfl, hw, by rw [ht]; exact hP, va_K.moved hW.alike hK, hD⟩, hS.F ht⟩) hS.2.2 dL_isStep_589
    · replace hw := Eq.mp (if_pos c36) hw
      refine lv_ldc (v := 90001) hx hb hown (hts (.constant RL 17 (90001)) (List.mem_of_getElem? (i := 2) rfl)) dL_isStep_489 ?_
      refine lv_goto (tgt := 495) hx hb dL_isStep_491 (by decide) ?_
      refine lv_icmp_ne (tgt := 588) hx hb dL_isStep_495 (by decide) (fun c60 => ?_) (fun c60 => ?_)
      · replace hw := Eq.mp (if_neg c60) hw
        refine lv_iconst (v := 0) hx hb dL_isStep_588 (by decide) ?_
        refine W.widen (k := 4) (n := 24) (Nat.le_of_ble_eq_true rfl) (Nat.le_of_ble_eq_true rfl) ?_
        exact W.zret (v := 0) hx hb hr rfl (fun t ht hW => ⟨⟨0, (w33, w35), rfl, hw, by rw [ht]; exact hP, va_K.moved hW.alike hK, hD⟩, hS.F ht⟩) hS.2.2 dL_isStep_589
      · replace hw := Eq.mp (if_pos c60) hw
        refine lv_iload hx hb dL_isStep_498 (lv_at hl 0 rfl) ?_
        refine lv_ldc (v := 90002) hx hb hown (hts (.constant RL 20 (90002)) (List.mem_of_getElem? (i := 1) rfl)) dL_isStep_500 ?_
        refine lv_icmp_ne (tgt := 517) hx hb dL_isStep_502 (by decide) (fun c61 => ?_) (fun c61 => ?_)
        · replace hw := Eq.mp (if_neg c61) hw
          refine lv_aload_n hx hb dL_isStep_517 rfl (lv_at hl 1 rfl) ?_
          refine gVi (As := []) (rest := []) (cs' := wX kI kC kG x ag at_ as_ hh hst a0 a1 a2 a3 tx tch w33) ⟨hx, hb, hml, hown, hts⟩ (kX5_placed l D kI kC kG kJ x ag at_ as_ hh hst a0 a1 a2 a3 tx tch w33 _ hw) (cwV 0 hts gL_isStep_X5_placed rfl rfl rfl hdX5_placed ⟨Nat.le_of_ble_eq_true rfl, Nat.le_of_ble_eq_true rfl⟩) hK hP hE hS [0, 1, 2, 3, 4, 5, 6, 7, 8, 9, 10, 11, 12, 13, 14, 15, 16, 17, 18, 19, 20, 21, 22, 23, 24, 25, 26, 27, 28, 29, 30, 31, 32] rfl (ci := 4) (q0 := 0) rfl rfl rfl rfl hl.1 rfl (Nat.le_of_ble_eq_true rfl) dL_isStep_518 ⟨Nat.le_of_ble_eq_true rfl, Nat.le_of_ble_eq_true rfl⟩ (fun r62 hw => ?_)
          refine lv_iload hx hb dL_isStep_521 (lv_at hl 4 rfl) ?_
          refine lv_iconst (v := 1) hx hb dL_isStep_523 (by decide) ?_
          refine lv_iadd hx hb dL_isStep_524 ?_
          refine lv_icmp_ne (tgt := 588) hx hb dL_isStep_525 (by decide) (fun c63 => ?_) (fun c63 => ?_)
          · replace hw := Eq.mp (if_neg c63) hw
            refine lv_iconst (v := 0) hx hb dL_isStep_588 (by decide) ?_
            refine W.widen (k := 4) (n := 24) (Nat.le_of_ble_eq_true rfl) (Nat.le_of_ble_eq_true rfl) ?_
            exact W.zret (v := 0) hx hb hr rfl (fun t ht hW => ⟨⟨0, (w33, w35), rfl, hw, by rw [ht]; exact hP, va_K.moved hW.alike hK, hD⟩, hS.F ht⟩) hS.2.2 dL_isStep_589
          · replace hw := Eq.mp (if_pos c63) hw
            refine lv_aload_n hx hb dL_isStep_528 rfl (lv_at hl 1 rfl) ?_
            refine lv_iload hx hb dL_isStep_529 (lv_at hl 5 rfl) ?_
            refine gLSi (mc := 0) (ms := 0) (S := SX) (As := [.ref x, .int v7]) (rest := []) (wc := wX kI kC kG x ag at_ as_ hh hst a0 a1 a2 a3 tx tch w33) (wr := [(y, .inr (4, [.ref bg.1, .ref bt_.1, .ref bs_.1, .int w35.1, .ref yh, .ref tyy]))] ++ wG kI bg w35.2.1 ++ wG kI bt_ w35.2.2.1 ++ wG kI bs_ w35.2.2.2.1 ++ [(yh, .inr (2, [.ref yst, .int w35.2.2.2.2.1.1, .int w35.2.2.2.2.1.2.1])), (yst, .inl (kG, 4, .inr (.inr (.inr (.inr (fH b0 b1 b2 b3))))))] ++ wG kI b0 w35.2.2.2.2.1.2.2.1 ++ wG kI b1 w35.2.2.2.2.1.2.2.2.1 ++ wG kI b2 w35.2.2.2.2.1.2.2.2.2.1 ++ wG kI b3 w35.2.2.2.2.1.2.2.2.2.2 ++ wT kC tyy tych w35.2.2.2.2.2) (cs1 := (fun zz : SX => wX kI kC kG x ag at_ as_ hh hst a0 a1 a2 a3 tx tch zz)) (ws2 := (fun zz : SX => wX kI kC kG x ag at_ as_ hh hst a0 a1 a2 a3 tx tch zz ++ wX kI kC kG y bg bt_ bs_ yh yst b0 b1 b2 b3 tyy tych w35)) ⟨hx, hb, hml, hown, hts⟩ (fun sz => kL_cellOf l D kI kC kG kJ hlt x ag at_ as_ hh hst a0 a1 a2 a3 tx tch sz w33 v7 _ hw) (vx_cwSW 2 hts gL_isStep_L_cellOf rfl rfl rfl hdL_cellOf ⟨Nat.le_of_ble_eq_true rfl, Nat.le_of_ble_eq_true rfl⟩) hK hP hD hE hS hA [0, 1, 2, 3, 4, 5, 6, 7, 8, 9, 10, 11, 12, 13, 14, 15, 16, 17, 18, 19, 20, 21, 22, 23, 24, 25, 26, 27, 28, 29, 30, 31, 32] [33, 34, 35, 36, 37, 38, 39, 40, 41, 42, 43, 44, 45, 46, 47, 48, 49, 50, 51, 52, 53, 54, 55, 56, 57, 58, 59, 60, 61, 62, 63, 64, 65] rfl rfl rfl rfl (by decide) [33, 34, 35, 36, 37, 38, 39, 40, 41, 42, 43, 44, 45, 46, 47, 48, 49, 50, 51, 52, 53, 54, 55, 56, 57, 58, 59, 60, 61, 62, 63, 64, 65, 0, 1, 2, 3, 4, 5, 6, 7, 8, 9, 10, 11, 12, 13, 14, 15, 16, 17, 18, 19, 20, 21, 22, 23, 24, 25, 26, 27, 28, 29, 30, 31, 32] rfl (fun _ => rfl) rfl hl.1 rfl (Nat.le_of_ble_eq_true rfl) dL_isStep_531 ⟨Nat.le_of_ble_eq_true rfl, Nat.le_of_ble_eq_true rfl⟩ (fun r64 w64 H locs hw hP hD hS => ?_)
            have hP : va_P D vwCl (wX kI kC kG x ag at_ as_ hh hst a0 a1 a2 a3 tx tch w64 ++ wX kI kC kG y bg bt_ bs_ yh yst b0 b1 b2 b3 tyy tych w35) H := hP
            have hD : va_D A (wX kI kC kG x ag at_ as_ hh hst a0 a1 a2 a3 tx tch w64 ++ wX kI kC kG y bg bt_ bs_ yh yst b0 b1 b2 b3 tyy tych w35) := hD
            refine lv_iload hx hb dL_isStep_534 (lv_at hl 3 rfl) ?_
            refine lv_icmp_ne (tgt := 588) hx hb dL_isStep_536 (by decide) (fun c65 => ?_) (fun c65 => ?_)
            · replace hw := Eq.mp (if_neg c65) hw
              refine lv_iconst (v := 0) hx hb dL_isStep_588 (by decide) ?_
              refine W.widen (k := 4) (n := 24) (Nat.le_of_ble_eq_true rfl) (Nat.le_of_ble_eq_true rfl) ?_
              exact W.zret (v := 0) hx hb hr rfl (fun t ht hW => ⟨⟨0, (w64, w35), rfl, hw, by rw [ht]; exact hP, va_K.moved hW.alike hK, hD⟩, hS.F ht⟩) hS.2.2 dL_isStep_589
            · replace hw := Eq.mp (if_pos c65) hw
              refine lv_iload hx hb dL_isStep_539 (lv_at hl 0 rfl) ?_
              refine lv_iconst (v := 1) hx hb dL_isStep_541 (by decide) ?_
              refine lv_icmp_ne (tgt := 549) hx hb dL_isStep_542 (by decide) (fun c66 => ?_) (fun c66 => ?_)
              · replace hw := Eq.mp (if_neg c66) hw
                refine lv_iconst (v := 0) hx hb dL_isStep_549 (by decide) ?_
                refine lv_aload_n hx hb dL_isStep_550 rfl (lv_at hl 1 rfl) ?_
                refine gVi (As := []) (rest := [.int 0]) (cs' := wX kI kC kG x ag at_ as_ hh hst a0 a1 a2 a3 tx tch w64) ⟨hx, hb, hml, hown, hts⟩ (kX5_winner l D kI kC kG kJ x ag at_ as_ hh hst a0 a1 a2 a3 tx tch w64 _ hw) (cwV 0 hts gL_isStep_X5_winner rfl rfl rfl hdX5_winner ⟨Nat.le_of_ble_eq_true rfl, Nat.le_of_ble_eq_true rfl⟩) hK hP hE hS [0, 1, 2, 3, 4, 5, 6, 7, 8, 9, 10, 11, 12, 13, 14, 15, 16, 17, 18, 19, 20, 21, 22, 23, 24, 25, 26, 27, 28, 29, 30, 31, 32] rfl (ci := 4) (q0 := 0) rfl rfl rfl rfl hl.1 rfl (Nat.le_of_ble_eq_true rfl) dL_isStep_551 ⟨Nat.le_of_ble_eq_true rfl, Nat.le_of_ble_eq_true rfl⟩ (fun r67 hw => ?_)
                refine lv_iload hx hb dL_isStep_554 (lv_at hl 6 rfl) ?_
                refine lv_icmp_ne (tgt := 563) hx hb dL_isStep_556 (by decide) (fun c68 => ?_) (fun c68 => ?_)
                · replace hw := Eq.mp (if_neg c68) hw
                  refine lv_iconst (v := 0) hx hb dL_isStep_563 (by decide) ?_
                  refine lv_icmp_ne (tgt := 588) hx hb dL_isStep_564 (by decide) (fun c69 => ?_) (fun c69 => ?_)
                  · exact absurd c69 (by decide)
                  refine lv_iload hx hb dL_isStep_567 (lv_at hl 0 rfl) ?_
                  refine lv_if_eq (tgt := 584) hx hb dL_isStep_569 (by decide) (fun c70 => ?_) (fun c70 => ?_)
                  · replace hw := Eq.mp (if_pos c70) hw
                    refine lv_iconst (v := 1) hx hb dL_isStep_584 (by decide) ?_
                    refine lv_goto (tgt := 589) hx hb dL_isStep_585 (by decide) ?_
                    refine W.widen (k := 4) (n := 24) (Nat.le_of_ble_eq_true rfl) (Nat.le_of_ble_eq_true rfl) ?_
                    exact W.zret (v := 1) hx hb hr rfl (fun t ht hW => ⟨⟨1, (w64, w35), rfl, hw, by rw [ht]; exact hP, va_K.moved hW.alike hK, hD⟩, hS.F ht⟩) hS.2.2 dL_isStep_589
                  · replace hw := Eq.mp (if_neg c70) hw
                    refine lv_iload hx hb dL_isStep_572 (lv_at hl 7 rfl) ?_
                    refine lv_if_lt (tgt := 588) hx hb dL_isStep_574 (by decide) (fun c71 => ?_) (fun c71 => ?_)
                    · replace hw := Eq.mp (if_pos c71) hw
                      refine lv_iconst (v := 0) hx hb dL_isStep_588 (by decide) ?_
                      refine W.widen (k := 4) (n := 24) (Nat.le_of_ble_eq_true rfl) (Nat.le_of_ble_eq_true rfl) ?_
                      exact W.zret (v := 0) hx hb hr rfl (fun t ht hW => ⟨⟨0, (w64, w35), rfl, hw, by rw [ht]; exact hP, va_K.moved hW.alike hK, hD⟩, hS.F ht⟩) hS.2.2 dL_isStep_589
                    · replace hw := Eq.mp (if_neg c71) hw
                      refine lv_iload hx hb dL_isStep_577 (lv_at hl 7 rfl) ?_
                      refine lv_iload hx hb dL_isStep_579 (lv_at hl 3 rfl) ?_
                      refine lv_icmp_gt (tgt := 588) hx hb dL_isStep_581 (by decide) (fun c72 => ?_) (fun c72 => ?_)
                      · replace hw := Eq.mp (if_pos c72) hw
                        refine lv_iconst (v := 0) hx hb dL_isStep_588 (by decide) ?_
                        refine W.widen (k := 4) (n := 24) (Nat.le_of_ble_eq_true rfl) (Nat.le_of_ble_eq_true rfl) ?_
                        exact W.zret (v := 0) hx hb hr rfl (fun t ht hW => ⟨⟨0, (w64, w35), rfl, hw, by rw [ht]; exact hP, va_K.moved hW.alike hK, hD⟩, hS.F ht⟩) hS.2.2 dL_isStep_589
                      · replace hw := Eq.mp (if_neg c72) hw
                        refine lv_iconst (v := 1) hx hb dL_isStep_584 (by decide) ?_
                        refine lv_goto (tgt := 589) hx hb dL_isStep_585 (by decide) ?_
                        refine W.widen (k := 4) (n := 24) (Nat.le_of_ble_eq_true rfl) (Nat.le_of_ble_eq_true rfl) ?_
                        exact W.zret (v := 1) hx hb hr rfl (fun t ht hW => ⟨⟨1, (w64, w35), rfl, hw, by rw [ht]; exact hP, va_K.moved hW.alike hK, hD⟩, hS.F ht⟩) hS.2.2 dL_isStep_589
                · replace hw := Eq.mp (if_pos c68) hw
                  refine lv_iconst (v := 1) hx hb dL_isStep_559 (by decide) ?_
                  refine lv_goto (tgt := 564) hx hb dL_isStep_560 (by decide) ?_
                  refine lv_icmp_ne (tgt := 588) hx hb dL_isStep_564 (by decide) (fun c73 => ?_) (fun c73 => ?_)
                  · skip
                    refine lv_iconst (v := 0) hx hb dL_isStep_588 (by decide) ?_
                    refine W.widen (k := 4) (n := 24) (Nat.le_of_ble_eq_true rfl) (Nat.le_of_ble_eq_true rfl) ?_
                    exact W.zret (v := 0) hx hb hr rfl (fun t ht hW => ⟨⟨0, (w64, w35), rfl, hw, by rw [ht]; exact hP, va_K.moved hW.alike hK, hD⟩, hS.F ht⟩) hS.2.2 dL_isStep_589
                  · first | exact absurd (by decide) c73 | exact absurd c73 (by decide)
              · replace hw := Eq.mp (if_pos c66) hw
                refine lv_iconst (v := 1) hx hb dL_isStep_545 (by decide) ?_
                refine lv_goto (tgt := 550) hx hb dL_isStep_546 (by decide) ?_
                refine lv_aload_n hx hb dL_isStep_550 rfl (lv_at hl 1 rfl) ?_
                refine gVi (As := []) (rest := [.int 1]) (cs' := wX kI kC kG x ag at_ as_ hh hst a0 a1 a2 a3 tx tch w64) ⟨hx, hb, hml, hown, hts⟩ (kX5_winner l D kI kC kG kJ x ag at_ as_ hh hst a0 a1 a2 a3 tx tch w64 _ hw) (cwV 0 hts gL_isStep_X5_winner rfl rfl rfl hdX5_winner ⟨Nat.le_of_ble_eq_true rfl, Nat.le_of_ble_eq_true rfl⟩) hK hP hE hS [0, 1, 2, 3, 4, 5, 6, 7, 8, 9, 10, 11, 12, 13, 14, 15, 16, 17, 18, 19, 20, 21, 22, 23, 24, 25, 26, 27, 28, 29, 30, 31, 32] rfl (ci := 4) (q0 := 0) rfl rfl rfl rfl hl.1 rfl (Nat.le_of_ble_eq_true rfl) dL_isStep_551 ⟨Nat.le_of_ble_eq_true rfl, Nat.le_of_ble_eq_true rfl⟩ (fun r74 hw => ?_)
                refine lv_iload hx hb dL_isStep_554 (lv_at hl 6 rfl) ?_
                refine lv_icmp_ne (tgt := 563) hx hb dL_isStep_556 (by decide) (fun c75 => ?_) (fun c75 => ?_)
                · replace hw := Eq.mp (if_neg c75) hw
                  refine lv_iconst (v := 0) hx hb dL_isStep_563 (by decide) ?_
                  refine lv_icmp_ne (tgt := 588) hx hb dL_isStep_564 (by decide) (fun c76 => ?_) (fun c76 => ?_)
                  · skip
                    refine lv_iconst (v := 0) hx hb dL_isStep_588 (by decide) ?_
                    refine W.widen (k := 4) (n := 24) (Nat.le_of_ble_eq_true rfl) (Nat.le_of_ble_eq_true rfl) ?_
                    exact W.zret (v := 0) hx hb hr rfl (fun t ht hW => ⟨⟨0, (w64, w35), rfl, hw, by rw [ht]; exact hP, va_K.moved hW.alike hK, hD⟩, hS.F ht⟩) hS.2.2 dL_isStep_589
                  · first | exact absurd (by decide) c76 | exact absurd c76 (by decide)
                · replace hw := Eq.mp (if_pos c75) hw
                  refine lv_iconst (v := 1) hx hb dL_isStep_559 (by decide) ?_
                  refine lv_goto (tgt := 564) hx hb dL_isStep_560 (by decide) ?_
                  refine lv_icmp_ne (tgt := 588) hx hb dL_isStep_564 (by decide) (fun c77 => ?_) (fun c77 => ?_)
                  · exact absurd c77 (by decide)
                  refine lv_iload hx hb dL_isStep_567 (lv_at hl 0 rfl) ?_
                  refine lv_if_eq (tgt := 584) hx hb dL_isStep_569 (by decide) (fun c78 => ?_) (fun c78 => ?_)
                  · replace hw := Eq.mp (if_pos c78) hw
                    refine lv_iconst (v := 1) hx hb dL_isStep_584 (by decide) ?_
                    refine lv_goto (tgt := 589) hx hb dL_isStep_585 (by decide) ?_
                    refine W.widen (k := 4) (n := 24) (Nat.le_of_ble_eq_true rfl) (Nat.le_of_ble_eq_true rfl) ?_
                    exact W.zret (v := 1) hx hb hr rfl (fun t ht hW => ⟨⟨1, (w64, w35), rfl, hw, by rw [ht]; exact hP, va_K.moved hW.alike hK, hD⟩, hS.F ht⟩) hS.2.2 dL_isStep_589
                  · replace hw := Eq.mp (if_neg c78) hw
                    refine lv_iload hx hb dL_isStep_572 (lv_at hl 7 rfl) ?_
                    refine lv_if_lt (tgt := 588) hx hb dL_isStep_574 (by decide) (fun c79 => ?_) (fun c79 => ?_)
                    · replace hw := Eq.mp (if_pos c79) hw
                      refine lv_iconst (v := 0) hx hb dL_isStep_588 (by decide) ?_
                      refine W.widen (k := 4) (n := 24) (Nat.le_of_ble_eq_true rfl) (Nat.le_of_ble_eq_true rfl) ?_
                      exact W.zret (v := 0) hx hb hr rfl (fun t ht hW => ⟨⟨0, (w64, w35), rfl, hw, by rw [ht]; exact hP, va_K.moved hW.alike hK, hD⟩, hS.F ht⟩) hS.2.2 dL_isStep_589
                    · replace hw := Eq.mp (if_neg c79) hw
                      refine lv_iload hx hb dL_isStep_577 (lv_at hl 7 rfl) ?_
                      refine lv_iload hx hb dL_isStep_579 (lv_at hl 3 rfl) ?_
                      refine lv_icmp_gt (tgt := 588) hx hb dL_isStep_581 (by decide) (fun c80 => ?_) (fun c80 => ?_)
                      · replace hw := Eq.mp (if_pos c80) hw
                        refine lv_iconst (v := 0) hx hb dL_isStep_588 (by decide) ?_
                        refine W.widen (k := 4) (n := 24) (Nat.le_of_ble_eq_true rfl) (Nat.le_of_ble_eq_true rfl) ?_
                        exact W.zret (v := 0) hx hb hr rfl (fun t ht hW => ⟨⟨0, (w64, w35), rfl, hw, by rw [ht]; exact hP, va_K.moved hW.alike hK, hD⟩, hS.F ht⟩) hS.2.2 dL_isStep_589
                      · replace hw := Eq.mp (if_neg c80) hw
                        refine lv_iconst (v := 1) hx hb dL_isStep_584 (by decide) ?_
                        refine lv_goto (tgt := 589) hx hb dL_isStep_585 (by decide) ?_
                        refine W.widen (k := 4) (n := 24) (Nat.le_of_ble_eq_true rfl) (Nat.le_of_ble_eq_true rfl) ?_
                        exact W.zret (v := 1) hx hb hr rfl (fun t ht hW => ⟨⟨1, (w64, w35), rfl, hw, by rw [ht]; exact hP, va_K.moved hW.alike hK, hD⟩, hS.F ht⟩) hS.2.2 dL_isStep_589
        · replace hw := Eq.mp (if_pos c61) hw
          refine lv_aload_n hx hb dL_isStep_505 rfl (lv_at hl 1 rfl) ?_
          refine lv_iload hx hb dL_isStep_506 (lv_at hl 3 rfl) ?_
          refine gLSi (mc := 0) (ms := 0) (S := SX) (As := [.ref x, .int v5]) (rest := []) (wc := wX kI kC kG x ag at_ as_ hh hst a0 a1 a2 a3 tx tch w33) (wr := [(y, .inr (4, [.ref bg.1, .ref bt_.1, .ref bs_.1, .int w35.1, .ref yh, .ref tyy]))] ++ wG kI bg w35.2.1 ++ wG kI bt_ w35.2.2.1 ++ wG kI bs_ w35.2.2.2.1 ++ [(yh, .inr (2, [.ref yst, .int w35.2.2.2.2.1.1, .int w35.2.2.2.2.1.2.1])), (yst, .inl (kG, 4, .inr (.inr (.inr (.inr (fH b0 b1 b2 b3))))))] ++ wG kI b0 w35.2.2.2.2.1.2.2.1 ++ wG kI b1 w35.2.2.2.2.1.2.2.2.1 ++ wG kI b2 w35.2.2.2.2.1.2.2.2.2.1 ++ wG kI b3 w35.2.2.2.2.1.2.2.2.2.2 ++ wT kC tyy tych w35.2.2.2.2.2) (cs1 := (fun zz : SX => wX kI kC kG x ag at_ as_ hh hst a0 a1 a2 a3 tx tch zz)) (ws2 := (fun zz : SX => wX kI kC kG x ag at_ as_ hh hst a0 a1 a2 a3 tx tch zz ++ wX kI kC kG y bg bt_ bs_ yh yst b0 b1 b2 b3 tyy tych w35)) ⟨hx, hb, hml, hown, hts⟩ (fun sz => kL_pieceOn l D kI kC kG kJ hlt x ag at_ as_ hh hst a0 a1 a2 a3 tx tch sz w33 v5 _ hw) (vx_cwSW 2 hts gL_isStep_L_pieceOn rfl rfl rfl hdL_pieceOn ⟨Nat.le_of_ble_eq_true rfl, Nat.le_of_ble_eq_true rfl⟩) hK hP hD hE hS hA [0, 1, 2, 3, 4, 5, 6, 7, 8, 9, 10, 11, 12, 13, 14, 15, 16, 17, 18, 19, 20, 21, 22, 23, 24, 25, 26, 27, 28, 29, 30, 31, 32] [33, 34, 35, 36, 37, 38, 39, 40, 41, 42, 43, 44, 45, 46, 47, 48, 49, 50, 51, 52, 53, 54, 55, 56, 57, 58, 59, 60, 61, 62, 63, 64, 65] rfl rfl rfl rfl (by decide) [33, 34, 35, 36, 37, 38, 39, 40, 41, 42, 43, 44, 45, 46, 47, 48, 49, 50, 51, 52, 53, 54, 55, 56, 57, 58, 59, 60, 61, 62, 63, 64, 65, 0, 1, 2, 3, 4, 5, 6, 7, 8, 9, 10, 11, 12, 13, 14, 15, 16, 17, 18, 19, 20, 21, 22, 23, 24, 25, 26, 27, 28, 29, 30, 31, 32] rfl (fun _ => rfl) rfl hl.1 rfl (Nat.le_of_ble_eq_true rfl) dL_isStep_508 ⟨Nat.le_of_ble_eq_true rfl, Nat.le_of_ble_eq_true rfl⟩ (fun r81 w81 H locs hw hP hD hS => ?_)
          have hP : va_P D vwCl (wX kI kC kG x ag at_ as_ hh hst a0 a1 a2 a3 tx tch w81 ++ wX kI kC kG y bg bt_ bs_ yh yst b0 b1 b2 b3 tyy tych w35) H := hP
          have hD : va_D A (wX kI kC kG x ag at_ as_ hh hst a0 a1 a2 a3 tx tch w81 ++ wX kI kC kG y bg bt_ bs_ yh yst b0 b1 b2 b3 tyy tych w35) := hD
          refine lv_if_lt (tgt := 588) hx hb dL_isStep_511 (by decide) (fun c82 => ?_) (fun c82 => ?_)
          · replace hw := Eq.mp (if_pos c82) hw
            refine lv_iconst (v := 0) hx hb dL_isStep_588 (by decide) ?_
            refine W.widen (k := 4) (n := 24) (Nat.le_of_ble_eq_true rfl) (Nat.le_of_ble_eq_true rfl) ?_
            exact W.zret (v := 0) hx hb hr rfl (fun t ht hW => ⟨⟨0, (w81, w35), rfl, hw, by rw [ht]; exact hP, va_K.moved hW.alike hK, hD⟩, hS.F ht⟩) hS.2.2 dL_isStep_589
          · replace hw := Eq.mp (if_neg c82) hw
            refine lv_goto (tgt := 584) hx hb dL_isStep_514 (by decide) ?_
            refine lv_iconst (v := 1) hx hb dL_isStep_584 (by decide) ?_
            refine lv_goto (tgt := 589) hx hb dL_isStep_585 (by decide) ?_
            refine W.widen (k := 4) (n := 24) (Nat.le_of_ble_eq_true rfl) (Nat.le_of_ble_eq_true rfl) ?_
            exact W.zret (v := 1) hx hb hr rfl (fun t ht hW => ⟨⟨1, (w81, w35), rfl, hw, by rw [ht]; exact hP, va_K.moved hW.alike hK, hD⟩, hS.F ht⟩) hS.2.2 dL_isStep_589
  have L448 : ∀ (v4 : Int32) (v6 : Int32) (v7 : Int32) (v8 : Int32) (v10 : Int32) (K399 : Int32 → Int32 → SX → SX → Prop) (hK399 : ∀ (v5 : Int32) (v11 : Int32) (u : SX) (ub : SX) (H : Heap) (locs : List Loc) (ls : Array Slot), va_P D vwCl (wX kI kC kG x ag at_ as_ hh hst a0 a1 a2 a3 tx tch u ++ wX kI kC kG y bg bt_ bs_ yh yst b0 b1 b2 b3 tyy tych ub) H → va_D A (wX kI kC kG x ag at_ as_ hh hst a0 a1 a2 a3 tx tch u ++ wX kI kC kG y bg bt_ bs_ yh yst b0 b1 b2 b3 tyy tych ub) → va_S A s.heap H locs → lv_has ls 12 [(0, .ref x), (1, .ref y), (4, .int v4), (5, .int v5), (6, .int v6), (7, .int v7), (8, .int v8), (10, .int v10), (11, .int v11)] → K399 v5 v11 u ub → W p l e (headSpec wsL_isStep ({ frames := 11, cells := 4, slots := 24, locals := 232 } : Room)).room s m ([.ref x, .ref y, .int p2, .int p3] : List Value).toArray below meth c H locs 0 0 (MQ below (va_Qi Z (gB D (gT kI kC kG kJ) (fun (zz : SX × SX) => wX kI kC kG x ag at_ as_ hh hst a0 a1 a2 a3 tx tch zz.1 ++ wX kI kC kG y bg bt_ bs_ yh yst b0 b1 b2 b3 tyy tych zz.2) A) A) ([.ref x, .ref y, .int p2, .int p3] : List Value).toArray s 4 24 A) (F0 m 399 ls [])), ∀ (n : Nat), ∀ (v5 : Int32) (v11 : Int32) (u : SX) (ub : SX) (H : Heap) (locs : List Loc) (ls : Array Slot), va_P D vwCl (wX kI kC kG x ag at_ as_ hh hst a0 a1 a2 a3 tx tch u ++ wX kI kC kG y bg bt_ bs_ yh yst b0 b1 b2 b3 tyy tych ub) H → va_D A (wX kI kC kG x ag at_ as_ hh hst a0 a1 a2 a3 tx tch u ++ wX kI kC kG y bg bt_ bs_ yh yst b0 b1 b2 b3 tyy tych ub) → va_S A s.heap H locs → lv_has ls 12 [(0, .ref x), (1, .ref y), (4, .int v4), (5, .int v5), (6, .int v6), (7, .int v7), (8, .int v8), (10, .int v10), (11, .int v11)] → pL_isStep_448 Z K399 v4 v6 v7 v8 v10 n v5 v11 u ub → W p l e (headSpec wsL_isStep ({ frames := 11, cells := 4, slots := 24, locals := 232 } : Room)).room s m ([.ref x, .ref y, .int p2, .int p3] : List Value).toArray below meth c H locs 0 0 (MQ below (va_Qi Z (gB D (gT kI kC kG kJ) (fun (zz : SX × SX) => wX kI kC kG x ag at_ as_ hh hst a0 a1 a2 a3 tx tch zz.1 ++ wX kI kC kG y bg bt_ bs_ yh yst b0 b1 b2 b3 tyy tych zz.2) A) A) ([.ref x, .ref y, .int p2, .int p3] : List Value).toArray s 4 24 A) (F0 m 448 ls []) := by
    intro v4 v6 v7 v8 v10 K399 hK399 n
    induction n with
    | zero => intro v5 v11 u ub H locs ls hP hD hS hl hw; exact hw.elim
    | succ n ih =>
    intro v5 v11 u ub H locs ls hP hD hS hl hw
    rw [pL_isStep_448] at hw
    refine lv_iload hx hb dL_isStep_448 (lv_at hl 3 rfl) ?_
    refine lv_iconst (v := 5) hx hb dL_isStep_450 (by decide) ?_
    refine lv_iadd hx hb dL_isStep_451 ?_
    refine lv_bipush (v := 16) hx hb dL_isStep_452 (by decide) ?_
    refine lv_irem hx hb dL_isStep_454 (by decide) ?_
    refine lv_topi (fun x87 ex87 => ?_)
    replace hw := hw x87 ex87
    refine lv_istore (lv' := [(5, .int x87), (0, .ref x), (1, .ref y), (4, .int v4), (6, .int v6), (7, .int v7), (8, .int v8), (10, .int v10), (11, .int v11)]) hx hb dL_isStep_455 hl (by decide) rfl (fun ls hl => ?_)
    obtain ⟨x88, ex88⟩ : ∃ y : Int32, y = (v11 + 1) := ⟨_, rfl⟩
    replace hw := hw x88 ex88
    refine lv_iinc (v := x88) (lv' := [(11, .int x88), (5, .int x87), (0, .ref x), (1, .ref y), (4, .int v4), (6, .int v6), (7, .int v7), (8, .int v8), (10, .int v10)]) hx hb dL_isStep_457 hl (k := 8) rfl (by rw [ex88]; rfl) (by decide) rfl (fun ls hl => ?_)
    refine lv_goto (tgt := 399) hx hb dL_isStep_460 (by decide) ?_
    exact hK399 x87 x88 u ub H locs ls hP hD hS (lv_sub hl [2, 3, 4, 1, 5, 6, 7, 8, 0] rfl) hw
  have L399 : ∀ (v4 : Int32) (v6 : Int32) (v7 : Int32) (v8 : Int32) (v10 : Int32), ∀ (n : Nat), ∀ (v5 : Int32) (v11 : Int32) (u : SX) (ub : SX) (H : Heap) (locs : List Loc) (ls : Array Slot), va_P D vwCl (wX kI kC kG x ag at_ as_ hh hst a0 a1 a2 a3 tx tch u ++ wX kI kC kG y bg bt_ bs_ yh yst b0 b1 b2 b3 tyy tych ub) H → va_D A (wX kI kC kG x ag at_ as_ hh hst a0 a1 a2 a3 tx tch u ++ wX kI kC kG y bg bt_ bs_ yh yst b0 b1 b2 b3 tyy tych ub) → va_S A s.heap H locs → lv_has ls 12 [(0, .ref x), (1, .ref y), (4, .int v4), (5, .int v5), (6, .int v6), (7, .int v7), (8, .int v8), (10, .int v10), (11, .int v11)] → pL_isStep_399 Z v4 v6 v7 v8 v10 n v5 v11 u ub → W p l e (headSpec wsL_isStep ({ frames := 11, cells := 4, slots := 24, locals := 232 } : Room)).room s m ([.ref x, .ref y, .int p2, .int p3] : List Value).toArray below meth c H locs 0 0 (MQ below (va_Qi Z (gB D (gT kI kC kG kJ) (fun (zz : SX × SX) => wX kI kC kG x ag at_ as_ hh hst a0 a1 a2 a3 tx tch zz.1 ++ wX kI kC kG y bg bt_ bs_ yh yst b0 b1 b2 b3 tyy tych zz.2) A) A) ([.ref x, .ref y, .int p2, .int p3] : List Value).toArray s 4 24 A) (F0 m 399 ls []) := by
    intro v4 v6 v7 v8 v10 n
    induction n with
    | zero => intro v5 v11 u ub H locs ls hP hD hS hl hw; exact hw.elim
    | succ n ih =>
    intro v5 v11 u ub H locs ls hP hD hS hl hw
    rw [pL_isStep_399] at hw
    refine lv_iload hx hb dL_isStep_399 (lv_at hl 8 rfl) ?_
    refine lv_bipush (v := 16) hx hb dL_isStep_401 (by decide) ?_
    refine lv_icmp_ge (tgt := 463) hx hb dL_isStep_403 (by decide) (fun c32 => ?_) (fun c32 => ?_)
    · replace hw := Eq.mp (if_pos c32) hw
      obtain ⟨n9, hw⟩ := hw
      exact L463 () n9 v5 v6 v7 v8 v10 u ub H locs ls hP hD hS (lv_sub hl [0, 1, 3, 4, 5, 6, 7] rfl) hw
    · replace hw := Eq.mp (if_neg c32) hw
      refine lv_iload hx hb dL_isStep_406 (lv_at hl 2 rfl) ?_
      refine lv_bipush (v := 9) hx hb dL_isStep_408 (by decide) ?_
      refine gSi (As := [.int v4, .int 9]) (rest := []) (cs' := ([] : va_W)) ⟨hx, hb, hml, hown, hts⟩ (kL_up l D kI kC kG kJ v4 9 _ hw) (va_cwS 2 hts gL_isStep_L_up rfl rfl rfl hdL_up ⟨Nat.le_of_ble_eq_true rfl, Nat.le_of_ble_eq_true rfl⟩) hK hP hE hS [] rfl rfl hl.1 rfl (Nat.le_of_ble_eq_true rfl) dL_isStep_410 ⟨Nat.le_of_ble_eq_true rfl, Nat.le_of_ble_eq_true rfl⟩ (fun r83 hw => ?_)
      refine lv_if_le (tgt := 463) hx hb dL_isStep_413 (by decide) (fun c84 => ?_) (fun c84 => ?_)
      · replace hw := Eq.mp (if_pos c84) hw
        obtain ⟨n9, hw⟩ := hw
        exact L463 () n9 v5 v6 v7 v8 v10 u ub H locs ls hP hD hS (lv_sub hl [0, 1, 3, 4, 5, 6, 7] rfl) hw
      · replace hw := Eq.mp (if_neg c84) hw
        refine lv_aload_n hx hb dL_isStep_416 rfl (lv_at hl 0 rfl) ?_
        refine lv_iload hx hb dL_isStep_417 (lv_at hl 3 rfl) ?_
        refine gLSi (mc := 0) (ms := 0) (S := SX) (As := [.ref x, .int v5]) (rest := []) (wc := wX kI kC kG x ag at_ as_ hh hst a0 a1 a2 a3 tx tch u) (wr := [(y, .inr (4, [.ref bg.1, .ref bt_.1, .ref bs_.1, .int ub.1, .ref yh, .ref tyy]))] ++ wG kI bg ub.2.1 ++ wG kI bt_ ub.2.2.1 ++ wG kI bs_ ub.2.2.2.1 ++ [(yh, .inr (2, [.ref yst, .int ub.2.2.2.2.1.1, .int ub.2.2.2.2.1.2.1])), (yst, .inl (kG, 4, .inr (.inr (.inr (.inr (fH b0 b1 b2 b3))))))] ++ wG kI b0 ub.2.2.2.2.1.2.2.1 ++ wG kI b1 ub.2.2.2.2.1.2.2.2.1 ++ wG kI b2 ub.2.2.2.2.1.2.2.2.2.1 ++ wG kI b3 ub.2.2.2.2.1.2.2.2.2.2 ++ wT kC tyy tych ub.2.2.2.2.2) (cs1 := (fun zz : SX => wX kI kC kG x ag at_ as_ hh hst a0 a1 a2 a3 tx tch zz)) (ws2 := (fun zz : SX => wX kI kC kG x ag at_ as_ hh hst a0 a1 a2 a3 tx tch zz ++ wX kI kC kG y bg bt_ bs_ yh yst b0 b1 b2 b3 tyy tych ub)) ⟨hx, hb, hml, hown, hts⟩ (fun sz => kL_pieceOn l D kI kC kG kJ hlt x ag at_ as_ hh hst a0 a1 a2 a3 tx tch sz u v5 _ hw) (vx_cwSW 2 hts gL_isStep_L_pieceOn rfl rfl rfl hdL_pieceOn ⟨Nat.le_of_ble_eq_true rfl, Nat.le_of_ble_eq_true rfl⟩) hK hP hD hE hS hA [0, 1, 2, 3, 4, 5, 6, 7, 8, 9, 10, 11, 12, 13, 14, 15, 16, 17, 18, 19, 20, 21, 22, 23, 24, 25, 26, 27, 28, 29, 30, 31, 32] [33, 34, 35, 36, 37, 38, 39, 40, 41, 42, 43, 44, 45, 46, 47, 48, 49, 50, 51, 52, 53, 54, 55, 56, 57, 58, 59, 60, 61, 62, 63, 64, 65] rfl rfl rfl rfl (by decide) [33, 34, 35, 36, 37, 38, 39, 40, 41, 42, 43, 44, 45, 46, 47, 48, 49, 50, 51, 52, 53, 54, 55, 56, 57, 58, 59, 60, 61, 62, 63, 64, 65, 0, 1, 2, 3, 4, 5, 6, 7, 8, 9, 10, 11, 12, 13, 14, 15, 16, 17, 18, 19, 20, 21, 22, 23, 24, 25, 26, 27, 28, 29, 30, 31, 32] rfl (fun _ => rfl) rfl hl.1 rfl (Nat.le_of_ble_eq_true rfl) dL_isStep_419 ⟨Nat.le_of_ble_eq_true rfl, Nat.le_of_ble_eq_true rfl⟩ (fun r85 w85 H locs hw hP hD hS => ?_)
        have hP : va_P D vwCl (wX kI kC kG x ag at_ as_ hh hst a0 a1 a2 a3 tx tch w85 ++ wX kI kC kG y bg bt_ bs_ yh yst b0 b1 b2 b3 tyy tych ub) H := hP
        have hD : va_D A (wX kI kC kG x ag at_ as_ hh hst a0 a1 a2 a3 tx tch w85 ++ wX kI kC kG y bg bt_ bs_ yh yst b0 b1 b2 b3 tyy tych ub) := hD
        refine lv_if_ge (tgt := 448) hx hb dL_isStep_422 (by decide) (fun c86 => ?_) (fun c86 => ?_)
        · replace hw := Eq.mp (if_pos c86) hw
          obtain ⟨n9, hw⟩ := hw
          exact L448 v4 v6 v7 v8 v10 (pL_isStep_399 Z v4 v6 v7 v8 v10 n) ih n9 v5 v11 w85 ub H locs ls hP hD hS (lv_sub hl [0, 1, 2, 3, 4, 5, 6, 7, 8] rfl) hw
        · replace hw := Eq.mp (if_neg c86) hw
          refine lv_iload hx hb dL_isStep_425 (lv_at hl 2 rfl) ?_
          refine lv_iconst (v := 4) hx hb dL_isStep_427 (by decide) ?_
          refine gSi (As := [.int v4, .int 4]) (rest := []) (cs' := ([] : va_W)) ⟨hx, hb, hml, hown, hts⟩ (kL_up l D kI kC kG kJ v4 4 _ hw) (va_cwS 2 hts gL_isStep_L_up rfl rfl rfl hdL_up ⟨Nat.le_of_ble_eq_true rfl, Nat.le_of_ble_eq_true rfl⟩) hK hP hE hS [] rfl rfl hl.1 rfl (Nat.le_of_ble_eq_true rfl) dL_isStep_428 ⟨Nat.le_of_ble_eq_true rfl, Nat.le_of_ble_eq_true rfl⟩ (fun r89 hw => ?_)
          refine lv_if_le (tgt := 463) hx hb dL_isStep_431 (by decide) (fun c90 => ?_) (fun c90 => ?_)
          · replace hw := Eq.mp (if_pos c90) hw
            obtain ⟨n9, hw⟩ := hw
            exact L463 () n9 v5 v6 v7 v8 v10 w85 ub H locs ls hP hD hS (lv_sub hl [0, 1, 3, 4, 5, 6, 7] rfl) hw
          · replace hw := Eq.mp (if_neg c90) hw
            refine lv_iload hx hb dL_isStep_434 (lv_at hl 3 rfl) ?_
            refine lv_iload hx hb dL_isStep_436 (lv_at hl 7 rfl) ?_
            refine lv_icmp_ne (tgt := 463) hx hb dL_isStep_438 (by decide) (fun c91 => ?_) (fun c91 => ?_)
            · replace hw := Eq.mp (if_neg c91) hw
              obtain ⟨n9, hw⟩ := hw
              exact L463 () n9 v5 v6 v7 v8 v10 w85 ub H locs ls hP hD hS (lv_sub hl [0, 1, 3, 4, 5, 6, 7] rfl) hw
            · replace hw := Eq.mp (if_pos c91) hw
              refine lv_iload hx hb dL_isStep_441 (lv_at hl 4 rfl) ?_
              refine lv_bipush (v := 15) hx hb dL_isStep_443 (by decide) ?_
              refine lv_icmp_ge (tgt := 463) hx hb dL_isStep_445 (by decide) (fun c92 => ?_) (fun c92 => ?_)
              · replace hw := Eq.mp (if_pos c92) hw
                obtain ⟨n9, hw⟩ := hw
                exact L463 () n9 v5 v6 v7 v8 v10 w85 ub H locs ls hP hD hS (lv_sub hl [0, 1, 3, 4, 5, 6, 7] rfl) hw
              · replace hw := Eq.mp (if_neg c92) hw
                obtain ⟨n9, hw⟩ := hw
                exact L448 v4 v6 v7 v8 v10 (pL_isStep_399 Z v4 v6 v7 v8 v10 n) ih n9 v5 v11 w85 ub H locs ls hP hD hS (lv_sub hl [0, 1, 2, 3, 4, 5, 6, 7, 8] rfl) hw
  have L298 : ∀ (_ : Unit), ∀ (n : Nat), ∀ (v5 : Int32) (v8 : Int32) (u : SX) (ub : SX) (H : Heap) (locs : List Loc) (ls : Array Slot), va_P D vwCl (wX kI kC kG x ag at_ as_ hh hst a0 a1 a2 a3 tx tch u ++ wX kI kC kG y bg bt_ bs_ yh yst b0 b1 b2 b3 tyy tych ub) H → va_D A (wX kI kC kG x ag at_ as_ hh hst a0 a1 a2 a3 tx tch u ++ wX kI kC kG y bg bt_ bs_ yh yst b0 b1 b2 b3 tyy tych ub) → va_S A s.heap H locs → lv_has ls 12 [(0, .ref x), (1, .ref y), (5, .int v5), (8, .int v8)] → pL_isStep_298 Z n v5 v8 u ub → W p l e (headSpec wsL_isStep ({ frames := 11, cells := 4, slots := 24, locals := 232 } : Room)).room s m ([.ref x, .ref y, .int p2, .int p3] : List Value).toArray below meth c H locs 0 0 (MQ below (va_Qi Z (gB D (gT kI kC kG kJ) (fun (zz : SX × SX) => wX kI kC kG x ag at_ as_ hh hst a0 a1 a2 a3 tx tch zz.1 ++ wX kI kC kG y bg bt_ bs_ yh yst b0 b1 b2 b3 tyy tych zz.2) A) A) ([.ref x, .ref y, .int p2, .int p3] : List Value).toArray s 4 24 A) (F0 m 298 ls []) := by
    intro _ n
    induction n with
    | zero => intro v5 v8 u ub H locs ls hP hD hS hl hw; exact hw.elim
    | succ n ih =>
    intro v5 v8 u ub H locs ls hP hD hS hl hw
    rw [pL_isStep_298] at hw
    refine lv_aload_n hx hb dL_isStep_298 rfl (lv_at hl 0 rfl) ?_
    refine lv_iload hx hb dL_isStep_299 (lv_at hl 2 rfl) ?_
    refine gLSi (mc := 2) (ms := 12) (S := SX) (As := [.ref x, .int v5]) (rest := []) (wc := wX kI kC kG x ag at_ as_ hh hst a0 a1 a2 a3 tx tch u) (wr := [(y, .inr (4, [.ref bg.1, .ref bt_.1, .ref bs_.1, .int ub.1, .ref yh, .ref tyy]))] ++ wG kI bg ub.2.1 ++ wG kI bt_ ub.2.2.1 ++ wG kI bs_ ub.2.2.2.1 ++ [(yh, .inr (2, [.ref yst, .int ub.2.2.2.2.1.1, .int ub.2.2.2.2.1.2.1])), (yst, .inl (kG, 4, .inr (.inr (.inr (.inr (fH b0 b1 b2 b3))))))] ++ wG kI b0 ub.2.2.2.2.1.2.2.1 ++ wG kI b1 ub.2.2.2.2.1.2.2.2.1 ++ wG kI b2 ub.2.2.2.2.1.2.2.2.2.1 ++ wG kI b3 ub.2.2.2.2.1.2.2.2.2.2 ++ wT kC tyy tych ub.2.2.2.2.2) (cs1 := (fun zz : SX => wX kI kC kG x ag at_ as_ hh hst a0 a1 a2 a3 tx tch zz)) (ws2 := (fun zz : SX => wX kI kC kG x ag at_ as_ hh hst a0 a1 a2 a3 tx tch zz ++ wX kI kC kG y bg bt_ bs_ yh yst b0 b1 b2 b3 tyy tych ub)) ⟨hx, hb, hml, hown, hts⟩ (fun sz => kL_give l D kI kC kG kJ hlt x ag at_ as_ hh hst a0 a1 a2 a3 tx tch sz u v5 _ hw) (vx_cwSW 2 hts gL_isStep_L_give rfl rfl rfl hdL_give ⟨Nat.le_of_ble_eq_true rfl, Nat.le_of_ble_eq_true rfl⟩) hK hP hD hE hS hA [0, 1, 2, 3, 4, 5, 6, 7, 8, 9, 10, 11, 12, 13, 14, 15, 16, 17, 18, 19, 20, 21, 22, 23, 24, 25, 26, 27, 28, 29, 30, 31, 32] [33, 34, 35, 36, 37, 38, 39, 40, 41, 42, 43, 44, 45, 46, 47, 48, 49, 50, 51, 52, 53, 54, 55, 56, 57, 58, 59, 60, 61, 62, 63, 64, 65] rfl rfl rfl rfl (by decide) [33, 34, 35, 36, 37, 38, 39, 40, 41, 42, 43, 44, 45, 46, 47, 48, 49, 50, 51, 52, 53, 54, 55, 56, 57, 58, 59, 60, 61, 62, 63, 64, 65, 0, 1, 2, 3, 4, 5, 6, 7, 8, 9, 10, 11, 12, 13, 14, 15, 16, 17, 18, 19, 20, 21, 22, 23, 24, 25, 26, 27, 28, 29, 30, 31, 32] rfl (fun _ => rfl) rfl hl.1 rfl (Nat.le_of_ble_eq_true rfl) dL_isStep_301 ⟨Nat.le_of_ble_eq_true rfl, Nat.le_of_ble_eq_true rfl⟩ (fun r95 w95 H locs hw hP hD hS => ?_)
    have hP : va_P D vwCl (wX kI kC kG x ag at_ as_ hh hst a0 a1 a2 a3 tx tch w95 ++ wX kI kC kG y bg bt_ bs_ yh yst b0 b1 b2 b3 tyy tych ub) H := hP
    have hD : va_D A (wX kI kC kG x ag at_ as_ hh hst a0 a1 a2 a3 tx tch w95 ++ wX kI kC kG y bg bt_ bs_ yh yst b0 b1 b2 b3 tyy tych ub) := hD
    refine lv_istore (lv' := [(11, .int r95), (0, .ref x), (1, .ref y), (5, .int v5), (8, .int v8)]) hx hb dL_isStep_304 hl (by decide) rfl (fun ls hl => ?_)
    refine lv_aload_n hx hb dL_isStep_306 rfl (lv_at hl 2 rfl) ?_
    refine lv_bipush (v := 103) hx hb dL_isStep_307 (by decide) ?_
    refine lv_bipush (v := 15) hx hb dL_isStep_309 (by decide) ?_
    refine lv_iload hx hb dL_isStep_311 (lv_at hl 3 rfl) ?_
    refine lv_isub hx hb dL_isStep_313 ?_
    refine gWSi (mc := 2) (ms := 12) (S := SX) (As := [.ref y, .int 103, .int (15 - v5)]) (rest := []) (wc := wX kI kC kG y bg bt_ bs_ yh yst b0 b1 b2 b3 tyy tych ub) (wr := [(x, .inr (4, [.ref ag.1, .ref at_.1, .ref as_.1, .int w95.1, .ref hh, .ref tx]))] ++ wG kI ag w95.2.1 ++ wG kI at_ w95.2.2.1 ++ wG kI as_ w95.2.2.2.1 ++ [(hh, .inr (2, [.ref hst, .int w95.2.2.2.2.1.1, .int w95.2.2.2.2.1.2.1])), (hst, .inl (kG, 4, .inr (.inr (.inr (.inr (fH a0 a1 a2 a3))))))] ++ wG kI a0 w95.2.2.2.2.1.2.2.1 ++ wG kI a1 w95.2.2.2.2.1.2.2.2.1 ++ wG kI a2 w95.2.2.2.2.1.2.2.2.2.1 ++ wG kI a3 w95.2.2.2.2.1.2.2.2.2.2 ++ wT kC tx tch w95.2.2.2.2.2) (cs1 := (fun zz : SX => wX kI kC kG y bg bt_ bs_ yh yst b0 b1 b2 b3 tyy tych zz)) (ws2 := (fun zz : SX => wX kI kC kG x ag at_ as_ hh hst a0 a1 a2 a3 tx tch w95 ++ wX kI kC kG y bg bt_ bs_ yh yst b0 b1 b2 b3 tyy tych zz)) ⟨hx, hb, hml, hown, hts⟩ (fun sz => kL_text l D kI kC kG kJ hlt y bg bt_ bs_ yh yst b0 b1 b2 b3 tyy tych sz ub 103 (15 - v5) _ hw) (va_cwS 3 hts gL_isStep_L_text rfl rfl rfl hdL_text ⟨Nat.le_of_ble_eq_true rfl, Nat.le_of_ble_eq_true rfl⟩) hK hP hD hE hS hA [33, 34, 35, 36, 37, 38, 39, 40, 41, 42, 43, 44, 45, 46, 47, 48, 49, 50, 51, 52, 53, 54, 55, 56, 57, 58, 59, 60, 61, 62, 63, 64, 65] [0, 1, 2, 3, 4, 5, 6, 7, 8, 9, 10, 11, 12, 13, 14, 15, 16, 17, 18, 19, 20, 21, 22, 23, 24, 25, 26, 27, 28, 29, 30, 31, 32] rfl rfl rfl rfl (by decide) [0, 1, 2, 3, 4, 5, 6, 7, 8, 9, 10, 11, 12, 13, 14, 15, 16, 17, 18, 19, 20, 21, 22, 23, 24, 25, 26, 27, 28, 29, 30, 31, 32, 33, 34, 35, 36, 37, 38, 39, 40, 41, 42, 43, 44, 45, 46, 47, 48, 49, 50, 51, 52, 53, 54, 55, 56, 57, 58, 59, 60, 61, 62, 63, 64, 65] rfl (fun _ => rfl) rfl hl.1 rfl (Nat.le_of_ble_eq_true rfl) dL_isStep_314 ⟨Nat.le_of_ble_eq_true rfl, Nat.le_of_ble_eq_true rfl⟩ (fun r96 w96 H locs hw hP hD hS => ?_)
    have hP : va_P D vwCl (wX kI kC kG x ag at_ as_ hh hst a0 a1 a2 a3 tx tch w95 ++ wX kI kC kG y bg bt_ bs_ yh yst b0 b1 b2 b3 tyy tych w96) H := hP
    have hD : va_D A (wX kI kC kG x ag at_ as_ hh hst a0 a1 a2 a3 tx tch w95 ++ wX kI kC kG y bg bt_ bs_ yh yst b0 b1 b2 b3 tyy tych w96) := hD
    refine lv_iload hx hb dL_isStep_317 (lv_at hl 0 rfl) ?_
    refine lv_ldc (v := 90002) hx hb hown (hts (.constant RL 20 (90002)) (List.mem_of_getElem? (i := 1) rfl)) dL_isStep_319 ?_
    refine lv_icmp_ne (tgt := 329) hx hb dL_isStep_321 (by decide) (fun c97 => ?_) (fun c97 => ?_)
    · replace hw := Eq.mp (if_neg c97) hw
      refine lv_iconst (v := 1) hx hb dL_isStep_329 (by decide) ?_
      refine lv_icmp_ne (tgt := 386) hx hb dL_isStep_330 (by decide) (fun c98 => ?_) (fun c98 => ?_)
      · replace hw := Eq.mp (if_neg c98) hw
        refine lv_iconst (v := 0) hx hb dL_isStep_386 (by decide) ?_
        refine W.widen (k := 4) (n := 24) (Nat.le_of_ble_eq_true rfl) (Nat.le_of_ble_eq_true rfl) ?_
        exact W.zret (v := 0) hx hb hr rfl (fun t ht hW => ⟨⟨0, (w95, w96), rfl, hw, by rw [ht]; exact hP, va_K.moved hW.alike hK, hD⟩, hS.F ht⟩) hS.2.2 dL_isStep_387
      · replace hw := Eq.mp (if_pos c98) hw
        refine lv_iload hx hb dL_isStep_333 (lv_at hl 0 rfl) ?_
        refine lv_ldc (v := 90002) hx hb hown (hts (.constant RL 20 (90002)) (List.mem_of_getElem? (i := 1) rfl)) dL_isStep_335 ?_
        refine lv_icmp_ne (tgt := 352) hx hb dL_isStep_337 (by decide) (fun c99 => ?_) (fun c99 => ?_)
        · replace hw := Eq.mp (if_neg c99) hw
          refine lv_iload hx hb dL_isStep_352 (lv_at hl 0 rfl) ?_
          refine lv_iconst (v := 1) hx hb dL_isStep_354 (by decide) ?_
          refine lv_iload hx hb dL_isStep_355 (lv_at hl 4 rfl) ?_
          refine lv_isub hx hb dL_isStep_357 ?_
          refine lv_icmp_ne (tgt := 386) hx hb dL_isStep_358 (by decide) (fun c100 => ?_) (fun c100 => ?_)
          · replace hw := Eq.mp (if_neg c100) hw
            refine lv_iconst (v := 0) hx hb dL_isStep_386 (by decide) ?_
            refine W.widen (k := 4) (n := 24) (Nat.le_of_ble_eq_true rfl) (Nat.le_of_ble_eq_true rfl) ?_
            exact W.zret (v := 0) hx hb hr rfl (fun t ht hW => ⟨⟨0, (w95, w96), rfl, hw, by rw [ht]; exact hP, va_K.moved hW.alike hK, hD⟩, hS.F ht⟩) hS.2.2 dL_isStep_387
          · replace hw := Eq.mp (if_pos c100) hw
            refine lv_aload_n hx hb dL_isStep_361 rfl (lv_at hl 2 rfl) ?_
            refine gVi (As := []) (rest := []) (cs' := wX kI kC kG y bg bt_ bs_ yh yst b0 b1 b2 b3 tyy tych w96) ⟨hx, hb, hml, hown, hts⟩ (kX5_gift l D kI kC kG kJ y bg bt_ bs_ yh yst b0 b1 b2 b3 tyy tych w96 _ hw) (cwV 0 hts gL_isStep_X5_gift rfl rfl rfl hdX5_gift ⟨Nat.le_of_ble_eq_true rfl, Nat.le_of_ble_eq_true rfl⟩) hK hP hE hS [33, 34, 35, 36, 37, 38, 39, 40, 41, 42, 43, 44, 45, 46, 47, 48, 49, 50, 51, 52, 53, 54, 55, 56, 57, 58, 59, 60, 61, 62, 63, 64, 65] rfl (ci := 4) (q0 := 0) rfl rfl rfl rfl hl.1 rfl (Nat.le_of_ble_eq_true rfl) dL_isStep_362 ⟨Nat.le_of_ble_eq_true rfl, Nat.le_of_ble_eq_true rfl⟩ (fun r101 hw => ?_)
            refine lv_bipush (v := 15) hx hb dL_isStep_365 (by decide) ?_
            refine lv_iload hx hb dL_isStep_367 (lv_at hl 3 rfl) ?_
            refine lv_isub hx hb dL_isStep_369 ?_
            refine lv_icmp_ne (tgt := 386) hx hb dL_isStep_370 (by decide) (fun c102 => ?_) (fun c102 => ?_)
            · replace hw := Eq.mp (if_neg c102) hw
              refine lv_iconst (v := 0) hx hb dL_isStep_386 (by decide) ?_
              refine W.widen (k := 4) (n := 24) (Nat.le_of_ble_eq_true rfl) (Nat.le_of_ble_eq_true rfl) ?_
              exact W.zret (v := 0) hx hb hr rfl (fun t ht hW => ⟨⟨0, (w95, w96), rfl, hw, by rw [ht]; exact hP, va_K.moved hW.alike hK, hD⟩, hS.F ht⟩) hS.2.2 dL_isStep_387
            · replace hw := Eq.mp (if_pos c102) hw
              refine lv_aload_n hx hb dL_isStep_373 rfl (lv_at hl 1 rfl) ?_
              refine gVi (As := []) (rest := []) (cs' := wX kI kC kG x ag at_ as_ hh hst a0 a1 a2 a3 tx tch w95) ⟨hx, hb, hml, hown, hts⟩ (kX5_playerToMove l D kI kC kG kJ x ag at_ as_ hh hst a0 a1 a2 a3 tx tch w95 _ hw) (cwV 0 hts gL_isStep_X5_playerToMove rfl rfl rfl hdX5_playerToMove ⟨Nat.le_of_ble_eq_true rfl, Nat.le_of_ble_eq_true rfl⟩) hK hP hE hS [0, 1, 2, 3, 4, 5, 6, 7, 8, 9, 10, 11, 12, 13, 14, 15, 16, 17, 18, 19, 20, 21, 22, 23, 24, 25, 26, 27, 28, 29, 30, 31, 32] rfl (ci := 4) (q0 := 0) rfl rfl rfl rfl hl.1 rfl (Nat.le_of_ble_eq_true rfl) dL_isStep_374 ⟨Nat.le_of_ble_eq_true rfl, Nat.le_of_ble_eq_true rfl⟩ (fun r103 hw => ?_)
              refine lv_iload hx hb dL_isStep_377 (lv_at hl 0 rfl) ?_
              refine lv_icmp_ne (tgt := 386) hx hb dL_isStep_379 (by decide) (fun c104 => ?_) (fun c104 => ?_)
              · replace hw := Eq.mp (if_neg c104) hw
                refine lv_iconst (v := 0) hx hb dL_isStep_386 (by decide) ?_
                refine W.widen (k := 4) (n := 24) (Nat.le_of_ble_eq_true rfl) (Nat.le_of_ble_eq_true rfl) ?_
                exact W.zret (v := 0) hx hb hr rfl (fun t ht hW => ⟨⟨0, (w95, w96), rfl, hw, by rw [ht]; exact hP, va_K.moved hW.alike hK, hD⟩, hS.F ht⟩) hS.2.2 dL_isStep_387
              · replace hw := Eq.mp (if_pos c104) hw
                refine lv_iconst (v := 1) hx hb dL_isStep_382 (by decide) ?_
                refine lv_goto (tgt := 387) hx hb dL_isStep_383 (by decide) ?_
                refine W.widen (k := 4) (n := 24) (Nat.le_of_ble_eq_true rfl) (Nat.le_of_ble_eq_true rfl) ?_
                exact W.zret (v := 1) hx hb hr rfl (fun t ht hW => ⟨⟨1, (w95, w96), rfl, hw, by rw [ht]; exact hP, va_K.moved hW.alike hK, hD⟩, hS.F ht⟩) hS.2.2 dL_isStep_387
        · replace hw := Eq.mp (if_pos c99) hw
          refine lv_aload_n hx hb dL_isStep_340 rfl (lv_at hl 1 rfl) ?_
          refine lv_iload hx hb dL_isStep_341 (lv_at hl 3 rfl) ?_
          refine gLSi (mc := 0) (ms := 0) (S := SX) (As := [.ref x, .int v5]) (rest := []) (wc := wX kI kC kG x ag at_ as_ hh hst a0 a1 a2 a3 tx tch w95) (wr := [(y, .inr (4, [.ref bg.1, .ref bt_.1, .ref bs_.1, .int w96.1, .ref yh, .ref tyy]))] ++ wG kI bg w96.2.1 ++ wG kI bt_ w96.2.2.1 ++ wG kI bs_ w96.2.2.2.1 ++ [(yh, .inr (2, [.ref yst, .int w96.2.2.2.2.1.1, .int w96.2.2.2.2.1.2.1])), (yst, .inl (kG, 4, .inr (.inr (.inr (.inr (fH b0 b1 b2 b3))))))] ++ wG kI b0 w96.2.2.2.2.1.2.2.1 ++ wG kI b1 w96.2.2.2.2.1.2.2.2.1 ++ wG kI b2 w96.2.2.2.2.1.2.2.2.2.1 ++ wG kI b3 w96.2.2.2.2.1.2.2.2.2.2 ++ wT kC tyy tych w96.2.2.2.2.2) (cs1 := (fun zz : SX => wX kI kC kG x ag at_ as_ hh hst a0 a1 a2 a3 tx tch zz)) (ws2 := (fun zz : SX => wX kI kC kG x ag at_ as_ hh hst a0 a1 a2 a3 tx tch zz ++ wX kI kC kG y bg bt_ bs_ yh yst b0 b1 b2 b3 tyy tych w96)) ⟨hx, hb, hml, hown, hts⟩ (fun sz => kL_cellOf l D kI kC kG kJ hlt x ag at_ as_ hh hst a0 a1 a2 a3 tx tch sz w95 v5 _ hw) (vx_cwSW 2 hts gL_isStep_L_cellOf rfl rfl rfl hdL_cellOf ⟨Nat.le_of_ble_eq_true rfl, Nat.le_of_ble_eq_true rfl⟩) hK hP hD hE hS hA [0, 1, 2, 3, 4, 5, 6, 7, 8, 9, 10, 11, 12, 13, 14, 15, 16, 17, 18, 19, 20, 21, 22, 23, 24, 25, 26, 27, 28, 29, 30, 31, 32] [33, 34, 35, 36, 37, 38, 39, 40, 41, 42, 43, 44, 45, 46, 47, 48, 49, 50, 51, 52, 53, 54, 55, 56, 57, 58, 59, 60, 61, 62, 63, 64, 65] rfl rfl rfl rfl (by decide) [33, 34, 35, 36, 37, 38, 39, 40, 41, 42, 43, 44, 45, 46, 47, 48, 49, 50, 51, 52, 53, 54, 55, 56, 57, 58, 59, 60, 61, 62, 63, 64, 65, 0, 1, 2, 3, 4, 5, 6, 7, 8, 9, 10, 11, 12, 13, 14, 15, 16, 17, 18, 19, 20, 21, 22, 23, 24, 25, 26, 27, 28, 29, 30, 31, 32] rfl (fun _ => rfl) rfl hl.1 rfl (Nat.le_of_ble_eq_true rfl) dL_isStep_343 ⟨Nat.le_of_ble_eq_true rfl, Nat.le_of_ble_eq_true rfl⟩ (fun r105 w105 H locs hw hP hD hS => ?_)
          have hP : va_P D vwCl (wX kI kC kG x ag at_ as_ hh hst a0 a1 a2 a3 tx tch w105 ++ wX kI kC kG y bg bt_ bs_ yh yst b0 b1 b2 b3 tyy tych w96) H := hP
          have hD : va_D A (wX kI kC kG x ag at_ as_ hh hst a0 a1 a2 a3 tx tch w105 ++ wX kI kC kG y bg bt_ bs_ yh yst b0 b1 b2 b3 tyy tych w96) := hD
          refine lv_if_lt (tgt := 386) hx hb dL_isStep_346 (by decide) (fun c106 => ?_) (fun c106 => ?_)
          · replace hw := Eq.mp (if_pos c106) hw
            refine lv_iconst (v := 0) hx hb dL_isStep_386 (by decide) ?_
            refine W.widen (k := 4) (n := 24) (Nat.le_of_ble_eq_true rfl) (Nat.le_of_ble_eq_true rfl) ?_
            exact W.zret (v := 0) hx hb hr rfl (fun t ht hW => ⟨⟨0, (w105, w96), rfl, hw, by rw [ht]; exact hP, va_K.moved hW.alike hK, hD⟩, hS.F ht⟩) hS.2.2 dL_isStep_387
          · replace hw := Eq.mp (if_neg c106) hw
            refine lv_goto (tgt := 382) hx hb dL_isStep_349 (by decide) ?_
            refine lv_iconst (v := 1) hx hb dL_isStep_382 (by decide) ?_
            refine lv_goto (tgt := 387) hx hb dL_isStep_383 (by decide) ?_
            refine W.widen (k := 4) (n := 24) (Nat.le_of_ble_eq_true rfl) (Nat.le_of_ble_eq_true rfl) ?_
            exact W.zret (v := 1) hx hb hr rfl (fun t ht hW => ⟨⟨1, (w105, w96), rfl, hw, by rw [ht]; exact hP, va_K.moved hW.alike hK, hD⟩, hS.F ht⟩) hS.2.2 dL_isStep_387
    · replace hw := Eq.mp (if_pos c97) hw
      refine lv_ldc (v := 90001) hx hb hown (hts (.constant RL 17 (90001)) (List.mem_of_getElem? (i := 2) rfl)) dL_isStep_324 ?_
      refine lv_goto (tgt := 330) hx hb dL_isStep_326 (by decide) ?_
      refine lv_icmp_ne (tgt := 386) hx hb dL_isStep_330 (by decide) (fun c107 => ?_) (fun c107 => ?_)
      · replace hw := Eq.mp (if_neg c107) hw
        refine lv_iconst (v := 0) hx hb dL_isStep_386 (by decide) ?_
        refine W.widen (k := 4) (n := 24) (Nat.le_of_ble_eq_true rfl) (Nat.le_of_ble_eq_true rfl) ?_
        exact W.zret (v := 0) hx hb hr rfl (fun t ht hW => ⟨⟨0, (w95, w96), rfl, hw, by rw [ht]; exact hP, va_K.moved hW.alike hK, hD⟩, hS.F ht⟩) hS.2.2 dL_isStep_387
      · replace hw := Eq.mp (if_pos c107) hw
        refine lv_iload hx hb dL_isStep_333 (lv_at hl 0 rfl) ?_
        refine lv_ldc (v := 90002) hx hb hown (hts (.constant RL 20 (90002)) (List.mem_of_getElem? (i := 1) rfl)) dL_isStep_335 ?_
        refine lv_icmp_ne (tgt := 352) hx hb dL_isStep_337 (by decide) (fun c108 => ?_) (fun c108 => ?_)
        · replace hw := Eq.mp (if_neg c108) hw
          refine lv_iload hx hb dL_isStep_352 (lv_at hl 0 rfl) ?_
          refine lv_iconst (v := 1) hx hb dL_isStep_354 (by decide) ?_
          refine lv_iload hx hb dL_isStep_355 (lv_at hl 4 rfl) ?_
          refine lv_isub hx hb dL_isStep_357 ?_
          refine lv_icmp_ne (tgt := 386) hx hb dL_isStep_358 (by decide) (fun c109 => ?_) (fun c109 => ?_)
          · replace hw := Eq.mp (if_neg c109) hw
            refine lv_iconst (v := 0) hx hb dL_isStep_386 (by decide) ?_
            refine W.widen (k := 4) (n := 24) (Nat.le_of_ble_eq_true rfl) (Nat.le_of_ble_eq_true rfl) ?_
            exact W.zret (v := 0) hx hb hr rfl (fun t ht hW => ⟨⟨0, (w95, w96), rfl, hw, by rw [ht]; exact hP, va_K.moved hW.alike hK, hD⟩, hS.F ht⟩) hS.2.2 dL_isStep_387
          · replace hw := Eq.mp (if_pos c109) hw
            refine lv_aload_n hx hb dL_isStep_361 rfl (lv_at hl 2 rfl) ?_
            refine gVi (As := []) (rest := []) (cs' := wX kI kC kG y bg bt_ bs_ yh yst b0 b1 b2 b3 tyy tych w96) ⟨hx, hb, hml, hown, hts⟩ (kX5_gift l D kI kC kG kJ y bg bt_ bs_ yh yst b0 b1 b2 b3 tyy tych w96 _ hw) (cwV 0 hts gL_isStep_X5_gift rfl rfl rfl hdX5_gift ⟨Nat.le_of_ble_eq_true rfl, Nat.le_of_ble_eq_true rfl⟩) hK hP hE hS [33, 34, 35, 36, 37, 38, 39, 40, 41, 42, 43, 44, 45, 46, 47, 48, 49, 50, 51, 52, 53, 54, 55, 56, 57, 58, 59, 60, 61, 62, 63, 64, 65] rfl (ci := 4) (q0 := 0) rfl rfl rfl rfl hl.1 rfl (Nat.le_of_ble_eq_true rfl) dL_isStep_362 ⟨Nat.le_of_ble_eq_true rfl, Nat.le_of_ble_eq_true rfl⟩ (fun r110 hw => ?_)
            refine lv_bipush (v := 15) hx hb dL_isStep_365 (by decide) ?_
            refine lv_iload hx hb dL_isStep_367 (lv_at hl 3 rfl) ?_
            refine lv_isub hx hb dL_isStep_369 ?_
            refine lv_icmp_ne (tgt := 386) hx hb dL_isStep_370 (by decide) (fun c111 => ?_) (fun c111 => ?_)
            · replace hw := Eq.mp (if_neg c111) hw
              refine lv_iconst (v := 0) hx hb dL_isStep_386 (by decide) ?_
              refine W.widen (k := 4) (n := 24) (Nat.le_of_ble_eq_true rfl) (Nat.le_of_ble_eq_true rfl) ?_
              exact W.zret (v := 0) hx hb hr rfl (fun t ht hW => ⟨⟨0, (w95, w96), rfl, hw, by rw [ht]; exact hP, va_K.moved hW.alike hK, hD⟩, hS.F ht⟩) hS.2.2 dL_isStep_387
            · replace hw := Eq.mp (if_pos c111) hw
              refine lv_aload_n hx hb dL_isStep_373 rfl (lv_at hl 1 rfl) ?_
              refine gVi (As := []) (rest := []) (cs' := wX kI kC kG x ag at_ as_ hh hst a0 a1 a2 a3 tx tch w95) ⟨hx, hb, hml, hown, hts⟩ (kX5_playerToMove l D kI kC kG kJ x ag at_ as_ hh hst a0 a1 a2 a3 tx tch w95 _ hw) (cwV 0 hts gL_isStep_X5_playerToMove rfl rfl rfl hdX5_playerToMove ⟨Nat.le_of_ble_eq_true rfl, Nat.le_of_ble_eq_true rfl⟩) hK hP hE hS [0, 1, 2, 3, 4, 5, 6, 7, 8, 9, 10, 11, 12, 13, 14, 15, 16, 17, 18, 19, 20, 21, 22, 23, 24, 25, 26, 27, 28, 29, 30, 31, 32] rfl (ci := 4) (q0 := 0) rfl rfl rfl rfl hl.1 rfl (Nat.le_of_ble_eq_true rfl) dL_isStep_374 ⟨Nat.le_of_ble_eq_true rfl, Nat.le_of_ble_eq_true rfl⟩ (fun r112 hw => ?_)
              refine lv_iload hx hb dL_isStep_377 (lv_at hl 0 rfl) ?_
              refine lv_icmp_ne (tgt := 386) hx hb dL_isStep_379 (by decide) (fun c113 => ?_) (fun c113 => ?_)
              · replace hw := Eq.mp (if_neg c113) hw
                refine lv_iconst (v := 0) hx hb dL_isStep_386 (by decide) ?_
                refine W.widen (k := 4) (n := 24) (Nat.le_of_ble_eq_true rfl) (Nat.le_of_ble_eq_true rfl) ?_
                exact W.zret (v := 0) hx hb hr rfl (fun t ht hW => ⟨⟨0, (w95, w96), rfl, hw, by rw [ht]; exact hP, va_K.moved hW.alike hK, hD⟩, hS.F ht⟩) hS.2.2 dL_isStep_387
              · replace hw := Eq.mp (if_pos c113) hw
                refine lv_iconst (v := 1) hx hb dL_isStep_382 (by decide) ?_
                refine lv_goto (tgt := 387) hx hb dL_isStep_383 (by decide) ?_
                refine W.widen (k := 4) (n := 24) (Nat.le_of_ble_eq_true rfl) (Nat.le_of_ble_eq_true rfl) ?_
                exact W.zret (v := 1) hx hb hr rfl (fun t ht hW => ⟨⟨1, (w95, w96), rfl, hw, by rw [ht]; exact hP, va_K.moved hW.alike hK, hD⟩, hS.F ht⟩) hS.2.2 dL_isStep_387
        · replace hw := Eq.mp (if_pos c108) hw
          refine lv_aload_n hx hb dL_isStep_340 rfl (lv_at hl 1 rfl) ?_
          refine lv_iload hx hb dL_isStep_341 (lv_at hl 3 rfl) ?_
          refine gLSi (mc := 0) (ms := 0) (S := SX) (As := [.ref x, .int v5]) (rest := []) (wc := wX kI kC kG x ag at_ as_ hh hst a0 a1 a2 a3 tx tch w95) (wr := [(y, .inr (4, [.ref bg.1, .ref bt_.1, .ref bs_.1, .int w96.1, .ref yh, .ref tyy]))] ++ wG kI bg w96.2.1 ++ wG kI bt_ w96.2.2.1 ++ wG kI bs_ w96.2.2.2.1 ++ [(yh, .inr (2, [.ref yst, .int w96.2.2.2.2.1.1, .int w96.2.2.2.2.1.2.1])), (yst, .inl (kG, 4, .inr (.inr (.inr (.inr (fH b0 b1 b2 b3))))))] ++ wG kI b0 w96.2.2.2.2.1.2.2.1 ++ wG kI b1 w96.2.2.2.2.1.2.2.2.1 ++ wG kI b2 w96.2.2.2.2.1.2.2.2.2.1 ++ wG kI b3 w96.2.2.2.2.1.2.2.2.2.2 ++ wT kC tyy tych w96.2.2.2.2.2) (cs1 := (fun zz : SX => wX kI kC kG x ag at_ as_ hh hst a0 a1 a2 a3 tx tch zz)) (ws2 := (fun zz : SX => wX kI kC kG x ag at_ as_ hh hst a0 a1 a2 a3 tx tch zz ++ wX kI kC kG y bg bt_ bs_ yh yst b0 b1 b2 b3 tyy tych w96)) ⟨hx, hb, hml, hown, hts⟩ (fun sz => kL_cellOf l D kI kC kG kJ hlt x ag at_ as_ hh hst a0 a1 a2 a3 tx tch sz w95 v5 _ hw) (vx_cwSW 2 hts gL_isStep_L_cellOf rfl rfl rfl hdL_cellOf ⟨Nat.le_of_ble_eq_true rfl, Nat.le_of_ble_eq_true rfl⟩) hK hP hD hE hS hA [0, 1, 2, 3, 4, 5, 6, 7, 8, 9, 10, 11, 12, 13, 14, 15, 16, 17, 18, 19, 20, 21, 22, 23, 24, 25, 26, 27, 28, 29, 30, 31, 32] [33, 34, 35, 36, 37, 38, 39, 40, 41, 42, 43, 44, 45, 46, 47, 48, 49, 50, 51, 52, 53, 54, 55, 56, 57, 58, 59, 60, 61, 62, 63, 64, 65] rfl rfl rfl rfl (by decide) [33, 34, 35, 36, 37, 38, 39, 40, 41, 42, 43, 44, 45, 46, 47, 48, 49, 50, 51, 52, 53, 54, 55, 56, 57, 58, 59, 60, 61, 62, 63, 64, 65, 0, 1, 2, 3, 4, 5, 6, 7, 8, 9, 10, 11, 12, 13, 14, 15, 16, 17, 18, 19, 20, 21, 22, 23, 24, 25, 26, 27, 28, 29, 30, 31, 32] rfl (fun _ => rfl) rfl hl.1 rfl (Nat.le_of_ble_eq_true rfl) dL_isStep_343 ⟨Nat.le_of_ble_eq_true rfl, Nat.le_of_ble_eq_true rfl⟩ (fun r114 w114 H locs hw hP hD hS => ?_)
          have hP : va_P D vwCl (wX kI kC kG x ag at_ as_ hh hst a0 a1 a2 a3 tx tch w114 ++ wX kI kC kG y bg bt_ bs_ yh yst b0 b1 b2 b3 tyy tych w96) H := hP
          have hD : va_D A (wX kI kC kG x ag at_ as_ hh hst a0 a1 a2 a3 tx tch w114 ++ wX kI kC kG y bg bt_ bs_ yh yst b0 b1 b2 b3 tyy tych w96) := hD
          refine lv_if_lt (tgt := 386) hx hb dL_isStep_346 (by decide) (fun c115 => ?_) (fun c115 => ?_)
          · replace hw := Eq.mp (if_pos c115) hw
            refine lv_iconst (v := 0) hx hb dL_isStep_386 (by decide) ?_
            refine W.widen (k := 4) (n := 24) (Nat.le_of_ble_eq_true rfl) (Nat.le_of_ble_eq_true rfl) ?_
            exact W.zret (v := 0) hx hb hr rfl (fun t ht hW => ⟨⟨0, (w114, w96), rfl, hw, by rw [ht]; exact hP, va_K.moved hW.alike hK, hD⟩, hS.F ht⟩) hS.2.2 dL_isStep_387
          · replace hw := Eq.mp (if_neg c115) hw
            refine lv_goto (tgt := 382) hx hb dL_isStep_349 (by decide) ?_
            refine lv_iconst (v := 1) hx hb dL_isStep_382 (by decide) ?_
            refine lv_goto (tgt := 387) hx hb dL_isStep_383 (by decide) ?_
            refine W.widen (k := 4) (n := 24) (Nat.le_of_ble_eq_true rfl) (Nat.le_of_ble_eq_true rfl) ?_
            exact W.zret (v := 1) hx hb hr rfl (fun t ht hW => ⟨⟨1, (w114, w96), rfl, hw, by rw [ht]; exact hP, va_K.moved hW.alike hK, hD⟩, hS.F ht⟩) hS.2.2 dL_isStep_387
  have L282 : ∀ (v4 : Int32) (v8 : Int32) (v10 : Int32) (K241 : Int32 → Int32 → SX → SX → Prop) (hK241 : ∀ (v5 : Int32) (v11 : Int32) (u : SX) (ub : SX) (H : Heap) (locs : List Loc) (ls : Array Slot), va_P D vwCl (wX kI kC kG x ag at_ as_ hh hst a0 a1 a2 a3 tx tch u ++ wX kI kC kG y bg bt_ bs_ yh yst b0 b1 b2 b3 tyy tych ub) H → va_D A (wX kI kC kG x ag at_ as_ hh hst a0 a1 a2 a3 tx tch u ++ wX kI kC kG y bg bt_ bs_ yh yst b0 b1 b2 b3 tyy tych ub) → va_S A s.heap H locs → lv_has ls 12 [(0, .ref x), (1, .ref y), (4, .int v4), (5, .int v5), (8, .int v8), (10, .int v10), (11, .int v11)] → K241 v5 v11 u ub → W p l e (headSpec wsL_isStep ({ frames := 11, cells := 4, slots := 24, locals := 232 } : Room)).room s m ([.ref x, .ref y, .int p2, .int p3] : List Value).toArray below meth c H locs 0 0 (MQ below (va_Qi Z (gB D (gT kI kC kG kJ) (fun (zz : SX × SX) => wX kI kC kG x ag at_ as_ hh hst a0 a1 a2 a3 tx tch zz.1 ++ wX kI kC kG y bg bt_ bs_ yh yst b0 b1 b2 b3 tyy tych zz.2) A) A) ([.ref x, .ref y, .int p2, .int p3] : List Value).toArray s 4 24 A) (F0 m 241 ls [])), ∀ (n : Nat), ∀ (v5 : Int32) (v11 : Int32) (u : SX) (ub : SX) (H : Heap) (locs : List Loc) (ls : Array Slot), va_P D vwCl (wX kI kC kG x ag at_ as_ hh hst a0 a1 a2 a3 tx tch u ++ wX kI kC kG y bg bt_ bs_ yh yst b0 b1 b2 b3 tyy tych ub) H → va_D A (wX kI kC kG x ag at_ as_ hh hst a0 a1 a2 a3 tx tch u ++ wX kI kC kG y bg bt_ bs_ yh yst b0 b1 b2 b3 tyy tych ub) → va_S A s.heap H locs → lv_has ls 12 [(0, .ref x), (1, .ref y), (4, .int v4), (5, .int v5), (8, .int v8), (10, .int v10), (11, .int v11)] → pL_isStep_282 Z K241 v4 v8 v10 n v5 v11 u ub → W p l e (headSpec wsL_isStep ({ frames := 11, cells := 4, slots := 24, locals := 232 } : Room)).room s m ([.ref x, .ref y, .int p2, .int p3] : List Value).toArray below meth c H locs 0 0 (MQ below (va_Qi Z (gB D (gT kI kC kG kJ) (fun (zz : SX × SX) => wX kI kC kG x ag at_ as_ hh hst a0 a1 a2 a3 tx tch zz.1 ++ wX kI kC kG y bg bt_ bs_ yh yst b0 b1 b2 b3 tyy tych zz.2) A) A) ([.ref x, .ref y, .int p2, .int p3] : List Value).toArray s 4 24 A) (F0 m 282 ls []) := by
    intro v4 v8 v10 K241 hK241 n
    induction n with
    | zero => intro v5 v11 u ub H locs ls hP hD hS hl hw; exact hw.elim
    | succ n ih =>
    intro v5 v11 u ub H locs ls hP hD hS hl hw
    rw [pL_isStep_282] at hw
    refine lv_iload hx hb dL_isStep_282 (lv_at hl 3 rfl) ?_
    refine lv_bipush (v := 7) hx hb dL_isStep_284 (by decide) ?_
    refine lv_iadd hx hb dL_isStep_286 ?_
    refine lv_bipush (v := 16) hx hb dL_isStep_287 (by decide) ?_
    refine lv_irem hx hb dL_isStep_289 (by decide) ?_
    refine lv_topi (fun x120 ex120 => ?_)
    replace hw := hw x120 ex120
    refine lv_istore (lv' := [(5, .int x120), (0, .ref x), (1, .ref y), (4, .int v4), (8, .int v8), (10, .int v10), (11, .int v11)]) hx hb dL_isStep_290 hl (by decide) rfl (fun ls hl => ?_)
    obtain ⟨x121, ex121⟩ : ∃ y : Int32, y = (v11 + 1) := ⟨_, rfl⟩
    replace hw := hw x121 ex121
    refine lv_iinc (v := x121) (lv' := [(11, .int x121), (5, .int x120), (0, .ref x), (1, .ref y), (4, .int v4), (8, .int v8), (10, .int v10)]) hx hb dL_isStep_292 hl (k := 6) rfl (by rw [ex121]; rfl) (by decide) rfl (fun ls hl => ?_)
    refine lv_goto (tgt := 241) hx hb dL_isStep_295 (by decide) ?_
    exact hK241 x120 x121 u ub H locs ls hP hD hS (lv_sub hl [2, 3, 4, 1, 5, 6, 0] rfl) hw
  have L241 : ∀ (v4 : Int32) (v8 : Int32) (v10 : Int32), ∀ (n : Nat), ∀ (v5 : Int32) (v11 : Int32) (u : SX) (ub : SX) (H : Heap) (locs : List Loc) (ls : Array Slot), va_P D vwCl (wX kI kC kG x ag at_ as_ hh hst a0 a1 a2 a3 tx tch u ++ wX kI kC kG y bg bt_ bs_ yh yst b0 b1 b2 b3 tyy tych ub) H → va_D A (wX kI kC kG x ag at_ as_ hh hst a0 a1 a2 a3 tx tch u ++ wX kI kC kG y bg bt_ bs_ yh yst b0 b1 b2 b3 tyy tych ub) → va_S A s.heap H locs → lv_has ls 12 [(0, .ref x), (1, .ref y), (4, .int v4), (5, .int v5), (8, .int v8), (10, .int v10), (11, .int v11)] → pL_isStep_241 Z v4 v8 v10 n v5 v11 u ub → W p l e (headSpec wsL_isStep ({ frames := 11, cells := 4, slots := 24, locals := 232 } : Room)).room s m ([.ref x, .ref y, .int p2, .int p3] : List Value).toArray below meth c H locs 0 0 (MQ below (va_Qi Z (gB D (gT kI kC kG kJ) (fun (zz : SX × SX) => wX kI kC kG x ag at_ as_ hh hst a0 a1 a2 a3 tx tch zz.1 ++ wX kI kC kG y bg bt_ bs_ yh yst b0 b1 b2 b3 tyy tych zz.2) A) A) ([.ref x, .ref y, .int p2, .int p3] : List Value).toArray s 4 24 A) (F0 m 241 ls []) := by
    intro v4 v8 v10 n
    induction n with
    | zero => intro v5 v11 u ub H locs ls hP hD hS hl hw; exact hw.elim
    | succ n ih =>
    intro v5 v11 u ub H locs ls hP hD hS hl hw
    rw [pL_isStep_241] at hw
    refine lv_iload hx hb dL_isStep_241 (lv_at hl 6 rfl) ?_
    refine lv_bipush (v := 16) hx hb dL_isStep_243 (by decide) ?_
    refine lv_icmp_ge (tgt := 298) hx hb dL_isStep_245 (by decide) (fun c94 => ?_) (fun c94 => ?_)
    · replace hw := Eq.mp (if_pos c94) hw
      obtain ⟨n9, hw⟩ := hw
      exact L298 () n9 v5 v8 u ub H locs ls hP hD hS (lv_sub hl [0, 1, 3, 4] rfl) hw
    · replace hw := Eq.mp (if_neg c94) hw
      refine lv_iload hx hb dL_isStep_248 (lv_at hl 2 rfl) ?_
      refine lv_bipush (v := 6) hx hb dL_isStep_250 (by decide) ?_
      refine gSi (As := [.int v4, .int 6]) (rest := []) (cs' := ([] : va_W)) ⟨hx, hb, hml, hown, hts⟩ (kL_up l D kI kC kG kJ v4 6 _ hw) (va_cwS 2 hts gL_isStep_L_up rfl rfl rfl hdL_up ⟨Nat.le_of_ble_eq_true rfl, Nat.le_of_ble_eq_true rfl⟩) hK hP hE hS [] rfl rfl hl.1 rfl (Nat.le_of_ble_eq_true rfl) dL_isStep_252 ⟨Nat.le_of_ble_eq_true rfl, Nat.le_of_ble_eq_true rfl⟩ (fun r116 hw => ?_)
      refine lv_if_le (tgt := 298) hx hb dL_isStep_255 (by decide) (fun c117 => ?_) (fun c117 => ?_)
      · replace hw := Eq.mp (if_pos c117) hw
        obtain ⟨n9, hw⟩ := hw
        exact L298 () n9 v5 v8 u ub H locs ls hP hD hS (lv_sub hl [0, 1, 3, 4] rfl) hw
      · replace hw := Eq.mp (if_neg c117) hw
        refine lv_aload_n hx hb dL_isStep_258 rfl (lv_at hl 0 rfl) ?_
        refine lv_iload hx hb dL_isStep_259 (lv_at hl 3 rfl) ?_
        refine gLSi (mc := 0) (ms := 0) (S := SX) (As := [.ref x, .int v5]) (rest := []) (wc := wX kI kC kG x ag at_ as_ hh hst a0 a1 a2 a3 tx tch u) (wr := [(y, .inr (4, [.ref bg.1, .ref bt_.1, .ref bs_.1, .int ub.1, .ref yh, .ref tyy]))] ++ wG kI bg ub.2.1 ++ wG kI bt_ ub.2.2.1 ++ wG kI bs_ ub.2.2.2.1 ++ [(yh, .inr (2, [.ref yst, .int ub.2.2.2.2.1.1, .int ub.2.2.2.2.1.2.1])), (yst, .inl (kG, 4, .inr (.inr (.inr (.inr (fH b0 b1 b2 b3))))))] ++ wG kI b0 ub.2.2.2.2.1.2.2.1 ++ wG kI b1 ub.2.2.2.2.1.2.2.2.1 ++ wG kI b2 ub.2.2.2.2.1.2.2.2.2.1 ++ wG kI b3 ub.2.2.2.2.1.2.2.2.2.2 ++ wT kC tyy tych ub.2.2.2.2.2) (cs1 := (fun zz : SX => wX kI kC kG x ag at_ as_ hh hst a0 a1 a2 a3 tx tch zz)) (ws2 := (fun zz : SX => wX kI kC kG x ag at_ as_ hh hst a0 a1 a2 a3 tx tch zz ++ wX kI kC kG y bg bt_ bs_ yh yst b0 b1 b2 b3 tyy tych ub)) ⟨hx, hb, hml, hown, hts⟩ (fun sz => kL_cellOf l D kI kC kG kJ hlt x ag at_ as_ hh hst a0 a1 a2 a3 tx tch sz u v5 _ hw) (vx_cwSW 2 hts gL_isStep_L_cellOf rfl rfl rfl hdL_cellOf ⟨Nat.le_of_ble_eq_true rfl, Nat.le_of_ble_eq_true rfl⟩) hK hP hD hE hS hA [0, 1, 2, 3, 4, 5, 6, 7, 8, 9, 10, 11, 12, 13, 14, 15, 16, 17, 18, 19, 20, 21, 22, 23, 24, 25, 26, 27, 28, 29, 30, 31, 32] [33, 34, 35, 36, 37, 38, 39, 40, 41, 42, 43, 44, 45, 46, 47, 48, 49, 50, 51, 52, 53, 54, 55, 56, 57, 58, 59, 60, 61, 62, 63, 64, 65] rfl rfl rfl rfl (by decide) [33, 34, 35, 36, 37, 38, 39, 40, 41, 42, 43, 44, 45, 46, 47, 48, 49, 50, 51, 52, 53, 54, 55, 56, 57, 58, 59, 60, 61, 62, 63, 64, 65, 0, 1, 2, 3, 4, 5, 6, 7, 8, 9, 10, 11, 12, 13, 14, 15, 16, 17, 18, 19, 20, 21, 22, 23, 24, 25, 26, 27, 28, 29, 30, 31, 32] rfl (fun _ => rfl) rfl hl.1 rfl (Nat.le_of_ble_eq_true rfl) dL_isStep_261 ⟨Nat.le_of_ble_eq_true rfl, Nat.le_of_ble_eq_true rfl⟩ (fun r118 w118 H locs hw hP hD hS => ?_)
        have hP : va_P D vwCl (wX kI kC kG x ag at_ as_ hh hst a0 a1 a2 a3 tx tch w118 ++ wX kI kC kG y bg bt_ bs_ yh yst b0 b1 b2 b3 tyy tych ub) H := hP
        have hD : va_D A (wX kI kC kG x ag at_ as_ hh hst a0 a1 a2 a3 tx tch w118 ++ wX kI kC kG y bg bt_ bs_ yh yst b0 b1 b2 b3 tyy tych ub) := hD
        refine lv_if_ge (tgt := 282) hx hb dL_isStep_264 (by decide) (fun c119 => ?_) (fun c119 => ?_)
        · replace hw := Eq.mp (if_pos c119) hw
          obtain ⟨n9, hw⟩ := hw
          exact L282 v4 v8 v10 (pL_isStep_241 Z v4 v8 v10 n) ih n9 v5 v11 w118 ub H locs ls hP hD hS (lv_sub hl [0, 1, 2, 3, 4, 5, 6] rfl) hw
        · replace hw := Eq.mp (if_neg c119) hw
          refine lv_iload hx hb dL_isStep_267 (lv_at hl 5 rfl) ?_
          refine lv_if_le (tgt := 298) hx hb dL_isStep_269 (by decide) (fun c122 => ?_) (fun c122 => ?_)
          · replace hw := Eq.mp (if_pos c122) hw
            obtain ⟨n9, hw⟩ := hw
            exact L298 () n9 v5 v8 w118 ub H locs ls hP hD hS (lv_sub hl [0, 1, 3, 4] rfl) hw
          · replace hw := Eq.mp (if_neg c122) hw
            refine lv_iload hx hb dL_isStep_272 (lv_at hl 5 rfl) ?_
            refine lv_iload hx hb dL_isStep_274 (lv_at hl 3 rfl) ?_
            refine lv_ishr hx hb dL_isStep_276 ?_
            refine lv_iconst (v := 1) hx hb dL_isStep_277 (by decide) ?_
            refine lv_iand hx hb dL_isStep_278 ?_
            refine lv_if_ne (tgt := 298) hx hb dL_isStep_279 (by decide) (fun c123 => ?_) (fun c123 => ?_)
            · replace hw := Eq.mp (if_neg c123) hw
              obtain ⟨n9, hw⟩ := hw
              exact L298 () n9 v5 v8 w118 ub H locs ls hP hD hS (lv_sub hl [0, 1, 3, 4] rfl) hw
            · replace hw := Eq.mp (if_pos c123) hw
              obtain ⟨n9, hw⟩ := hw
              exact L282 v4 v8 v10 (pL_isStep_241 Z v4 v8 v10 n) ih n9 v5 v11 w118 ub H locs ls hP hD hS (lv_sub hl [0, 1, 2, 3, 4, 5, 6] rfl) hw
  unfold pL_isStep at hw
  refine lv_iload_n hx hb dL_isStep_0 rfl (lv_at hl 2 rfl) ?_
  refine lv_iconst (v := 4) hx hb dL_isStep_1 (by decide) ?_
  refine lv_ishr hx hb dL_isStep_2 ?_
  refine lv_topi (fun x1 ex1 => ?_)
  replace hw := hw x1 ex1
  refine lv_istore (lv' := [(4, .int x1), (0, .ref x), (1, .ref y), (2, .int p2), (3, .int p3)]) hx hb dL_isStep_3 hl (by decide) rfl (fun ls hl => ?_)
  refine lv_iload_n hx hb dL_isStep_5 rfl (lv_at hl 4 rfl) ?_
  refine lv_bipush (v := 16) hx hb dL_isStep_6 (by decide) ?_
  refine gSi (As := [.int p3, .int 16]) (rest := []) (cs' := ([] : va_W)) ⟨hx, hb, hml, hown, hts⟩ (kL_up l D kI kC kG kJ p3 16 _ hw) (va_cwS 2 hts gL_isStep_L_up rfl rfl rfl hdL_up ⟨Nat.le_of_ble_eq_true rfl, Nat.le_of_ble_eq_true rfl⟩) hK hP hE hS [] rfl rfl hl.1 rfl (Nat.le_of_ble_eq_true rfl) dL_isStep_8 ⟨Nat.le_of_ble_eq_true rfl, Nat.le_of_ble_eq_true rfl⟩ (fun r2 hw => ?_)
  refine lv_istore (lv' := [(5, .int r2), (4, .int x1), (0, .ref x), (1, .ref y), (2, .int p2), (3, .int p3)]) hx hb dL_isStep_11 hl (by decide) rfl (fun ls hl => ?_)
  refine lv_aload_n hx hb dL_isStep_13 rfl (lv_at hl 2 rfl) ?_
  refine gVi (As := []) (rest := []) (cs' := wX kI kC kG x ag at_ as_ hh hst a0 a1 a2 a3 tx tch u) ⟨hx, hb, hml, hown, hts⟩ (kX5_placed l D kI kC kG kJ x ag at_ as_ hh hst a0 a1 a2 a3 tx tch u _ hw) (cwV 0 hts gL_isStep_X5_placed rfl rfl rfl hdX5_placed ⟨Nat.le_of_ble_eq_true rfl, Nat.le_of_ble_eq_true rfl⟩) hK hP hE hS [0, 1, 2, 3, 4, 5, 6, 7, 8, 9, 10, 11, 12, 13, 14, 15, 16, 17, 18, 19, 20, 21, 22, 23, 24, 25, 26, 27, 28, 29, 30, 31, 32] rfl (ci := 4) (q0 := 0) rfl rfl rfl rfl hl.1 rfl (Nat.le_of_ble_eq_true rfl) dL_isStep_14 ⟨Nat.le_of_ble_eq_true rfl, Nat.le_of_ble_eq_true rfl⟩ (fun r3 hw => ?_)
  refine lv_istore (lv' := [(6, .int r3), (5, .int r2), (4, .int x1), (0, .ref x), (1, .ref y), (2, .int p2), (3, .int p3)]) hx hb dL_isStep_17 hl (by decide) rfl (fun ls hl => ?_)
  refine lv_aload_n hx hb dL_isStep_19 rfl (lv_at hl 3 rfl) ?_
  refine gVi (As := []) (rest := []) (cs' := wX kI kC kG x ag at_ as_ hh hst a0 a1 a2 a3 tx tch u) ⟨hx, hb, hml, hown, hts⟩ (kX5_gift l D kI kC kG kJ x ag at_ as_ hh hst a0 a1 a2 a3 tx tch u _ hw) (cwV 0 hts gL_isStep_X5_gift rfl rfl rfl hdX5_gift ⟨Nat.le_of_ble_eq_true rfl, Nat.le_of_ble_eq_true rfl⟩) hK hP hE hS [0, 1, 2, 3, 4, 5, 6, 7, 8, 9, 10, 11, 12, 13, 14, 15, 16, 17, 18, 19, 20, 21, 22, 23, 24, 25, 26, 27, 28, 29, 30, 31, 32] rfl (ci := 4) (q0 := 0) rfl rfl rfl rfl hl.1 rfl (Nat.le_of_ble_eq_true rfl) dL_isStep_20 ⟨Nat.le_of_ble_eq_true rfl, Nat.le_of_ble_eq_true rfl⟩ (fun r4 hw => ?_)
  refine lv_istore (lv' := [(7, .int r4), (6, .int r3), (5, .int r2), (4, .int x1), (0, .ref x), (1, .ref y), (2, .int p2), (3, .int p3)]) hx hb dL_isStep_23 hl (by decide) rfl (fun ls hl => ?_)
  refine lv_aload_n hx hb dL_isStep_25 rfl (lv_at hl 4 rfl) ?_
  refine gVi (As := []) (rest := []) (cs' := wX kI kC kG x ag at_ as_ hh hst a0 a1 a2 a3 tx tch u) ⟨hx, hb, hml, hown, hts⟩ (kX5_playerToMove l D kI kC kG kJ x ag at_ as_ hh hst a0 a1 a2 a3 tx tch u _ hw) (cwV 0 hts gL_isStep_X5_playerToMove rfl rfl rfl hdX5_playerToMove ⟨Nat.le_of_ble_eq_true rfl, Nat.le_of_ble_eq_true rfl⟩) hK hP hE hS [0, 1, 2, 3, 4, 5, 6, 7, 8, 9, 10, 11, 12, 13, 14, 15, 16, 17, 18, 19, 20, 21, 22, 23, 24, 25, 26, 27, 28, 29, 30, 31, 32] rfl (ci := 4) (q0 := 0) rfl rfl rfl rfl hl.1 rfl (Nat.le_of_ble_eq_true rfl) dL_isStep_26 ⟨Nat.le_of_ble_eq_true rfl, Nat.le_of_ble_eq_true rfl⟩ (fun r5 hw => ?_)
  refine lv_istore (lv' := [(8, .int r5), (7, .int r4), (6, .int r3), (5, .int r2), (4, .int x1), (0, .ref x), (1, .ref y), (2, .int p2), (3, .int p3)]) hx hb dL_isStep_29 hl (by decide) rfl (fun ls hl => ?_)
  refine lv_aload_n hx hb dL_isStep_31 rfl (lv_at hl 5 rfl) ?_
  refine gVi (As := []) (rest := []) (cs' := wX kI kC kG x ag at_ as_ hh hst a0 a1 a2 a3 tx tch u) ⟨hx, hb, hml, hown, hts⟩ (kX5_isOver l D kI kC kG kJ x ag at_ as_ hh hst a0 a1 a2 a3 tx tch u _ hw) (cwV 0 hts gL_isStep_X5_isOver rfl rfl rfl hdX5_isOver ⟨Nat.le_of_ble_eq_true rfl, Nat.le_of_ble_eq_true rfl⟩) hK hP hE hS [0, 1, 2, 3, 4, 5, 6, 7, 8, 9, 10, 11, 12, 13, 14, 15, 16, 17, 18, 19, 20, 21, 22, 23, 24, 25, 26, 27, 28, 29, 30, 31, 32] rfl (ci := 4) (q0 := 0) rfl rfl rfl rfl hl.1 rfl (Nat.le_of_ble_eq_true rfl) dL_isStep_32 ⟨Nat.le_of_ble_eq_true rfl, Nat.le_of_ble_eq_true rfl⟩ (fun r6 hw => ?_)
  refine lv_istore (lv' := [(9, .int r6), (8, .int r5), (7, .int r4), (6, .int r3), (5, .int r2), (4, .int x1), (0, .ref x), (1, .ref y), (2, .int p2), (3, .int p3)]) hx hb dL_isStep_35 hl (by decide) rfl (fun ls hl => ?_)
  refine lv_iload_n hx hb dL_isStep_37 rfl (lv_at hl 8 rfl) ?_
  refine lv_bipush (v := 30) hx hb dL_isStep_38 (by decide) ?_
  refine gSi (As := [.int p2, .int 30]) (rest := []) (cs' := ([] : va_W)) ⟨hx, hb, hml, hown, hts⟩ (kL_up l D kI kC kG kJ p2 30 _ hw) (va_cwS 2 hts gL_isStep_L_up rfl rfl rfl hdL_up ⟨Nat.le_of_ble_eq_true rfl, Nat.le_of_ble_eq_true rfl⟩) hK hP hE hS [] rfl rfl hl.1 rfl (Nat.le_of_ble_eq_true rfl) dL_isStep_40 ⟨Nat.le_of_ble_eq_true rfl, Nat.le_of_ble_eq_true rfl⟩ (fun r7 hw => ?_)
  by_cases c8_0 : r7 = 0
  · replace hw := Eq.mp (if_pos c8_0) hw
    refine lv_tableIn (off := 25) (tgt := 68) hx hb dL_isStep_43 (by rw [c8_0]; decide) (by rw [c8_0]; decide) (by rw [c8_0]; rfl) (by decide) ?_
    refine lv_iload hx hb dL_isStep_68 (lv_at hl 5 rfl) ?_
    refine lv_iconst (v := 2) hx hb dL_isStep_70 (by decide) ?_
    refine gSi (As := [.int x1, .int 2]) (rest := []) (cs' := ([] : va_W)) ⟨hx, hb, hml, hown, hts⟩ (kL_up l D kI kC kG kJ x1 2 _ hw) (va_cwS 2 hts gL_isStep_L_up rfl rfl rfl hdL_up ⟨Nat.le_of_ble_eq_true rfl, Nat.le_of_ble_eq_true rfl⟩) hK hP hE hS [] rfl rfl hl.1 rfl (Nat.le_of_ble_eq_true rfl) dL_isStep_71 ⟨Nat.le_of_ble_eq_true rfl, Nat.le_of_ble_eq_true rfl⟩ (fun r9 hw => ?_)
    refine lv_istore (lv' := [(10, .int r9), (9, .int r6), (8, .int r5), (7, .int r4), (6, .int r3), (5, .int r2), (4, .int x1), (0, .ref x), (1, .ref y), (2, .int p2), (3, .int p3)]) hx hb dL_isStep_74 hl (by decide) rfl (fun ls hl => ?_)
    refine lv_aload_n hx hb dL_isStep_76 rfl (lv_at hl 7 rfl) ?_
    refine lv_iload hx hb dL_isStep_77 (lv_at hl 0 rfl) ?_
    refine gLSi (mc := 0) (ms := 0) (S := SX) (As := [.ref x, .int r9]) (rest := []) (wc := wX kI kC kG x ag at_ as_ hh hst a0 a1 a2 a3 tx tch u) (wr := [(y, .inr (4, [.ref bg.1, .ref bt_.1, .ref bs_.1, .int ub.1, .ref yh, .ref tyy]))] ++ wG kI bg ub.2.1 ++ wG kI bt_ ub.2.2.1 ++ wG kI bs_ ub.2.2.2.1 ++ [(yh, .inr (2, [.ref yst, .int ub.2.2.2.2.1.1, .int ub.2.2.2.2.1.2.1])), (yst, .inl (kG, 4, .inr (.inr (.inr (.inr (fH b0 b1 b2 b3))))))] ++ wG kI b0 ub.2.2.2.2.1.2.2.1 ++ wG kI b1 ub.2.2.2.2.1.2.2.2.1 ++ wG kI b2 ub.2.2.2.2.1.2.2.2.2.1 ++ wG kI b3 ub.2.2.2.2.1.2.2.2.2.2 ++ wT kC tyy tych ub.2.2.2.2.2) (cs1 := (fun zz : SX => wX kI kC kG x ag at_ as_ hh hst a0 a1 a2 a3 tx tch zz)) (ws2 := (fun zz : SX => wX kI kC kG x ag at_ as_ hh hst a0 a1 a2 a3 tx tch zz ++ wX kI kC kG y bg bt_ bs_ yh yst b0 b1 b2 b3 tyy tych ub)) ⟨hx, hb, hml, hown, hts⟩ (fun sz => kL_restart l D kI kC kG kJ hlt x ag at_ as_ hh hst a0 a1 a2 a3 tx tch sz u r9 _ hw) (vx_cwSW 2 hts gL_isStep_L_restart rfl rfl rfl hdL_restart ⟨Nat.le_of_ble_eq_true rfl, Nat.le_of_ble_eq_true rfl⟩) hK hP hD hE hS hA [0, 1, 2, 3, 4, 5, 6, 7, 8, 9, 10, 11, 12, 13, 14, 15, 16, 17, 18, 19, 20, 21, 22, 23, 24, 25, 26, 27, 28, 29, 30, 31, 32] [33, 34, 35, 36, 37, 38, 39, 40, 41, 42, 43, 44, 45, 46, 47, 48, 49, 50, 51, 52, 53, 54, 55, 56, 57, 58, 59, 60, 61, 62, 63, 64, 65] rfl rfl rfl rfl (by decide) [33, 34, 35, 36, 37, 38, 39, 40, 41, 42, 43, 44, 45, 46, 47, 48, 49, 50, 51, 52, 53, 54, 55, 56, 57, 58, 59, 60, 61, 62, 63, 64, 65, 0, 1, 2, 3, 4, 5, 6, 7, 8, 9, 10, 11, 12, 13, 14, 15, 16, 17, 18, 19, 20, 21, 22, 23, 24, 25, 26, 27, 28, 29, 30, 31, 32] rfl (fun _ => rfl) rfl hl.1 rfl (Nat.le_of_ble_eq_true rfl) dL_isStep_79 ⟨Nat.le_of_ble_eq_true rfl, Nat.le_of_ble_eq_true rfl⟩ (fun r10 w10 H locs hw hP hD hS => ?_)
    have hP : va_P D vwCl (wX kI kC kG x ag at_ as_ hh hst a0 a1 a2 a3 tx tch w10 ++ wX kI kC kG y bg bt_ bs_ yh yst b0 b1 b2 b3 tyy tych ub) H := hP
    have hD : va_D A (wX kI kC kG x ag at_ as_ hh hst a0 a1 a2 a3 tx tch w10 ++ wX kI kC kG y bg bt_ bs_ yh yst b0 b1 b2 b3 tyy tych ub) := hD
    refine lv_iload hx hb dL_isStep_82 (lv_at hl 4 rfl) ?_
    refine lv_icmp_ne (tgt := 118) hx hb dL_isStep_84 (by decide) (fun c11 => ?_) (fun c11 => ?_)
    · replace hw := Eq.mp (if_neg c11) hw
      refine lv_iconst (v := 0) hx hb dL_isStep_118 (by decide) ?_
      refine W.widen (k := 4) (n := 24) (Nat.le_of_ble_eq_true rfl) (Nat.le_of_ble_eq_true rfl) ?_
      exact W.zret (v := 0) hx hb hr rfl (fun t ht hW => ⟨⟨0, (w10, ub), rfl, hw, by rw [ht]; exact hP, va_K.moved hW.alike hK, hD⟩, hS.F ht⟩) hS.2.2 dL_isStep_119
    · replace hw := Eq.mp (if_pos c11) hw
      refine lv_aload_n hx hb dL_isStep_87 rfl (lv_at hl 8 rfl) ?_
      refine lv_iload hx hb dL_isStep_88 (lv_at hl 0 rfl) ?_
      refine gLSi (mc := 0) (ms := 0) (S := SX) (As := [.ref y, .int r9]) (rest := []) (wc := wX kI kC kG y bg bt_ bs_ yh yst b0 b1 b2 b3 tyy tych ub) (wr := [(x, .inr (4, [.ref ag.1, .ref at_.1, .ref as_.1, .int w10.1, .ref hh, .ref tx]))] ++ wG kI ag w10.2.1 ++ wG kI at_ w10.2.2.1 ++ wG kI as_ w10.2.2.2.1 ++ [(hh, .inr (2, [.ref hst, .int w10.2.2.2.2.1.1, .int w10.2.2.2.2.1.2.1])), (hst, .inl (kG, 4, .inr (.inr (.inr (.inr (fH a0 a1 a2 a3))))))] ++ wG kI a0 w10.2.2.2.2.1.2.2.1 ++ wG kI a1 w10.2.2.2.2.1.2.2.2.1 ++ wG kI a2 w10.2.2.2.2.1.2.2.2.2.1 ++ wG kI a3 w10.2.2.2.2.1.2.2.2.2.2 ++ wT kC tx tch w10.2.2.2.2.2) (cs1 := (fun zz : SX => wX kI kC kG y bg bt_ bs_ yh yst b0 b1 b2 b3 tyy tych zz)) (ws2 := (fun zz : SX => wX kI kC kG x ag at_ as_ hh hst a0 a1 a2 a3 tx tch w10 ++ wX kI kC kG y bg bt_ bs_ yh yst b0 b1 b2 b3 tyy tych zz)) ⟨hx, hb, hml, hown, hts⟩ (fun sz => kL_restart l D kI kC kG kJ hlt y bg bt_ bs_ yh yst b0 b1 b2 b3 tyy tych sz ub r9 _ hw) (vx_cwSW 2 hts gL_isStep_L_restart rfl rfl rfl hdL_restart ⟨Nat.le_of_ble_eq_true rfl, Nat.le_of_ble_eq_true rfl⟩) hK hP hD hE hS hA [33, 34, 35, 36, 37, 38, 39, 40, 41, 42, 43, 44, 45, 46, 47, 48, 49, 50, 51, 52, 53, 54, 55, 56, 57, 58, 59, 60, 61, 62, 63, 64, 65] [0, 1, 2, 3, 4, 5, 6, 7, 8, 9, 10, 11, 12, 13, 14, 15, 16, 17, 18, 19, 20, 21, 22, 23, 24, 25, 26, 27, 28, 29, 30, 31, 32] rfl rfl rfl rfl (by decide) [0, 1, 2, 3, 4, 5, 6, 7, 8, 9, 10, 11, 12, 13, 14, 15, 16, 17, 18, 19, 20, 21, 22, 23, 24, 25, 26, 27, 28, 29, 30, 31, 32, 33, 34, 35, 36, 37, 38, 39, 40, 41, 42, 43, 44, 45, 46, 47, 48, 49, 50, 51, 52, 53, 54, 55, 56, 57, 58, 59, 60, 61, 62, 63, 64, 65] rfl (fun _ => rfl) rfl hl.1 rfl (Nat.le_of_ble_eq_true rfl) dL_isStep_90 ⟨Nat.le_of_ble_eq_true rfl, Nat.le_of_ble_eq_true rfl⟩ (fun r12 w12 H locs hw hP hD hS => ?_)
      have hP : va_P D vwCl (wX kI kC kG x ag at_ as_ hh hst a0 a1 a2 a3 tx tch w10 ++ wX kI kC kG y bg bt_ bs_ yh yst b0 b1 b2 b3 tyy tych w12) H := hP
      have hD : va_D A (wX kI kC kG x ag at_ as_ hh hst a0 a1 a2 a3 tx tch w10 ++ wX kI kC kG y bg bt_ bs_ yh yst b0 b1 b2 b3 tyy tych w12) := hD
      refine lv_iload hx hb dL_isStep_93 (lv_at hl 4 rfl) ?_
      refine lv_icmp_ne (tgt := 118) hx hb dL_isStep_95 (by decide) (fun c13 => ?_) (fun c13 => ?_)
      · replace hw := Eq.mp (if_neg c13) hw
        refine lv_iconst (v := 0) hx hb dL_isStep_118 (by decide) ?_
        refine W.widen (k := 4) (n := 24) (Nat.le_of_ble_eq_true rfl) (Nat.le_of_ble_eq_true rfl) ?_
        exact W.zret (v := 0) hx hb hr rfl (fun t ht hW => ⟨⟨0, (w10, w12), rfl, hw, by rw [ht]; exact hP, va_K.moved hW.alike hK, hD⟩, hS.F ht⟩) hS.2.2 dL_isStep_119
      · replace hw := Eq.mp (if_pos c13) hw
        refine lv_aload_n hx hb dL_isStep_98 rfl (lv_at hl 7 rfl) ?_
        refine gVi (As := []) (rest := []) (cs' := wX kI kC kG x ag at_ as_ hh hst a0 a1 a2 a3 tx tch w10) ⟨hx, hb, hml, hown, hts⟩ (kX5_rule l D kI kC kG kJ x ag at_ as_ hh hst a0 a1 a2 a3 tx tch w10 _ hw) (cwV 0 hts gL_isStep_X5_rule rfl rfl rfl hdX5_rule ⟨Nat.le_of_ble_eq_true rfl, Nat.le_of_ble_eq_true rfl⟩) hK hP hE hS [0, 1, 2, 3, 4, 5, 6, 7, 8, 9, 10, 11, 12, 13, 14, 15, 16, 17, 18, 19, 20, 21, 22, 23, 24, 25, 26, 27, 28, 29, 30, 31, 32] rfl (ci := 4) (q0 := 0) rfl rfl rfl rfl hl.1 rfl (Nat.le_of_ble_eq_true rfl) dL_isStep_99 ⟨Nat.le_of_ble_eq_true rfl, Nat.le_of_ble_eq_true rfl⟩ (fun r14 hw => ?_)
        refine lv_iload hx hb dL_isStep_102 (lv_at hl 0 rfl) ?_
        refine lv_icmp_ne (tgt := 118) hx hb dL_isStep_104 (by decide) (fun c15 => ?_) (fun c15 => ?_)
        · replace hw := Eq.mp (if_neg c15) hw
          refine lv_iconst (v := 0) hx hb dL_isStep_118 (by decide) ?_
          refine W.widen (k := 4) (n := 24) (Nat.le_of_ble_eq_true rfl) (Nat.le_of_ble_eq_true rfl) ?_
          exact W.zret (v := 0) hx hb hr rfl (fun t ht hW => ⟨⟨0, (w10, w12), rfl, hw, by rw [ht]; exact hP, va_K.moved hW.alike hK, hD⟩, hS.F ht⟩) hS.2.2 dL_isStep_119
        · replace hw := Eq.mp (if_pos c15) hw
          refine lv_aload_n hx hb dL_isStep_107 rfl (lv_at hl 7 rfl) ?_
          refine gVi (As := []) (rest := []) (cs' := wX kI kC kG x ag at_ as_ hh hst a0 a1 a2 a3 tx tch w10) ⟨hx, hb, hml, hown, hts⟩ (kX5_placed l D kI kC kG kJ x ag at_ as_ hh hst a0 a1 a2 a3 tx tch w10 _ hw) (cwV 0 hts gL_isStep_X5_placed rfl rfl rfl hdX5_placed ⟨Nat.le_of_ble_eq_true rfl, Nat.le_of_ble_eq_true rfl⟩) hK hP hE hS [0, 1, 2, 3, 4, 5, 6, 7, 8, 9, 10, 11, 12, 13, 14, 15, 16, 17, 18, 19, 20, 21, 22, 23, 24, 25, 26, 27, 28, 29, 30, 31, 32] rfl (ci := 4) (q0 := 0) rfl rfl rfl rfl hl.1 rfl (Nat.le_of_ble_eq_true rfl) dL_isStep_108 ⟨Nat.le_of_ble_eq_true rfl, Nat.le_of_ble_eq_true rfl⟩ (fun r16 hw => ?_)
          refine lv_if_ne (tgt := 118) hx hb dL_isStep_111 (by decide) (fun c17 => ?_) (fun c17 => ?_)
          · replace hw := Eq.mp (if_neg c17) hw
            refine lv_iconst (v := 0) hx hb dL_isStep_118 (by decide) ?_
            refine W.widen (k := 4) (n := 24) (Nat.le_of_ble_eq_true rfl) (Nat.le_of_ble_eq_true rfl) ?_
            exact W.zret (v := 0) hx hb hr rfl (fun t ht hW => ⟨⟨0, (w10, w12), rfl, hw, by rw [ht]; exact hP, va_K.moved hW.alike hK, hD⟩, hS.F ht⟩) hS.2.2 dL_isStep_119
          · replace hw := Eq.mp (if_pos c17) hw
            refine lv_iconst (v := 1) hx hb dL_isStep_114 (by decide) ?_
            refine lv_goto (tgt := 119) hx hb dL_isStep_115 (by decide) ?_
            refine W.widen (k := 4) (n := 24) (Nat.le_of_ble_eq_true rfl) (Nat.le_of_ble_eq_true rfl) ?_
            exact W.zret (v := 1) hx hb hr rfl (fun t ht hW => ⟨⟨1, (w10, w12), rfl, hw, by rw [ht]; exact hP, va_K.moved hW.alike hK, hD⟩, hS.F ht⟩) hS.2.2 dL_isStep_119
  replace hw := Eq.mp (if_neg c8_0) hw
  by_cases c8_1 : r7 = 1
  · replace hw := Eq.mp (if_pos c8_1) hw
    refine lv_tableIn (off := 77) (tgt := 120) hx hb dL_isStep_43 (by rw [c8_1]; decide) (by rw [c8_1]; decide) (by rw [c8_1]; rfl) (by decide) ?_
    refine lv_iload_n hx hb dL_isStep_120 rfl (lv_at hl 9 rfl) ?_
    refine lv_iconst (v := 2) hx hb dL_isStep_121 (by decide) ?_
    refine gSi (As := [.int p3, .int 2]) (rest := []) (cs' := ([] : va_W)) ⟨hx, hb, hml, hown, hts⟩ (kL_up l D kI kC kG kJ p3 2 _ hw) (va_cwS 2 hts gL_isStep_L_up rfl rfl rfl hdL_up ⟨Nat.le_of_ble_eq_true rfl, Nat.le_of_ble_eq_true rfl⟩) hK hP hE hS [] rfl rfl hl.1 rfl (Nat.le_of_ble_eq_true rfl) dL_isStep_122 ⟨Nat.le_of_ble_eq_true rfl, Nat.le_of_ble_eq_true rfl⟩ (fun r18 hw => ?_)
    refine lv_if_ne (tgt := 147) hx hb dL_isStep_125 (by decide) (fun c19 => ?_) (fun c19 => ?_)
    · replace hw := Eq.mp (if_neg c19) hw
      refine lv_aload_n hx hb dL_isStep_147 rfl (lv_at hl 6 rfl) ?_
      refine gLSi (mc := 1) (ms := 6) (S := SX) (As := [.ref x]) (rest := []) (wc := wX kI kC kG x ag at_ as_ hh hst a0 a1 a2 a3 tx tch u) (wr := [(y, .inr (4, [.ref bg.1, .ref bt_.1, .ref bs_.1, .int ub.1, .ref yh, .ref tyy]))] ++ wG kI bg ub.2.1 ++ wG kI bt_ ub.2.2.1 ++ wG kI bs_ ub.2.2.2.1 ++ [(yh, .inr (2, [.ref yst, .int ub.2.2.2.2.1.1, .int ub.2.2.2.2.1.2.1])), (yst, .inl (kG, 4, .inr (.inr (.inr (.inr (fH b0 b1 b2 b3))))))] ++ wG kI b0 ub.2.2.2.2.1.2.2.1 ++ wG kI b1 ub.2.2.2.2.1.2.2.2.1 ++ wG kI b2 ub.2.2.2.2.1.2.2.2.2.1 ++ wG kI b3 ub.2.2.2.2.1.2.2.2.2.2 ++ wT kC tyy tych ub.2.2.2.2.2) (cs1 := (fun zz : SX => wX kI kC kG x ag at_ as_ hh hst a0 a1 a2 a3 tx tch zz)) (ws2 := (fun zz : SX => wX kI kC kG x ag at_ as_ hh hst a0 a1 a2 a3 tx tch zz ++ wX kI kC kG y bg bt_ bs_ yh yst b0 b1 b2 b3 tyy tych ub)) ⟨hx, hb, hml, hown, hts⟩ (fun sz => kL_restore l D kI kC kG kJ hlt x ag at_ as_ hh hst a0 a1 a2 a3 tx tch sz u _ hw) (vx_cwSW 1 hts gL_isStep_L_restore rfl rfl rfl hdL_restore ⟨Nat.le_of_ble_eq_true rfl, Nat.le_of_ble_eq_true rfl⟩) hK hP hD hE hS hA [0, 1, 2, 3, 4, 5, 6, 7, 8, 9, 10, 11, 12, 13, 14, 15, 16, 17, 18, 19, 20, 21, 22, 23, 24, 25, 26, 27, 28, 29, 30, 31, 32] [33, 34, 35, 36, 37, 38, 39, 40, 41, 42, 43, 44, 45, 46, 47, 48, 49, 50, 51, 52, 53, 54, 55, 56, 57, 58, 59, 60, 61, 62, 63, 64, 65] rfl rfl rfl rfl (by decide) [33, 34, 35, 36, 37, 38, 39, 40, 41, 42, 43, 44, 45, 46, 47, 48, 49, 50, 51, 52, 53, 54, 55, 56, 57, 58, 59, 60, 61, 62, 63, 64, 65, 0, 1, 2, 3, 4, 5, 6, 7, 8, 9, 10, 11, 12, 13, 14, 15, 16, 17, 18, 19, 20, 21, 22, 23, 24, 25, 26, 27, 28, 29, 30, 31, 32] rfl (fun _ => rfl) rfl hl.1 rfl (Nat.le_of_ble_eq_true rfl) dL_isStep_148 ⟨Nat.le_of_ble_eq_true rfl, Nat.le_of_ble_eq_true rfl⟩ (fun r20 w20 H locs hw hP hD hS => ?_)
      have hP : va_P D vwCl (wX kI kC kG x ag at_ as_ hh hst a0 a1 a2 a3 tx tch w20 ++ wX kI kC kG y bg bt_ bs_ yh yst b0 b1 b2 b3 tyy tych ub) H := hP
      have hD : va_D A (wX kI kC kG x ag at_ as_ hh hst a0 a1 a2 a3 tx tch w20 ++ wX kI kC kG y bg bt_ bs_ yh yst b0 b1 b2 b3 tyy tych ub) := hD
      refine lv_aload_n hx hb dL_isStep_151 rfl (lv_at hl 7 rfl) ?_
      refine gLSi (mc := 1) (ms := 6) (S := SX) (As := [.ref y]) (rest := [.int r20]) (wc := wX kI kC kG y bg bt_ bs_ yh yst b0 b1 b2 b3 tyy tych ub) (wr := [(x, .inr (4, [.ref ag.1, .ref at_.1, .ref as_.1, .int w20.1, .ref hh, .ref tx]))] ++ wG kI ag w20.2.1 ++ wG kI at_ w20.2.2.1 ++ wG kI as_ w20.2.2.2.1 ++ [(hh, .inr (2, [.ref hst, .int w20.2.2.2.2.1.1, .int w20.2.2.2.2.1.2.1])), (hst, .inl (kG, 4, .inr (.inr (.inr (.inr (fH a0 a1 a2 a3))))))] ++ wG kI a0 w20.2.2.2.2.1.2.2.1 ++ wG kI a1 w20.2.2.2.2.1.2.2.2.1 ++ wG kI a2 w20.2.2.2.2.1.2.2.2.2.1 ++ wG kI a3 w20.2.2.2.2.1.2.2.2.2.2 ++ wT kC tx tch w20.2.2.2.2.2) (cs1 := (fun zz : SX => wX kI kC kG y bg bt_ bs_ yh yst b0 b1 b2 b3 tyy tych zz)) (ws2 := (fun zz : SX => wX kI kC kG x ag at_ as_ hh hst a0 a1 a2 a3 tx tch w20 ++ wX kI kC kG y bg bt_ bs_ yh yst b0 b1 b2 b3 tyy tych zz)) ⟨hx, hb, hml, hown, hts⟩ (fun sz => kL_restore l D kI kC kG kJ hlt y bg bt_ bs_ yh yst b0 b1 b2 b3 tyy tych sz ub _ hw) (vx_cwSW 1 hts gL_isStep_L_restore rfl rfl rfl hdL_restore ⟨Nat.le_of_ble_eq_true rfl, Nat.le_of_ble_eq_true rfl⟩) hK hP hD hE hS hA [33, 34, 35, 36, 37, 38, 39, 40, 41, 42, 43, 44, 45, 46, 47, 48, 49, 50, 51, 52, 53, 54, 55, 56, 57, 58, 59, 60, 61, 62, 63, 64, 65] [0, 1, 2, 3, 4, 5, 6, 7, 8, 9, 10, 11, 12, 13, 14, 15, 16, 17, 18, 19, 20, 21, 22, 23, 24, 25, 26, 27, 28, 29, 30, 31, 32] rfl rfl rfl rfl (by decide) [0, 1, 2, 3, 4, 5, 6, 7, 8, 9, 10, 11, 12, 13, 14, 15, 16, 17, 18, 19, 20, 21, 22, 23, 24, 25, 26, 27, 28, 29, 30, 31, 32, 33, 34, 35, 36, 37, 38, 39, 40, 41, 42, 43, 44, 45, 46, 47, 48, 49, 50, 51, 52, 53, 54, 55, 56, 57, 58, 59, 60, 61, 62, 63, 64, 65] rfl (fun _ => rfl) rfl hl.1 rfl (Nat.le_of_ble_eq_true rfl) dL_isStep_152 ⟨Nat.le_of_ble_eq_true rfl, Nat.le_of_ble_eq_true rfl⟩ (fun r21 w21 H locs hw hP hD hS => ?_)
      have hP : va_P D vwCl (wX kI kC kG x ag at_ as_ hh hst a0 a1 a2 a3 tx tch w20 ++ wX kI kC kG y bg bt_ bs_ yh yst b0 b1 b2 b3 tyy tych w21) H := hP
      have hD : va_D A (wX kI kC kG x ag at_ as_ hh hst a0 a1 a2 a3 tx tch w20 ++ wX kI kC kG y bg bt_ bs_ yh yst b0 b1 b2 b3 tyy tych w21) := hD
      refine lv_icmp_ne (tgt := 162) hx hb dL_isStep_155 (by decide) (fun c22 => ?_) (fun c22 => ?_)
      · replace hw := Eq.mp (if_neg c22) hw
        refine lv_iconst (v := 0) hx hb dL_isStep_162 (by decide) ?_
        refine W.widen (k := 4) (n := 24) (Nat.le_of_ble_eq_true rfl) (Nat.le_of_ble_eq_true rfl) ?_
        exact W.zret (v := 0) hx hb hr rfl (fun t ht hW => ⟨⟨0, (w20, w21), rfl, hw, by rw [ht]; exact hP, va_K.moved hW.alike hK, hD⟩, hS.F ht⟩) hS.2.2 dL_isStep_163
      · replace hw := Eq.mp (if_pos c22) hw
        refine lv_iconst (v := 1) hx hb dL_isStep_158 (by decide) ?_
        refine lv_goto (tgt := 163) hx hb dL_isStep_159 (by decide) ?_
        refine W.widen (k := 4) (n := 24) (Nat.le_of_ble_eq_true rfl) (Nat.le_of_ble_eq_true rfl) ?_
        exact W.zret (v := 1) hx hb hr rfl (fun t ht hW => ⟨⟨1, (w20, w21), rfl, hw, by rw [ht]; exact hP, va_K.moved hW.alike hK, hD⟩, hS.F ht⟩) hS.2.2 dL_isStep_163
    · replace hw := Eq.mp (if_pos c19) hw
      refine lv_aload_n hx hb dL_isStep_128 rfl (lv_at hl 6 rfl) ?_
      refine gWVi (S := SX) (As := []) (rest := []) (wc := wX kI kC kG x ag at_ as_ hh hst a0 a1 a2 a3 tx tch u) (wr := [(y, .inr (4, [.ref bg.1, .ref bt_.1, .ref bs_.1, .int ub.1, .ref yh, .ref tyy]))] ++ wG kI bg ub.2.1 ++ wG kI bt_ ub.2.2.1 ++ wG kI bs_ ub.2.2.2.1 ++ [(yh, .inr (2, [.ref yst, .int ub.2.2.2.2.1.1, .int ub.2.2.2.2.1.2.1])), (yst, .inl (kG, 4, .inr (.inr (.inr (.inr (fH b0 b1 b2 b3))))))] ++ wG kI b0 ub.2.2.2.2.1.2.2.1 ++ wG kI b1 ub.2.2.2.2.1.2.2.2.1 ++ wG kI b2 ub.2.2.2.2.1.2.2.2.2.1 ++ wG kI b3 ub.2.2.2.2.1.2.2.2.2.2 ++ wT kC tyy tych ub.2.2.2.2.2) (cs1 := (fun zz : SX => wX kI kC kG x ag at_ as_ hh hst a0 a1 a2 a3 tx tch zz)) (ws2 := (fun zz : SX => wX kI kC kG x ag at_ as_ hh hst a0 a1 a2 a3 tx tch zz ++ wX kI kC kG y bg bt_ bs_ yh yst b0 b1 b2 b3 tyy tych ub)) ⟨hx, hb, hml, hown, hts⟩ (fun sz => kX5_takeSnapshot l D kI kC kG kJ x ag at_ as_ hh hst a0 a1 a2 a3 tx tch sz u _ hw) (cwV 0 hts gL_isStep_X5_takeSnapshot rfl rfl rfl hdX5_takeSnapshot ⟨Nat.le_of_ble_eq_true rfl, Nat.le_of_ble_eq_true rfl⟩) hK hP hD hE hS hA [0, 1, 2, 3, 4, 5, 6, 7, 8, 9, 10, 11, 12, 13, 14, 15, 16, 17, 18, 19, 20, 21, 22, 23, 24, 25, 26, 27, 28, 29, 30, 31, 32] [33, 34, 35, 36, 37, 38, 39, 40, 41, 42, 43, 44, 45, 46, 47, 48, 49, 50, 51, 52, 53, 54, 55, 56, 57, 58, 59, 60, 61, 62, 63, 64, 65] rfl rfl rfl rfl (by decide) [33, 34, 35, 36, 37, 38, 39, 40, 41, 42, 43, 44, 45, 46, 47, 48, 49, 50, 51, 52, 53, 54, 55, 56, 57, 58, 59, 60, 61, 62, 63, 64, 65, 0, 1, 2, 3, 4, 5, 6, 7, 8, 9, 10, 11, 12, 13, 14, 15, 16, 17, 18, 19, 20, 21, 22, 23, 24, 25, 26, 27, 28, 29, 30, 31, 32] rfl (fun _ => rfl) (ci := 4) (q0 := 0) rfl rfl rfl rfl hl.1 rfl (Nat.le_of_ble_eq_true rfl) dL_isStep_129 ⟨Nat.le_of_ble_eq_true rfl, Nat.le_of_ble_eq_true rfl⟩ (fun r23 w23 H locs hw hP hD hS => ?_)
      have hP : va_P D vwCl (wX kI kC kG x ag at_ as_ hh hst a0 a1 a2 a3 tx tch w23 ++ wX kI kC kG y bg bt_ bs_ yh yst b0 b1 b2 b3 tyy tych ub) H := hP
      have hD : va_D A (wX kI kC kG x ag at_ as_ hh hst a0 a1 a2 a3 tx tch w23 ++ wX kI kC kG y bg bt_ bs_ yh yst b0 b1 b2 b3 tyy tych ub) := hD
      refine lv_aload_n hx hb dL_isStep_132 rfl (lv_at hl 7 rfl) ?_
      refine gWVi (S := SX) (As := []) (rest := [.int r23]) (wc := wX kI kC kG y bg bt_ bs_ yh yst b0 b1 b2 b3 tyy tych ub) (wr := [(x, .inr (4, [.ref ag.1, .ref at_.1, .ref as_.1, .int w23.1, .ref hh, .ref tx]))] ++ wG kI ag w23.2.1 ++ wG kI at_ w23.2.2.1 ++ wG kI as_ w23.2.2.2.1 ++ [(hh, .inr (2, [.ref hst, .int w23.2.2.2.2.1.1, .int w23.2.2.2.2.1.2.1])), (hst, .inl (kG, 4, .inr (.inr (.inr (.inr (fH a0 a1 a2 a3))))))] ++ wG kI a0 w23.2.2.2.2.1.2.2.1 ++ wG kI a1 w23.2.2.2.2.1.2.2.2.1 ++ wG kI a2 w23.2.2.2.2.1.2.2.2.2.1 ++ wG kI a3 w23.2.2.2.2.1.2.2.2.2.2 ++ wT kC tx tch w23.2.2.2.2.2) (cs1 := (fun zz : SX => wX kI kC kG y bg bt_ bs_ yh yst b0 b1 b2 b3 tyy tych zz)) (ws2 := (fun zz : SX => wX kI kC kG x ag at_ as_ hh hst a0 a1 a2 a3 tx tch w23 ++ wX kI kC kG y bg bt_ bs_ yh yst b0 b1 b2 b3 tyy tych zz)) ⟨hx, hb, hml, hown, hts⟩ (fun sz => kX5_takeSnapshot l D kI kC kG kJ y bg bt_ bs_ yh yst b0 b1 b2 b3 tyy tych sz ub _ hw) (cwV 0 hts gL_isStep_X5_takeSnapshot rfl rfl rfl hdX5_takeSnapshot ⟨Nat.le_of_ble_eq_true rfl, Nat.le_of_ble_eq_true rfl⟩) hK hP hD hE hS hA [33, 34, 35, 36, 37, 38, 39, 40, 41, 42, 43, 44, 45, 46, 47, 48, 49, 50, 51, 52, 53, 54, 55, 56, 57, 58, 59, 60, 61, 62, 63, 64, 65] [0, 1, 2, 3, 4, 5, 6, 7, 8, 9, 10, 11, 12, 13, 14, 15, 16, 17, 18, 19, 20, 21, 22, 23, 24, 25, 26, 27, 28, 29, 30, 31, 32] rfl rfl rfl rfl (by decide) [0, 1, 2, 3, 4, 5, 6, 7, 8, 9, 10, 11, 12, 13, 14, 15, 16, 17, 18, 19, 20, 21, 22, 23, 24, 25, 26, 27, 28, 29, 30, 31, 32, 33, 34, 35, 36, 37, 38, 39, 40, 41, 42, 43, 44, 45, 46, 47, 48, 49, 50, 51, 52, 53, 54, 55, 56, 57, 58, 59, 60, 61, 62, 63, 64, 65] rfl (fun _ => rfl) (ci := 4) (q0 := 0) rfl rfl rfl rfl hl.1 rfl (Nat.le_of_ble_eq_true rfl) dL_isStep_133 ⟨Nat.le_of_ble_eq_true rfl, Nat.le_of_ble_eq_true rfl⟩ (fun r24 w24 H locs hw hP hD hS => ?_)
      have hP : va_P D vwCl (wX kI kC kG x ag at_ as_ hh hst a0 a1 a2 a3 tx tch w23 ++ wX kI kC kG y bg bt_ bs_ yh yst b0 b1 b2 b3 tyy tych w24) H := hP
      have hD : va_D A (wX kI kC kG x ag at_ as_ hh hst a0 a1 a2 a3 tx tch w23 ++ wX kI kC kG y bg bt_ bs_ yh yst b0 b1 b2 b3 tyy tych w24) := hD
      refine lv_icmp_ne (tgt := 143) hx hb dL_isStep_136 (by decide) (fun c25 => ?_) (fun c25 => ?_)
      · replace hw := Eq.mp (if_neg c25) hw
        refine lv_iconst (v := 0) hx hb dL_isStep_143 (by decide) ?_
        refine lv_goto (tgt := 163) hx hb dL_isStep_144 (by decide) ?_
        refine W.widen (k := 4) (n := 24) (Nat.le_of_ble_eq_true rfl) (Nat.le_of_ble_eq_true rfl) ?_
        exact W.zret (v := 0) hx hb hr rfl (fun t ht hW => ⟨⟨0, (w23, w24), rfl, hw, by rw [ht]; exact hP, va_K.moved hW.alike hK, hD⟩, hS.F ht⟩) hS.2.2 dL_isStep_163
      · replace hw := Eq.mp (if_pos c25) hw
        refine lv_iconst (v := 1) hx hb dL_isStep_139 (by decide) ?_
        refine lv_goto (tgt := 163) hx hb dL_isStep_140 (by decide) ?_
        refine W.widen (k := 4) (n := 24) (Nat.le_of_ble_eq_true rfl) (Nat.le_of_ble_eq_true rfl) ?_
        exact W.zret (v := 1) hx hb hr rfl (fun t ht hW => ⟨⟨1, (w23, w24), rfl, hw, by rw [ht]; exact hP, va_K.moved hW.alike hK, hD⟩, hS.F ht⟩) hS.2.2 dL_isStep_163
  replace hw := Eq.mp (if_neg c8_1) hw
  by_cases c8_2 : r7 = 2
  · replace hw := Eq.mp (if_pos c8_2) hw
    refine lv_tableIn (off := 121) (tgt := 164) hx hb dL_isStep_43 (by rw [c8_2]; decide) (by rw [c8_2]; decide) (by rw [c8_2]; rfl) (by decide) ?_
    refine lv_aload_n hx hb dL_isStep_164 rfl (lv_at hl 6 rfl) ?_
    refine gLSi (mc := 1) (ms := 6) (S := SX) (As := [.ref x]) (rest := []) (wc := wX kI kC kG x ag at_ as_ hh hst a0 a1 a2 a3 tx tch u) (wr := [(y, .inr (4, [.ref bg.1, .ref bt_.1, .ref bs_.1, .int ub.1, .ref yh, .ref tyy]))] ++ wG kI bg ub.2.1 ++ wG kI bt_ ub.2.2.1 ++ wG kI bs_ ub.2.2.2.1 ++ [(yh, .inr (2, [.ref yst, .int ub.2.2.2.2.1.1, .int ub.2.2.2.2.1.2.1])), (yst, .inl (kG, 4, .inr (.inr (.inr (.inr (fH b0 b1 b2 b3))))))] ++ wG kI b0 ub.2.2.2.2.1.2.2.1 ++ wG kI b1 ub.2.2.2.2.1.2.2.2.1 ++ wG kI b2 ub.2.2.2.2.1.2.2.2.2.1 ++ wG kI b3 ub.2.2.2.2.1.2.2.2.2.2 ++ wT kC tyy tych ub.2.2.2.2.2) (cs1 := (fun zz : SX => wX kI kC kG x ag at_ as_ hh hst a0 a1 a2 a3 tx tch zz)) (ws2 := (fun zz : SX => wX kI kC kG x ag at_ as_ hh hst a0 a1 a2 a3 tx tch zz ++ wX kI kC kG y bg bt_ bs_ yh yst b0 b1 b2 b3 tyy tych ub)) ⟨hx, hb, hml, hown, hts⟩ (fun sz => kL_undo l D kI kC kG kJ hlt x ag at_ as_ hh hst a0 a1 a2 a3 tx tch sz u _ hw) (vx_cwSW 1 hts gL_isStep_L_undo rfl rfl rfl hdL_undo ⟨Nat.le_of_ble_eq_true rfl, Nat.le_of_ble_eq_true rfl⟩) hK hP hD hE hS hA [0, 1, 2, 3, 4, 5, 6, 7, 8, 9, 10, 11, 12, 13, 14, 15, 16, 17, 18, 19, 20, 21, 22, 23, 24, 25, 26, 27, 28, 29, 30, 31, 32] [33, 34, 35, 36, 37, 38, 39, 40, 41, 42, 43, 44, 45, 46, 47, 48, 49, 50, 51, 52, 53, 54, 55, 56, 57, 58, 59, 60, 61, 62, 63, 64, 65] rfl rfl rfl rfl (by decide) [33, 34, 35, 36, 37, 38, 39, 40, 41, 42, 43, 44, 45, 46, 47, 48, 49, 50, 51, 52, 53, 54, 55, 56, 57, 58, 59, 60, 61, 62, 63, 64, 65, 0, 1, 2, 3, 4, 5, 6, 7, 8, 9, 10, 11, 12, 13, 14, 15, 16, 17, 18, 19, 20, 21, 22, 23, 24, 25, 26, 27, 28, 29, 30, 31, 32] rfl (fun _ => rfl) rfl hl.1 rfl (Nat.le_of_ble_eq_true rfl) dL_isStep_165 ⟨Nat.le_of_ble_eq_true rfl, Nat.le_of_ble_eq_true rfl⟩ (fun r26 w26 H locs hw hP hD hS => ?_)
    have hP : va_P D vwCl (wX kI kC kG x ag at_ as_ hh hst a0 a1 a2 a3 tx tch w26 ++ wX kI kC kG y bg bt_ bs_ yh yst b0 b1 b2 b3 tyy tych ub) H := hP
    have hD : va_D A (wX kI kC kG x ag at_ as_ hh hst a0 a1 a2 a3 tx tch w26 ++ wX kI kC kG y bg bt_ bs_ yh yst b0 b1 b2 b3 tyy tych ub) := hD
    refine lv_aload_n hx hb dL_isStep_168 rfl (lv_at hl 7 rfl) ?_
    refine gLSi (mc := 1) (ms := 6) (S := SX) (As := [.ref y]) (rest := [.int r26]) (wc := wX kI kC kG y bg bt_ bs_ yh yst b0 b1 b2 b3 tyy tych ub) (wr := [(x, .inr (4, [.ref ag.1, .ref at_.1, .ref as_.1, .int w26.1, .ref hh, .ref tx]))] ++ wG kI ag w26.2.1 ++ wG kI at_ w26.2.2.1 ++ wG kI as_ w26.2.2.2.1 ++ [(hh, .inr (2, [.ref hst, .int w26.2.2.2.2.1.1, .int w26.2.2.2.2.1.2.1])), (hst, .inl (kG, 4, .inr (.inr (.inr (.inr (fH a0 a1 a2 a3))))))] ++ wG kI a0 w26.2.2.2.2.1.2.2.1 ++ wG kI a1 w26.2.2.2.2.1.2.2.2.1 ++ wG kI a2 w26.2.2.2.2.1.2.2.2.2.1 ++ wG kI a3 w26.2.2.2.2.1.2.2.2.2.2 ++ wT kC tx tch w26.2.2.2.2.2) (cs1 := (fun zz : SX => wX kI kC kG y bg bt_ bs_ yh yst b0 b1 b2 b3 tyy tych zz)) (ws2 := (fun zz : SX => wX kI kC kG x ag at_ as_ hh hst a0 a1 a2 a3 tx tch w26 ++ wX kI kC kG y bg bt_ bs_ yh yst b0 b1 b2 b3 tyy tych zz)) ⟨hx, hb, hml, hown, hts⟩ (fun sz => kL_undo l D kI kC kG kJ hlt y bg bt_ bs_ yh yst b0 b1 b2 b3 tyy tych sz ub _ hw) (vx_cwSW 1 hts gL_isStep_L_undo rfl rfl rfl hdL_undo ⟨Nat.le_of_ble_eq_true rfl, Nat.le_of_ble_eq_true rfl⟩) hK hP hD hE hS hA [33, 34, 35, 36, 37, 38, 39, 40, 41, 42, 43, 44, 45, 46, 47, 48, 49, 50, 51, 52, 53, 54, 55, 56, 57, 58, 59, 60, 61, 62, 63, 64, 65] [0, 1, 2, 3, 4, 5, 6, 7, 8, 9, 10, 11, 12, 13, 14, 15, 16, 17, 18, 19, 20, 21, 22, 23, 24, 25, 26, 27, 28, 29, 30, 31, 32] rfl rfl rfl rfl (by decide) [0, 1, 2, 3, 4, 5, 6, 7, 8, 9, 10, 11, 12, 13, 14, 15, 16, 17, 18, 19, 20, 21, 22, 23, 24, 25, 26, 27, 28, 29, 30, 31, 32, 33, 34, 35, 36, 37, 38, 39, 40, 41, 42, 43, 44, 45, 46, 47, 48, 49, 50, 51, 52, 53, 54, 55, 56, 57, 58, 59, 60, 61, 62, 63, 64, 65] rfl (fun _ => rfl) rfl hl.1 rfl (Nat.le_of_ble_eq_true rfl) dL_isStep_169 ⟨Nat.le_of_ble_eq_true rfl, Nat.le_of_ble_eq_true rfl⟩ (fun r27 w27 H locs hw hP hD hS => ?_)
    have hP : va_P D vwCl (wX kI kC kG x ag at_ as_ hh hst a0 a1 a2 a3 tx tch w26 ++ wX kI kC kG y bg bt_ bs_ yh yst b0 b1 b2 b3 tyy tych w27) H := hP
    have hD : va_D A (wX kI kC kG x ag at_ as_ hh hst a0 a1 a2 a3 tx tch w26 ++ wX kI kC kG y bg bt_ bs_ yh yst b0 b1 b2 b3 tyy tych w27) := hD
    refine lv_icmp_ne (tgt := 179) hx hb dL_isStep_172 (by decide) (fun c28 => ?_) (fun c28 => ?_)
    · replace hw := Eq.mp (if_neg c28) hw
      refine lv_iconst (v := 0) hx hb dL_isStep_179 (by decide) ?_
      refine W.widen (k := 4) (n := 24) (Nat.le_of_ble_eq_true rfl) (Nat.le_of_ble_eq_true rfl) ?_
      exact W.zret (v := 0) hx hb hr rfl (fun t ht hW => ⟨⟨0, (w26, w27), rfl, hw, by rw [ht]; exact hP, va_K.moved hW.alike hK, hD⟩, hS.F ht⟩) hS.2.2 dL_isStep_180
    · replace hw := Eq.mp (if_pos c28) hw
      refine lv_iconst (v := 1) hx hb dL_isStep_175 (by decide) ?_
      refine lv_goto (tgt := 180) hx hb dL_isStep_176 (by decide) ?_
      refine W.widen (k := 4) (n := 24) (Nat.le_of_ble_eq_true rfl) (Nat.le_of_ble_eq_true rfl) ?_
      exact W.zret (v := 1) hx hb hr rfl (fun t ht hW => ⟨⟨1, (w26, w27), rfl, hw, by rw [ht]; exact hP, va_K.moved hW.alike hK, hD⟩, hS.F ht⟩) hS.2.2 dL_isStep_180
  replace hw := Eq.mp (if_neg c8_2) hw
  refine lv_tableOut (tgt := 181) hx hb dL_isStep_43 (goutN 3 (by decide) (lt_s (lt_s (lt_s lt_0 c8_0) c8_1) c8_2)) (by decide) ?_
  refine lv_iload hx hb dL_isStep_181 (lv_at hl 0 rfl) ?_
  refine lv_if_eq (tgt := 227) hx hb dL_isStep_183 (by decide) (fun c29 => ?_) (fun c29 => ?_)
  · replace hw := Eq.mp (if_pos c29) hw
    refine lv_iload hx hb dL_isStep_227 (lv_at hl 2 rfl) ?_
    refine lv_if_ge (tgt := 388) hx hb dL_isStep_229 (by decide) (fun c30 => ?_) (fun c30 => ?_)
    · replace hw := Eq.mp (if_pos c30) hw
      refine lv_aload_n hx hb dL_isStep_388 rfl (lv_at hl 6 rfl) ?_
      refine lv_iload hx hb dL_isStep_389 (lv_at hl 2 rfl) ?_
      refine gLSi (mc := 0) (ms := 0) (S := SX) (As := [.ref x, .int r4]) (rest := []) (wc := wX kI kC kG x ag at_ as_ hh hst a0 a1 a2 a3 tx tch u) (wr := [(y, .inr (4, [.ref bg.1, .ref bt_.1, .ref bs_.1, .int ub.1, .ref yh, .ref tyy]))] ++ wG kI bg ub.2.1 ++ wG kI bt_ ub.2.2.1 ++ wG kI bs_ ub.2.2.2.1 ++ [(yh, .inr (2, [.ref yst, .int ub.2.2.2.2.1.1, .int ub.2.2.2.2.1.2.1])), (yst, .inl (kG, 4, .inr (.inr (.inr (.inr (fH b0 b1 b2 b3))))))] ++ wG kI b0 ub.2.2.2.2.1.2.2.1 ++ wG kI b1 ub.2.2.2.2.1.2.2.2.1 ++ wG kI b2 ub.2.2.2.2.1.2.2.2.2.1 ++ wG kI b3 ub.2.2.2.2.1.2.2.2.2.2 ++ wT kC tyy tych ub.2.2.2.2.2) (cs1 := (fun zz : SX => wX kI kC kG x ag at_ as_ hh hst a0 a1 a2 a3 tx tch zz)) (ws2 := (fun zz : SX => wX kI kC kG x ag at_ as_ hh hst a0 a1 a2 a3 tx tch zz ++ wX kI kC kG y bg bt_ bs_ yh yst b0 b1 b2 b3 tyy tych ub)) ⟨hx, hb, hml, hown, hts⟩ (fun sz => kL_winningCell l D kI kC kG kJ hlt x ag at_ as_ hh hst a0 a1 a2 a3 tx tch sz u r4 _ hw) (vx_cwSW 2 hts gL_isStep_L_winningCell rfl rfl rfl hdL_winningCell ⟨Nat.le_of_ble_eq_true rfl, Nat.le_of_ble_eq_true rfl⟩) hK hP hD hE hS hA [0, 1, 2, 3, 4, 5, 6, 7, 8, 9, 10, 11, 12, 13, 14, 15, 16, 17, 18, 19, 20, 21, 22, 23, 24, 25, 26, 27, 28, 29, 30, 31, 32] [33, 34, 35, 36, 37, 38, 39, 40, 41, 42, 43, 44, 45, 46, 47, 48, 49, 50, 51, 52, 53, 54, 55, 56, 57, 58, 59, 60, 61, 62, 63, 64, 65] rfl rfl rfl rfl (by decide) [33, 34, 35, 36, 37, 38, 39, 40, 41, 42, 43, 44, 45, 46, 47, 48, 49, 50, 51, 52, 53, 54, 55, 56, 57, 58, 59, 60, 61, 62, 63, 64, 65, 0, 1, 2, 3, 4, 5, 6, 7, 8, 9, 10, 11, 12, 13, 14, 15, 16, 17, 18, 19, 20, 21, 22, 23, 24, 25, 26, 27, 28, 29, 30, 31, 32] rfl (fun _ => rfl) rfl hl.1 rfl (Nat.le_of_ble_eq_true rfl) dL_isStep_391 ⟨Nat.le_of_ble_eq_true rfl, Nat.le_of_ble_eq_true rfl⟩ (fun r31 w31 H locs hw hP hD hS => ?_)
      have hP : va_P D vwCl (wX kI kC kG x ag at_ as_ hh hst a0 a1 a2 a3 tx tch w31 ++ wX kI kC kG y bg bt_ bs_ yh yst b0 b1 b2 b3 tyy tych ub) H := hP
      have hD : va_D A (wX kI kC kG x ag at_ as_ hh hst a0 a1 a2 a3 tx tch w31 ++ wX kI kC kG y bg bt_ bs_ yh yst b0 b1 b2 b3 tyy tych ub) := hD
      refine lv_istore (lv' := [(10, .int r31), (9, .int r6), (8, .int r5), (7, .int r4), (6, .int r3), (5, .int r2), (4, .int x1), (0, .ref x), (1, .ref y), (2, .int p2), (3, .int p3)]) hx hb dL_isStep_394 hl (by decide) rfl (fun ls hl => ?_)
      refine lv_iconst (v := 0) hx hb dL_isStep_396 (by decide) ?_
      refine lv_istore (lv' := [(11, .int 0), (10, .int r31), (9, .int r6), (8, .int r5), (7, .int r4), (6, .int r3), (5, .int r2), (4, .int x1), (0, .ref x), (1, .ref y), (2, .int p2), (3, .int p3)]) hx hb dL_isStep_397 hl (by decide) rfl (fun ls hl => ?_)
      obtain ⟨n9, hw⟩ := hw
      exact L399 x1 r3 r4 r5 r31 n9 r2 0 w31 ub H locs ls hP hD hS (lv_sub hl [8, 9, 7, 6, 5, 4, 3, 1, 0] rfl) hw
    · replace hw := Eq.mp (if_neg c30) hw
      refine lv_aload_n hx hb dL_isStep_232 rfl (lv_at hl 6 rfl) ?_
      refine gVi (As := []) (rest := []) (cs' := wX kI kC kG x ag at_ as_ hh hst a0 a1 a2 a3 tx tch u) ⟨hx, hb, hml, hown, hts⟩ (kX5_safeByLines l D kI kC kG kJ x ag at_ as_ hh hst a0 a1 a2 a3 tx tch u _ hw) (cwV 0 hts gL_isStep_X5_safeByLines rfl rfl rfl hdX5_safeByLines ⟨Nat.le_of_ble_eq_true rfl, Nat.le_of_ble_eq_true rfl⟩) hK hP hE hS [0, 1, 2, 3, 4, 5, 6, 7, 8, 9, 10, 11, 12, 13, 14, 15, 16, 17, 18, 19, 20, 21, 22, 23, 24, 25, 26, 27, 28, 29, 30, 31, 32] rfl (ci := 4) (q0 := 0) rfl rfl rfl rfl hl.1 rfl (Nat.le_of_ble_eq_true rfl) dL_isStep_233 ⟨Nat.le_of_ble_eq_true rfl, Nat.le_of_ble_eq_true rfl⟩ (fun r93 hw => ?_)
      refine lv_istore (lv' := [(10, .int r93), (9, .int r6), (8, .int r5), (7, .int r4), (6, .int r3), (5, .int r2), (4, .int x1), (0, .ref x), (1, .ref y), (2, .int p2), (3, .int p3)]) hx hb dL_isStep_236 hl (by decide) rfl (fun ls hl => ?_)
      refine lv_iconst (v := 0) hx hb dL_isStep_238 (by decide) ?_
      refine lv_istore (lv' := [(11, .int 0), (10, .int r93), (9, .int r6), (8, .int r5), (7, .int r4), (6, .int r3), (5, .int r2), (4, .int x1), (0, .ref x), (1, .ref y), (2, .int p2), (3, .int p3)]) hx hb dL_isStep_239 hl (by decide) rfl (fun ls hl => ?_)
      obtain ⟨n9, hw⟩ := hw
      exact L241 x1 r5 r93 n9 r2 0 u ub s.heap [] ls hP hD hS (lv_sub hl [8, 9, 7, 6, 3, 1, 0] rfl) hw
  · replace hw := Eq.mp (if_neg c29) hw
    refine lv_iload hx hb dL_isStep_186 (lv_at hl 5 rfl) ?_
    refine lv_iconst (v := 3) hx hb dL_isStep_188 (by decide) ?_
    refine gSi (As := [.int x1, .int 3]) (rest := []) (cs' := ([] : va_W)) ⟨hx, hb, hml, hown, hts⟩ (kL_up l D kI kC kG kJ x1 3 _ hw) (va_cwS 2 hts gL_isStep_L_up rfl rfl rfl hdL_up ⟨Nat.le_of_ble_eq_true rfl, Nat.le_of_ble_eq_true rfl⟩) hK hP hE hS [] rfl rfl hl.1 rfl (Nat.le_of_ble_eq_true rfl) dL_isStep_189 ⟨Nat.le_of_ble_eq_true rfl, Nat.le_of_ble_eq_true rfl⟩ (fun r124 hw => ?_)
    refine lv_if_gt (tgt := 221) hx hb dL_isStep_192 (by decide) (fun c125 => ?_) (fun c125 => ?_)
    · replace hw := Eq.mp (if_pos c125) hw
      refine lv_iconst (v := 1) hx hb dL_isStep_221 (by decide) ?_
      refine lv_goto (tgt := 226) hx hb dL_isStep_222 (by decide) ?_
      refine W.widen (k := 4) (n := 24) (Nat.le_of_ble_eq_true rfl) (Nat.le_of_ble_eq_true rfl) ?_
      exact W.zret (v := 1) hx hb hr rfl (fun t ht hW => ⟨⟨1, (u, ub), rfl, hw, by rw [ht]; exact hP, va_K.moved hW.alike hK, hD⟩, hS.F ht⟩) hS.2.2 dL_isStep_226
    · replace hw := Eq.mp (if_neg c125) hw
      refine lv_aload_n hx hb dL_isStep_195 rfl (lv_at hl 6 rfl) ?_
      refine lv_aload_n hx hb dL_isStep_196 rfl (lv_at hl 6 rfl) ?_
      refine gVi (As := []) (rest := [.ref x]) (cs' := wX kI kC kG x ag at_ as_ hh hst a0 a1 a2 a3 tx tch u) ⟨hx, hb, hml, hown, hts⟩ (kX5_rule l D kI kC kG kJ x ag at_ as_ hh hst a0 a1 a2 a3 tx tch u _ hw) (cwV 0 hts gL_isStep_X5_rule rfl rfl rfl hdX5_rule ⟨Nat.le_of_ble_eq_true rfl, Nat.le_of_ble_eq_true rfl⟩) hK hP hE hS [0, 1, 2, 3, 4, 5, 6, 7, 8, 9, 10, 11, 12, 13, 14, 15, 16, 17, 18, 19, 20, 21, 22, 23, 24, 25, 26, 27, 28, 29, 30, 31, 32] rfl (ci := 4) (q0 := 0) rfl rfl rfl rfl hl.1 rfl (Nat.le_of_ble_eq_true rfl) dL_isStep_197 ⟨Nat.le_of_ble_eq_true rfl, Nat.le_of_ble_eq_true rfl⟩ (fun r126 hw => ?_)
      refine gLSi (mc := 0) (ms := 0) (S := SX) (As := [.ref x, .int r126]) (rest := []) (wc := wX kI kC kG x ag at_ as_ hh hst a0 a1 a2 a3 tx tch u) (wr := [(y, .inr (4, [.ref bg.1, .ref bt_.1, .ref bs_.1, .int ub.1, .ref yh, .ref tyy]))] ++ wG kI bg ub.2.1 ++ wG kI bt_ ub.2.2.1 ++ wG kI bs_ ub.2.2.2.1 ++ [(yh, .inr (2, [.ref yst, .int ub.2.2.2.2.1.1, .int ub.2.2.2.2.1.2.1])), (yst, .inl (kG, 4, .inr (.inr (.inr (.inr (fH b0 b1 b2 b3))))))] ++ wG kI b0 ub.2.2.2.2.1.2.2.1 ++ wG kI b1 ub.2.2.2.2.1.2.2.2.1 ++ wG kI b2 ub.2.2.2.2.1.2.2.2.2.1 ++ wG kI b3 ub.2.2.2.2.1.2.2.2.2.2 ++ wT kC tyy tych ub.2.2.2.2.2) (cs1 := (fun zz : SX => wX kI kC kG x ag at_ as_ hh hst a0 a1 a2 a3 tx tch zz)) (ws2 := (fun zz : SX => wX kI kC kG x ag at_ as_ hh hst a0 a1 a2 a3 tx tch zz ++ wX kI kC kG y bg bt_ bs_ yh yst b0 b1 b2 b3 tyy tych ub)) ⟨hx, hb, hml, hown, hts⟩ (fun sz => kL_restart l D kI kC kG kJ hlt x ag at_ as_ hh hst a0 a1 a2 a3 tx tch sz u r126 _ hw) (vx_cwSW 2 hts gL_isStep_L_restart rfl rfl rfl hdL_restart ⟨Nat.le_of_ble_eq_true rfl, Nat.le_of_ble_eq_true rfl⟩) hK hP hD hE hS hA [0, 1, 2, 3, 4, 5, 6, 7, 8, 9, 10, 11, 12, 13, 14, 15, 16, 17, 18, 19, 20, 21, 22, 23, 24, 25, 26, 27, 28, 29, 30, 31, 32] [33, 34, 35, 36, 37, 38, 39, 40, 41, 42, 43, 44, 45, 46, 47, 48, 49, 50, 51, 52, 53, 54, 55, 56, 57, 58, 59, 60, 61, 62, 63, 64, 65] rfl rfl rfl rfl (by decide) [33, 34, 35, 36, 37, 38, 39, 40, 41, 42, 43, 44, 45, 46, 47, 48, 49, 50, 51, 52, 53, 54, 55, 56, 57, 58, 59, 60, 61, 62, 63, 64, 65, 0, 1, 2, 3, 4, 5, 6, 7, 8, 9, 10, 11, 12, 13, 14, 15, 16, 17, 18, 19, 20, 21, 22, 23, 24, 25, 26, 27, 28, 29, 30, 31, 32] rfl (fun _ => rfl) rfl hl.1 rfl (Nat.le_of_ble_eq_true rfl) dL_isStep_200 ⟨Nat.le_of_ble_eq_true rfl, Nat.le_of_ble_eq_true rfl⟩ (fun r127 w127 H locs hw hP hD hS => ?_)
      have hP : va_P D vwCl (wX kI kC kG x ag at_ as_ hh hst a0 a1 a2 a3 tx tch w127 ++ wX kI kC kG y bg bt_ bs_ yh yst b0 b1 b2 b3 tyy tych ub) H := hP
      have hD : va_D A (wX kI kC kG x ag at_ as_ hh hst a0 a1 a2 a3 tx tch w127 ++ wX kI kC kG y bg bt_ bs_ yh yst b0 b1 b2 b3 tyy tych ub) := hD
      refine lv_iload hx hb dL_isStep_203 (lv_at hl 3 rfl) ?_
      refine lv_icmp_ne (tgt := 225) hx hb dL_isStep_205 (by decide) (fun c128 => ?_) (fun c128 => ?_)
      · replace hw := Eq.mp (if_neg c128) hw
        refine lv_iconst (v := 0) hx hb dL_isStep_225 (by decide) ?_
        refine W.widen (k := 4) (n := 24) (Nat.le_of_ble_eq_true rfl) (Nat.le_of_ble_eq_true rfl) ?_
        exact W.zret (v := 0) hx hb hr rfl (fun t ht hW => ⟨⟨0, (w127, ub), rfl, hw, by rw [ht]; exact hP, va_K.moved hW.alike hK, hD⟩, hS.F ht⟩) hS.2.2 dL_isStep_226
      · replace hw := Eq.mp (if_pos c128) hw
        refine lv_aload_n hx hb dL_isStep_208 rfl (lv_at hl 7 rfl) ?_
        refine lv_aload_n hx hb dL_isStep_209 rfl (lv_at hl 7 rfl) ?_
        refine gVi (As := []) (rest := [.ref y]) (cs' := wX kI kC kG y bg bt_ bs_ yh yst b0 b1 b2 b3 tyy tych ub) ⟨hx, hb, hml, hown, hts⟩ (kX5_rule l D kI kC kG kJ y bg bt_ bs_ yh yst b0 b1 b2 b3 tyy tych ub _ hw) (cwV 0 hts gL_isStep_X5_rule rfl rfl rfl hdX5_rule ⟨Nat.le_of_ble_eq_true rfl, Nat.le_of_ble_eq_true rfl⟩) hK hP hE hS [33, 34, 35, 36, 37, 38, 39, 40, 41, 42, 43, 44, 45, 46, 47, 48, 49, 50, 51, 52, 53, 54, 55, 56, 57, 58, 59, 60, 61, 62, 63, 64, 65] rfl (ci := 4) (q0 := 0) rfl rfl rfl rfl hl.1 rfl (Nat.le_of_ble_eq_true rfl) dL_isStep_210 ⟨Nat.le_of_ble_eq_true rfl, Nat.le_of_ble_eq_true rfl⟩ (fun r129 hw => ?_)
        refine gLSi (mc := 0) (ms := 0) (S := SX) (As := [.ref y, .int r129]) (rest := []) (wc := wX kI kC kG y bg bt_ bs_ yh yst b0 b1 b2 b3 tyy tych ub) (wr := [(x, .inr (4, [.ref ag.1, .ref at_.1, .ref as_.1, .int w127.1, .ref hh, .ref tx]))] ++ wG kI ag w127.2.1 ++ wG kI at_ w127.2.2.1 ++ wG kI as_ w127.2.2.2.1 ++ [(hh, .inr (2, [.ref hst, .int w127.2.2.2.2.1.1, .int w127.2.2.2.2.1.2.1])), (hst, .inl (kG, 4, .inr (.inr (.inr (.inr (fH a0 a1 a2 a3))))))] ++ wG kI a0 w127.2.2.2.2.1.2.2.1 ++ wG kI a1 w127.2.2.2.2.1.2.2.2.1 ++ wG kI a2 w127.2.2.2.2.1.2.2.2.2.1 ++ wG kI a3 w127.2.2.2.2.1.2.2.2.2.2 ++ wT kC tx tch w127.2.2.2.2.2) (cs1 := (fun zz : SX => wX kI kC kG y bg bt_ bs_ yh yst b0 b1 b2 b3 tyy tych zz)) (ws2 := (fun zz : SX => wX kI kC kG x ag at_ as_ hh hst a0 a1 a2 a3 tx tch w127 ++ wX kI kC kG y bg bt_ bs_ yh yst b0 b1 b2 b3 tyy tych zz)) ⟨hx, hb, hml, hown, hts⟩ (fun sz => kL_restart l D kI kC kG kJ hlt y bg bt_ bs_ yh yst b0 b1 b2 b3 tyy tych sz ub r129 _ hw) (vx_cwSW 2 hts gL_isStep_L_restart rfl rfl rfl hdL_restart ⟨Nat.le_of_ble_eq_true rfl, Nat.le_of_ble_eq_true rfl⟩) hK hP hD hE hS hA [33, 34, 35, 36, 37, 38, 39, 40, 41, 42, 43, 44, 45, 46, 47, 48, 49, 50, 51, 52, 53, 54, 55, 56, 57, 58, 59, 60, 61, 62, 63, 64, 65] [0, 1, 2, 3, 4, 5, 6, 7, 8, 9, 10, 11, 12, 13, 14, 15, 16, 17, 18, 19, 20, 21, 22, 23, 24, 25, 26, 27, 28, 29, 30, 31, 32] rfl rfl rfl rfl (by decide) [0, 1, 2, 3, 4, 5, 6, 7, 8, 9, 10, 11, 12, 13, 14, 15, 16, 17, 18, 19, 20, 21, 22, 23, 24, 25, 26, 27, 28, 29, 30, 31, 32, 33, 34, 35, 36, 37, 38, 39, 40, 41, 42, 43, 44, 45, 46, 47, 48, 49, 50, 51, 52, 53, 54, 55, 56, 57, 58, 59, 60, 61, 62, 63, 64, 65] rfl (fun _ => rfl) rfl hl.1 rfl (Nat.le_of_ble_eq_true rfl) dL_isStep_213 ⟨Nat.le_of_ble_eq_true rfl, Nat.le_of_ble_eq_true rfl⟩ (fun r130 w130 H locs hw hP hD hS => ?_)
        have hP : va_P D vwCl (wX kI kC kG x ag at_ as_ hh hst a0 a1 a2 a3 tx tch w127 ++ wX kI kC kG y bg bt_ bs_ yh yst b0 b1 b2 b3 tyy tych w130) H := hP
        have hD : va_D A (wX kI kC kG x ag at_ as_ hh hst a0 a1 a2 a3 tx tch w127 ++ wX kI kC kG y bg bt_ bs_ yh yst b0 b1 b2 b3 tyy tych w130) := hD
        refine lv_iload hx hb dL_isStep_216 (lv_at hl 3 rfl) ?_
        refine lv_icmp_ne (tgt := 225) hx hb dL_isStep_218 (by decide) (fun c131 => ?_) (fun c131 => ?_)
        · replace hw := Eq.mp (if_neg c131) hw
          refine lv_iconst (v := 0) hx hb dL_isStep_225 (by decide) ?_
          refine W.widen (k := 4) (n := 24) (Nat.le_of_ble_eq_true rfl) (Nat.le_of_ble_eq_true rfl) ?_
          exact W.zret (v := 0) hx hb hr rfl (fun t ht hW => ⟨⟨0, (w127, w130), rfl, hw, by rw [ht]; exact hP, va_K.moved hW.alike hK, hD⟩, hS.F ht⟩) hS.2.2 dL_isStep_226
        · replace hw := Eq.mp (if_pos c131) hw
          refine lv_iconst (v := 1) hx hb dL_isStep_221 (by decide) ?_
          refine lv_goto (tgt := 226) hx hb dL_isStep_222 (by decide) ?_
          refine W.widen (k := 4) (n := 24) (Nat.le_of_ble_eq_true rfl) (Nat.le_of_ble_eq_true rfl) ?_
          exact W.zret (v := 1) hx hb hr rfl (fun t ht hW => ⟨⟨1, (w127, w130), rfl, hw, by rw [ht]; exact hP, va_K.moved hW.alike hK, hD⟩, hS.F ht⟩) hS.2.2 dL_isStep_226
