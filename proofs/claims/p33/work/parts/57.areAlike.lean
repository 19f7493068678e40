set_option maxHeartbeats 64000000 in
set_option maxRecDepth 100000 in
theorem kL_areAlike (l : Launch) (D : va_G) (kI kC kG kJ : ClassId) (hlt : l.stackTraces = false) (x : Nat) (ag at_ as_ : AG) (hh hst : Nat) (a0 a1 a2 a3 : AG) (tx tch : Nat) (y : Nat) (bg bt_ bs_ : AG) (yh yst : Nat) (b0 b1 b2 b3 : AG) (tyy tych : Nat) (sz : Nat) (u : SX) (ub : SX) (Z : Int32 → SX × SX → Prop) (hw : pL_areAlike u ub Z) : Met l yL_areAlike wsL_areAlike ({ frames := 17, cells := 2, slots := 12, locals := 391 } : Room) (gPw D (gT kI kC kG kJ) [.ref x, .ref y] (wX kI kC kG x ag at_ as_ hh hst a0 a1 a2 a3 tx tch u ++ wX kI kC kG y bg bt_ bs_ yh yst b0 b1 b2 b3 tyy tych ub) sz) (va_Qi Z (gB D (gT kI kC kG kJ) (fun (zz : SX × SX) => wX kI kC kG x ag at_ as_ hh hst a0 a1 a2 a3 tx tch zz.1 ++ wX kI kC kG y bg bt_ bs_ yh yst b0 b1 b2 b3 tyy tych zz.2) (va_A (wX kI kC kG x ag at_ as_ hh hst a0 a1 a2 a3 tx tch u ++ wX kI kC kG y bg bt_ bs_ yh yst b0 b1 b2 b3 tyy tych ub) sz)) (va_A (wX kI kC kG x ag at_ as_ hh hst a0 a1 a2 a3 tx tch u ++ wX kI kC kG y bg bt_ bs_ yh yst b0 b1 b2 b3 tyy tych ub) sz)) 2 12 (va_A (wX kI kC kG x ag at_ as_ hh hst a0 a1 a2 a3 tx tch u ++ wX kI kC kG y bg bt_ bs_ yh yst b0 b1 b2 b3 tyy tych ub) sz) := by
  refine Met.ofW (cc := cL_areAlike) (maxL := 6) (ret := (some .boolean)) (by decide) rfl ?_
  intro p e s m args below meth c s₁ B hml hv
  obtain ⟨rfl, hsz, hP, hK, hD0, hE⟩ := hv
  have hx := B.exec
  have hb := B.bytes
  have hr := B.returns
  have hts := atoms_spec (ws := wsL_areAlike) B.pre
  have hown : s.vm.findClass RL = some m.cls := findClass_of_methodNamed B.named
  have hlocks := B.notSynchronized
  subst hsz
  have hD := hD0.self (sz := s.heap.size)
  generalize hAe : va_A (wX kI kC kG x ag at_ as_ hh hst a0 a1 a2 a3 tx tch u ++ wX kI kC kG y bg bt_ bs_ yh yst b0 b1 b2 b3 tyy tych ub) s.heap.size = A at hD hE ⊢
  have hA : ∀ q : Nat, s.heap.size ≤ q → A q := fun q h => by rw [← hAe]; exact Or.inr h
  have hS : va_S A s.heap s.heap [] := va_S.rf
  clear hAe hD0
  have hl := lv_entry ([.ref x, .ref y]) (n := 6) (Nat.le_of_ble_eq_true rfl)
  rw [lg_entry_eq]
  generalize (lg_sl ([.ref x, .ref y]) ++ List.replicate (6 - (lg_sl ([.ref x, .ref y])).length) Slot.unset).toArray = ls at hl ⊢
  have hl : lv_has ls 6 [(0, .ref x), (1, .ref y)] := hl
  have hP : va_P D vwCl (wX kI kC kG x ag at_ as_ hh hst a0 a1 a2 a3 tx tch u ++ wX kI kC kG y bg bt_ bs_ yh yst b0 b1 b2 b3 tyy tych ub) s.heap := hP
  have L292 : ∀ (_ : Unit), ∀ (n : Nat), ∀ (v2 : Int32) (v3 : Int32) (u : SX) (ub : SX) (H : Heap) (locs : List Loc) (ls : Array Slot), va_P D vwCl (wX kI kC kG x ag at_ as_ hh hst a0 a1 a2 a3 tx tch u ++ wX kI kC kG y bg bt_ bs_ yh yst b0 b1 b2 b3 tyy tych ub) H → va_D A (wX kI kC kG x ag at_ as_ hh hst a0 a1 a2 a3 tx tch u ++ wX kI kC kG y bg bt_ bs_ yh yst b0 b1 b2 b3 tyy tych ub) → va_S A s.heap H locs → lv_has ls 6 [(0, .ref x), (1, .ref y), (2, .int v2), (3, .int v3)] → pL_areAlike_292 Z n v2 v3 u ub → W p l e (headSpec wsL_areAlike ({ frames := 17, cells := 2, slots := 12, locals := 391 } : Room)).room s m ([.ref x, .ref y] : List Value).toArray below meth c H locs 2 12 (MQ below (va_Qi Z (gB D (gT kI kC kG kJ) (fun (zz : SX × SX) => wX kI kC kG x ag at_ as_ hh hst a0 a1 a2 a3 tx tch zz.1 ++ wX kI kC kG y bg bt_ bs_ yh yst b0 b1 b2 b3 tyy tych zz.2) A) A) ([.ref x, .ref y] : List Value).toArray s 2 12 A) (F0 m 292 ls []) := by
    intro _ n
    induction n with
    | zero => intro v2 v3 u ub H locs ls hP hD hS hl hw; exact hw.elim
    | succ n ih =>
    intro v2 v3 u ub H locs ls hP hD hS hl hw
    rw [pL_areAlike_292] at hw
    refine lv_iload_n hx hb dL_areAlike_292 rfl (lv_at hl 3 rfl) ?_
    refine lv_aload_n hx hb dL_areAlike_293 rfl (lv_at hl 0 rfl) ?_
    refine gVi (As := []) (rest := [.int v3]) (cs' := wX kI kC kG x ag at_ as_ hh hst a0 a1 a2 a3 tx tch u) ⟨hx, hb, hml, hown, hts⟩ (kX5_lines l D kI kC kG kJ x ag at_ as_ hh hst a0 a1 a2 a3 tx tch u _ hw) (cwV 0 hts gL_areAlike_X5_lines rfl rfl rfl hdX5_lines ⟨Nat.le_of_ble_eq_true rfl, Nat.le_of_ble_eq_true rfl⟩) hK hP hE hS [0, 1, 2, 3, 4, 5, 6, 7, 8, 9, 10, 11, 12, 13, 14, 15, 16, 17, 18, 19, 20, 21, 22, 23, 24, 25, 26, 27, 28, 29, 30, 31, 32] rfl (ci := 4) (q0 := 0) rfl rfl rfl rfl hl.1 rfl (Nat.le_of_ble_eq_true rfl) dL_areAlike_294 ⟨Nat.le_of_ble_eq_true rfl, Nat.le_of_ble_eq_true rfl⟩ (fun r5 hw => ?_)
    refine lv_icmp_ge (tgt := 364) hx hb dL_areAlike_297 (by decide) (fun c6 => ?_) (fun c6 => ?_)
    · replace hw := Eq.mp (if_pos c6) hw
      refine lv_iload_n hx hb dL_areAlike_364 rfl (lv_at hl 2 rfl) ?_
      refine W.widen (k := 2) (n := 12) (Nat.le_of_ble_eq_true rfl) (Nat.le_of_ble_eq_true rfl) ?_
      obtain ⟨hn, hw⟩ := hw
      exact W.zret (v := v2) hx hb hr hn (fun t ht hW => ⟨⟨v2, (u, ub), rfl, hw, by rw [ht]; exact hP, va_K.moved hW.alike hK, hD⟩, hS.F ht⟩) hS.2.2 dL_areAlike_365
    · replace hw := Eq.mp (if_neg c6) hw
      refine lv_aload_n hx hb dL_areAlike_300 rfl (lv_at hl 0 rfl) ?_
      refine lv_iload_n hx hb dL_areAlike_301 rfl (lv_at hl 3 rfl) ?_
      refine gLSi (mc := 0) (ms := 0) (S := SX) (As := [.ref x, .int v3]) (rest := []) (wc := wX kI kC kG x ag at_ as_ hh hst a0 a1 a2 a3 tx tch u) (wr := [(y, .inr (4, [.ref bg.1, .ref bt_.1, .ref bs_.1, .int ub.1, .ref yh, .ref tyy]))] ++ wG kI bg ub.2.1 ++ wG kI bt_ ub.2.2.1 ++ wG kI bs_ ub.2.2.2.1 ++ [(yh, .inr (2, [.ref yst, .int ub.2.2.2.2.1.1, .int ub.2.2.2.2.1.2.1])), (yst, .inl (kG, 4, .inr (.inr (.inr (.inr (fH b0 b1 b2 b3))))))] ++ wG kI b0 ub.2.2.2.2.1.2.2.1 ++ wG kI b1 ub.2.2.2.2.1.2.2.2.1 ++ wG kI b2 ub.2.2.2.2.1.2.2.2.2.1 ++ wG kI b3 ub.2.2.2.2.1.2.2.2.2.2 ++ wT kC tyy tych ub.2.2.2.2.2) (cs1 := (fun zz : SX => wX kI kC kG x ag at_ as_ hh hst a0 a1 a2 a3 tx tch zz)) (ws2 := (fun zz : SX => wX kI kC kG x ag at_ as_ hh hst a0 a1 a2 a3 tx tch zz ++ wX kI kC kG y bg bt_ bs_ yh yst b0 b1 b2 b3 tyy tych ub)) ⟨hx, hb, hml, hown, hts⟩ (fun sz => kL_shared l D kI kC kG kJ hlt x ag at_ as_ hh hst a0 a1 a2 a3 tx tch sz u v3 _ hw) (vx_cwSW 2 hts gL_areAlike_L_shared rfl rfl rfl hdL_shared ⟨Nat.le_of_ble_eq_true rfl, Nat.le_of_ble_eq_true rfl⟩) hK hP hD hE hS hA [0, 1, 2, 3, 4, 5, 6, 7, 8, 9, 10, 11, 12, 13, 14, 15, 16, 17, 18, 19, 20, 21, 22, 23, 24, 25, 26, 27, 28, 29, 30, 31, 32] [33, 34, 35, 36, 37, 38, 39, 40, 41, 42, 43, 44, 45, 46, 47, 48, 49, 50, 51, 52, 53, 54, 55, 56, 57, 58, 59, 60, 61, 62, 63, 64, 65] rfl rfl rfl rfl (by decide) [33, 34, 35, 36, 37, 38, 39, 40, 41, 42, 43, 44, 45, 46, 47, 48, 49, 50, 51, 52, 53, 54, 55, 56, 57, 58, 59, 60, 61, 62, 63, 64, 65, 0, 1, 2, 3, 4, 5, 6, 7, 8, 9, 10, 11, 12, 13, 14, 15, 16, 17, 18, 19, 20, 21, 22, 23, 24, 25, 26, 27, 28, 29, 30, 31, 32] rfl (fun _ => rfl) rfl hl.1 rfl (Nat.le_of_ble_eq_true rfl) dL_areAlike_302 ⟨Nat.le_of_ble_eq_true rfl, Nat.le_of_ble_eq_true rfl⟩ (fun r7 w7 H locs hw hP hD hS => ?_)
      have hP : va_P D vwCl (wX kI kC kG x ag at_ as_ hh hst a0 a1 a2 a3 tx tch w7 ++ wX kI kC kG y bg bt_ bs_ yh yst b0 b1 b2 b3 tyy tych ub) H := hP
      have hD : va_D A (wX kI kC kG x ag at_ as_ hh hst a0 a1 a2 a3 tx tch w7 ++ wX kI kC kG y bg bt_ bs_ yh yst b0 b1 b2 b3 tyy tych ub) := hD
      refine lv_istore (lv' := [(4, .int r7), (0, .ref x), (1, .ref y), (2, .int v2), (3, .int v3)]) hx hb dL_areAlike_305 hl (by decide) rfl (fun ls hl => ?_)
      refine lv_iload_n hx hb dL_areAlike_307 rfl (lv_at hl 3 rfl) ?_
      refine lv_if_eq (tgt := 356) hx hb dL_areAlike_308 (by decide) (fun c8 => ?_) (fun c8 => ?_)
      · replace hw := Eq.mp (if_pos c8) hw
        refine lv_iconst (v := 0) hx hb dL_areAlike_356 (by decide) ?_
        refine lv_istore_n (lv' := [(2, .int 0), (4, .int r7), (0, .ref x), (1, .ref y), (3, .int v3)]) hx hb dL_areAlike_357 rfl hl (by decide) rfl (fun ls hl => ?_)
        obtain ⟨x9, ex9⟩ : ∃ y : Int32, y = (v3 + 1) := ⟨_, rfl⟩
        replace hw := hw x9 ex9
        refine lv_iinc (v := x9) (lv' := [(3, .int x9), (2, .int 0), (4, .int r7), (0, .ref x), (1, .ref y)]) hx hb dL_areAlike_358 hl (k := 4) rfl (by rw [ex9]; rfl) (by decide) rfl (fun ls hl => ?_)
        refine lv_goto (tgt := 292) hx hb dL_areAlike_361 (by decide) ?_
        refine W.widen (k := 2) (n := 12) (Nat.le_of_ble_eq_true rfl) (Nat.le_of_ble_eq_true rfl) ?_
        exact ih 0 x9 w7 ub H locs ls hP hD hS (lv_sub hl [3, 4, 1, 0] rfl) hw
      · replace hw := Eq.mp (if_neg c8) hw
        refine lv_aload_n hx hb dL_areAlike_311 rfl (lv_at hl 1 rfl) ?_
        refine lv_iload_n hx hb dL_areAlike_312 rfl (lv_at hl 4 rfl) ?_
        refine gLSi (mc := 0) (ms := 0) (S := SX) (As := [.ref x, .int v3]) (rest := []) (wc := wX kI kC kG x ag at_ as_ hh hst a0 a1 a2 a3 tx tch w7) (wr := [(y, .inr (4, [.ref bg.1, .ref bt_.1, .ref bs_.1, .int ub.1, .ref yh, .ref tyy]))] ++ wG kI bg ub.2.1 ++ wG kI bt_ ub.2.2.1 ++ wG kI bs_ ub.2.2.2.1 ++ [(yh, .inr (2, [.ref yst, .int ub.2.2.2.2.1.1, .int ub.2.2.2.2.1.2.1])), (yst, .inl (kG, 4, .inr (.inr (.inr (.inr (fH b0 b1 b2 b3))))))] ++ wG kI b0 ub.2.2.2.2.1.2.2.1 ++ wG kI b1 ub.2.2.2.2.1.2.2.2.1 ++ wG kI b2 ub.2.2.2.2.1.2.2.2.2.1 ++ wG kI b3 ub.2.2.2.2.1.2.2.2.2.2 ++ wT kC tyy tych ub.2.2.2.2.2) (cs1 := (fun zz : SX => wX kI kC kG x ag at_ as_ hh hst a0 a1 a2 a3 tx tch zz)) (ws2 := (fun zz : SX => wX kI kC kG x ag at_ as_ hh hst a0 a1 a2 a3 tx tch zz ++ wX kI kC kG y bg bt_ bs_ yh yst b0 b1 b2 b3 tyy tych ub)) ⟨hx, hb, hml, hown, hts⟩ (fun sz => kL_piecesOn l D kI kC kG kJ hlt x ag at_ as_ hh hst a0 a1 a2 a3 tx tch sz w7 v3 _ hw) (vx_cwSW 2 hts gL_areAlike_L_piecesOn rfl rfl rfl hdL_piecesOn ⟨Nat.le_of_ble_eq_true rfl, Nat.le_of_ble_eq_true rfl⟩) hK hP hD hE hS hA [0, 1, 2, 3, 4, 5, 6, 7, 8, 9, 10, 11, 12, 13, 14, 15, 16, 17, 18, 19, 20, 21, 22, 23, 24, 25, 26, 27, 28, 29, 30, 31, 32] [33, 34, 35, 36, 37, 38, 39, 40, 41, 42, 43, 44, 45, 46, 47, 48, 49, 50, 51, 52, 53, 54, 55, 56, 57, 58, 59, 60, 61, 62, 63, 64, 65] rfl rfl rfl rfl (by decide) [33, 34, 35, 36, 37, 38, 39, 40, 41, 42, 43, 44, 45, 46, 47, 48, 49, 50, 51, 52, 53, 54, 55, 56, 57, 58, 59, 60, 61, 62, 63, 64, 65, 0, 1, 2, 3, 4, 5, 6, 7, 8, 9, 10, 11, 12, 13, 14, 15, 16, 17, 18, 19, 20, 21, 22, 23, 24, 25, 26, 27, 28, 29, 30, 31, 32] rfl (fun _ => rfl) rfl hl.1 rfl (Nat.le_of_ble_eq_true rfl) dL_areAlike_313 ⟨Nat.le_of_ble_eq_true rfl, Nat.le_of_ble_eq_true rfl⟩ (fun r10 w10 H locs hw hP hD hS => ?_)
        have hP : va_P D vwCl (wX kI kC kG x ag at_ as_ hh hst a0 a1 a2 a3 tx tch w10 ++ wX kI kC kG y bg bt_ bs_ yh yst b0 b1 b2 b3 tyy tych ub) H := hP
        have hD : va_D A (wX kI kC kG x ag at_ as_ hh hst a0 a1 a2 a3 tx tch w10 ++ wX kI kC kG y bg bt_ bs_ yh yst b0 b1 b2 b3 tyy tych ub) := hD
        refine lv_aload_n hx hb dL_areAlike_316 rfl (lv_at hl 2 rfl) ?_
        refine lv_iload_n hx hb dL_areAlike_317 rfl (lv_at hl 4 rfl) ?_
        refine gSi (As := [.int v3]) (rest := [.ref y, .int r10]) (cs' := ([] : va_W)) ⟨hx, hb, hml, hown, hts⟩ (kL_line l D kI kC kG kJ v3 _ hw) (va_cwS 1 hts gL_areAlike_L_line rfl rfl rfl hdL_line ⟨Nat.le_of_ble_eq_true rfl, Nat.le_of_ble_eq_true rfl⟩) hK hP hE hS [] rfl rfl hl.1 rfl (Nat.le_of_ble_eq_true rfl) dL_areAlike_318 ⟨Nat.le_of_ble_eq_true rfl, Nat.le_of_ble_eq_true rfl⟩ (fun r11 hw => ?_)
        refine gLSi (mc := 0) (ms := 0) (S := SX) (As := [.ref y, .int r11]) (rest := [.int r10]) (wc := wX kI kC kG y bg bt_ bs_ yh yst b0 b1 b2 b3 tyy tych ub) (wr := [(x, .inr (4, [.ref ag.1, .ref at_.1, .ref as_.1, .int w10.1, .ref hh, .ref tx]))] ++ wG kI ag w10.2.1 ++ wG kI at_ w10.2.2.1 ++ wG kI as_ w10.2.2.2.1 ++ [(hh, .inr (2, [.ref hst, .int w10.2.2.2.2.1.1, .int w10.2.2.2.2.1.2.1])), (hst, .inl (kG, 4, .inr (.inr (.inr (.inr (fH a0 a1 a2 a3))))))] ++ wG kI a0 w10.2.2.2.2.1.2.2.1 ++ wG kI a1 w10.2.2.2.2.1.2.2.2.1 ++ wG kI a2 w10.2.2.2.2.1.2.2.2.2.1 ++ wG kI a3 w10.2.2.2.2.1.2.2.2.2.2 ++ wT kC tx tch w10.2.2.2.2.2) (cs1 := (fun zz : SX => wX kI kC kG y bg bt_ bs_ yh yst b0 b1 b2 b3 tyy tych zz)) (ws2 := (fun zz : SX => wX kI kC kG x ag at_ as_ hh hst a0 a1 a2 a3 tx tch w10 ++ wX kI kC kG y bg bt_ bs_ yh yst b0 b1 b2 b3 tyy tych zz)) ⟨hx, hb, hml, hown, hts⟩ (fun sz => kL_piecesOn l D kI kC kG kJ hlt y bg bt_ bs_ yh yst b0 b1 b2 b3 tyy tych sz ub r11 _ hw) (vx_cwSW 2 hts gL_areAlike_L_piecesOn rfl rfl rfl hdL_piecesOn ⟨Nat.le_of_ble_eq_true rfl, Nat.le_of_ble_eq_true rfl⟩) hK hP hD hE hS hA [33, 34, 35, 36, 37, 38, 39, 40, 41, 42, 43, 44, 45, 46, 47, 48, 49, 50, 51, 52, 53, 54, 55, 56, 57, 58, 59, 60, 61, 62, 63, 64, 65] [0, 1, 2, 3, 4, 5, 6, 7, 8, 9, 10, 11, 12, 13, 14, 15, 16, 17, 18, 19, 20, 21, 22, 23, 24, 25, 26, 27, 28, 29, 30, 31, 32] rfl rfl rfl rfl (by decide) [0, 1, 2, 3, 4, 5, 6, 7, 8, 9, 10, 11, 12, 13, 14, 15, 16, 17, 18, 19, 20, 21, 22, 23, 24, 25, 26, 27, 28, 29, 30, 31, 32, 33, 34, 35, 36, 37, 38, 39, 40, 41, 42, 43, 44, 45, 46, 47, 48, 49, 50, 51, 52, 53, 54, 55, 56, 57, 58, 59, 60, 61, 62, 63, 64, 65] rfl (fun _ => rfl) rfl hl.1 rfl (Nat.le_of_ble_eq_true rfl) dL_areAlike_321 ⟨Nat.le_of_ble_eq_true rfl, Nat.le_of_ble_eq_true rfl⟩ (fun r12 w12 H locs hw hP hD hS => ?_)
        have hP : va_P D vwCl (wX kI kC kG x ag at_ as_ hh hst a0 a1 a2 a3 tx tch w10 ++ wX kI kC kG y bg bt_ bs_ yh yst b0 b1 b2 b3 tyy tych w12) H := hP
        have hD : va_D A (wX kI kC kG x ag at_ as_ hh hst a0 a1 a2 a3 tx tch w10 ++ wX kI kC kG y bg bt_ bs_ yh yst b0 b1 b2 b3 tyy tych w12) := hD
        refine lv_icmp_ne (tgt := 356) hx hb dL_areAlike_324 (by decide) (fun c13 => ?_) (fun c13 => ?_)
        · replace hw := Eq.mp (if_neg c13) hw
          refine lv_iconst (v := 0) hx hb dL_areAlike_356 (by decide) ?_
          refine lv_istore_n (lv' := [(2, .int 0), (4, .int r7), (0, .ref x), (1, .ref y), (3, .int v3)]) hx hb dL_areAlike_357 rfl hl (by decide) rfl (fun ls hl => ?_)
          obtain ⟨x14, ex14⟩ : ∃ y : Int32, y = (v3 + 1) := ⟨_, rfl⟩
          replace hw := hw x14 ex14
          refine lv_iinc (v := x14) (lv' := [(3, .int x14), (2, .int 0), (4, .int r7), (0, .ref x), (1, .ref y)]) hx hb dL_areAlike_358 hl (k := 4) rfl (by rw [ex14]; rfl) (by decide) rfl (fun ls hl => ?_)
          refine lv_goto (tgt := 292) hx hb dL_areAlike_361 (by decide) ?_
          refine W.widen (k := 2) (n := 12) (Nat.le_of_ble_eq_true rfl) (Nat.le_of_ble_eq_true rfl) ?_
          exact ih 0 x14 w10 w12 H locs ls hP hD hS (lv_sub hl [3, 4, 1, 0] rfl) hw
        · replace hw := Eq.mp (if_pos c13) hw
          refine lv_aload_n hx hb dL_areAlike_327 rfl (lv_at hl 2 rfl) ?_
          refine lv_iload_n hx hb dL_areAlike_328 rfl (lv_at hl 4 rfl) ?_
          refine gSi (As := [.int v3]) (rest := [.ref y]) (cs' := ([] : va_W)) ⟨hx, hb, hml, hown, hts⟩ (kL_line l D kI kC kG kJ v3 _ hw) (va_cwS 1 hts gL_areAlike_L_line rfl rfl rfl hdL_line ⟨Nat.le_of_ble_eq_true rfl, Nat.le_of_ble_eq_true rfl⟩) hK hP hE hS [] rfl rfl hl.1 rfl (Nat.le_of_ble_eq_true rfl) dL_areAlike_329 ⟨Nat.le_of_ble_eq_true rfl, Nat.le_of_ble_eq_true rfl⟩ (fun r15 hw => ?_)
          refine gLSi (mc := 0) (ms := 0) (S := SX) (As := [.ref y, .int r15]) (rest := []) (wc := wX kI kC kG y bg bt_ bs_ yh yst b0 b1 b2 b3 tyy tych w12) (wr := [(x, .inr (4, [.ref ag.1, .ref at_.1, .ref as_.1, .int w10.1, .ref hh, .ref tx]))] ++ wG kI ag w10.2.1 ++ wG kI at_ w10.2.2.1 ++ wG kI as_ w10.2.2.2.1 ++ [(hh, .inr (2, [.ref hst, .int w10.2.2.2.2.1.1, .int w10.2.2.2.2.1.2.1])), (hst, .inl (kG, 4, .inr (.inr (.inr (.inr (fH a0 a1 a2 a3))))))] ++ wG kI a0 w10.2.2.2.2.1.2.2.1 ++ wG kI a1 w10.2.2.2.2.1.2.2.2.1 ++ wG kI a2 w10.2.2.2.2.1.2.2.2.2.1 ++ wG kI a3 w10.2.2.2.2.1.2.2.2.2.2 ++ wT kC tx tch w10.2.2.2.2.2) (cs1 := (fun zz : SX => wX kI kC kG y bg bt_ bs_ yh yst b0 b1 b2 b3 tyy tych zz)) (ws2 := (fun zz : SX => wX kI kC kG x ag at_ as_ hh hst a0 a1 a2 a3 tx tch w10 ++ wX kI kC kG y bg bt_ bs_ yh yst b0 b1 b2 b3 tyy tych zz)) ⟨hx, hb, hml, hown, hts⟩ (fun sz => kL_shared l D kI kC kG kJ hlt y bg bt_ bs_ yh yst b0 b1 b2 b3 tyy tych sz w12 r15 _ hw) (vx_cwSW 2 hts gL_areAlike_L_shared rfl rfl rfl hdL_shared ⟨Nat.le_of_ble_eq_true rfl, Nat.le_of_ble_eq_true rfl⟩) hK hP hD hE hS hA [33, 34, 35, 36, 37, 38, 39, 40, 41, 42, 43, 44, 45, 46, 47, 48, 49, 50, 51, 52, 53, 54, 55, 56, 57, 58, 59, 60, 61, 62, 63, 64, 65] [0, 1, 2, 3, 4, 5, 6, 7, 8, 9, 10, 11, 12, 13, 14, 15, 16, 17, 18, 19, 20, 21, 22, 23, 24, 25, 26, 27, 28, 29, 30, 31, 32] rfl rfl rfl rfl (by decide) [0, 1, 2, 3, 4, 5, 6, 7, 8, 9, 10, 11, 12, 13, 14, 15, 16, 17, 18, 19, 20, 21, 22, 23, 24, 25, 26, 27, 28, 29, 30, 31, 32, 33, 34, 35, 36, 37, 38, 39, 40, 41, 42, 43, 44, 45, 46, 47, 48, 49, 50, 51, 52, 53, 54, 55, 56, 57, 58, 59, 60, 61, 62, 63, 64, 65] rfl (fun _ => rfl) rfl hl.1 rfl (Nat.le_of_ble_eq_true rfl) dL_areAlike_332 ⟨Nat.le_of_ble_eq_true rfl, Nat.le_of_ble_eq_true rfl⟩ (fun r16 w16 H locs hw hP hD hS => ?_)
          have hP : va_P D vwCl (wX kI kC kG x ag at_ as_ hh hst a0 a1 a2 a3 tx tch w10 ++ wX kI kC kG y bg bt_ bs_ yh yst b0 b1 b2 b3 tyy tych w16) H := hP
          have hD : va_D A (wX kI kC kG x ag at_ as_ hh hst a0 a1 a2 a3 tx tch w10 ++ wX kI kC kG y bg bt_ bs_ yh yst b0 b1 b2 b3 tyy tych w16) := hD
          refine lv_iload hx hb dL_areAlike_335 (lv_at hl 0 rfl) ?_
          refine lv_bipush (v := 15) hx hb dL_areAlike_337 (by decide) ?_
          refine lv_iand hx hb dL_areAlike_339 ?_
          refine lv_bipush (v := 16) hx hb dL_areAlike_340 (by decide) ?_
          refine lv_imul hx hb dL_areAlike_342 ?_
          refine lv_iload hx hb dL_areAlike_343 (lv_at hl 0 rfl) ?_
          refine lv_bipush (v := 16) hx hb dL_areAlike_345 (by decide) ?_
          refine lv_idiv hx hb dL_areAlike_347 (by decide) ?_
          refine lv_iadd hx hb dL_areAlike_348 ?_
          refine lv_icmp_ne (tgt := 356) hx hb dL_areAlike_349 (by decide) (fun c17 => ?_) (fun c17 => ?_)
          · replace hw := Eq.mp (if_neg c17) hw
            refine lv_iconst (v := 0) hx hb dL_areAlike_356 (by decide) ?_
            refine lv_istore_n (lv' := [(2, .int 0), (4, .int r7), (0, .ref x), (1, .ref y), (3, .int v3)]) hx hb dL_areAlike_357 rfl hl (by decide) rfl (fun ls hl => ?_)
            obtain ⟨x18, ex18⟩ : ∃ y : Int32, y = (v3 + 1) := ⟨_, rfl⟩
            replace hw := hw x18 ex18
            refine lv_iinc (v := x18) (lv' := [(3, .int x18), (2, .int 0), (4, .int r7), (0, .ref x), (1, .ref y)]) hx hb dL_areAlike_358 hl (k := 4) rfl (by rw [ex18]; rfl) (by decide) rfl (fun ls hl => ?_)
            refine lv_goto (tgt := 292) hx hb dL_areAlike_361 (by decide) ?_
            refine W.widen (k := 2) (n := 12) (Nat.le_of_ble_eq_true rfl) (Nat.le_of_ble_eq_true rfl) ?_
            exact ih 0 x18 w10 w16 H locs ls hP hD hS (lv_sub hl [3, 4, 1, 0] rfl) hw
          · replace hw := Eq.mp (if_pos c17) hw
            refine lv_iconst (v := 1) hx hb dL_areAlike_352 (by decide) ?_
            refine lv_goto (tgt := 357) hx hb dL_areAlike_353 (by decide) ?_
            refine lv_istore_n (lv' := [(2, .int 1), (4, .int r7), (0, .ref x), (1, .ref y), (3, .int v3)]) hx hb dL_areAlike_357 rfl hl (by decide) rfl (fun ls hl => ?_)
            obtain ⟨x19, ex19⟩ : ∃ y : Int32, y = (v3 + 1) := ⟨_, rfl⟩
            replace hw := hw x19 ex19
            refine lv_iinc (v := x19) (lv' := [(3, .int x19), (2, .int 1), (4, .int r7), (0, .ref x), (1, .ref y)]) hx hb dL_areAlike_358 hl (k := 4) rfl (by rw [ex19]; rfl) (by decide) rfl (fun ls hl => ?_)
            refine lv_goto (tgt := 292) hx hb dL_areAlike_361 (by decide) ?_
            refine W.widen (k := 2) (n := 12) (Nat.le_of_ble_eq_true rfl) (Nat.le_of_ble_eq_true rfl) ?_
            exact ih 1 x19 w10 w16 H locs ls hP hD hS (lv_sub hl [3, 4, 1, 0] rfl) hw
  have L246 : ∀ (K172 : Int32 → Int32 → SX → SX → Prop) (hK172 : ∀ (v2 : Int32) (v3 : Int32) (u : SX) (ub : SX) (H : Heap) (locs : List Loc) (ls : Array Slot), va_P D vwCl (wX kI kC kG x ag at_ as_ hh hst a0 a1 a2 a3 tx tch u ++ wX kI kC kG y bg bt_ bs_ yh yst b0 b1 b2 b3 tyy tych ub) H → va_D A (wX kI kC kG x ag at_ as_ hh hst a0 a1 a2 a3 tx tch u ++ wX kI kC kG y bg bt_ bs_ yh yst b0 b1 b2 b3 tyy tych ub) → va_S A s.heap H locs → lv_has ls 6 [(0, .ref x), (1, .ref y), (2, .int v2), (3, .int v3)] → K172 v2 v3 u ub → W p l e (headSpec wsL_areAlike ({ frames := 17, cells := 2, slots := 12, locals := 391 } : Room)).room s m ([.ref x, .ref y] : List Value).toArray below meth c H locs 2 12 (MQ below (va_Qi Z (gB D (gT kI kC kG kJ) (fun (zz : SX × SX) => wX kI kC kG x ag at_ as_ hh hst a0 a1 a2 a3 tx tch zz.1 ++ wX kI kC kG y bg bt_ bs_ yh yst b0 b1 b2 b3 tyy tych zz.2) A) A) ([.ref x, .ref y] : List Value).toArray s 2 12 A) (F0 m 172 ls [])), ∀ (n : Nat), ∀ (v3 : Int32) (u : SX) (ub : SX) (H : Heap) (locs : List Loc) (ls : Array Slot), va_P D vwCl (wX kI kC kG x ag at_ as_ hh hst a0 a1 a2 a3 tx tch u ++ wX kI kC kG y bg bt_ bs_ yh yst b0 b1 b2 b3 tyy tych ub) H → va_D A (wX kI kC kG x ag at_ as_ hh hst a0 a1 a2 a3 tx tch u ++ wX kI kC kG y bg bt_ bs_ yh yst b0 b1 b2 b3 tyy tych ub) → va_S A s.heap H locs → lv_has ls 6 [(0, .ref x), (1, .ref y), (3, .int v3)] → pL_areAlike_246 Z K172 n v3 u ub → W p l e (headSpec wsL_areAlike ({ frames := 17, cells := 2, slots := 12, locals := 391 } : Room)).room s m ([.ref x, .ref y] : List Value).toArray below meth c H locs 2 12 (MQ below (va_Qi Z (gB D (gT kI kC kG kJ) (fun (zz : SX × SX) => wX kI kC kG x ag at_ as_ hh hst a0 a1 a2 a3 tx tch zz.1 ++ wX kI kC kG y bg bt_ bs_ yh yst b0 b1 b2 b3 tyy tych zz.2) A) A) ([.ref x, .ref y] : List Value).toArray s 2 12 A) (F0 m 246 ls []) := by
    intro K172 hK172 n
    induction n with
    | zero => intro v3 u ub H locs ls hP hD hS hl hw; exact hw.elim
    | succ n ih =>
    intro v3 u ub H locs ls hP hD hS hl hw
    rw [pL_areAlike_246] at hw
    refine lv_aload_n hx hb dL_areAlike_246 rfl (lv_at hl 0 rfl) ?_
    refine lv_iload_n hx hb dL_areAlike_247 rfl (lv_at hl 2 rfl) ?_
    refine gLSi (mc := 0) (ms := 0) (S := SX) (As := [.ref x, .int v3]) (rest := []) (wc := wX kI kC kG x ag at_ as_ hh hst a0 a1 a2 a3 tx tch u) (wr := [(y, .inr (4, [.ref bg.1, .ref bt_.1, .ref bs_.1, .int ub.1, .ref yh, .ref tyy]))] ++ wG kI bg ub.2.1 ++ wG kI bt_ ub.2.2.1 ++ wG kI bs_ ub.2.2.2.1 ++ [(yh, .inr (2, [.ref yst, .int ub.2.2.2.2.1.1, .int ub.2.2.2.2.1.2.1])), (yst, .inl (kG, 4, .inr (.inr (.inr (.inr (fH b0 b1 b2 b3))))))] ++ wG kI b0 ub.2.2.2.2.1.2.2.1 ++ wG kI b1 ub.2.2.2.2.1.2.2.2.1 ++ wG kI b2 ub.2.2.2.2.1.2.2.2.2.1 ++ wG kI b3 ub.2.2.2.2.1.2.2.2.2.2 ++ wT kC tyy tych ub.2.2.2.2.2) (cs1 := (fun zz : SX => wX kI kC kG x ag at_ as_ hh hst a0 a1 a2 a3 tx tch zz)) (ws2 := (fun zz : SX => wX kI kC kG x ag at_ as_ hh hst a0 a1 a2 a3 tx tch zz ++ wX kI kC kG y bg bt_ bs_ yh yst b0 b1 b2 b3 tyy tych ub)) ⟨hx, hb, hml, hown, hts⟩ (fun sz => kL_winningCell l D kI kC kG kJ hlt x ag at_ as_ hh hst a0 a1 a2 a3 tx tch sz u v3 _ hw) (vx_cwSW 2 hts gL_areAlike_L_winningCell rfl rfl rfl hdL_winningCell ⟨Nat.le_of_ble_eq_true rfl, Nat.le_of_ble_eq_true rfl⟩) hK hP hD hE hS hA [0, 1, 2, 3, 4, 5, 6, 7, 8, 9, 10, 11, 12, 13, 14, 15, 16, 17, 18, 19, 20, 21, 22, 23, 24, 25, 26, 27, 28, 29, 30, 31, 32] [33, 34, 35, 36, 37, 38, 39, 40, 41, 42, 43, 44, 45, 46, 47, 48, 49, 50, 51, 52, 53, 54, 55, 56, 57, 58, 59, 60, 61, 62, 63, 64, 65] rfl rfl rfl rfl (by decide) [33, 34, 35, 36, 37, 38, 39, 40, 41, 42, 43, 44, 45, 46, 47, 48, 49, 50, 51, 52, 53, 54, 55, 56, 57, 58, 59, 60, 61, 62, 63, 64, 65, 0, 1, 2, 3, 4, 5, 6, 7, 8, 9, 10, 11, 12, 13, 14, 15, 16, 17, 18, 19, 20, 21, 22, 23, 24, 25, 26, 27, 28, 29, 30, 31, 32] rfl (fun _ => rfl) rfl hl.1 rfl (Nat.le_of_ble_eq_true rfl) dL_areAlike_248 ⟨Nat.le_of_ble_eq_true rfl, Nat.le_of_ble_eq_true rfl⟩ (fun r34 w34 H locs hw hP hD hS => ?_)
    have hP : va_P D vwCl (wX kI kC kG x ag at_ as_ hh hst a0 a1 a2 a3 tx tch w34 ++ wX kI kC kG y bg bt_ bs_ yh yst b0 b1 b2 b3 tyy tych ub) H := hP
    have hD : va_D A (wX kI kC kG x ag at_ as_ hh hst a0 a1 a2 a3 tx tch w34 ++ wX kI kC kG y bg bt_ bs_ yh yst b0 b1 b2 b3 tyy tych ub) := hD
    refine lv_if_ge (tgt := 258) hx hb dL_areAlike_251 (by decide) (fun c35 => ?_) (fun c35 => ?_)
    · replace hw := Eq.mp (if_pos c35) hw
      refine lv_iconst (v := 0) hx hb dL_areAlike_258 (by decide) ?_
      refine lv_aload_n hx hb dL_areAlike_259 rfl (lv_at hl 1 rfl) ?_
      refine lv_bipush (v := 15) hx hb dL_areAlike_260 (by decide) ?_
      refine lv_iload_n hx hb dL_areAlike_262 rfl (lv_at hl 2 rfl) ?_
      refine lv_isub hx hb dL_areAlike_263 ?_
      refine gLSi (mc := 0) (ms := 0) (S := SX) (As := [.ref y, .int (15 - v3)]) (rest := [.int 0]) (wc := wX kI kC kG y bg bt_ bs_ yh yst b0 b1 b2 b3 tyy tych ub) (wr := [(x, .inr (4, [.ref ag.1, .ref at_.1, .ref as_.1, .int w34.1, .ref hh, .ref tx]))] ++ wG kI ag w34.2.1 ++ wG kI at_ w34.2.2.1 ++ wG kI as_ w34.2.2.2.1 ++ [(hh, .inr (2, [.ref hst, .int w34.2.2.2.2.1.1, .int w34.2.2.2.2.1.2.1])), (hst, .inl (kG, 4, .inr (.inr (.inr (.inr (fH a0 a1 a2 a3))))))] ++ wG kI a0 w34.2.2.2.2.1.2.2.1 ++ wG kI a1 w34.2.2.2.2.1.2.2.2.1 ++ wG kI a2 w34.2.2.2.2.1.2.2.2.2.1 ++ wG kI a3 w34.2.2.2.2.1.2.2.2.2.2 ++ wT kC tx tch w34.2.2.2.2.2) (cs1 := (fun zz : SX => wX kI kC kG y bg bt_ bs_ yh yst b0 b1 b2 b3 tyy tych zz)) (ws2 := (fun zz : SX => wX kI kC kG x ag at_ as_ hh hst a0 a1 a2 a3 tx tch w34 ++ wX kI kC kG y bg bt_ bs_ yh yst b0 b1 b2 b3 tyy tych zz)) ⟨hx, hb, hml, hown, hts⟩ (fun sz => kL_winningCell l D kI kC kG kJ hlt y bg bt_ bs_ yh yst b0 b1 b2 b3 tyy tych sz ub (15 - v3) _ hw) (vx_cwSW 2 hts gL_areAlike_L_winningCell rfl rfl rfl hdL_winningCell ⟨Nat.le_of_ble_eq_true rfl, Nat.le_of_ble_eq_true rfl⟩) hK hP hD hE hS hA [33, 34, 35, 36, 37, 38, 39, 40, 41, 42, 43, 44, 45, 46, 47, 48, 49, 50, 51, 52, 53, 54, 55, 56, 57, 58, 59, 60, 61, 62, 63, 64, 65] [0, 1, 2, 3, 4, 5, 6, 7, 8, 9, 10, 11, 12, 13, 14, 15, 16, 17, 18, 19, 20, 21, 22, 23, 24, 25, 26, 27, 28, 29, 30, 31, 32] rfl rfl rfl rfl (by decide) [0, 1, 2, 3, 4, 5, 6, 7, 8, 9, 10, 11, 12, 13, 14, 15, 16, 17, 18, 19, 20, 21, 22, 23, 24, 25, 26, 27, 28, 29, 30, 31, 32, 33, 34, 35, 36, 37, 38, 39, 40, 41, 42, 43, 44, 45, 46, 47, 48, 49, 50, 51, 52, 53, 54, 55, 56, 57, 58, 59, 60, 61, 62, 63, 64, 65] rfl (fun _ => rfl) rfl hl.1 rfl (Nat.le_of_ble_eq_true rfl) dL_areAlike_264 ⟨Nat.le_of_ble_eq_true rfl, Nat.le_of_ble_eq_true rfl⟩ (fun r36 w36 H locs hw hP hD hS => ?_)
      have hP : va_P D vwCl (wX kI kC kG x ag at_ as_ hh hst a0 a1 a2 a3 tx tch w34 ++ wX kI kC kG y bg bt_ bs_ yh yst b0 b1 b2 b3 tyy tych w36) H := hP
      have hD : va_D A (wX kI kC kG x ag at_ as_ hh hst a0 a1 a2 a3 tx tch w34 ++ wX kI kC kG y bg bt_ bs_ yh yst b0 b1 b2 b3 tyy tych w36) := hD
      refine lv_if_ge (tgt := 274) hx hb dL_areAlike_267 (by decide) (fun c37 => ?_) (fun c37 => ?_)
      · replace hw := Eq.mp (if_pos c37) hw
        refine lv_iconst (v := 0) hx hb dL_areAlike_274 (by decide) ?_
        refine lv_icmp_ne (tgt := 282) hx hb dL_areAlike_275 (by decide) (fun c38 => ?_) (fun c38 => ?_)
        · exact absurd c38 (by decide)
        refine lv_iconst (v := 1) hx hb dL_areAlike_278 (by decide) ?_
        refine lv_goto (tgt := 283) hx hb dL_areAlike_279 (by decide) ?_
        refine lv_istore_n (lv' := [(2, .int 1), (0, .ref x), (1, .ref y), (3, .int v3)]) hx hb dL_areAlike_283 rfl hl (by decide) rfl (fun ls hl => ?_)
        obtain ⟨x39, ex39⟩ : ∃ y : Int32, y = (v3 + 1) := ⟨_, rfl⟩
        replace hw := hw x39 ex39
        refine lv_iinc (v := x39) (lv' := [(3, .int x39), (2, .int 1), (0, .ref x), (1, .ref y)]) hx hb dL_areAlike_284 hl (k := 3) rfl (by rw [ex39]; rfl) (by decide) rfl (fun ls hl => ?_)
        refine lv_goto (tgt := 172) hx hb dL_areAlike_287 (by decide) ?_
        refine W.widen (k := 2) (n := 12) (Nat.le_of_ble_eq_true rfl) (Nat.le_of_ble_eq_true rfl) ?_
        exact hK172 1 x39 w34 w36 H locs ls hP hD hS (lv_sub hl [2, 3, 1, 0] rfl) hw
      · replace hw := Eq.mp (if_neg c37) hw
        refine lv_iconst (v := 1) hx hb dL_areAlike_270 (by decide) ?_
        refine lv_goto (tgt := 275) hx hb dL_areAlike_271 (by decide) ?_
        refine lv_icmp_ne (tgt := 282) hx hb dL_areAlike_275 (by decide) (fun c40 => ?_) (fun c40 => ?_)
        · skip
          refine lv_iconst (v := 0) hx hb dL_areAlike_282 (by decide) ?_
          refine lv_istore_n (lv' := [(2, .int 0), (0, .ref x), (1, .ref y), (3, .int v3)]) hx hb dL_areAlike_283 rfl hl (by decide) rfl (fun ls hl => ?_)
          obtain ⟨x41, ex41⟩ : ∃ y : Int32, y = (v3 + 1) := ⟨_, rfl⟩
          replace hw := hw x41 ex41
          refine lv_iinc (v := x41) (lv' := [(3, .int x41), (2, .int 0), (0, .ref x), (1, .ref y)]) hx hb dL_areAlike_284 hl (k := 3) rfl (by rw [ex41]; rfl) (by decide) rfl (fun ls hl => ?_)
          refine lv_goto (tgt := 172) hx hb dL_areAlike_287 (by decide) ?_
          refine W.widen (k := 2) (n := 12) (Nat.le_of_ble_eq_true rfl) (Nat.le_of_ble_eq_true rfl) ?_
          exact hK172 0 x41 w34 w36 H locs ls hP hD hS (lv_sub hl [2, 3, 1, 0] rfl) hw
        · first | exact absurd (by decide) c40 | exact absurd c40 (by decide)
    · replace hw := Eq.mp (if_neg c35) hw
      refine lv_iconst (v := 1) hx hb dL_areAlike_254 (by decide) ?_
      refine lv_goto (tgt := 259) hx hb dL_areAlike_255 (by decide) ?_
      refine lv_aload_n hx hb dL_areAlike_259 rfl (lv_at hl 1 rfl) ?_
      refine lv_bipush (v := 15) hx hb dL_areAlike_260 (by decide) ?_
      refine lv_iload_n hx hb dL_areAlike_262 rfl (lv_at hl 2 rfl) ?_
      refine lv_isub hx hb dL_areAlike_263 ?_
      refine gLSi (mc := 0) (ms := 0) (S := SX) (As := [.ref y, .int (15 - v3)]) (rest := [.int 1]) (wc := wX kI kC kG y bg bt_ bs_ yh yst b0 b1 b2 b3 tyy tych ub) (wr := [(x, .inr (4, [.ref ag.1, .ref at_.1, .ref as_.1, .int w34.1, .ref hh, .ref tx]))] ++ wG kI ag w34.2.1 ++ wG kI at_ w34.2.2.1 ++ wG kI as_ w34.2.2.2.1 ++ [(hh, .inr (2, [.ref hst, .int w34.2.2.2.2.1.1, .int w34.2.2.2.2.1.2.1])), (hst, .inl (kG, 4, .inr (.inr (.inr (.inr (fH a0 a1 a2 a3))))))] ++ wG kI a0 w34.2.2.2.2.1.2.2.1 ++ wG kI a1 w34.2.2.2.2.1.2.2.2.1 ++ wG kI a2 w34.2.2.2.2.1.2.2.2.2.1 ++ wG kI a3 w34.2.2.2.2.1.2.2.2.2.2 ++ wT kC tx tch w34.2.2.2.2.2) (cs1 := (fun zz : SX => wX kI kC kG y bg bt_ bs_ yh yst b0 b1 b2 b3 tyy tych zz)) (ws2 := (fun zz : SX => wX kI kC kG x ag at_ as_ hh hst a0 a1 a2 a3 tx tch w34 ++ wX kI kC kG y bg bt_ bs_ yh yst b0 b1 b2 b3 tyy tych zz)) ⟨hx, hb, hml, hown, hts⟩ (fun sz => kL_winningCell l D kI kC kG kJ hlt y bg bt_ bs_ yh yst b0 b1 b2 b3 tyy tych sz ub (15 - v3) _ hw) (vx_cwSW 2 hts gL_areAlike_L_winningCell rfl rfl rfl hdL_winningCell ⟨Nat.le_of_ble_eq_true rfl, Nat.le_of_ble_eq_true rfl⟩) hK hP hD hE hS hA [33, 34, 35, 36, 37, 38, 39, 40, 41, 42, 43, 44, 45, 46, 47, 48, 49, 50, 51, 52, 53, 54, 55, 56, 57, 58, 59, 60, 61, 62, 63, 64, 65] [0, 1, 2, 3, 4, 5, 6, 7, 8, 9, 10, 11, 12, 13, 14, 15, 16, 17, 18, 19, 20, 21, 22, 23, 24, 25, 26, 27, 28, 29, 30, 31, 32] rfl rfl rfl rfl (by decide) [0, 1, 2, 3, 4, 5, 6, 7, 8, 9, 10, 11, 12, 13, 14, 15, 16, 17, 18, 19, 20, 21, 22, 23, 24, 25, 26, 27, 28, 29, 30, 31, 32, 33, 34, 35, 36, 37, 38, 39, 40, 41, 42, 43, 44, 45, 46, 47, 48, 49, 50, 51, 52, 53, 54, 55, 56, 57, 58, 59, 60, 61, 62, 63, 64, 65] rfl (fun _ => rfl) rfl hl.1 rfl (Nat.le_of_ble_eq_true rfl) dL_areAlike_264 ⟨Nat.le_of_ble_eq_true rfl, Nat.le_of_ble_eq_true rfl⟩ (fun r42 w42 H locs hw hP hD hS => ?_)
      have hP : va_P D vwCl (wX kI kC kG x ag at_ as_ hh hst a0 a1 a2 a3 tx tch w34 ++ wX kI kC kG y bg bt_ bs_ yh yst b0 b1 b2 b3 tyy tych w42) H := hP
      have hD : va_D A (wX kI kC kG x ag at_ as_ hh hst a0 a1 a2 a3 tx tch w34 ++ wX kI kC kG y bg bt_ bs_ yh yst b0 b1 b2 b3 tyy tych w42) := hD
      refine lv_if_ge (tgt := 274) hx hb dL_areAlike_267 (by decide) (fun c43 => ?_) (fun c43 => ?_)
      · replace hw := Eq.mp (if_pos c43) hw
        refine lv_iconst (v := 0) hx hb dL_areAlike_274 (by decide) ?_
        refine lv_icmp_ne (tgt := 282) hx hb dL_areAlike_275 (by decide) (fun c44 => ?_) (fun c44 => ?_)
        · skip
          refine lv_iconst (v := 0) hx hb dL_areAlike_282 (by decide) ?_
          refine lv_istore_n (lv' := [(2, .int 0), (0, .ref x), (1, .ref y), (3, .int v3)]) hx hb dL_areAlike_283 rfl hl (by decide) rfl (fun ls hl => ?_)
          obtain ⟨x45, ex45⟩ : ∃ y : Int32, y = (v3 + 1) := ⟨_, rfl⟩
          replace hw := hw x45 ex45
          refine lv_iinc (v := x45) (lv' := [(3, .int x45), (2, .int 0), (0, .ref x), (1, .ref y)]) hx hb dL_areAlike_284 hl (k := 3) rfl (by rw [ex45]; rfl) (by decide) rfl (fun ls hl => ?_)
          refine lv_goto (tgt := 172) hx hb dL_areAlike_287 (by decide) ?_
          refine W.widen (k := 2) (n := 12) (Nat.le_of_ble_eq_true rfl) (Nat.le_of_ble_eq_true rfl) ?_
          exact hK172 0 x45 w34 w42 H locs ls hP hD hS (lv_sub hl [2, 3, 1, 0] rfl) hw
        · first | exact absurd (by decide) c44 | exact absurd c44 (by decide)
      · replace hw := Eq.mp (if_neg c43) hw
        refine lv_iconst (v := 1) hx hb dL_areAlike_270 (by decide) ?_
        refine lv_goto (tgt := 275) hx hb dL_areAlike_271 (by decide) ?_
        refine lv_icmp_ne (tgt := 282) hx hb dL_areAlike_275 (by decide) (fun c46 => ?_) (fun c46 => ?_)
        · exact absurd c46 (by decide)
        refine lv_iconst (v := 1) hx hb dL_areAlike_278 (by decide) ?_
        refine lv_goto (tgt := 283) hx hb dL_areAlike_279 (by decide) ?_
        refine lv_istore_n (lv' := [(2, .int 1), (0, .ref x), (1, .ref y), (3, .int v3)]) hx hb dL_areAlike_283 rfl hl (by decide) rfl (fun ls hl => ?_)
        obtain ⟨x47, ex47⟩ : ∃ y : Int32, y = (v3 + 1) := ⟨_, rfl⟩
        replace hw := hw x47 ex47
        refine lv_iinc (v := x47) (lv' := [(3, .int x47), (2, .int 1), (0, .ref x), (1, .ref y)]) hx hb dL_areAlike_284 hl (k := 3) rfl (by rw [ex47]; rfl) (by decide) rfl (fun ls hl => ?_)
        refine lv_goto (tgt := 172) hx hb dL_areAlike_287 (by decide) ?_
        refine W.widen (k := 2) (n := 12) (Nat.le_of_ble_eq_true rfl) (Nat.le_of_ble_eq_true rfl) ?_
        exact hK172 1 x47 w34 w42 H locs ls hP hD hS (lv_sub hl [2, 3, 1, 0] rfl) hw
  have L221 : ∀ (K172 : Int32 → Int32 → SX → SX → Prop) (hK172 : ∀ (v2 : Int32) (v3 : Int32) (u : SX) (ub : SX) (H : Heap) (locs : List Loc) (ls : Array Slot), va_P D vwCl (wX kI kC kG x ag at_ as_ hh hst a0 a1 a2 a3 tx tch u ++ wX kI kC kG y bg bt_ bs_ yh yst b0 b1 b2 b3 tyy tych ub) H → va_D A (wX kI kC kG x ag at_ as_ hh hst a0 a1 a2 a3 tx tch u ++ wX kI kC kG y bg bt_ bs_ yh yst b0 b1 b2 b3 tyy tych ub) → va_S A s.heap H locs → lv_has ls 6 [(0, .ref x), (1, .ref y), (2, .int v2), (3, .int v3)] → K172 v2 v3 u ub → W p l e (headSpec wsL_areAlike ({ frames := 17, cells := 2, slots := 12, locals := 391 } : Room)).room s m ([.ref x, .ref y] : List Value).toArray below meth c H locs 2 12 (MQ below (va_Qi Z (gB D (gT kI kC kG kJ) (fun (zz : SX × SX) => wX kI kC kG x ag at_ as_ hh hst a0 a1 a2 a3 tx tch zz.1 ++ wX kI kC kG y bg bt_ bs_ yh yst b0 b1 b2 b3 tyy tych zz.2) A) A) ([.ref x, .ref y] : List Value).toArray s 2 12 A) (F0 m 172 ls [])), ∀ (n : Nat), ∀ (v3 : Int32) (v5 : Int32) (u : SX) (ub : SX) (H : Heap) (locs : List Loc) (ls : Array Slot), va_P D vwCl (wX kI kC kG x ag at_ as_ hh hst a0 a1 a2 a3 tx tch u ++ wX kI kC kG y bg bt_ bs_ yh yst b0 b1 b2 b3 tyy tych ub) H → va_D A (wX kI kC kG x ag at_ as_ hh hst a0 a1 a2 a3 tx tch u ++ wX kI kC kG y bg bt_ bs_ yh yst b0 b1 b2 b3 tyy tych ub) → va_S A s.heap H locs → lv_has ls 6 [(0, .ref x), (1, .ref y), (3, .int v3), (5, .int v5)] → pL_areAlike_221 Z K172 n v3 v5 u ub → W p l e (headSpec wsL_areAlike ({ frames := 17, cells := 2, slots := 12, locals := 391 } : Room)).room s m ([.ref x, .ref y] : List Value).toArray below meth c H locs 2 12 (MQ below (va_Qi Z (gB D (gT kI kC kG kJ) (fun (zz : SX × SX) => wX kI kC kG x ag at_ as_ hh hst a0 a1 a2 a3 tx tch zz.1 ++ wX kI kC kG y bg bt_ bs_ yh yst b0 b1 b2 b3 tyy tych zz.2) A) A) ([.ref x, .ref y] : List Value).toArray s 2 12 A) (F0 m 221 ls []) := by
    intro K172 hK172 n
    induction n with
    | zero => intro v3 v5 u ub H locs ls hP hD hS hl hw; exact hw.elim
    | succ n ih =>
    intro v3 v5 u ub H locs ls hP hD hS hl hw
    rw [pL_areAlike_221] at hw
    refine lv_aload_n hx hb dL_areAlike_221 rfl (lv_at hl 1 rfl) ?_
    refine lv_bipush (v := 15) hx hb dL_areAlike_222 (by decide) ?_
    refine lv_iload_n hx hb dL_areAlike_224 rfl (lv_at hl 2 rfl) ?_
    refine lv_isub hx hb dL_areAlike_225 ?_
    refine gLSi (mc := 0) (ms := 0) (S := SX) (As := [.ref y, .int (15 - v3)]) (rest := []) (wc := wX kI kC kG y bg bt_ bs_ yh yst b0 b1 b2 b3 tyy tych ub) (wr := [(x, .inr (4, [.ref ag.1, .ref at_.1, .ref as_.1, .int u.1, .ref hh, .ref tx]))] ++ wG kI ag u.2.1 ++ wG kI at_ u.2.2.1 ++ wG kI as_ u.2.2.2.1 ++ [(hh, .inr (2, [.ref hst, .int u.2.2.2.2.1.1, .int u.2.2.2.2.1.2.1])), (hst, .inl (kG, 4, .inr (.inr (.inr (.inr (fH a0 a1 a2 a3))))))] ++ wG kI a0 u.2.2.2.2.1.2.2.1 ++ wG kI a1 u.2.2.2.2.1.2.2.2.1 ++ wG kI a2 u.2.2.2.2.1.2.2.2.2.1 ++ wG kI a3 u.2.2.2.2.1.2.2.2.2.2 ++ wT kC tx tch u.2.2.2.2.2) (cs1 := (fun zz : SX => wX kI kC kG y bg bt_ bs_ yh yst b0 b1 b2 b3 tyy tych zz)) (ws2 := (fun zz : SX => wX kI kC kG x ag at_ as_ hh hst a0 a1 a2 a3 tx tch u ++ wX kI kC kG y bg bt_ bs_ yh yst b0 b1 b2 b3 tyy tych zz)) ⟨hx, hb, hml, hown, hts⟩ (fun sz => kL_cellOf l D kI kC kG kJ hlt y bg bt_ bs_ yh yst b0 b1 b2 b3 tyy tych sz ub (15 - v3) _ hw) (vx_cwSW 2 hts gL_areAlike_L_cellOf rfl rfl rfl hdL_cellOf ⟨Nat.le_of_ble_eq_true rfl, Nat.le_of_ble_eq_true rfl⟩) hK hP hD hE hS hA [33, 34, 35, 36, 37, 38, 39, 40, 41, 42, 43, 44, 45, 46, 47, 48, 49, 50, 51, 52, 53, 54, 55, 56, 57, 58, 59, 60, 61, 62, 63, 64, 65] [0, 1, 2, 3, 4, 5, 6, 7, 8, 9, 10, 11, 12, 13, 14, 15, 16, 17, 18, 19, 20, 21, 22, 23, 24, 25, 26, 27, 28, 29, 30, 31, 32] rfl rfl rfl rfl (by decide) [0, 1, 2, 3, 4, 5, 6, 7, 8, 9, 10, 11, 12, 13, 14, 15, 16, 17, 18, 19, 20, 21, 22, 23, 24, 25, 26, 27, 28, 29, 30, 31, 32, 33, 34, 35, 36, 37, 38, 39, 40, 41, 42, 43, 44, 45, 46, 47, 48, 49, 50, 51, 52, 53, 54, 55, 56, 57, 58, 59, 60, 61, 62, 63, 64, 65] rfl (fun _ => rfl) rfl hl.1 rfl (Nat.le_of_ble_eq_true rfl) dL_areAlike_226 ⟨Nat.le_of_ble_eq_true rfl, Nat.le_of_ble_eq_true rfl⟩ (fun r29 w29 H locs hw hP hD hS => ?_)
    have hP : va_P D vwCl (wX kI kC kG x ag at_ as_ hh hst a0 a1 a2 a3 tx tch u ++ wX kI kC kG y bg bt_ bs_ yh yst b0 b1 b2 b3 tyy tych w29) H := hP
    have hD : va_D A (wX kI kC kG x ag at_ as_ hh hst a0 a1 a2 a3 tx tch u ++ wX kI kC kG y bg bt_ bs_ yh yst b0 b1 b2 b3 tyy tych w29) := hD
    refine lv_iload hx hb dL_areAlike_229 (lv_at hl 3 rfl) ?_
    refine lv_if_ge (tgt := 238) hx hb dL_areAlike_231 (by decide) (fun c30 => ?_) (fun c30 => ?_)
    · replace hw := Eq.mp (if_pos c30) hw
      refine lv_iload hx hb dL_areAlike_238 (lv_at hl 3 rfl) ?_
      refine gSi (As := [.int v5]) (rest := [.int r29]) (cs' := ([] : va_W)) ⟨hx, hb, hml, hown, hts⟩ (kL_turned l D kI kC kG kJ v5 _ hw) (va_cwS 1 hts gL_areAlike_L_turned rfl rfl rfl hdL_turned ⟨Nat.le_of_ble_eq_true rfl, Nat.le_of_ble_eq_true rfl⟩) hK hP hE hS [] rfl rfl hl.1 rfl (Nat.le_of_ble_eq_true rfl) dL_areAlike_240 ⟨Nat.le_of_ble_eq_true rfl, Nat.le_of_ble_eq_true rfl⟩ (fun r31 hw => ?_)
      refine lv_icmp_ne (tgt := 282) hx hb dL_areAlike_243 (by decide) (fun c32 => ?_) (fun c32 => ?_)
      · replace hw := Eq.mp (if_neg c32) hw
        refine lv_iconst (v := 0) hx hb dL_areAlike_282 (by decide) ?_
        refine lv_istore_n (lv' := [(2, .int 0), (0, .ref x), (1, .ref y), (3, .int v3), (5, .int v5)]) hx hb dL_areAlike_283 rfl hl (by decide) rfl (fun ls hl => ?_)
        obtain ⟨x33, ex33⟩ : ∃ y : Int32, y = (v3 + 1) := ⟨_, rfl⟩
        replace hw := hw x33 ex33
        refine lv_iinc (v := x33) (lv' := [(3, .int x33), (2, .int 0), (0, .ref x), (1, .ref y), (5, .int v5)]) hx hb dL_areAlike_284 hl (k := 3) rfl (by rw [ex33]; rfl) (by decide) rfl (fun ls hl => ?_)
        refine lv_goto (tgt := 172) hx hb dL_areAlike_287 (by decide) ?_
        refine W.widen (k := 2) (n := 12) (Nat.le_of_ble_eq_true rfl) (Nat.le_of_ble_eq_true rfl) ?_
        exact hK172 0 x33 u w29 H locs ls hP hD hS (lv_sub hl [2, 3, 1, 0] rfl) hw
      · replace hw := Eq.mp (if_pos c32) hw
        refine W.widen (k := 2) (n := 12) (Nat.le_of_ble_eq_true rfl) (Nat.le_of_ble_eq_true rfl) ?_
        obtain ⟨n9, hw⟩ := hw
        exact L246 K172 hK172 n9 v3 u w29 H locs ls hP hD hS (lv_sub hl [0, 1, 2] rfl) hw
    · replace hw := Eq.mp (if_neg c30) hw
      refine lv_iconst (v := (-1)) hx hb dL_areAlike_234 (by decide) ?_
      refine lv_goto (tgt := 243) hx hb dL_areAlike_235 (by decide) ?_
      refine lv_icmp_ne (tgt := 282) hx hb dL_areAlike_243 (by decide) (fun c48 => ?_) (fun c48 => ?_)
      · replace hw := Eq.mp (if_neg c48) hw
        refine lv_iconst (v := 0) hx hb dL_areAlike_282 (by decide) ?_
        refine lv_istore_n (lv' := [(2, .int 0), (0, .ref x), (1, .ref y), (3, .int v3), (5, .int v5)]) hx hb dL_areAlike_283 rfl hl (by decide) rfl (fun ls hl => ?_)
        obtain ⟨x49, ex49⟩ : ∃ y : Int32, y = (v3 + 1) := ⟨_, rfl⟩
        replace hw := hw x49 ex49
        refine lv_iinc (v := x49) (lv' := [(3, .int x49), (2, .int 0), (0, .ref x), (1, .ref y), (5, .int v5)]) hx hb dL_areAlike_284 hl (k := 3) rfl (by rw [ex49]; rfl) (by decide) rfl (fun ls hl => ?_)
        refine lv_goto (tgt := 172) hx hb dL_areAlike_287 (by decide) ?_
        refine W.widen (k := 2) (n := 12) (Nat.le_of_ble_eq_true rfl) (Nat.le_of_ble_eq_true rfl) ?_
        exact hK172 0 x49 u w29 H locs ls hP hD hS (lv_sub hl [2, 3, 1, 0] rfl) hw
      · replace hw := Eq.mp (if_pos c48) hw
        refine W.widen (k := 2) (n := 12) (Nat.le_of_ble_eq_true rfl) (Nat.le_of_ble_eq_true rfl) ?_
        obtain ⟨n9, hw⟩ := hw
        exact L246 K172 hK172 n9 v3 u w29 H locs ls hP hD hS (lv_sub hl [0, 1, 2] rfl) hw
  have L172 : ∀ (_ : Unit), ∀ (n : Nat), ∀ (v2 : Int32) (v3 : Int32) (u : SX) (ub : SX) (H : Heap) (locs : List Loc) (ls : Array Slot), va_P D vwCl (wX kI kC kG x ag at_ as_ hh hst a0 a1 a2 a3 tx tch u ++ wX kI kC kG y bg bt_ bs_ yh yst b0 b1 b2 b3 tyy tych ub) H → va_D A (wX kI kC kG x ag at_ as_ hh hst a0 a1 a2 a3 tx tch u ++ wX kI kC kG y bg bt_ bs_ yh yst b0 b1 b2 b3 tyy tych ub) → va_S A s.heap H locs → lv_has ls 6 [(0, .ref x), (1, .ref y), (2, .int v2), (3, .int v3)] → pL_areAlike_172 Z n v2 v3 u ub → W p l e (headSpec wsL_areAlike ({ frames := 17, cells := 2, slots := 12, locals := 391 } : Room)).room s m ([.ref x, .ref y] : List Value).toArray below meth c H locs 2 12 (MQ below (va_Qi Z (gB D (gT kI kC kG kJ) (fun (zz : SX × SX) => wX kI kC kG x ag at_ as_ hh hst a0 a1 a2 a3 tx tch zz.1 ++ wX kI kC kG y bg bt_ bs_ yh yst b0 b1 b2 b3 tyy tych zz.2) A) A) ([.ref x, .ref y] : List Value).toArray s 2 12 A) (F0 m 172 ls []) := by
    intro _ n
    induction n with
    | zero => intro v2 v3 u ub H locs ls hP hD hS hl hw; exact hw.elim
    | succ n ih =>
    intro v2 v3 u ub H locs ls hP hD hS hl hw
    rw [pL_areAlike_172] at hw
    refine lv_iload_n hx hb dL_areAlike_172 rfl (lv_at hl 3 rfl) ?_
    refine lv_bipush (v := 16) hx hb dL_areAlike_173 (by decide) ?_
    refine lv_icmp_ge (tgt := 290) hx hb dL_areAlike_175 (by decide) (fun c4 => ?_) (fun c4 => ?_)
    · replace hw := Eq.mp (if_pos c4) hw
      refine lv_iconst (v := 0) hx hb dL_areAlike_290 (by decide) ?_
      refine lv_istore_n (lv' := [(3, .int 0), (0, .ref x), (1, .ref y), (2, .int v2)]) hx hb dL_areAlike_291 rfl hl (by decide) rfl (fun ls hl => ?_)
      refine W.widen (k := 2) (n := 12) (Nat.le_of_ble_eq_true rfl) (Nat.le_of_ble_eq_true rfl) ?_
      obtain ⟨n9, hw⟩ := hw
      exact L292 () n9 v2 0 u ub H locs ls hP hD hS (lv_sub hl [1, 2, 3, 0] rfl) hw
    · replace hw := Eq.mp (if_neg c4) hw
      refine lv_aload_n hx hb dL_areAlike_178 rfl (lv_at hl 0 rfl) ?_
      refine lv_iload_n hx hb dL_areAlike_179 rfl (lv_at hl 3 rfl) ?_
      refine gLSi (mc := 0) (ms := 0) (S := SX) (As := [.ref x, .int v3]) (rest := []) (wc := wX kI kC kG x ag at_ as_ hh hst a0 a1 a2 a3 tx tch u) (wr := [(y, .inr (4, [.ref bg.1, .ref bt_.1, .ref bs_.1, .int ub.1, .ref yh, .ref tyy]))] ++ wG kI bg ub.2.1 ++ wG kI bt_ ub.2.2.1 ++ wG kI bs_ ub.2.2.2.1 ++ [(yh, .inr (2, [.ref yst, .int ub.2.2.2.2.1.1, .int ub.2.2.2.2.1.2.1])), (yst, .inl (kG, 4, .inr (.inr (.inr (.inr (fH b0 b1 b2 b3))))))] ++ wG kI b0 ub.2.2.2.2.1.2.2.1 ++ wG kI b1 ub.2.2.2.2.1.2.2.2.1 ++ wG kI b2 ub.2.2.2.2.1.2.2.2.2.1 ++ wG kI b3 ub.2.2.2.2.1.2.2.2.2.2 ++ wT kC tyy tych ub.2.2.2.2.2) (cs1 := (fun zz : SX => wX kI kC kG x ag at_ as_ hh hst a0 a1 a2 a3 tx tch zz)) (ws2 := (fun zz : SX => wX kI kC kG x ag at_ as_ hh hst a0 a1 a2 a3 tx tch zz ++ wX kI kC kG y bg bt_ bs_ yh yst b0 b1 b2 b3 tyy tych ub)) ⟨hx, hb, hml, hown, hts⟩ (fun sz => kL_pieceOn l D kI kC kG kJ hlt x ag at_ as_ hh hst a0 a1 a2 a3 tx tch sz u v3 _ hw) (vx_cwSW 2 hts gL_areAlike_L_pieceOn rfl rfl rfl hdL_pieceOn ⟨Nat.le_of_ble_eq_true rfl, Nat.le_of_ble_eq_true rfl⟩) hK hP hD hE hS hA [0, 1, 2, 3, 4, 5, 6, 7, 8, 9, 10, 11, 12, 13, 14, 15, 16, 17, 18, 19, 20, 21, 22, 23, 24, 25, 26, 27, 28, 29, 30, 31, 32] [33, 34, 35, 36, 37, 38, 39, 40, 41, 42, 43, 44, 45, 46, 47, 48, 49, 50, 51, 52, 53, 54, 55, 56, 57, 58, 59, 60, 61, 62, 63, 64, 65] rfl rfl rfl rfl (by decide) [33, 34, 35, 36, 37, 38, 39, 40, 41, 42, 43, 44, 45, 46, 47, 48, 49, 50, 51, 52, 53, 54, 55, 56, 57, 58, 59, 60, 61, 62, 63, 64, 65, 0, 1, 2, 3, 4, 5, 6, 7, 8, 9, 10, 11, 12, 13, 14, 15, 16, 17, 18, 19, 20, 21, 22, 23, 24, 25, 26, 27, 28, 29, 30, 31, 32] rfl (fun _ => rfl) rfl hl.1 rfl (Nat.le_of_ble_eq_true rfl) dL_areAlike_180 ⟨Nat.le_of_ble_eq_true rfl, Nat.le_of_ble_eq_true rfl⟩ (fun r20 w20 H locs hw hP hD hS => ?_)
      have hP : va_P D vwCl (wX kI kC kG x ag at_ as_ hh hst a0 a1 a2 a3 tx tch w20 ++ wX kI kC kG y bg bt_ bs_ yh yst b0 b1 b2 b3 tyy tych ub) H := hP
      have hD : va_D A (wX kI kC kG x ag at_ as_ hh hst a0 a1 a2 a3 tx tch w20 ++ wX kI kC kG y bg bt_ bs_ yh yst b0 b1 b2 b3 tyy tych ub) := hD
      refine lv_istore (lv' := [(4, .int r20), (0, .ref x), (1, .ref y), (2, .int v2), (3, .int v3)]) hx hb dL_areAlike_183 hl (by decide) rfl (fun ls hl => ?_)
      refine lv_aload_n hx hb dL_areAlike_185 rfl (lv_at hl 1 rfl) ?_
      refine lv_iload_n hx hb dL_areAlike_186 rfl (lv_at hl 4 rfl) ?_
      refine gLSi (mc := 0) (ms := 0) (S := SX) (As := [.ref x, .int v3]) (rest := []) (wc := wX kI kC kG x ag at_ as_ hh hst a0 a1 a2 a3 tx tch w20) (wr := [(y, .inr (4, [.ref bg.1, .ref bt_.1, .ref bs_.1, .int ub.1, .ref yh, .ref tyy]))] ++ wG kI bg ub.2.1 ++ wG kI bt_ ub.2.2.1 ++ wG kI bs_ ub.2.2.2.1 ++ [(yh, .inr (2, [.ref yst, .int ub.2.2.2.2.1.1, .int ub.2.2.2.2.1.2.1])), (yst, .inl (kG, 4, .inr (.inr (.inr (.inr (fH b0 b1 b2 b3))))))] ++ wG kI b0 ub.2.2.2.2.1.2.2.1 ++ wG kI b1 ub.2.2.2.2.1.2.2.2.1 ++ wG kI b2 ub.2.2.2.2.1.2.2.2.2.1 ++ wG kI b3 ub.2.2.2.2.1.2.2.2.2.2 ++ wT kC tyy tych ub.2.2.2.2.2) (cs1 := (fun zz : SX => wX kI kC kG x ag at_ as_ hh hst a0 a1 a2 a3 tx tch zz)) (ws2 := (fun zz : SX => wX kI kC kG x ag at_ as_ hh hst a0 a1 a2 a3 tx tch zz ++ wX kI kC kG y bg bt_ bs_ yh yst b0 b1 b2 b3 tyy tych ub)) ⟨hx, hb, hml, hown, hts⟩ (fun sz => kL_cellOf l D kI kC kG kJ hlt x ag at_ as_ hh hst a0 a1 a2 a3 tx tch sz w20 v3 _ hw) (vx_cwSW 2 hts gL_areAlike_L_cellOf rfl rfl rfl hdL_cellOf ⟨Nat.le_of_ble_eq_true rfl, Nat.le_of_ble_eq_true rfl⟩) hK hP hD hE hS hA [0, 1, 2, 3, 4, 5, 6, 7, 8, 9, 10, 11, 12, 13, 14, 15, 16, 17, 18, 19, 20, 21, 22, 23, 24, 25, 26, 27, 28, 29, 30, 31, 32] [33, 34, 35, 36, 37, 38, 39, 40, 41, 42, 43, 44, 45, 46, 47, 48, 49, 50, 51, 52, 53, 54, 55, 56, 57, 58, 59, 60, 61, 62, 63, 64, 65] rfl rfl rfl rfl (by decide) [33, 34, 35, 36, 37, 38, 39, 40, 41, 42, 43, 44, 45, 46, 47, 48, 49, 50, 51, 52, 53, 54, 55, 56, 57, 58, 59, 60, 61, 62, 63, 64, 65, 0, 1, 2, 3, 4, 5, 6, 7, 8, 9, 10, 11, 12, 13, 14, 15, 16, 17, 18, 19, 20, 21, 22, 23, 24, 25, 26, 27, 28, 29, 30, 31, 32] rfl (fun _ => rfl) rfl hl.1 rfl (Nat.le_of_ble_eq_true rfl) dL_areAlike_187 ⟨Nat.le_of_ble_eq_true rfl, Nat.le_of_ble_eq_true rfl⟩ (fun r21 w21 H locs hw hP hD hS => ?_)
      have hP : va_P D vwCl (wX kI kC kG x ag at_ as_ hh hst a0 a1 a2 a3 tx tch w21 ++ wX kI kC kG y bg bt_ bs_ yh yst b0 b1 b2 b3 tyy tych ub) H := hP
      have hD : va_D A (wX kI kC kG x ag at_ as_ hh hst a0 a1 a2 a3 tx tch w21 ++ wX kI kC kG y bg bt_ bs_ yh yst b0 b1 b2 b3 tyy tych ub) := hD
      refine lv_istore (lv' := [(5, .int r21), (4, .int r20), (0, .ref x), (1, .ref y), (2, .int v2), (3, .int v3)]) hx hb dL_areAlike_190 hl (by decide) rfl (fun ls hl => ?_)
      refine lv_iload_n hx hb dL_areAlike_192 rfl (lv_at hl 4 rfl) ?_
      refine lv_if_eq (tgt := 282) hx hb dL_areAlike_193 (by decide) (fun c22 => ?_) (fun c22 => ?_)
      · replace hw := Eq.mp (if_pos c22) hw
        refine lv_iconst (v := 0) hx hb dL_areAlike_282 (by decide) ?_
        refine lv_istore_n (lv' := [(2, .int 0), (5, .int r21), (4, .int r20), (0, .ref x), (1, .ref y), (3, .int v3)]) hx hb dL_areAlike_283 rfl hl (by decide) rfl (fun ls hl => ?_)
        obtain ⟨x23, ex23⟩ : ∃ y : Int32, y = (v3 + 1) := ⟨_, rfl⟩
        replace hw := hw x23 ex23
        refine lv_iinc (v := x23) (lv' := [(3, .int x23), (2, .int 0), (5, .int r21), (4, .int r20), (0, .ref x), (1, .ref y)]) hx hb dL_areAlike_284 hl (k := 5) rfl (by rw [ex23]; rfl) (by decide) rfl (fun ls hl => ?_)
        refine lv_goto (tgt := 172) hx hb dL_areAlike_287 (by decide) ?_
        refine W.widen (k := 2) (n := 12) (Nat.le_of_ble_eq_true rfl) (Nat.le_of_ble_eq_true rfl) ?_
        exact ih 0 x23 w21 ub H locs ls hP hD hS (lv_sub hl [4, 5, 1, 0] rfl) hw
      · replace hw := Eq.mp (if_neg c22) hw
        refine lv_aload_n hx hb dL_areAlike_196 rfl (lv_at hl 3 rfl) ?_
        refine lv_iload_n hx hb dL_areAlike_197 rfl (lv_at hl 5 rfl) ?_
        refine gSi (As := [.int v3]) (rest := [.ref y]) (cs' := ([] : va_W)) ⟨hx, hb, hml, hown, hts⟩ (kL_turned l D kI kC kG kJ v3 _ hw) (va_cwS 1 hts gL_areAlike_L_turned rfl rfl rfl hdL_turned ⟨Nat.le_of_ble_eq_true rfl, Nat.le_of_ble_eq_true rfl⟩) hK hP hE hS [] rfl rfl hl.1 rfl (Nat.le_of_ble_eq_true rfl) dL_areAlike_198 ⟨Nat.le_of_ble_eq_true rfl, Nat.le_of_ble_eq_true rfl⟩ (fun r24 hw => ?_)
        refine gLSi (mc := 0) (ms := 0) (S := SX) (As := [.ref y, .int r24]) (rest := []) (wc := wX kI kC kG y bg bt_ bs_ yh yst b0 b1 b2 b3 tyy tych ub) (wr := [(x, .inr (4, [.ref ag.1, .ref at_.1, .ref as_.1, .int w21.1, .ref hh, .ref tx]))] ++ wG kI ag w21.2.1 ++ wG kI at_ w21.2.2.1 ++ wG kI as_ w21.2.2.2.1 ++ [(hh, .inr (2, [.ref hst, .int w21.2.2.2.2.1.1, .int w21.2.2.2.2.1.2.1])), (hst, .inl (kG, 4, .inr (.inr (.inr (.inr (fH a0 a1 a2 a3))))))] ++ wG kI a0 w21.2.2.2.2.1.2.2.1 ++ wG kI a1 w21.2.2.2.2.1.2.2.2.1 ++ wG kI a2 w21.2.2.2.2.1.2.2.2.2.1 ++ wG kI a3 w21.2.2.2.2.1.2.2.2.2.2 ++ wT kC tx tch w21.2.2.2.2.2) (cs1 := (fun zz : SX => wX kI kC kG y bg bt_ bs_ yh yst b0 b1 b2 b3 tyy tych zz)) (ws2 := (fun zz : SX => wX kI kC kG x ag at_ as_ hh hst a0 a1 a2 a3 tx tch w21 ++ wX kI kC kG y bg bt_ bs_ yh yst b0 b1 b2 b3 tyy tych zz)) ⟨hx, hb, hml, hown, hts⟩ (fun sz => kL_pieceOn l D kI kC kG kJ hlt y bg bt_ bs_ yh yst b0 b1 b2 b3 tyy tych sz ub r24 _ hw) (vx_cwSW 2 hts gL_areAlike_L_pieceOn rfl rfl rfl hdL_pieceOn ⟨Nat.le_of_ble_eq_true rfl, Nat.le_of_ble_eq_true rfl⟩) hK hP hD hE hS hA [33, 34, 35, 36, 37, 38, 39, 40, 41, 42, 43, 44, 45, 46, 47, 48, 49, 50, 51, 52, 53, 54, 55, 56, 57, 58, 59, 60, 61, 62, 63, 64, 65] [0, 1, 2, 3, 4, 5, 6, 7, 8, 9, 10, 11, 12, 13, 14, 15, 16, 17, 18, 19, 20, 21, 22, 23, 24, 25, 26, 27, 28, 29, 30, 31, 32] rfl rfl rfl rfl (by decide) [0, 1, 2, 3, 4, 5, 6, 7, 8, 9, 10, 11, 12, 13, 14, 15, 16, 17, 18, 19, 20, 21, 22, 23, 24, 25, 26, 27, 28, 29, 30, 31, 32, 33, 34, 35, 36, 37, 38, 39, 40, 41, 42, 43, 44, 45, 46, 47, 48, 49, 50, 51, 52, 53, 54, 55, 56, 57, 58, 59, 60, 61, 62, 63, 64, 65] rfl (fun _ => rfl) rfl hl.1 rfl (Nat.le_of_ble_eq_true rfl) dL_areAlike_201 ⟨Nat.le_of_ble_eq_true rfl, Nat.le_of_ble_eq_true rfl⟩ (fun r25 w25 H locs hw hP hD hS => ?_)
        have hP : va_P D vwCl (wX kI kC kG x ag at_ as_ hh hst a0 a1 a2 a3 tx tch w21 ++ wX kI kC kG y bg bt_ bs_ yh yst b0 b1 b2 b3 tyy tych w25) H := hP
        have hD : va_D A (wX kI kC kG x ag at_ as_ hh hst a0 a1 a2 a3 tx tch w21 ++ wX kI kC kG y bg bt_ bs_ yh yst b0 b1 b2 b3 tyy tych w25) := hD
        refine lv_iload hx hb dL_areAlike_204 (lv_at hl 1 rfl) ?_
        refine lv_if_ge (tgt := 213) hx hb dL_areAlike_206 (by decide) (fun c26 => ?_) (fun c26 => ?_)
        · replace hw := Eq.mp (if_pos c26) hw
          refine lv_bipush (v := 15) hx hb dL_areAlike_213 (by decide) ?_
          refine lv_iload hx hb dL_areAlike_215 (lv_at hl 1 rfl) ?_
          refine lv_isub hx hb dL_areAlike_217 ?_
          refine lv_icmp_ne (tgt := 282) hx hb dL_areAlike_218 (by decide) (fun c27 => ?_) (fun c27 => ?_)
          · replace hw := Eq.mp (if_neg c27) hw
            refine lv_iconst (v := 0) hx hb dL_areAlike_282 (by decide) ?_
            refine lv_istore_n (lv' := [(2, .int 0), (5, .int r21), (4, .int r20), (0, .ref x), (1, .ref y), (3, .int v3)]) hx hb dL_areAlike_283 rfl hl (by decide) rfl (fun ls hl => ?_)
            obtain ⟨x28, ex28⟩ : ∃ y : Int32, y = (v3 + 1) := ⟨_, rfl⟩
            replace hw := hw x28 ex28
            refine lv_iinc (v := x28) (lv' := [(3, .int x28), (2, .int 0), (5, .int r21), (4, .int r20), (0, .ref x), (1, .ref y)]) hx hb dL_areAlike_284 hl (k := 5) rfl (by rw [ex28]; rfl) (by decide) rfl (fun ls hl => ?_)
            refine lv_goto (tgt := 172) hx hb dL_areAlike_287 (by decide) ?_
            refine W.widen (k := 2) (n := 12) (Nat.le_of_ble_eq_true rfl) (Nat.le_of_ble_eq_true rfl) ?_
            exact ih 0 x28 w21 w25 H locs ls hP hD hS (lv_sub hl [4, 5, 1, 0] rfl) hw
          · replace hw := Eq.mp (if_pos c27) hw
            refine W.widen (k := 2) (n := 12) (Nat.le_of_ble_eq_true rfl) (Nat.le_of_ble_eq_true rfl) ?_
            obtain ⟨n9, hw⟩ := hw
            exact L221 (pL_areAlike_172 Z n) ih n9 v3 r21 w21 w25 H locs ls hP hD hS (lv_sub hl [2, 3, 5, 0] rfl) hw
        · replace hw := Eq.mp (if_neg c26) hw
          refine lv_iconst (v := (-1)) hx hb dL_areAlike_209 (by decide) ?_
          refine lv_goto (tgt := 218) hx hb dL_areAlike_210 (by decide) ?_
          refine lv_icmp_ne (tgt := 282) hx hb dL_areAlike_218 (by decide) (fun c50 => ?_) (fun c50 => ?_)
          · replace hw := Eq.mp (if_neg c50) hw
            refine lv_iconst (v := 0) hx hb dL_areAlike_282 (by decide) ?_
            refine lv_istore_n (lv' := [(2, .int 0), (5, .int r21), (4, .int r20), (0, .ref x), (1, .ref y), (3, .int v3)]) hx hb dL_areAlike_283 rfl hl (by decide) rfl (fun ls hl => ?_)
            obtain ⟨x51, ex51⟩ : ∃ y : Int32, y = (v3 + 1) := ⟨_, rfl⟩
            replace hw := hw x51 ex51
            refine lv_iinc (v := x51) (lv' := [(3, .int x51), (2, .int 0), (5, .int r21), (4, .int r20), (0, .ref x), (1, .ref y)]) hx hb dL_areAlike_284 hl (k := 5) rfl (by rw [ex51]; rfl) (by decide) rfl (fun ls hl => ?_)
            refine lv_goto (tgt := 172) hx hb dL_areAlike_287 (by decide) ?_
            refine W.widen (k := 2) (n := 12) (Nat.le_of_ble_eq_true rfl) (Nat.le_of_ble_eq_true rfl) ?_
            exact ih 0 x51 w21 w25 H locs ls hP hD hS (lv_sub hl [4, 5, 1, 0] rfl) hw
          · replace hw := Eq.mp (if_pos c50) hw
            refine W.widen (k := 2) (n := 12) (Nat.le_of_ble_eq_true rfl) (Nat.le_of_ble_eq_true rfl) ?_
            obtain ⟨n9, hw⟩ := hw
            exact L221 (pL_areAlike_172 Z n) ih n9 v3 r21 w21 w25 H locs ls hP hD hS (lv_sub hl [2, 3, 5, 0] rfl) hw
  have L47 : ∀ (_ : Unit), ∀ (n : Nat), ∀ (u : SX) (ub : SX) (H : Heap) (locs : List Loc) (ls : Array Slot), va_P D vwCl (wX kI kC kG x ag at_ as_ hh hst a0 a1 a2 a3 tx tch u ++ wX kI kC kG y bg bt_ bs_ yh yst b0 b1 b2 b3 tyy tych ub) H → va_D A (wX kI kC kG x ag at_ as_ hh hst a0 a1 a2 a3 tx tch u ++ wX kI kC kG y bg bt_ bs_ yh yst b0 b1 b2 b3 tyy tych ub) → va_S A s.heap H locs → lv_has ls 6 [(0, .ref x), (1, .ref y)] → pL_areAlike_47 Z n u ub → W p l e (headSpec wsL_areAlike ({ frames := 17, cells := 2, slots := 12, locals := 391 } : Room)).room s m ([.ref x, .ref y] : List Value).toArray below meth c H locs 0 0 (MQ below (va_Qi Z (gB D (gT kI kC kG kJ) (fun (zz : SX × SX) => wX kI kC kG x ag at_ as_ hh hst a0 a1 a2 a3 tx tch zz.1 ++ wX kI kC kG y bg bt_ bs_ yh yst b0 b1 b2 b3 tyy tych zz.2) A) A) ([.ref x, .ref y] : List Value).toArray s 2 12 A) (F0 m 47 ls []) := by
    intro _ n
    induction n with
    | zero => intro u ub H locs ls hP hD hS hl hw; exact hw.elim
    | succ n ih =>
    intro u ub H locs ls hP hD hS hl hw
    rw [pL_areAlike_47] at hw
    refine lv_aload_n hx hb dL_areAlike_47 rfl (lv_at hl 0 rfl) ?_
    refine gVi (As := []) (rest := []) (cs' := wX kI kC kG x ag at_ as_ hh hst a0 a1 a2 a3 tx tch u) ⟨hx, hb, hml, hown, hts⟩ (kX5_playerToMove l D kI kC kG kJ x ag at_ as_ hh hst a0 a1 a2 a3 tx tch u _ hw) (cwV 0 hts gL_areAlike_X5_playerToMove rfl rfl rfl hdX5_playerToMove ⟨Nat.le_of_ble_eq_true rfl, Nat.le_of_ble_eq_true rfl⟩) hK hP hE hS [0, 1, 2, 3, 4, 5, 6, 7, 8, 9, 10, 11, 12, 13, 14, 15, 16, 17, 18, 19, 20, 21, 22, 23, 24, 25, 26, 27, 28, 29, 30, 31, 32] rfl (ci := 4) (q0 := 0) rfl rfl rfl rfl hl.1 rfl (Nat.le_of_ble_eq_true rfl) dL_areAlike_48 ⟨Nat.le_of_ble_eq_true rfl, Nat.le_of_ble_eq_true rfl⟩ (fun r60 hw => ?_)
    refine lv_aload_n hx hb dL_areAlike_51 rfl (lv_at hl 1 rfl) ?_
    refine gVi (As := []) (rest := [.int r60]) (cs' := wX kI kC kG y bg bt_ bs_ yh yst b0 b1 b2 b3 tyy tych ub) ⟨hx, hb, hml, hown, hts⟩ (kX5_playerToMove l D kI kC kG kJ y bg bt_ bs_ yh yst b0 b1 b2 b3 tyy tych ub _ hw) (cwV 0 hts gL_areAlike_X5_playerToMove rfl rfl rfl hdX5_playerToMove ⟨Nat.le_of_ble_eq_true rfl, Nat.le_of_ble_eq_true rfl⟩) hK hP hE hS [33, 34, 35, 36, 37, 38, 39, 40, 41, 42, 43, 44, 45, 46, 47, 48, 49, 50, 51, 52, 53, 54, 55, 56, 57, 58, 59, 60, 61, 62, 63, 64, 65] rfl (ci := 4) (q0 := 0) rfl rfl rfl rfl hl.1 rfl (Nat.le_of_ble_eq_true rfl) dL_areAlike_52 ⟨Nat.le_of_ble_eq_true rfl, Nat.le_of_ble_eq_true rfl⟩ (fun r61 hw => ?_)
    refine lv_icmp_ne (tgt := 168) hx hb dL_areAlike_55 (by decide) (fun c62 => ?_) (fun c62 => ?_)
    · replace hw := Eq.mp (if_neg c62) hw
      refine lv_iconst (v := 0) hx hb dL_areAlike_168 (by decide) ?_
      refine lv_istore_n (lv' := [(2, .int 0), (0, .ref x), (1, .ref y)]) hx hb dL_areAlike_169 rfl hl (by decide) rfl (fun ls hl => ?_)
      refine lv_iconst (v := 0) hx hb dL_areAlike_170 (by decide) ?_
      refine lv_istore_n (lv' := [(3, .int 0), (2, .int 0), (0, .ref x), (1, .ref y)]) hx hb dL_areAlike_171 rfl hl (by decide) rfl (fun ls hl => ?_)
      refine W.widen (k := 2) (n := 12) (Nat.le_of_ble_eq_true rfl) (Nat.le_of_ble_eq_true rfl) ?_
      obtain ⟨n9, hw⟩ := hw
      exact L172 () n9 0 0 u ub H locs ls hP hD hS (lv_sub hl [2, 3, 1, 0] rfl) hw
    · replace hw := Eq.mp (if_pos c62) hw
      refine lv_aload_n hx hb dL_areAlike_58 rfl (lv_at hl 0 rfl) ?_
      refine gVi (As := []) (rest := []) (cs' := wX kI kC kG x ag at_ as_ hh hst a0 a1 a2 a3 tx tch u) ⟨hx, hb, hml, hown, hts⟩ (kX5_winner l D kI kC kG kJ x ag at_ as_ hh hst a0 a1 a2 a3 tx tch u _ hw) (cwV 0 hts gL_areAlike_X5_winner rfl rfl rfl hdX5_winner ⟨Nat.le_of_ble_eq_true rfl, Nat.le_of_ble_eq_true rfl⟩) hK hP hE hS [0, 1, 2, 3, 4, 5, 6, 7, 8, 9, 10, 11, 12, 13, 14, 15, 16, 17, 18, 19, 20, 21, 22, 23, 24, 25, 26, 27, 28, 29, 30, 31, 32] rfl (ci := 4) (q0 := 0) rfl rfl rfl rfl hl.1 rfl (Nat.le_of_ble_eq_true rfl) dL_areAlike_59 ⟨Nat.le_of_ble_eq_true rfl, Nat.le_of_ble_eq_true rfl⟩ (fun r63 hw => ?_)
      refine lv_aload_n hx hb dL_areAlike_62 rfl (lv_at hl 1 rfl) ?_
      refine gVi (As := []) (rest := [.int r63]) (cs' := wX kI kC kG y bg bt_ bs_ yh yst b0 b1 b2 b3 tyy tych ub) ⟨hx, hb, hml, hown, hts⟩ (kX5_winner l D kI kC kG kJ y bg bt_ bs_ yh yst b0 b1 b2 b3 tyy tych ub _ hw) (cwV 0 hts gL_areAlike_X5_winner rfl rfl rfl hdX5_winner ⟨Nat.le_of_ble_eq_true rfl, Nat.le_of_ble_eq_true rfl⟩) hK hP hE hS [33, 34, 35, 36, 37, 38, 39, 40, 41, 42, 43, 44, 45, 46, 47, 48, 49, 50, 51, 52, 53, 54, 55, 56, 57, 58, 59, 60, 61, 62, 63, 64, 65] rfl (ci := 4) (q0 := 0) rfl rfl rfl rfl hl.1 rfl (Nat.le_of_ble_eq_true rfl) dL_areAlike_63 ⟨Nat.le_of_ble_eq_true rfl, Nat.le_of_ble_eq_true rfl⟩ (fun r64 hw => ?_)
      refine lv_icmp_ne (tgt := 168) hx hb dL_areAlike_66 (by decide) (fun c65 => ?_) (fun c65 => ?_)
      · replace hw := Eq.mp (if_neg c65) hw
        refine lv_iconst (v := 0) hx hb dL_areAlike_168 (by decide) ?_
        refine lv_istore_n (lv' := [(2, .int 0), (0, .ref x), (1, .ref y)]) hx hb dL_areAlike_169 rfl hl (by decide) rfl (fun ls hl => ?_)
        refine lv_iconst (v := 0) hx hb dL_areAlike_170 (by decide) ?_
        refine lv_istore_n (lv' := [(3, .int 0), (2, .int 0), (0, .ref x), (1, .ref y)]) hx hb dL_areAlike_171 rfl hl (by decide) rfl (fun ls hl => ?_)
        refine W.widen (k := 2) (n := 12) (Nat.le_of_ble_eq_true rfl) (Nat.le_of_ble_eq_true rfl) ?_
        obtain ⟨n9, hw⟩ := hw
        exact L172 () n9 0 0 u ub H locs ls hP hD hS (lv_sub hl [2, 3, 1, 0] rfl) hw
      · replace hw := Eq.mp (if_pos c65) hw
        refine lv_aload_n hx hb dL_areAlike_69 rfl (lv_at hl 0 rfl) ?_
        refine gVi (As := []) (rest := []) (cs' := wX kI kC kG x ag at_ as_ hh hst a0 a1 a2 a3 tx tch u) ⟨hx, hb, hml, hown, hts⟩ (kX5_isOver l D kI kC kG kJ x ag at_ as_ hh hst a0 a1 a2 a3 tx tch u _ hw) (cwV 0 hts gL_areAlike_X5_isOver rfl rfl rfl hdX5_isOver ⟨Nat.le_of_ble_eq_true rfl, Nat.le_of_ble_eq_true rfl⟩) hK hP hE hS [0, 1, 2, 3, 4, 5, 6, 7, 8, 9, 10, 11, 12, 13, 14, 15, 16, 17, 18, 19, 20, 21, 22, 23, 24, 25, 26, 27, 28, 29, 30, 31, 32] rfl (ci := 4) (q0 := 0) rfl rfl rfl rfl hl.1 rfl (Nat.le_of_ble_eq_true rfl) dL_areAlike_70 ⟨Nat.le_of_ble_eq_true rfl, Nat.le_of_ble_eq_true rfl⟩ (fun r66 hw => ?_)
        refine lv_aload_n hx hb dL_areAlike_73 rfl (lv_at hl 1 rfl) ?_
        refine gVi (As := []) (rest := [.int r66]) (cs' := wX kI kC kG y bg bt_ bs_ yh yst b0 b1 b2 b3 tyy tych ub) ⟨hx, hb, hml, hown, hts⟩ (kX5_isOver l D kI kC kG kJ y bg bt_ bs_ yh yst b0 b1 b2 b3 tyy tych ub _ hw) (cwV 0 hts gL_areAlike_X5_isOver rfl rfl rfl hdX5_isOver ⟨Nat.le_of_ble_eq_true rfl, Nat.le_of_ble_eq_true rfl⟩) hK hP hE hS [33, 34, 35, 36, 37, 38, 39, 40, 41, 42, 43, 44, 45, 46, 47, 48, 49, 50, 51, 52, 53, 54, 55, 56, 57, 58, 59, 60, 61, 62, 63, 64, 65] rfl (ci := 4) (q0 := 0) rfl rfl rfl rfl hl.1 rfl (Nat.le_of_ble_eq_true rfl) dL_areAlike_74 ⟨Nat.le_of_ble_eq_true rfl, Nat.le_of_ble_eq_true rfl⟩ (fun r67 hw => ?_)
        refine lv_icmp_ne (tgt := 168) hx hb dL_areAlike_77 (by decide) (fun c68 => ?_) (fun c68 => ?_)
        · replace hw := Eq.mp (if_neg c68) hw
          refine lv_iconst (v := 0) hx hb dL_areAlike_168 (by decide) ?_
          refine lv_istore_n (lv' := [(2, .int 0), (0, .ref x), (1, .ref y)]) hx hb dL_areAlike_169 rfl hl (by decide) rfl (fun ls hl => ?_)
          refine lv_iconst (v := 0) hx hb dL_areAlike_170 (by decide) ?_
          refine lv_istore_n (lv' := [(3, .int 0), (2, .int 0), (0, .ref x), (1, .ref y)]) hx hb dL_areAlike_171 rfl hl (by decide) rfl (fun ls hl => ?_)
          refine W.widen (k := 2) (n := 12) (Nat.le_of_ble_eq_true rfl) (Nat.le_of_ble_eq_true rfl) ?_
          obtain ⟨n9, hw⟩ := hw
          exact L172 () n9 0 0 u ub H locs ls hP hD hS (lv_sub hl [2, 3, 1, 0] rfl) hw
        · replace hw := Eq.mp (if_pos c68) hw
          refine lv_aload_n hx hb dL_areAlike_80 rfl (lv_at hl 0 rfl) ?_
          refine gVi (As := []) (rest := []) (cs' := wX kI kC kG x ag at_ as_ hh hst a0 a1 a2 a3 tx tch u) ⟨hx, hb, hml, hown, hts⟩ (kX5_lines l D kI kC kG kJ x ag at_ as_ hh hst a0 a1 a2 a3 tx tch u _ hw) (cwV 0 hts gL_areAlike_X5_lines rfl rfl rfl hdX5_lines ⟨Nat.le_of_ble_eq_true rfl, Nat.le_of_ble_eq_true rfl⟩) hK hP hE hS [0, 1, 2, 3, 4, 5, 6, 7, 8, 9, 10, 11, 12, 13, 14, 15, 16, 17, 18, 19, 20, 21, 22, 23, 24, 25, 26, 27, 28, 29, 30, 31, 32] rfl (ci := 4) (q0 := 0) rfl rfl rfl rfl hl.1 rfl (Nat.le_of_ble_eq_true rfl) dL_areAlike_81 ⟨Nat.le_of_ble_eq_true rfl, Nat.le_of_ble_eq_true rfl⟩ (fun r69 hw => ?_)
          refine lv_aload_n hx hb dL_areAlike_84 rfl (lv_at hl 1 rfl) ?_
          refine gVi (As := []) (rest := [.int r69]) (cs' := wX kI kC kG y bg bt_ bs_ yh yst b0 b1 b2 b3 tyy tych ub) ⟨hx, hb, hml, hown, hts⟩ (kX5_lines l D kI kC kG kJ y bg bt_ bs_ yh yst b0 b1 b2 b3 tyy tych ub _ hw) (cwV 0 hts gL_areAlike_X5_lines rfl rfl rfl hdX5_lines ⟨Nat.le_of_ble_eq_true rfl, Nat.le_of_ble_eq_true rfl⟩) hK hP hE hS [33, 34, 35, 36, 37, 38, 39, 40, 41, 42, 43, 44, 45, 46, 47, 48, 49, 50, 51, 52, 53, 54, 55, 56, 57, 58, 59, 60, 61, 62, 63, 64, 65] rfl (ci := 4) (q0 := 0) rfl rfl rfl rfl hl.1 rfl (Nat.le_of_ble_eq_true rfl) dL_areAlike_85 ⟨Nat.le_of_ble_eq_true rfl, Nat.le_of_ble_eq_true rfl⟩ (fun r70 hw => ?_)
          refine lv_icmp_ne (tgt := 168) hx hb dL_areAlike_88 (by decide) (fun c71 => ?_) (fun c71 => ?_)
          · replace hw := Eq.mp (if_neg c71) hw
            refine lv_iconst (v := 0) hx hb dL_areAlike_168 (by decide) ?_
            refine lv_istore_n (lv' := [(2, .int 0), (0, .ref x), (1, .ref y)]) hx hb dL_areAlike_169 rfl hl (by decide) rfl (fun ls hl => ?_)
            refine lv_iconst (v := 0) hx hb dL_areAlike_170 (by decide) ?_
            refine lv_istore_n (lv' := [(3, .int 0), (2, .int 0), (0, .ref x), (1, .ref y)]) hx hb dL_areAlike_171 rfl hl (by decide) rfl (fun ls hl => ?_)
            refine W.widen (k := 2) (n := 12) (Nat.le_of_ble_eq_true rfl) (Nat.le_of_ble_eq_true rfl) ?_
            obtain ⟨n9, hw⟩ := hw
            exact L172 () n9 0 0 u ub H locs ls hP hD hS (lv_sub hl [2, 3, 1, 0] rfl) hw
          · replace hw := Eq.mp (if_pos c71) hw
            refine lv_aload_n hx hb dL_areAlike_91 rfl (lv_at hl 0 rfl) ?_
            refine gVi (As := []) (rest := []) (cs' := wX kI kC kG x ag at_ as_ hh hst a0 a1 a2 a3 tx tch u) ⟨hx, hb, hml, hown, hts⟩ (kX5_wonLines l D kI kC kG kJ x ag at_ as_ hh hst a0 a1 a2 a3 tx tch u _ hw) (cwV 0 hts gL_areAlike_X5_wonLines rfl rfl rfl hdX5_wonLines ⟨Nat.le_of_ble_eq_true rfl, Nat.le_of_ble_eq_true rfl⟩) hK hP hE hS [0, 1, 2, 3, 4, 5, 6, 7, 8, 9, 10, 11, 12, 13, 14, 15, 16, 17, 18, 19, 20, 21, 22, 23, 24, 25, 26, 27, 28, 29, 30, 31, 32] rfl (ci := 4) (q0 := 0) rfl rfl rfl rfl hl.1 rfl (Nat.le_of_ble_eq_true rfl) dL_areAlike_92 ⟨Nat.le_of_ble_eq_true rfl, Nat.le_of_ble_eq_true rfl⟩ (fun r72 hw => ?_)
            refine lv_aload_n hx hb dL_areAlike_95 rfl (lv_at hl 1 rfl) ?_
            refine gVi (As := []) (rest := [.int r72]) (cs' := wX kI kC kG y bg bt_ bs_ yh yst b0 b1 b2 b3 tyy tych ub) ⟨hx, hb, hml, hown, hts⟩ (kX5_wonLines l D kI kC kG kJ y bg bt_ bs_ yh yst b0 b1 b2 b3 tyy tych ub _ hw) (cwV 0 hts gL_areAlike_X5_wonLines rfl rfl rfl hdX5_wonLines ⟨Nat.le_of_ble_eq_true rfl, Nat.le_of_ble_eq_true rfl⟩) hK hP hE hS [33, 34, 35, 36, 37, 38, 39, 40, 41, 42, 43, 44, 45, 46, 47, 48, 49, 50, 51, 52, 53, 54, 55, 56, 57, 58, 59, 60, 61, 62, 63, 64, 65] rfl (ci := 4) (q0 := 0) rfl rfl rfl rfl hl.1 rfl (Nat.le_of_ble_eq_true rfl) dL_areAlike_96 ⟨Nat.le_of_ble_eq_true rfl, Nat.le_of_ble_eq_true rfl⟩ (fun r73 hw => ?_)
            refine lv_icmp_ne (tgt := 168) hx hb dL_areAlike_99 (by decide) (fun c74 => ?_) (fun c74 => ?_)
            · replace hw := Eq.mp (if_neg c74) hw
              refine lv_iconst (v := 0) hx hb dL_areAlike_168 (by decide) ?_
              refine lv_istore_n (lv' := [(2, .int 0), (0, .ref x), (1, .ref y)]) hx hb dL_areAlike_169 rfl hl (by decide) rfl (fun ls hl => ?_)
              refine lv_iconst (v := 0) hx hb dL_areAlike_170 (by decide) ?_
              refine lv_istore_n (lv' := [(3, .int 0), (2, .int 0), (0, .ref x), (1, .ref y)]) hx hb dL_areAlike_171 rfl hl (by decide) rfl (fun ls hl => ?_)
              refine W.widen (k := 2) (n := 12) (Nat.le_of_ble_eq_true rfl) (Nat.le_of_ble_eq_true rfl) ?_
              obtain ⟨n9, hw⟩ := hw
              exact L172 () n9 0 0 u ub H locs ls hP hD hS (lv_sub hl [2, 3, 1, 0] rfl) hw
            · replace hw := Eq.mp (if_pos c74) hw
              refine lv_aload_n hx hb dL_areAlike_102 rfl (lv_at hl 0 rfl) ?_
              refine lv_iconst (v := 0) hx hb dL_areAlike_103 (by decide) ?_
              refine gLSi (mc := 0) (ms := 0) (S := SX) (As := [.ref x, .int 0]) (rest := []) (wc := wX kI kC kG x ag at_ as_ hh hst a0 a1 a2 a3 tx tch u) (wr := [(y, .inr (4, [.ref bg.1, .ref bt_.1, .ref bs_.1, .int ub.1, .ref yh, .ref tyy]))] ++ wG kI bg ub.2.1 ++ wG kI bt_ ub.2.2.1 ++ wG kI bs_ ub.2.2.2.1 ++ [(yh, .inr (2, [.ref yst, .int ub.2.2.2.2.1.1, .int ub.2.2.2.2.1.2.1])), (yst, .inl (kG, 4, .inr (.inr (.inr (.inr (fH b0 b1 b2 b3))))))] ++ wG kI b0 ub.2.2.2.2.1.2.2.1 ++ wG kI b1 ub.2.2.2.2.1.2.2.2.1 ++ wG kI b2 ub.2.2.2.2.1.2.2.2.2.1 ++ wG kI b3 ub.2.2.2.2.1.2.2.2.2.2 ++ wT kC tyy tych ub.2.2.2.2.2) (cs1 := (fun zz : SX => wX kI kC kG x ag at_ as_ hh hst a0 a1 a2 a3 tx tch zz)) (ws2 := (fun zz : SX => wX kI kC kG x ag at_ as_ hh hst a0 a1 a2 a3 tx tch zz ++ wX kI kC kG y bg bt_ bs_ yh yst b0 b1 b2 b3 tyy tych ub)) ⟨hx, hb, hml, hown, hts⟩ (fun sz => kL_wins l D kI kC kG kJ hlt x ag at_ as_ hh hst a0 a1 a2 a3 tx tch sz u 0 _ hw) (vx_cwSW 2 hts gL_areAlike_L_wins rfl rfl rfl hdL_wins ⟨Nat.le_of_ble_eq_true rfl, Nat.le_of_ble_eq_true rfl⟩) hK hP hD hE hS hA [0, 1, 2, 3, 4, 5, 6, 7, 8, 9, 10, 11, 12, 13, 14, 15, 16, 17, 18, 19, 20, 21, 22, 23, 24, 25, 26, 27, 28, 29, 30, 31, 32] [33, 34, 35, 36, 37, 38, 39, 40, 41, 42, 43, 44, 45, 46, 47, 48, 49, 50, 51, 52, 53, 54, 55, 56, 57, 58, 59, 60, 61, 62, 63, 64, 65] rfl rfl rfl rfl (by decide) [33, 34, 35, 36, 37, 38, 39, 40, 41, 42, 43, 44, 45, 46, 47, 48, 49, 50, 51, 52, 53, 54, 55, 56, 57, 58, 59, 60, 61, 62, 63, 64, 65, 0, 1, 2, 3, 4, 5, 6, 7, 8, 9, 10, 11, 12, 13, 14, 15, 16, 17, 18, 19, 20, 21, 22, 23, 24, 25, 26, 27, 28, 29, 30, 31, 32] rfl (fun _ => rfl) rfl hl.1 rfl (Nat.le_of_ble_eq_true rfl) dL_areAlike_104 ⟨Nat.le_of_ble_eq_true rfl, Nat.le_of_ble_eq_true rfl⟩ (fun r75 w75 H locs hw hP hD hS => ?_)
              have hP : va_P D vwCl (wX kI kC kG x ag at_ as_ hh hst a0 a1 a2 a3 tx tch w75 ++ wX kI kC kG y bg bt_ bs_ yh yst b0 b1 b2 b3 tyy tych ub) H := hP
              have hD : va_D A (wX kI kC kG x ag at_ as_ hh hst a0 a1 a2 a3 tx tch w75 ++ wX kI kC kG y bg bt_ bs_ yh yst b0 b1 b2 b3 tyy tych ub) := hD
              refine lv_aload_n hx hb dL_areAlike_107 rfl (lv_at hl 1 rfl) ?_
              refine lv_iconst (v := 0) hx hb dL_areAlike_108 (by decide) ?_
              refine gLSi (mc := 0) (ms := 0) (S := SX) (As := [.ref y, .int 0]) (rest := [.int r75]) (wc := wX kI kC kG y bg bt_ bs_ yh yst b0 b1 b2 b3 tyy tych ub) (wr := [(x, .inr (4, [.ref ag.1, .ref at_.1, .ref as_.1, .int w75.1, .ref hh, .ref tx]))] ++ wG kI ag w75.2.1 ++ wG kI at_ w75.2.2.1 ++ wG kI as_ w75.2.2.2.1 ++ [(hh, .inr (2, [.ref hst, .int w75.2.2.2.2.1.1, .int w75.2.2.2.2.1.2.1])), (hst, .inl (kG, 4, .inr (.inr (.inr (.inr (fH a0 a1 a2 a3))))))] ++ wG kI a0 w75.2.2.2.2.1.2.2.1 ++ wG kI a1 w75.2.2.2.2.1.2.2.2.1 ++ wG kI a2 w75.2.2.2.2.1.2.2.2.2.1 ++ wG kI a3 w75.2.2.2.2.1.2.2.2.2.2 ++ wT kC tx tch w75.2.2.2.2.2) (cs1 := (fun zz : SX => wX kI kC kG y bg bt_ bs_ yh yst b0 b1 b2 b3 tyy tych zz)) (ws2 := (fun zz : SX => wX kI kC kG x ag at_ as_ hh hst a0 a1 a2 a3 tx tch w75 ++ wX kI kC kG y bg bt_ bs_ yh yst b0 b1 b2 b3 tyy tych zz)) ⟨hx, hb, hml, hown, hts⟩ (fun sz => kL_wins l D kI kC kG kJ hlt y bg bt_ bs_ yh yst b0 b1 b2 b3 tyy tych sz ub 0 _ hw) (vx_cwSW 2 hts gL_areAlike_L_wins rfl rfl rfl hdL_wins ⟨Nat.le_of_ble_eq_true rfl, Nat.le_of_ble_eq_true rfl⟩) hK hP hD hE hS hA [33, 34, 35, 36, 37, 38, 39, 40, 41, 42, 43, 44, 45, 46, 47, 48, 49, 50, 51, 52, 53, 54, 55, 56, 57, 58, 59, 60, 61, 62, 63, 64, 65] [0, 1, 2, 3, 4, 5, 6, 7, 8, 9, 10, 11, 12, 13, 14, 15, 16, 17, 18, 19, 20, 21, 22, 23, 24, 25, 26, 27, 28, 29, 30, 31, 32] rfl rfl rfl rfl (by decide) [0, 1, 2, 3, 4, 5, 6, 7, 8, 9, 10, 11, 12, 13, 14, 15, 16, 17, 18, 19, 20, 21, 22, 23, 24, 25, 26, 27, 28, 29, 30, 31, 32, 33, 34, 35, 36, 37, 38, 39, 40, 41, 42, 43, 44, 45, 46, 47, 48, 49, 50, 51, 52, 53, 54, 55, 56, 57, 58, 59, 60, 61, 62, 63, 64, 65] rfl (fun _ => rfl) rfl hl.1 rfl (Nat.le_of_ble_eq_true rfl) dL_areAlike_109 ⟨Nat.le_of_ble_eq_true rfl, Nat.le_of_ble_eq_true rfl⟩ (fun r76 w76 H locs hw hP hD hS => ?_)
              have hP : va_P D vwCl (wX kI kC kG x ag at_ as_ hh hst a0 a1 a2 a3 tx tch w75 ++ wX kI kC kG y bg bt_ bs_ yh yst b0 b1 b2 b3 tyy tych w76) H := hP
              have hD : va_D A (wX kI kC kG x ag at_ as_ hh hst a0 a1 a2 a3 tx tch w75 ++ wX kI kC kG y bg bt_ bs_ yh yst b0 b1 b2 b3 tyy tych w76) := hD
              refine lv_icmp_ne (tgt := 168) hx hb dL_areAlike_112 (by decide) (fun c77 => ?_) (fun c77 => ?_)
              · replace hw := Eq.mp (if_neg c77) hw
                refine lv_iconst (v := 0) hx hb dL_areAlike_168 (by decide) ?_
                refine lv_istore_n (lv' := [(2, .int 0), (0, .ref x), (1, .ref y)]) hx hb dL_areAlike_169 rfl hl (by decide) rfl (fun ls hl => ?_)
                refine lv_iconst (v := 0) hx hb dL_areAlike_170 (by decide) ?_
                refine lv_istore_n (lv' := [(3, .int 0), (2, .int 0), (0, .ref x), (1, .ref y)]) hx hb dL_areAlike_171 rfl hl (by decide) rfl (fun ls hl => ?_)
                refine W.widen (k := 2) (n := 12) (Nat.le_of_ble_eq_true rfl) (Nat.le_of_ble_eq_true rfl) ?_
                obtain ⟨n9, hw⟩ := hw
                exact L172 () n9 0 0 w75 w76 H locs ls hP hD hS (lv_sub hl [2, 3, 1, 0] rfl) hw
              · replace hw := Eq.mp (if_pos c77) hw
                refine lv_aload_n hx hb dL_areAlike_115 rfl (lv_at hl 0 rfl) ?_
                refine lv_iconst (v := 1) hx hb dL_areAlike_116 (by decide) ?_
                refine gLSi (mc := 0) (ms := 0) (S := SX) (As := [.ref x, .int 1]) (rest := []) (wc := wX kI kC kG x ag at_ as_ hh hst a0 a1 a2 a3 tx tch w75) (wr := [(y, .inr (4, [.ref bg.1, .ref bt_.1, .ref bs_.1, .int w76.1, .ref yh, .ref tyy]))] ++ wG kI bg w76.2.1 ++ wG kI bt_ w76.2.2.1 ++ wG kI bs_ w76.2.2.2.1 ++ [(yh, .inr (2, [.ref yst, .int w76.2.2.2.2.1.1, .int w76.2.2.2.2.1.2.1])), (yst, .inl (kG, 4, .inr (.inr (.inr (.inr (fH b0 b1 b2 b3))))))] ++ wG kI b0 w76.2.2.2.2.1.2.2.1 ++ wG kI b1 w76.2.2.2.2.1.2.2.2.1 ++ wG kI b2 w76.2.2.2.2.1.2.2.2.2.1 ++ wG kI b3 w76.2.2.2.2.1.2.2.2.2.2 ++ wT kC tyy tych w76.2.2.2.2.2) (cs1 := (fun zz : SX => wX kI kC kG x ag at_ as_ hh hst a0 a1 a2 a3 tx tch zz)) (ws2 := (fun zz : SX => wX kI kC kG x ag at_ as_ hh hst a0 a1 a2 a3 tx tch zz ++ wX kI kC kG y bg bt_ bs_ yh yst b0 b1 b2 b3 tyy tych w76)) ⟨hx, hb, hml, hown, hts⟩ (fun sz => kL_wins l D kI kC kG kJ hlt x ag at_ as_ hh hst a0 a1 a2 a3 tx tch sz w75 1 _ hw) (vx_cwSW 2 hts gL_areAlike_L_wins rfl rfl rfl hdL_wins ⟨Nat.le_of_ble_eq_true rfl, Nat.le_of_ble_eq_true rfl⟩) hK hP hD hE hS hA [0, 1, 2, 3, 4, 5, 6, 7, 8, 9, 10, 11, 12, 13, 14, 15, 16, 17, 18, 19, 20, 21, 22, 23, 24, 25, 26, 27, 28, 29, 30, 31, 32] [33, 34, 35, 36, 37, 38, 39, 40, 41, 42, 43, 44, 45, 46, 47, 48, 49, 50, 51, 52, 53, 54, 55, 56, 57, 58, 59, 60, 61, 62, 63, 64, 65] rfl rfl rfl rfl (by decide) [33, 34, 35, 36, 37, 38, 39, 40, 41, 42, 43, 44, 45, 46, 47, 48, 49, 50, 51, 52, 53, 54, 55, 56, 57, 58, 59, 60, 61, 62, 63, 64, 65, 0, 1, 2, 3, 4, 5, 6, 7, 8, 9, 10, 11, 12, 13, 14, 15, 16, 17, 18, 19, 20, 21, 22, 23, 24, 25, 26, 27, 28, 29, 30, 31, 32] rfl (fun _ => rfl) rfl hl.1 rfl (Nat.le_of_ble_eq_true rfl) dL_areAlike_117 ⟨Nat.le_of_ble_eq_true rfl, Nat.le_of_ble_eq_true rfl⟩ (fun r78 w78 H locs hw hP hD hS => ?_)
                have hP : va_P D vwCl (wX kI kC kG x ag at_ as_ hh hst a0 a1 a2 a3 tx tch w78 ++ wX kI kC kG y bg bt_ bs_ yh yst b0 b1 b2 b3 tyy tych w76) H := hP
                have hD : va_D A (wX kI kC kG x ag at_ as_ hh hst a0 a1 a2 a3 tx tch w78 ++ wX kI kC kG y bg bt_ bs_ yh yst b0 b1 b2 b3 tyy tych w76) := hD
                refine lv_aload_n hx hb dL_areAlike_120 rfl (lv_at hl 1 rfl) ?_
                refine lv_iconst (v := 1) hx hb dL_areAlike_121 (by decide) ?_
                refine gLSi (mc := 0) (ms := 0) (S := SX) (As := [.ref y, .int 1]) (rest := [.int r78]) (wc := wX kI kC kG y bg bt_ bs_ yh yst b0 b1 b2 b3 tyy tych w76) (wr := [(x, .inr (4, [.ref ag.1, .ref at_.1, .ref as_.1, .int w78.1, .ref hh, .ref tx]))] ++ wG kI ag w78.2.1 ++ wG kI at_ w78.2.2.1 ++ wG kI as_ w78.2.2.2.1 ++ [(hh, .inr (2, [.ref hst, .int w78.2.2.2.2.1.1, .int w78.2.2.2.2.1.2.1])), (hst, .inl (kG, 4, .inr (.inr (.inr (.inr (fH a0 a1 a2 a3))))))] ++ wG kI a0 w78.2.2.2.2.1.2.2.1 ++ wG kI a1 w78.2.2.2.2.1.2.2.2.1 ++ wG kI a2 w78.2.2.2.2.1.2.2.2.2.1 ++ wG kI a3 w78.2.2.2.2.1.2.2.2.2.2 ++ wT kC tx tch w78.2.2.2.2.2) (cs1 := (fun zz : SX => wX kI kC kG y bg bt_ bs_ yh yst b0 b1 b2 b3 tyy tych zz)) (ws2 := (fun zz : SX => wX kI kC kG x ag at_ as_ hh hst a0 a1 a2 a3 tx tch w78 ++ wX kI kC kG y bg bt_ bs_ yh yst b0 b1 b2 b3 tyy tych zz)) ⟨hx, hb, hml, hown, hts⟩ (fun sz => kL_wins l D kI kC kG kJ hlt y bg bt_ bs_ yh yst b0 b1 b2 b3 tyy tych sz w76 1 _ hw) (vx_cwSW 2 hts gL_areAlike_L_wins rfl rfl rfl hdL_wins ⟨Nat.le_of_ble_eq_true rfl, Nat.le_of_ble_eq_true rfl⟩) hK hP hD hE hS hA [33, 34, 35, 36, 37, 38, 39, 40, 41, 42, 43, 44, 45, 46, 47, 48, 49, 50, 51, 52, 53, 54, 55, 56, 57, 58, 59, 60, 61, 62, 63, 64, 65] [0, 1, 2, 3, 4, 5, 6, 7, 8, 9, 10, 11, 12, 13, 14, 15, 16, 17, 18, 19, 20, 21, 22, 23, 24, 25, 26, 27, 28, 29, 30, 31, 32] rfl rfl rfl rfl (by decide) [0, 1, 2, 3, 4, 5, 6, 7, 8, 9, 10, 11, 12, 13, 14, 15, 16, 17, 18, 19, 20, 21, 22, 23, 24, 25, 26, 27, 28, 29, 30, 31, 32, 33, 34, 35, 36, 37, 38, 39, 40, 41, 42, 43, 44, 45, 46, 47, 48, 49, 50, 51, 52, 53, 54, 55, 56, 57, 58, 59, 60, 61, 62, 63, 64, 65] rfl (fun _ => rfl) rfl hl.1 rfl (Nat.le_of_ble_eq_true rfl) dL_areAlike_122 ⟨Nat.le_of_ble_eq_true rfl, Nat.le_of_ble_eq_true rfl⟩ (fun r79 w79 H locs hw hP hD hS => ?_)
                have hP : va_P D vwCl (wX kI kC kG x ag at_ as_ hh hst a0 a1 a2 a3 tx tch w78 ++ wX kI kC kG y bg bt_ bs_ yh yst b0 b1 b2 b3 tyy tych w79) H := hP
                have hD : va_D A (wX kI kC kG x ag at_ as_ hh hst a0 a1 a2 a3 tx tch w78 ++ wX kI kC kG y bg bt_ bs_ yh yst b0 b1 b2 b3 tyy tych w79) := hD
                refine lv_icmp_ne (tgt := 168) hx hb dL_areAlike_125 (by decide) (fun c80 => ?_) (fun c80 => ?_)
                · replace hw := Eq.mp (if_neg c80) hw
                  refine lv_iconst (v := 0) hx hb dL_areAlike_168 (by decide) ?_
                  refine lv_istore_n (lv' := [(2, .int 0), (0, .ref x), (1, .ref y)]) hx hb dL_areAlike_169 rfl hl (by decide) rfl (fun ls hl => ?_)
                  refine lv_iconst (v := 0) hx hb dL_areAlike_170 (by decide) ?_
                  refine lv_istore_n (lv' := [(3, .int 0), (2, .int 0), (0, .ref x), (1, .ref y)]) hx hb dL_areAlike_171 rfl hl (by decide) rfl (fun ls hl => ?_)
                  refine W.widen (k := 2) (n := 12) (Nat.le_of_ble_eq_true rfl) (Nat.le_of_ble_eq_true rfl) ?_
                  obtain ⟨n9, hw⟩ := hw
                  exact L172 () n9 0 0 w78 w79 H locs ls hP hD hS (lv_sub hl [2, 3, 1, 0] rfl) hw
                · replace hw := Eq.mp (if_pos c80) hw
                  refine lv_aload_n hx hb dL_areAlike_128 rfl (lv_at hl 0 rfl) ?_
                  refine gVi (As := []) (rest := []) (cs' := wX kI kC kG x ag at_ as_ hh hst a0 a1 a2 a3 tx tch w78) ⟨hx, hb, hml, hown, hts⟩ (kX5_recordedStates l D kI kC kG kJ x ag at_ as_ hh hst a0 a1 a2 a3 tx tch w78 _ hw) (cwV 0 hts gL_areAlike_X5_recordedStates rfl rfl rfl hdX5_recordedStates ⟨Nat.le_of_ble_eq_true rfl, Nat.le_of_ble_eq_true rfl⟩) hK hP hE hS [0, 1, 2, 3, 4, 5, 6, 7, 8, 9, 10, 11, 12, 13, 14, 15, 16, 17, 18, 19, 20, 21, 22, 23, 24, 25, 26, 27, 28, 29, 30, 31, 32] rfl (ci := 4) (q0 := 0) rfl rfl rfl rfl hl.1 rfl (Nat.le_of_ble_eq_true rfl) dL_areAlike_129 ⟨Nat.le_of_ble_eq_true rfl, Nat.le_of_ble_eq_true rfl⟩ (fun r81 hw => ?_)
                  refine lv_aload_n hx hb dL_areAlike_132 rfl (lv_at hl 1 rfl) ?_
                  refine gVi (As := []) (rest := [.int r81]) (cs' := wX kI kC kG y bg bt_ bs_ yh yst b0 b1 b2 b3 tyy tych w79) ⟨hx, hb, hml, hown, hts⟩ (kX5_recordedStates l D kI kC kG kJ y bg bt_ bs_ yh yst b0 b1 b2 b3 tyy tych w79 _ hw) (cwV 0 hts gL_areAlike_X5_recordedStates rfl rfl rfl hdX5_recordedStates ⟨Nat.le_of_ble_eq_true rfl, Nat.le_of_ble_eq_true rfl⟩) hK hP hE hS [33, 34, 35, 36, 37, 38, 39, 40, 41, 42, 43, 44, 45, 46, 47, 48, 49, 50, 51, 52, 53, 54, 55, 56, 57, 58, 59, 60, 61, 62, 63, 64, 65] rfl (ci := 4) (q0 := 0) rfl rfl rfl rfl hl.1 rfl (Nat.le_of_ble_eq_true rfl) dL_areAlike_133 ⟨Nat.le_of_ble_eq_true rfl, Nat.le_of_ble_eq_true rfl⟩ (fun r82 hw => ?_)
                  refine lv_icmp_ne (tgt := 168) hx hb dL_areAlike_136 (by decide) (fun c83 => ?_) (fun c83 => ?_)
                  · replace hw := Eq.mp (if_neg c83) hw
                    refine lv_iconst (v := 0) hx hb dL_areAlike_168 (by decide) ?_
                    refine lv_istore_n (lv' := [(2, .int 0), (0, .ref x), (1, .ref y)]) hx hb dL_areAlike_169 rfl hl (by decide) rfl (fun ls hl => ?_)
                    refine lv_iconst (v := 0) hx hb dL_areAlike_170 (by decide) ?_
                    refine lv_istore_n (lv' := [(3, .int 0), (2, .int 0), (0, .ref x), (1, .ref y)]) hx hb dL_areAlike_171 rfl hl (by decide) rfl (fun ls hl => ?_)
                    refine W.widen (k := 2) (n := 12) (Nat.le_of_ble_eq_true rfl) (Nat.le_of_ble_eq_true rfl) ?_
                    obtain ⟨n9, hw⟩ := hw
                    exact L172 () n9 0 0 w78 w79 H locs ls hP hD hS (lv_sub hl [2, 3, 1, 0] rfl) hw
                  · replace hw := Eq.mp (if_pos c83) hw
                    refine lv_aload_n hx hb dL_areAlike_139 rfl (lv_at hl 0 rfl) ?_
                    refine gWVi (S := SX) (As := []) (rest := []) (wc := wX kI kC kG x ag at_ as_ hh hst a0 a1 a2 a3 tx tch w78) (wr := [(y, .inr (4, [.ref bg.1, .ref bt_.1, .ref bs_.1, .int w79.1, .ref yh, .ref tyy]))] ++ wG kI bg w79.2.1 ++ wG kI bt_ w79.2.2.1 ++ wG kI bs_ w79.2.2.2.1 ++ [(yh, .inr (2, [.ref yst, .int w79.2.2.2.2.1.1, .int w79.2.2.2.2.1.2.1])), (yst, .inl (kG, 4, .inr (.inr (.inr (.inr (fH b0 b1 b2 b3))))))] ++ wG kI b0 w79.2.2.2.2.1.2.2.1 ++ wG kI b1 w79.2.2.2.2.1.2.2.2.1 ++ wG kI b2 w79.2.2.2.2.1.2.2.2.2.1 ++ wG kI b3 w79.2.2.2.2.1.2.2.2.2.2 ++ wT kC tyy tych w79.2.2.2.2.2) (cs1 := (fun zz : SX => wX kI kC kG x ag at_ as_ hh hst a0 a1 a2 a3 tx tch zz)) (ws2 := (fun zz : SX => wX kI kC kG x ag at_ as_ hh hst a0 a1 a2 a3 tx tch zz ++ wX kI kC kG y bg bt_ bs_ yh yst b0 b1 b2 b3 tyy tych w79)) ⟨hx, hb, hml, hown, hts⟩ (fun sz => kX5_safeByTrying l D kI kC kG kJ x ag at_ as_ hh hst a0 a1 a2 a3 tx tch sz w78 _ hw) (cwV 0 hts gL_areAlike_X5_safeByTrying rfl rfl rfl hdX5_safeByTrying ⟨Nat.le_of_ble_eq_true rfl, Nat.le_of_ble_eq_true rfl⟩) hK hP hD hE hS hA [0, 1, 2, 3, 4, 5, 6, 7, 8, 9, 10, 11, 12, 13, 14, 15, 16, 17, 18, 19, 20, 21, 22, 23, 24, 25, 26, 27, 28, 29, 30, 31, 32] [33, 34, 35, 36, 37, 38, 39, 40, 41, 42, 43, 44, 45, 46, 47, 48, 49, 50, 51, 52, 53, 54, 55, 56, 57, 58, 59, 60, 61, 62, 63, 64, 65] rfl rfl rfl rfl (by decide) [33, 34, 35, 36, 37, 38, 39, 40, 41, 42, 43, 44, 45, 46, 47, 48, 49, 50, 51, 52, 53, 54, 55, 56, 57, 58, 59, 60, 61, 62, 63, 64, 65, 0, 1, 2, 3, 4, 5, 6, 7, 8, 9, 10, 11, 12, 13, 14, 15, 16, 17, 18, 19, 20, 21, 22, 23, 24, 25, 26, 27, 28, 29, 30, 31, 32] rfl (fun _ => rfl) (ci := 4) (q0 := 0) rfl rfl rfl rfl hl.1 rfl (Nat.le_of_ble_eq_true rfl) dL_areAlike_140 ⟨Nat.le_of_ble_eq_true rfl, Nat.le_of_ble_eq_true rfl⟩ (fun r84 w84 H locs hw hP hD hS => ?_)
                    have hP : va_P D vwCl (wX kI kC kG x ag at_ as_ hh hst a0 a1 a2 a3 tx tch w84 ++ wX kI kC kG y bg bt_ bs_ yh yst b0 b1 b2 b3 tyy tych w79) H := hP
                    have hD : va_D A (wX kI kC kG x ag at_ as_ hh hst a0 a1 a2 a3 tx tch w84 ++ wX kI kC kG y bg bt_ bs_ yh yst b0 b1 b2 b3 tyy tych w79) := hD
                    refine gSi (As := [.int r84]) (rest := []) (cs' := ([] : va_W)) ⟨hx, hb, hml, hown, hts⟩ (kL_other l D kI kC kG kJ r84 _ hw) (va_cwS 1 hts gL_areAlike_L_other rfl rfl rfl hdL_other ⟨Nat.le_of_ble_eq_true rfl, Nat.le_of_ble_eq_true rfl⟩) hK hP hE hS [] rfl rfl hl.1 rfl (Nat.le_of_ble_eq_true rfl) dL_areAlike_143 ⟨Nat.le_of_ble_eq_true rfl, Nat.le_of_ble_eq_true rfl⟩ (fun r85 hw => ?_)
                    refine lv_aload_n hx hb dL_areAlike_146 rfl (lv_at hl 1 rfl) ?_
                    refine gVi (As := []) (rest := [.int r85]) (cs' := wX kI kC kG y bg bt_ bs_ yh yst b0 b1 b2 b3 tyy tych w79) ⟨hx, hb, hml, hown, hts⟩ (kX5_safeByLines l D kI kC kG kJ y bg bt_ bs_ yh yst b0 b1 b2 b3 tyy tych w79 _ hw) (cwV 0 hts gL_areAlike_X5_safeByLines rfl rfl rfl hdX5_safeByLines ⟨Nat.le_of_ble_eq_true rfl, Nat.le_of_ble_eq_true rfl⟩) hK hP hE hS [33, 34, 35, 36, 37, 38, 39, 40, 41, 42, 43, 44, 45, 46, 47, 48, 49, 50, 51, 52, 53, 54, 55, 56, 57, 58, 59, 60, 61, 62, 63, 64, 65] rfl (ci := 4) (q0 := 0) rfl rfl rfl rfl hl.1 rfl (Nat.le_of_ble_eq_true rfl) dL_areAlike_147 ⟨Nat.le_of_ble_eq_true rfl, Nat.le_of_ble_eq_true rfl⟩ (fun r86 hw => ?_)
                    refine lv_icmp_ne (tgt := 168) hx hb dL_areAlike_150 (by decide) (fun c87 => ?_) (fun c87 => ?_)
                    · replace hw := Eq.mp (if_neg c87) hw
                      refine lv_iconst (v := 0) hx hb dL_areAlike_168 (by decide) ?_
                      refine lv_istore_n (lv' := [(2, .int 0), (0, .ref x), (1, .ref y)]) hx hb dL_areAlike_169 rfl hl (by decide) rfl (fun ls hl => ?_)
                      refine lv_iconst (v := 0) hx hb dL_areAlike_170 (by decide) ?_
                      refine lv_istore_n (lv' := [(3, .int 0), (2, .int 0), (0, .ref x), (1, .ref y)]) hx hb dL_areAlike_171 rfl hl (by decide) rfl (fun ls hl => ?_)
                      refine W.widen (k := 2) (n := 12) (Nat.le_of_ble_eq_true rfl) (Nat.le_of_ble_eq_true rfl) ?_
                      obtain ⟨n9, hw⟩ := hw
                      exact L172 () n9 0 0 w84 w79 H locs ls hP hD hS (lv_sub hl [2, 3, 1, 0] rfl) hw
                    · replace hw := Eq.mp (if_pos c87) hw
                      refine lv_aload_n hx hb dL_areAlike_153 rfl (lv_at hl 0 rfl) ?_
                      refine gLSi (mc := 1) (ms := 6) (S := SX) (As := [.ref x]) (rest := []) (wc := wX kI kC kG x ag at_ as_ hh hst a0 a1 a2 a3 tx tch w84) (wr := [(y, .inr (4, [.ref bg.1, .ref bt_.1, .ref bs_.1, .int w79.1, .ref yh, .ref tyy]))] ++ wG kI bg w79.2.1 ++ wG kI bt_ w79.2.2.1 ++ wG kI bs_ w79.2.2.2.1 ++ [(yh, .inr (2, [.ref yst, .int w79.2.2.2.2.1.1, .int w79.2.2.2.2.1.2.1])), (yst, .inl (kG, 4, .inr (.inr (.inr (.inr (fH b0 b1 b2 b3))))))] ++ wG kI b0 w79.2.2.2.2.1.2.2.1 ++ wG kI b1 w79.2.2.2.2.1.2.2.2.1 ++ wG kI b2 w79.2.2.2.2.1.2.2.2.2.1 ++ wG kI b3 w79.2.2.2.2.1.2.2.2.2.2 ++ wT kC tyy tych w79.2.2.2.2.2) (cs1 := (fun zz : SX => wX kI kC kG x ag at_ as_ hh hst a0 a1 a2 a3 tx tch zz)) (ws2 := (fun zz : SX => wX kI kC kG x ag at_ as_ hh hst a0 a1 a2 a3 tx tch zz ++ wX kI kC kG y bg bt_ bs_ yh yst b0 b1 b2 b3 tyy tych w79)) ⟨hx, hb, hml, hown, hts⟩ (fun sz => kL_outcome l D kI kC kG kJ hlt x ag at_ as_ hh hst a0 a1 a2 a3 tx tch sz w84 _ hw) (vx_cwSW 1 hts gL_areAlike_L_outcome rfl rfl rfl hdL_outcome ⟨Nat.le_of_ble_eq_true rfl, Nat.le_of_ble_eq_true rfl⟩) hK hP hD hE hS hA [0, 1, 2, 3, 4, 5, 6, 7, 8, 9, 10, 11, 12, 13, 14, 15, 16, 17, 18, 19, 20, 21, 22, 23, 24, 25, 26, 27, 28, 29, 30, 31, 32] [33, 34, 35, 36, 37, 38, 39, 40, 41, 42, 43, 44, 45, 46, 47, 48, 49, 50, 51, 52, 53, 54, 55, 56, 57, 58, 59, 60, 61, 62, 63, 64, 65] rfl rfl rfl rfl (by decide) [33, 34, 35, 36, 37, 38, 39, 40, 41, 42, 43, 44, 45, 46, 47, 48, 49, 50, 51, 52, 53, 54, 55, 56, 57, 58, 59, 60, 61, 62, 63, 64, 65, 0, 1, 2, 3, 4, 5, 6, 7, 8, 9, 10, 11, 12, 13, 14, 15, 16, 17, 18, 19, 20, 21, 22, 23, 24, 25, 26, 27, 28, 29, 30, 31, 32] rfl (fun _ => rfl) rfl hl.1 rfl (Nat.le_of_ble_eq_true rfl) dL_areAlike_154 ⟨Nat.le_of_ble_eq_true rfl, Nat.le_of_ble_eq_true rfl⟩ (fun r88 w88 H locs hw hP hD hS => ?_)
                      have hP : va_P D vwCl (wX kI kC kG x ag at_ as_ hh hst a0 a1 a2 a3 tx tch w88 ++ wX kI kC kG y bg bt_ bs_ yh yst b0 b1 b2 b3 tyy tych w79) H := hP
                      have hD : va_D A (wX kI kC kG x ag at_ as_ hh hst a0 a1 a2 a3 tx tch w88 ++ wX kI kC kG y bg bt_ bs_ yh yst b0 b1 b2 b3 tyy tych w79) := hD
                      refine lv_aload_n hx hb dL_areAlike_157 rfl (lv_at hl 1 rfl) ?_
                      refine gLSi (mc := 1) (ms := 6) (S := SX) (As := [.ref y]) (rest := [.int r88]) (wc := wX kI kC kG y bg bt_ bs_ yh yst b0 b1 b2 b3 tyy tych w79) (wr := [(x, .inr (4, [.ref ag.1, .ref at_.1, .ref as_.1, .int w88.1, .ref hh, .ref tx]))] ++ wG kI ag w88.2.1 ++ wG kI at_ w88.2.2.1 ++ wG kI as_ w88.2.2.2.1 ++ [(hh, .inr (2, [.ref hst, .int w88.2.2.2.2.1.1, .int w88.2.2.2.2.1.2.1])), (hst, .inl (kG, 4, .inr (.inr (.inr (.inr (fH a0 a1 a2 a3))))))] ++ wG kI a0 w88.2.2.2.2.1.2.2.1 ++ wG kI a1 w88.2.2.2.2.1.2.2.2.1 ++ wG kI a2 w88.2.2.2.2.1.2.2.2.2.1 ++ wG kI a3 w88.2.2.2.2.1.2.2.2.2.2 ++ wT kC tx tch w88.2.2.2.2.2) (cs1 := (fun zz : SX => wX kI kC kG y bg bt_ bs_ yh yst b0 b1 b2 b3 tyy tych zz)) (ws2 := (fun zz : SX => wX kI kC kG x ag at_ as_ hh hst a0 a1 a2 a3 tx tch w88 ++ wX kI kC kG y bg bt_ bs_ yh yst b0 b1 b2 b3 tyy tych zz)) ⟨hx, hb, hml, hown, hts⟩ (fun sz => kL_outcome l D kI kC kG kJ hlt y bg bt_ bs_ yh yst b0 b1 b2 b3 tyy tych sz w79 _ hw) (vx_cwSW 1 hts gL_areAlike_L_outcome rfl rfl rfl hdL_outcome ⟨Nat.le_of_ble_eq_true rfl, Nat.le_of_ble_eq_true rfl⟩) hK hP hD hE hS hA [33, 34, 35, 36, 37, 38, 39, 40, 41, 42, 43, 44, 45, 46, 47, 48, 49, 50, 51, 52, 53, 54, 55, 56, 57, 58, 59, 60, 61, 62, 63, 64, 65] [0, 1, 2, 3, 4, 5, 6, 7, 8, 9, 10, 11, 12, 13, 14, 15, 16, 17, 18, 19, 20, 21, 22, 23, 24, 25, 26, 27, 28, 29, 30, 31, 32] rfl rfl rfl rfl (by decide) [0, 1, 2, 3, 4, 5, 6, 7, 8, 9, 10, 11, 12, 13, 14, 15, 16, 17, 18, 19, 20, 21, 22, 23, 24, 25, 26, 27, 28, 29, 30, 31, 32, 33, 34, 35, 36, 37, 38, 39, 40, 41, 42, 43, 44, 45, 46, 47, 48, 49, 50, 51, 52, 53, 54, 55, 56, 57, 58, 59, 60, 61, 62, 63, 64, 65] rfl (fun _ => rfl) rfl hl.1 rfl (Nat.le_of_ble_eq_true rfl) dL_areAlike_158 ⟨Nat.le_of_ble_eq_true rfl, Nat.le_of_ble_eq_true rfl⟩ (fun r89 w89 H locs hw hP hD hS => ?_)
                      have hP : va_P D vwCl (wX kI kC kG x ag at_ as_ hh hst a0 a1 a2 a3 tx tch w88 ++ wX kI kC kG y bg bt_ bs_ yh yst b0 b1 b2 b3 tyy tych w89) H := hP
                      have hD : va_D A (wX kI kC kG x ag at_ as_ hh hst a0 a1 a2 a3 tx tch w88 ++ wX kI kC kG y bg bt_ bs_ yh yst b0 b1 b2 b3 tyy tych w89) := hD
                      refine lv_icmp_ne (tgt := 168) hx hb dL_areAlike_161 (by decide) (fun c90 => ?_) (fun c90 => ?_)
                      · replace hw := Eq.mp (if_neg c90) hw
                        refine lv_iconst (v := 0) hx hb dL_areAlike_168 (by decide) ?_
                        refine lv_istore_n (lv' := [(2, .int 0), (0, .ref x), (1, .ref y)]) hx hb dL_areAlike_169 rfl hl (by decide) rfl (fun ls hl => ?_)
                        refine lv_iconst (v := 0) hx hb dL_areAlike_170 (by decide) ?_
                        refine lv_istore_n (lv' := [(3, .int 0), (2, .int 0), (0, .ref x), (1, .ref y)]) hx hb dL_areAlike_171 rfl hl (by decide) rfl (fun ls hl => ?_)
                        refine W.widen (k := 2) (n := 12) (Nat.le_of_ble_eq_true rfl) (Nat.le_of_ble_eq_true rfl) ?_
                        obtain ⟨n9, hw⟩ := hw
                        exact L172 () n9 0 0 w88 w89 H locs ls hP hD hS (lv_sub hl [2, 3, 1, 0] rfl) hw
                      · replace hw := Eq.mp (if_pos c90) hw
                        refine lv_iconst (v := 1) hx hb dL_areAlike_164 (by decide) ?_
                        refine lv_goto (tgt := 169) hx hb dL_areAlike_165 (by decide) ?_
                        refine lv_istore_n (lv' := [(2, .int 1), (0, .ref x), (1, .ref y)]) hx hb dL_areAlike_169 rfl hl (by decide) rfl (fun ls hl => ?_)
                        refine lv_iconst (v := 0) hx hb dL_areAlike_170 (by decide) ?_
                        refine lv_istore_n (lv' := [(3, .int 0), (2, .int 1), (0, .ref x), (1, .ref y)]) hx hb dL_areAlike_171 rfl hl (by decide) rfl (fun ls hl => ?_)
                        refine W.widen (k := 2) (n := 12) (Nat.le_of_ble_eq_true rfl) (Nat.le_of_ble_eq_true rfl) ?_
                        obtain ⟨n9, hw⟩ := hw
                        exact L172 () n9 1 0 w88 w89 H locs ls hP hD hS (lv_sub hl [2, 3, 1, 0] rfl) hw
  unfold pL_areAlike at hw
  refine lv_aload_n hx hb dL_areAlike_0 rfl (lv_at hl 0 rfl) ?_
  refine gVi (As := []) (rest := []) (cs' := wX kI kC kG x ag at_ as_ hh hst a0 a1 a2 a3 tx tch u) ⟨hx, hb, hml, hown, hts⟩ (kX5_rule l D kI kC kG kJ x ag at_ as_ hh hst a0 a1 a2 a3 tx tch u _ hw) (cwV 0 hts gL_areAlike_X5_rule rfl rfl rfl hdX5_rule ⟨Nat.le_of_ble_eq_true rfl, Nat.le_of_ble_eq_true rfl⟩) hK hP hE hS [0, 1, 2, 3, 4, 5, 6, 7, 8, 9, 10, 11, 12, 13, 14, 15, 16, 17, 18, 19, 20, 21, 22, 23, 24, 25, 26, 27, 28, 29, 30, 31, 32] rfl (ci := 4) (q0 := 0) rfl rfl rfl rfl hl.1 rfl (Nat.le_of_ble_eq_true rfl) dL_areAlike_1 ⟨Nat.le_of_ble_eq_true rfl, Nat.le_of_ble_eq_true rfl⟩ (fun r1 hw => ?_)
  refine lv_aload_n hx hb dL_areAlike_4 rfl (lv_at hl 1 rfl) ?_
  refine gVi (As := []) (rest := [.int r1]) (cs' := wX kI kC kG y bg bt_ bs_ yh yst b0 b1 b2 b3 tyy tych ub) ⟨hx, hb, hml, hown, hts⟩ (kX5_rule l D kI kC kG kJ y bg bt_ bs_ yh yst b0 b1 b2 b3 tyy tych ub _ hw) (cwV 0 hts gL_areAlike_X5_rule rfl rfl rfl hdX5_rule ⟨Nat.le_of_ble_eq_true rfl, Nat.le_of_ble_eq_true rfl⟩) hK hP hE hS [33, 34, 35, 36, 37, 38, 39, 40, 41, 42, 43, 44, 45, 46, 47, 48, 49, 50, 51, 52, 53, 54, 55, 56, 57, 58, 59, 60, 61, 62, 63, 64, 65] rfl (ci := 4) (q0 := 0) rfl rfl rfl rfl hl.1 rfl (Nat.le_of_ble_eq_true rfl) dL_areAlike_5 ⟨Nat.le_of_ble_eq_true rfl, Nat.le_of_ble_eq_true rfl⟩ (fun r2 hw => ?_)
  refine lv_icmp_ne (tgt := 168) hx hb dL_areAlike_8 (by decide) (fun c3 => ?_) (fun c3 => ?_)
  · replace hw := Eq.mp (if_neg c3) hw
    refine lv_iconst (v := 0) hx hb dL_areAlike_168 (by decide) ?_
    refine lv_istore_n (lv' := [(2, .int 0), (0, .ref x), (1, .ref y)]) hx hb dL_areAlike_169 rfl hl (by decide) rfl (fun ls hl => ?_)
    refine lv_iconst (v := 0) hx hb dL_areAlike_170 (by decide) ?_
    refine lv_istore_n (lv' := [(3, .int 0), (2, .int 0), (0, .ref x), (1, .ref y)]) hx hb dL_areAlike_171 rfl hl (by decide) rfl (fun ls hl => ?_)
    refine W.widen (k := 2) (n := 12) (Nat.le_of_ble_eq_true rfl) (Nat.le_of_ble_eq_true rfl) ?_
    obtain ⟨n9, hw⟩ := hw
    exact L172 () n9 0 0 u ub s.heap [] ls hP hD hS (lv_sub hl [2, 3, 1, 0] rfl) hw
  · replace hw := Eq.mp (if_pos c3) hw
    refine lv_aload_n hx hb dL_areAlike_11 rfl (lv_at hl 0 rfl) ?_
    refine gVi (As := []) (rest := []) (cs' := wX kI kC kG x ag at_ as_ hh hst a0 a1 a2 a3 tx tch u) ⟨hx, hb, hml, hown, hts⟩ (kX5_placed l D kI kC kG kJ x ag at_ as_ hh hst a0 a1 a2 a3 tx tch u _ hw) (cwV 0 hts gL_areAlike_X5_placed rfl rfl rfl hdX5_placed ⟨Nat.le_of_ble_eq_true rfl, Nat.le_of_ble_eq_true rfl⟩) hK hP hE hS [0, 1, 2, 3, 4, 5, 6, 7, 8, 9, 10, 11, 12, 13, 14, 15, 16, 17, 18, 19, 20, 21, 22, 23, 24, 25, 26, 27, 28, 29, 30, 31, 32] rfl (ci := 4) (q0 := 0) rfl rfl rfl rfl hl.1 rfl (Nat.le_of_ble_eq_true rfl) dL_areAlike_12 ⟨Nat.le_of_ble_eq_true rfl, Nat.le_of_ble_eq_true rfl⟩ (fun r52 hw => ?_)
    refine lv_aload_n hx hb dL_areAlike_15 rfl (lv_at hl 1 rfl) ?_
    refine gVi (As := []) (rest := [.int r52]) (cs' := wX kI kC kG y bg bt_ bs_ yh yst b0 b1 b2 b3 tyy tych ub) ⟨hx, hb, hml, hown, hts⟩ (kX5_placed l D kI kC kG kJ y bg bt_ bs_ yh yst b0 b1 b2 b3 tyy tych ub _ hw) (cwV 0 hts gL_areAlike_X5_placed rfl rfl rfl hdX5_placed ⟨Nat.le_of_ble_eq_true rfl, Nat.le_of_ble_eq_true rfl⟩) hK hP hE hS [33, 34, 35, 36, 37, 38, 39, 40, 41, 42, 43, 44, 45, 46, 47, 48, 49, 50, 51, 52, 53, 54, 55, 56, 57, 58, 59, 60, 61, 62, 63, 64, 65] rfl (ci := 4) (q0 := 0) rfl rfl rfl rfl hl.1 rfl (Nat.le_of_ble_eq_true rfl) dL_areAlike_16 ⟨Nat.le_of_ble_eq_true rfl, Nat.le_of_ble_eq_true rfl⟩ (fun r53 hw => ?_)
    refine lv_icmp_ne (tgt := 168) hx hb dL_areAlike_19 (by decide) (fun c54 => ?_) (fun c54 => ?_)
    · replace hw := Eq.mp (if_neg c54) hw
      refine lv_iconst (v := 0) hx hb dL_areAlike_168 (by decide) ?_
      refine lv_istore_n (lv' := [(2, .int 0), (0, .ref x), (1, .ref y)]) hx hb dL_areAlike_169 rfl hl (by decide) rfl (fun ls hl => ?_)
      refine lv_iconst (v := 0) hx hb dL_areAlike_170 (by decide) ?_
      refine lv_istore_n (lv' := [(3, .int 0), (2, .int 0), (0, .ref x), (1, .ref y)]) hx hb dL_areAlike_171 rfl hl (by decide) rfl (fun ls hl => ?_)
      refine W.widen (k := 2) (n := 12) (Nat.le_of_ble_eq_true rfl) (Nat.le_of_ble_eq_true rfl) ?_
      obtain ⟨n9, hw⟩ := hw
      exact L172 () n9 0 0 u ub s.heap [] ls hP hD hS (lv_sub hl [2, 3, 1, 0] rfl) hw
    · replace hw := Eq.mp (if_pos c54) hw
      refine lv_aload_n hx hb dL_areAlike_22 rfl (lv_at hl 0 rfl) ?_
      refine gVi (As := []) (rest := []) (cs' := wX kI kC kG x ag at_ as_ hh hst a0 a1 a2 a3 tx tch u) ⟨hx, hb, hml, hown, hts⟩ (kX5_gift l D kI kC kG kJ x ag at_ as_ hh hst a0 a1 a2 a3 tx tch u _ hw) (cwV 0 hts gL_areAlike_X5_gift rfl rfl rfl hdX5_gift ⟨Nat.le_of_ble_eq_true rfl, Nat.le_of_ble_eq_true rfl⟩) hK hP hE hS [0, 1, 2, 3, 4, 5, 6, 7, 8, 9, 10, 11, 12, 13, 14, 15, 16, 17, 18, 19, 20, 21, 22, 23, 24, 25, 26, 27, 28, 29, 30, 31, 32] rfl (ci := 4) (q0 := 0) rfl rfl rfl rfl hl.1 rfl (Nat.le_of_ble_eq_true rfl) dL_areAlike_23 ⟨Nat.le_of_ble_eq_true rfl, Nat.le_of_ble_eq_true rfl⟩ (fun r55 hw => ?_)
      refine lv_aload_n hx hb dL_areAlike_26 rfl (lv_at hl 1 rfl) ?_
      refine gVi (As := []) (rest := [.int r55]) (cs' := wX kI kC kG y bg bt_ bs_ yh yst b0 b1 b2 b3 tyy tych ub) ⟨hx, hb, hml, hown, hts⟩ (kX5_gift l D kI kC kG kJ y bg bt_ bs_ yh yst b0 b1 b2 b3 tyy tych ub _ hw) (cwV 0 hts gL_areAlike_X5_gift rfl rfl rfl hdX5_gift ⟨Nat.le_of_ble_eq_true rfl, Nat.le_of_ble_eq_true rfl⟩) hK hP hE hS [33, 34, 35, 36, 37, 38, 39, 40, 41, 42, 43, 44, 45, 46, 47, 48, 49, 50, 51, 52, 53, 54, 55, 56, 57, 58, 59, 60, 61, 62, 63, 64, 65] rfl (ci := 4) (q0 := 0) rfl rfl rfl rfl hl.1 rfl (Nat.le_of_ble_eq_true rfl) dL_areAlike_27 ⟨Nat.le_of_ble_eq_true rfl, Nat.le_of_ble_eq_true rfl⟩ (fun r56 hw => ?_)
      refine lv_if_ge (tgt := 37) hx hb dL_areAlike_30 (by decide) (fun c57 => ?_) (fun c57 => ?_)
      · replace hw := Eq.mp (if_pos c57) hw
        refine lv_bipush (v := 15) hx hb dL_areAlike_37 (by decide) ?_
        refine lv_aload_n hx hb dL_areAlike_39 rfl (lv_at hl 1 rfl) ?_
        refine gVi (As := []) (rest := [.int 15, .int r55]) (cs' := wX kI kC kG y bg bt_ bs_ yh yst b0 b1 b2 b3 tyy tych ub) ⟨hx, hb, hml, hown, hts⟩ (kX5_gift l D kI kC kG kJ y bg bt_ bs_ yh yst b0 b1 b2 b3 tyy tych ub _ hw) (cwV 0 hts gL_areAlike_X5_gift rfl rfl rfl hdX5_gift ⟨Nat.le_of_ble_eq_true rfl, Nat.le_of_ble_eq_true rfl⟩) hK hP hE hS [33, 34, 35, 36, 37, 38, 39, 40, 41, 42, 43, 44, 45, 46, 47, 48, 49, 50, 51, 52, 53, 54, 55, 56, 57, 58, 59, 60, 61, 62, 63, 64, 65] rfl (ci := 4) (q0 := 0) rfl rfl rfl rfl hl.1 rfl (Nat.le_of_ble_eq_true rfl) dL_areAlike_40 ⟨Nat.le_of_ble_eq_true rfl, Nat.le_of_ble_eq_true rfl⟩ (fun r58 hw => ?_)
        refine lv_isub hx hb dL_areAlike_43 ?_
        refine lv_icmp_ne (tgt := 168) hx hb dL_areAlike_44 (by decide) (fun c59 => ?_) (fun c59 => ?_)
        · replace hw := Eq.mp (if_neg c59) hw
          refine lv_iconst (v := 0) hx hb dL_areAlike_168 (by decide) ?_
          refine lv_istore_n (lv' := [(2, .int 0), (0, .ref x), (1, .ref y)]) hx hb dL_areAlike_169 rfl hl (by decide) rfl (fun ls hl => ?_)
          refine lv_iconst (v := 0) hx hb dL_areAlike_170 (by decide) ?_
          refine lv_istore_n (lv' := [(3, .int 0), (2, .int 0), (0, .ref x), (1, .ref y)]) hx hb dL_areAlike_171 rfl hl (by decide) rfl (fun ls hl => ?_)
          refine W.widen (k := 2) (n := 12) (Nat.le_of_ble_eq_true rfl) (Nat.le_of_ble_eq_true rfl) ?_
          obtain ⟨n9, hw⟩ := hw
          exact L172 () n9 0 0 u ub s.heap [] ls hP hD hS (lv_sub hl [2, 3, 1, 0] rfl) hw
        · replace hw := Eq.mp (if_pos c59) hw
          obtain ⟨n9, hw⟩ := hw
          exact L47 () n9 u ub s.heap [] ls hP hD hS (lv_sub hl [0, 1] rfl) hw
      · replace hw := Eq.mp (if_neg c57) hw
        refine lv_iconst (v := (-1)) hx hb dL_areAlike_33 (by decide) ?_
        refine lv_goto (tgt := 44) hx hb dL_areAlike_34 (by decide) ?_
        refine lv_icmp_ne (tgt := 168) hx hb dL_areAlike_44 (by decide) (fun c91 => ?_) (fun c91 => ?_)
        · replace hw := Eq.mp (if_neg c91) hw
          refine lv_iconst (v := 0) hx hb dL_areAlike_168 (by decide) ?_
          refine lv_istore_n (lv' := [(2, .int 0), (0, .ref x), (1, .ref y)]) hx hb dL_areAlike_169 rfl hl (by decide) rfl (fun ls hl => ?_)
          refine lv_iconst (v := 0) hx hb dL_areAlike_170 (by decide) ?_
          refine lv_istore_n (lv' := [(3, .int 0), (2, .int 0), (0, .ref x), (1, .ref y)]) hx hb dL_areAlike_171 rfl hl (by decide) rfl (fun ls hl => ?_)
          refine W.widen (k := 2) (n := 12) (Nat.le_of_ble_eq_true rfl) (Nat.le_of_ble_eq_true rfl) ?_
          obtain ⟨n9, hw⟩ := hw
          exact L172 () n9 0 0 u ub s.heap [] ls hP hD hS (lv_sub hl [2, 3, 1, 0] rfl) hw
        · replace hw := Eq.mp (if_pos c91) hw
          obtain ⟨n9, hw⟩ := hw
          exact L47 () n9 u ub s.heap [] ls hP hD hS (lv_sub hl [0, 1] rfl) hw
