set_option maxHeartbeats 4000000 in
set_option maxRecDepth 100000 in
theorem kX0_copyFrom (l : Launch) (D : va_G) (kI kC kG kJ : ClassId) (t_b t_pr : Nat) (o0_b o0_pr : Nat) (sz : Nat) (u : SB) (w0 : SB) (Z : SB × SB → Prop) (hw : pX0_copyFrom u w0 Z) : Met l yX0_copyFrom wsX0_copyFrom ({ frames := 0, cells := 0, slots := 0, locals := 0 } : Room) (gPw D (gT kI kC kG kJ) [.ref t_b, .ref o0_b] (wB kI t_b t_pr u ++ wB kI o0_b o0_pr w0) sz) (va_Qv Z (gB D (gT kI kC kG kJ) (fun (zz : SB × SB) => wB kI t_b t_pr zz.1 ++ wB kI o0_b o0_pr zz.2) (va_A (wB kI t_b t_pr u ++ wB kI o0_b o0_pr w0) sz)) (va_A (wB kI t_b t_pr u ++ wB kI o0_b o0_pr w0) sz)) 0 0 (va_A (wB kI t_b t_pr u ++ wB kI o0_b o0_pr w0) sz) := by
  refine Met.ofW (cc := cX0_copyFrom) (maxL := 3) (ret := none) (by decide) rfl ?_
  intro p e s m args below meth c s₁ B hml hv
  obtain ⟨rfl, hsz, hP, hK, hD0, hE⟩ := hv
  have hx := B.exec
  have hb := B.bytes
  have hr := B.returns
  have hts := atoms_spec (ws := wsX0_copyFrom) B.pre
  have hown : s.vm.findClass RX0 = some m.cls := findClass_of_methodNamed B.named
  have hlocks := B.notSynchronized
  subst hsz
  have hD := hD0.self (sz := s.heap.size)
  generalize hAe : va_A (wB kI t_b t_pr u ++ wB kI o0_b o0_pr w0) s.heap.size = A at hD hE ⊢
  have hA : ∀ q : Nat, s.heap.size ≤ q → A q := fun q h => by rw [← hAe]; exact Or.inr h
  have hS : va_S A s.heap s.heap [] := va_S.rf
  clear hAe hD0
  have hl := lv_entry ([.ref t_b, .ref o0_b]) (n := 3) (Nat.le_of_ble_eq_true rfl)
  rw [lg_entry_eq]
  generalize (lg_sl ([.ref t_b, .ref o0_b]) ++ List.replicate (3 - (lg_sl ([.ref t_b, .ref o0_b])).length) Slot.unset).toArray = ls at hl ⊢
  have hl : lv_has ls 3 [(0, .ref t_b), (1, .ref o0_b)] := hl
  have hP : va_P D vwCl (wB kI t_b t_pr u ++ wB kI o0_b o0_pr w0) s.heap := hP
  have L26 : ∀ (w0 : SB), ∀ (n : Nat), ∀ (v2 : Int32) (u : SB) (H : Heap) (locs : List Loc) (ls : Array Slot), va_P D vwCl (wB kI t_b t_pr u ++ wB kI o0_b o0_pr w0) H → va_D A (wB kI t_b t_pr u ++ wB kI o0_b o0_pr w0) → va_S A s.heap H locs → lv_has ls 3 [(0, .ref t_b), (1, .ref o0_b), (2, .int v2)] → pX0_copyFrom_26 Z w0 n v2 u → W p l e (headSpec wsX0_copyFrom ({ frames := 0, cells := 0, slots := 0, locals := 0 } : Room)).room s m ([.ref t_b, .ref o0_b] : List Value).toArray below meth c H locs 0 0 (MQ below (va_Qv Z (gB D (gT kI kC kG kJ) (fun (zz : SB × SB) => wB kI t_b t_pr zz.1 ++ wB kI o0_b o0_pr zz.2) A) A) ([.ref t_b, .ref o0_b] : List Value).toArray s 0 0 A) (F0 m 26 ls []) := by
    intro w0 n
    induction n with
    | zero => intro v2 u H locs ls hP hD hS hl hw; exact hw.elim
    | succ n ih =>
    intro v2 u H locs ls hP hD hS hl hw
    rw [pX0_copyFrom_26] at hw
    refine lv_iload_n hx hb dX0_copyFrom_26 rfl (lv_at hl 2 rfl) ?_
    refine lv_aload_n hx hb dX0_copyFrom_27 rfl (lv_at hl 0 rfl) ?_
    refine va_get (D := D) (ci := 0) (v := .ref t_pr) (C := RX0) (T := TX0) (N := 4) hx hb hts (fun _ h => List.mem_cons_of_mem _ (List.mem_append_right _ h)) hown hK hP 0 rfl rfl 3 (by decide) (hts (.fieldLink RX0 21 "HazelGift$Board" "present" "[I") (List.mem_of_getElem? (i := 4) rfl)) (fun _ h9 => h9) rfl dX0_copyFrom_28 ?_
    refine va_alen (v := 4) hx hb hK hP 1 0 rfl rfl rfl dX0_copyFrom_31 ?_
    refine lv_icmp_ge (tgt := 62) hx hb dX0_copyFrom_32 (by decide) (fun c1 => ?_) (fun c1 => ?_)
    · replace hw := Eq.mp (if_pos c1) hw
      exact W.vret hx hb hr (fun t ht hW => ⟨⟨(u, w0), rfl, hw, by rw [ht]; exact hP, va_K.moved hW.alike hK, hD⟩, hS.F ht⟩) hS.2.2 dX0_copyFrom_62
    · replace hw := Eq.mp (if_neg c1) hw
      refine lv_iload_n hx hb dX0_copyFrom_35 rfl (lv_at hl 2 rfl) ?_
      refine lv_aload_n hx hb dX0_copyFrom_36 rfl (lv_at hl 1 rfl) ?_
      refine va_get (D := D) (ci := 0) (v := .ref o0_pr) (C := RX0) (T := TX0) (N := 4) hx hb hts (fun _ h => List.mem_cons_of_mem _ (List.mem_append_right _ h)) hown hK hP 2 rfl rfl 3 (by decide) (hts (.fieldLink RX0 21 "HazelGift$Board" "present" "[I") (List.mem_of_getElem? (i := 4) rfl)) (fun _ h9 => h9) rfl dX0_copyFrom_37 ?_
      refine va_alen (v := 4) hx hb hK hP 3 0 rfl rfl rfl dX0_copyFrom_40 ?_
      refine lv_icmp_ge (tgt := 62) hx hb dX0_copyFrom_41 (by decide) (fun c2 => ?_) (fun c2 => ?_)
      · replace hw := Eq.mp (if_pos c2) hw
        exact W.vret hx hb hr (fun t ht hW => ⟨⟨(u, w0), rfl, hw, by rw [ht]; exact hP, va_K.moved hW.alike hK, hD⟩, hS.F ht⟩) hS.2.2 dX0_copyFrom_62
      · replace hw := Eq.mp (if_neg c2) hw
        refine lv_aload_n hx hb dX0_copyFrom_44 rfl (lv_at hl 0 rfl) ?_
        refine va_get (D := D) (ci := 0) (v := .ref t_pr) (C := RX0) (T := TX0) (N := 4) hx hb hts (fun _ h => List.mem_cons_of_mem _ (List.mem_append_right _ h)) hown hK hP 0 rfl rfl 3 (by decide) (hts (.fieldLink RX0 21 "HazelGift$Board" "present" "[I") (List.mem_of_getElem? (i := 4) rfl)) (fun _ h9 => h9) rfl dX0_copyFrom_45 ?_
        refine lv_iload_n hx hb dX0_copyFrom_48 rfl (lv_at hl 2 rfl) ?_
        refine lv_aload_n hx hb dX0_copyFrom_49 rfl (lv_at hl 1 rfl) ?_
        refine va_get (D := D) (ci := 0) (v := .ref o0_pr) (C := RX0) (T := TX0) (N := 4) hx hb hts (fun _ h => List.mem_cons_of_mem _ (List.mem_append_right _ h)) hown hK hP 2 rfl rfl 3 (by decide) (hts (.fieldLink RX0 21 "HazelGift$Board" "present" "[I") (List.mem_of_getElem? (i := 4) rfl)) (fun _ h9 => h9) rfl dX0_copyFrom_50 ?_
        refine lv_iload_n hx hb dX0_copyFrom_53 rfl (lv_at hl 2 rfl) ?_
        obtain ⟨hi3, hw⟩ := hw
        refine gIald (k := (v2).toNatClampNeg) hx hb hK hP 3 0 rfl rfl hi3 rfl dX0_copyFrom_54 ?_
        refine lv_topi (fun x4 ex4 => ?_)
        replace hw := hw x4 ex4
        obtain ⟨hi5, hw⟩ := hw
        refine gIast (k := (v2).toNatClampNeg) hx hb hK hP hD hS 1 0 rfl rfl hi5 rfl dX0_copyFrom_55 (fun H locs hP hD hS => ?_)
        have hP : va_P D vwCl (wB kI t_b t_pr (u.1, u.2.1, u.2.2.1, (upd u.2.2.2 (v2).toNatClampNeg x4)) ++ wB kI o0_b o0_pr w0) H := hP
        have hD : va_D A (wB kI t_b t_pr (u.1, u.2.1, u.2.2.1, (upd u.2.2.2 (v2).toNatClampNeg x4)) ++ wB kI o0_b o0_pr w0) := hD
        obtain ⟨x6, ex6⟩ : ∃ y : Int32, y = (v2 + 1) := ⟨_, rfl⟩
        replace hw := hw x6 ex6
        refine lv_iinc (v := x6) (lv' := [(2, .int x6), (0, .ref t_b), (1, .ref o0_b)]) hx hb dX0_copyFrom_56 hl (k := 2) rfl (by rw [ex6]; rfl) (by decide) rfl (fun ls hl => ?_)
        refine lv_goto (tgt := 26) hx hb dX0_copyFrom_59 (by decide) ?_
        exact ih x6 (u.1, u.2.1, u.2.2.1, (upd u.2.2.2 (v2).toNatClampNeg x4)) H locs ls hP hD hS (lv_sub hl [1, 2, 0] rfl) hw
  unfold pX0_copyFrom at hw
  refine lv_aload_n hx hb dX0_copyFrom_0 rfl (lv_at hl 0 rfl) ?_
  refine lv_aload_n hx hb dX0_copyFrom_1 rfl (lv_at hl 1 rfl) ?_
  refine va_get (D := D) (ci := 0) (v := .int w0.1) (C := RX0) (T := TX0) (N := 4) hx hb hts (fun _ h => List.mem_cons_of_mem _ (List.mem_append_right _ h)) hown hK hP 2 rfl rfl 0 (by decide) (hts (.fieldLink RX0 9 "HazelGift$Board" "rule" "I") (List.mem_of_getElem? (i := 1) rfl)) (fun _ h9 => h9) rfl dX0_copyFrom_2 ?_
  refine va_put (D := D) (ci := 0) (v := .int w0.1) (ty := tyX0 0) (C := RX0) (T := TX0) (N := 4) hx hb hts (fun _ h => List.mem_cons_of_mem _ (List.mem_append_right _ h)) tyX0 tyX0_ok nmX0 hown hK hP hD hS 0 rfl rfl 0 (by decide) (hts (.fieldLink RX0 9 "HazelGift$Board" "rule" "I") (List.mem_of_getElem? (i := 1) rfl)) (fun _ h9 => h9) rfl (tyX0_ok 0 (by decide)) rfl rfl (Nat.le_of_ble_eq_true rfl) dX0_copyFrom_5 (fun H locs hP hD hS => ?_)
  have hP : va_P D vwCl (wB kI t_b t_pr (w0.1, u.2.1, u.2.2.1, u.2.2.2) ++ wB kI o0_b o0_pr w0) H := hP
  have hD : va_D A (wB kI t_b t_pr (w0.1, u.2.1, u.2.2.1, u.2.2.2) ++ wB kI o0_b o0_pr w0) := hD
  refine lv_aload_n hx hb dX0_copyFrom_8 rfl (lv_at hl 0 rfl) ?_
  refine lv_aload_n hx hb dX0_copyFrom_9 rfl (lv_at hl 1 rfl) ?_
  refine va_get (D := D) (ci := 0) (v := .int w0.2.1) (C := RX0) (T := TX0) (N := 4) hx hb hts (fun _ h => List.mem_cons_of_mem _ (List.mem_append_right _ h)) hown hK hP 2 rfl rfl 1 (by decide) (hts (.fieldLink RX0 15 "HazelGift$Board" "filled" "I") (List.mem_of_getElem? (i := 2) rfl)) (fun _ h9 => h9) rfl dX0_copyFrom_10 ?_
  refine va_put (D := D) (ci := 0) (v := .int w0.2.1) (ty := tyX0 1) (C := RX0) (T := TX0) (N := 4) hx hb hts (fun _ h => List.mem_cons_of_mem _ (List.mem_append_right _ h)) tyX0 tyX0_ok nmX0 hown hK hP hD hS 0 rfl rfl 1 (by decide) (hts (.fieldLink RX0 15 "HazelGift$Board" "filled" "I") (List.mem_of_getElem? (i := 2) rfl)) (fun _ h9 => h9) rfl (tyX0_ok 1 (by decide)) rfl rfl (Nat.le_of_ble_eq_true rfl) dX0_copyFrom_13 (fun H locs hP hD hS => ?_)
  have hP : va_P D vwCl (wB kI t_b t_pr (w0.1, w0.2.1, u.2.2.1, u.2.2.2) ++ wB kI o0_b o0_pr w0) H := hP
  have hD : va_D A (wB kI t_b t_pr (w0.1, w0.2.1, u.2.2.1, u.2.2.2) ++ wB kI o0_b o0_pr w0) := hD
  refine lv_aload_n hx hb dX0_copyFrom_16 rfl (lv_at hl 0 rfl) ?_
  refine lv_aload_n hx hb dX0_copyFrom_17 rfl (lv_at hl 1 rfl) ?_
  refine va_get (D := D) (ci := 0) (v := .int w0.2.2.1) (C := RX0) (T := TX0) (N := 4) hx hb hts (fun _ h => List.mem_cons_of_mem _ (List.mem_append_right _ h)) hown hK hP 2 rfl rfl 2 (by decide) (hts (.fieldLink RX0 18 "HazelGift$Board" "pieces" "I") (List.mem_of_getElem? (i := 3) rfl)) (fun _ h9 => h9) rfl dX0_copyFrom_18 ?_
  refine va_put (D := D) (ci := 0) (v := .int w0.2.2.1) (ty := tyX0 2) (C := RX0) (T := TX0) (N := 4) hx hb hts (fun _ h => List.mem_cons_of_mem _ (List.mem_append_right _ h)) tyX0 tyX0_ok nmX0 hown hK hP hD hS 0 rfl rfl 2 (by decide) (hts (.fieldLink RX0 18 "HazelGift$Board" "pieces" "I") (List.mem_of_getElem? (i := 3) rfl)) (fun _ h9 => h9) rfl (tyX0_ok 2 (by decide)) rfl rfl (Nat.le_of_ble_eq_true rfl) dX0_copyFrom_21 (fun H locs hP hD hS => ?_)
  have hP : va_P D vwCl (wB kI t_b t_pr (w0.1, w0.2.1, w0.2.2.1, u.2.2.2) ++ wB kI o0_b o0_pr w0) H := hP
  have hD : va_D A (wB kI t_b t_pr (w0.1, w0.2.1, w0.2.2.1, u.2.2.2) ++ wB kI o0_b o0_pr w0) := hD
  refine lv_iconst (v := 0) hx hb dX0_copyFrom_24 (by decide) ?_
  refine lv_istore_n (lv' := [(2, .int 0), (0, .ref t_b), (1, .ref o0_b)]) hx hb dX0_copyFrom_25 rfl hl (by decide) rfl (fun ls hl => ?_)
  obtain ⟨n9, hw⟩ := hw
  exact L26 w0 n9 0 (w0.1, w0.2.1, w0.2.2.1, u.2.2.2) H locs ls hP hD hS (lv_sub hl [1, 2, 0] rfl) hw
set_option maxHeartbeats 4000000 in
set_option maxRecDepth 100000 in
theorem kX2_board (l : Launch) (D : va_G) (kI kC kG kJ : ClassId) (t_a : AG) (u : SG) : Met l yX2_board wsX2_board ({ frames := 0, cells := 0, slots := 0, locals := 0 } : Room) (gPr D (gT kI kC kG kJ) [.ref t_a.1] (wG kI t_a u)) (k2_QcV (.ref t_a.2.1)) 0 0 (fun _ => False) := by
  refine Met.ofW (cc := cX2_board) (maxL := 1) (ret := (some (.object "HazelGift$Board"))) (by decide) rfl ?_
  intro p e s m args below meth c s₁ B hml hv
  obtain ⟨rfl, hP, hK, hE⟩ := hv
  have hx := B.exec
  have hb := B.bytes
  have hr := B.returns
  have hts := atoms_spec (ws := wsX2_board) B.pre
  have hown : s.vm.findClass RX2 = some m.cls := findClass_of_methodNamed B.named
  have hlocks := B.notSynchronized
  have hS : va_S (fun _ => False) s.heap s.heap [] := va_S.rf
  have hl := lv_entry ([.ref t_a.1]) (n := 1) (Nat.le_of_ble_eq_true rfl)
  rw [lg_entry_eq]
  generalize (lg_sl ([.ref t_a.1]) ++ List.replicate (1 - (lg_sl ([.ref t_a.1])).length) Slot.unset).toArray = ls at hl ⊢
  have hl : lv_has ls 1 [(0, .ref t_a.1)] := hl
  refine lv_aload_n hx hb dX2_board_0 rfl (lv_at hl 0 rfl) ?_
  refine va_get (D := D) (ci := 1) (v := .ref t_a.2.1) (C := RX2) (T := TX2) (N := 4) hx hb hts (fun _ h => List.mem_cons_of_mem _ (List.mem_append_right _ h)) hown hK hP 0 rfl rfl 0 (by decide) (hts (.fieldLink RX2 12 "HazelGift$Game" "board" "LHazelGift$Board;") (List.mem_of_getElem? (i := 1) rfl)) (fun _ h9 => h9) rfl dX2_board_1 ?_
  exact W.aret (v := .ref t_a.2.1) hx hb hr (Or.inl ⟨_, rfl⟩) (Or.inr ⟨_, rfl⟩) (fun t ht hW => ⟨rfl, ht⟩) (fun _ h => by cases h) dX2_board_4
set_option maxHeartbeats 4000000 in
set_option maxRecDepth 100000 in
theorem kX2_pending (l : Launch) (D : va_G) (kI kC kG kJ : ClassId) (t_a : AG) (u : SG) (Z : Int32 → Prop) (hw : pX2_pending u Z) : Met l yX2_pending wsX2_pending ({ frames := 0, cells := 0, slots := 0, locals := 0 } : Room) (gPr D (gT kI kC kG kJ) [.ref t_a.1] (wG kI t_a u)) (vp_Si Z) 0 0 (fun _ => False) := by
  refine Met.ofW (cc := cX2_pending) (maxL := 1) (ret := (some .int)) (by decide) rfl ?_
  intro p e s m args below meth c s₁ B hml hv
  obtain ⟨rfl, hP, hK, hE⟩ := hv
  have hx := B.exec
  have hb := B.bytes
  have hr := B.returns
  have hts := atoms_spec (ws := wsX2_pending) B.pre
  have hown : s.vm.findClass RX2 = some m.cls := findClass_of_methodNamed B.named
  have hlocks := B.notSynchronized
  have hS : va_S (fun _ => False) s.heap s.heap [] := va_S.rf
  have hl := lv_entry ([.ref t_a.1]) (n := 1) (Nat.le_of_ble_eq_true rfl)
  rw [lg_entry_eq]
  generalize (lg_sl ([.ref t_a.1]) ++ List.replicate (1 - (lg_sl ([.ref t_a.1])).length) Slot.unset).toArray = ls at hl ⊢
  have hl : lv_has ls 1 [(0, .ref t_a.1)] := hl
  unfold pX2_pending at hw
  refine lv_aload_n hx hb dX2_pending_0 rfl (lv_at hl 0 rfl) ?_
  refine va_get (D := D) (ci := 1) (v := .int u.1) (C := RX2) (T := TX2) (N := 4) hx hb hts (fun _ h => List.mem_cons_of_mem _ (List.mem_append_right _ h)) hown hK hP 0 rfl rfl 1 (by decide) (hts (.fieldLink RX2 18 "HazelGift$Game" "gift" "I") (List.mem_of_getElem? (i := 1) rfl)) (fun _ h9 => h9) rfl dX2_pending_1 ?_
  exact W.iret (v := u.1) hx hb hr (fun t ht hW => ⟨_, rfl, hw, ht⟩) (fun _ h => by cases h) dX2_pending_4
set_option maxHeartbeats 4000000 in
set_option maxRecDepth 100000 in
theorem kX2_victor (l : Launch) (D : va_G) (kI kC kG kJ : ClassId) (t_a : AG) (u : SG) (Z : Int32 → Prop) (hw : pX2_victor u Z) : Met l yX2_victor wsX2_victor ({ frames := 0, cells := 0, slots := 0, locals := 0 } : Room) (gPr D (gT kI kC kG kJ) [.ref t_a.1] (wG kI t_a u)) (vp_Si Z) 0 0 (fun _ => False) := by
  refine Met.ofW (cc := cX2_victor) (maxL := 1) (ret := (some .int)) (by decide) rfl ?_
  intro p e s m args below meth c s₁ B hml hv
  obtain ⟨rfl, hP, hK, hE⟩ := hv
  have hx := B.exec
  have hb := B.bytes
  have hr := B.returns
  have hts := atoms_spec (ws := wsX2_victor) B.pre
  have hown : s.vm.findClass RX2 = some m.cls := findClass_of_methodNamed B.named
  have hlocks := B.notSynchronized
  have hS : va_S (fun _ => False) s.heap s.heap [] := va_S.rf
  have hl := lv_entry ([.ref t_a.1]) (n := 1) (Nat.le_of_ble_eq_true rfl)
  rw [lg_entry_eq]
  generalize (lg_sl ([.ref t_a.1]) ++ List.replicate (1 - (lg_sl ([.ref t_a.1])).length) Slot.unset).toArray = ls at hl ⊢
  have hl : lv_has ls 1 [(0, .ref t_a.1)] := hl
  unfold pX2_victor at hw
  refine lv_aload_n hx hb dX2_victor_0 rfl (lv_at hl 0 rfl) ?_
  refine va_get (D := D) (ci := 1) (v := .int u.2.1) (C := RX2) (T := TX2) (N := 4) hx hb hts (fun _ h => List.mem_cons_of_mem _ (List.mem_append_right _ h)) hown hK hP 0 rfl rfl 2 (by decide) (hts (.fieldLink RX2 22 "HazelGift$Game" "winner" "I") (List.mem_of_getElem? (i := 1) rfl)) (fun _ h9 => h9) rfl dX2_victor_1 ?_
  exact W.iret (v := u.2.1) hx hb hr (fun t ht hW => ⟨_, rfl, hw, ht⟩) (fun _ h => by cases h) dX2_victor_4
set_option maxHeartbeats 4000000 in
set_option maxRecDepth 100000 in
theorem kX2_victoriesOf (l : Launch) (D : va_G) (kI kC kG kJ : ClassId) (t_a : AG) (u : SG) (p0 : Int32) (Z : Int32 → Prop) (hw : pX2_victoriesOf p0 u Z) : Met l yX2_victoriesOf wsX2_victoriesOf ({ frames := 0, cells := 0, slots := 0, locals := 0 } : Room) (gPr D (gT kI kC kG kJ) [.ref t_a.1, .int p0] (wG kI t_a u)) (vp_Si Z) 0 0 (fun _ => False) := by
  refine Met.ofW (cc := cX2_victoriesOf) (maxL := 2) (ret := (some .int)) (by decide) rfl ?_
  intro p e s m args below meth c s₁ B hml hv
  obtain ⟨rfl, hP, hK, hE⟩ := hv
  have hx := B.exec
  have hb := B.bytes
  have hr := B.returns
  have hts := atoms_spec (ws := wsX2_victoriesOf) B.pre
  have hown : s.vm.findClass RX2 = some m.cls := findClass_of_methodNamed B.named
  have hlocks := B.notSynchronized
  have hS : va_S (fun _ => False) s.heap s.heap [] := va_S.rf
  have hl := lv_entry ([.ref t_a.1, .int p0]) (n := 2) (Nat.le_of_ble_eq_true rfl)
  rw [lg_entry_eq]
  generalize (lg_sl ([.ref t_a.1, .int p0]) ++ List.replicate (2 - (lg_sl ([.ref t_a.1, .int p0])).length) Slot.unset).toArray = ls at hl ⊢
  have hl : lv_has ls 2 [(0, .ref t_a.1), (1, .int p0)] := hl
  unfold pX2_victoriesOf at hw
  refine lv_iload_n hx hb dX2_victoriesOf_0 rfl (lv_at hl 1 rfl) ?_
  refine lv_if_lt (tgt := 22) hx hb dX2_victoriesOf_1 (by decide) (fun c1 => ?_) (fun c1 => ?_)
  · replace hw := Eq.mp (if_pos c1) hw
    refine lv_iconst (v := 0) hx hb dX2_victoriesOf_22 (by decide) ?_
    exact W.iret (v := 0) hx hb hr (fun t ht hW => ⟨_, rfl, hw, ht⟩) (fun _ h => by cases h) dX2_victoriesOf_23
  · replace hw := Eq.mp (if_neg c1) hw
    refine lv_iload_n hx hb dX2_victoriesOf_4 rfl (lv_at hl 1 rfl) ?_
    refine lv_aload_n hx hb dX2_victoriesOf_5 rfl (lv_at hl 0 rfl) ?_
    refine va_get (D := D) (ci := 1) (v := .ref t_a.2.2.2) (C := RX2) (T := TX2) (N := 4) hx hb hts (fun _ h => List.mem_cons_of_mem _ (List.mem_append_right _ h)) hown hK hP 0 rfl rfl 3 (by decide) (hts (.fieldLink RX2 25 "HazelGift$Game" "victories" "[I") (List.mem_of_getElem? (i := 1) rfl)) (fun _ h9 => h9) rfl dX2_victoriesOf_6 ?_
    refine va_alen (v := 2) hx hb hK hP 1 0 rfl rfl rfl dX2_victoriesOf_9 ?_
    refine lv_icmp_ge (tgt := 22) hx hb dX2_victoriesOf_10 (by decide) (fun c2 => ?_) (fun c2 => ?_)
    · replace hw := Eq.mp (if_pos c2) hw
      refine lv_iconst (v := 0) hx hb dX2_victoriesOf_22 (by decide) ?_
      exact W.iret (v := 0) hx hb hr (fun t ht hW => ⟨_, rfl, hw, ht⟩) (fun _ h => by cases h) dX2_victoriesOf_23
    · replace hw := Eq.mp (if_neg c2) hw
      refine lv_aload_n hx hb dX2_victoriesOf_13 rfl (lv_at hl 0 rfl) ?_
      refine va_get (D := D) (ci := 1) (v := .ref t_a.2.2.2) (C := RX2) (T := TX2) (N := 4) hx hb hts (fun _ h => List.mem_cons_of_mem _ (List.mem_append_right _ h)) hown hK hP 0 rfl rfl 3 (by decide) (hts (.fieldLink RX2 25 "HazelGift$Game" "victories" "[I") (List.mem_of_getElem? (i := 1) rfl)) (fun _ h9 => h9) rfl dX2_victoriesOf_14 ?_
      refine lv_iload_n hx hb dX2_victoriesOf_17 rfl (lv_at hl 1 rfl) ?_
      obtain ⟨hi3, hw⟩ := hw
      refine gIald (k := (p0).toNatClampNeg) hx hb hK hP 1 0 rfl rfl hi3 rfl dX2_victoriesOf_18 ?_
      refine lv_goto (tgt := 23) hx hb dX2_victoriesOf_19 (by decide) ?_
      exact W.iret (v := (u.2.2.1 (p0).toNatClampNeg)) hx hb hr (fun t ht hW => ⟨_, rfl, hw, ht⟩) (fun _ h => by cases h) dX2_victoriesOf_23
set_option maxHeartbeats 4000000 in
set_option maxRecDepth 100000 in
theorem kX2_hasEnded (l : Launch) (D : va_G) (kI kC kG kJ : ClassId) (t_a : AG) (u : SG) (Z : Int32 → Prop) (hw : pX2_hasEnded u Z) : Met l yX2_hasEnded wsX2_hasEnded ({ frames := 3, cells := 0, slots := 0, locals := 60 } : Room) (gPr D (gT kI kC kG kJ) [.ref t_a.1] (wG kI t_a u)) (vp_Si Z) 0 0 (fun _ => False) := by
  refine Met.ofW (cc := cX2_hasEnded) (maxL := 1) (ret := (some .boolean)) (by decide) rfl ?_
  intro p e s m args below meth c s₁ B hml hv
  obtain ⟨rfl, hP, hK, hE⟩ := hv
  have hx := B.exec
  have hb := B.bytes
  have hr := B.returns
  have hts := atoms_spec (ws := wsX2_hasEnded) B.pre
  have hown : s.vm.findClass RX2 = some m.cls := findClass_of_methodNamed B.named
  have hlocks := B.notSynchronized
  have hS : va_S (fun _ => False) s.heap s.heap [] := va_S.rf
  have hl := lv_entry ([.ref t_a.1]) (n := 1) (Nat.le_of_ble_eq_true rfl)
  rw [lg_entry_eq]
  generalize (lg_sl ([.ref t_a.1]) ++ List.replicate (1 - (lg_sl ([.ref t_a.1])).length) Slot.unset).toArray = ls at hl ⊢
  have hl : lv_has ls 1 [(0, .ref t_a.1)] := hl
  unfold pX2_hasEnded at hw
  refine lv_aload_n hx hb dX2_hasEnded_0 rfl (lv_at hl 0 rfl) ?_
  refine va_get (D := D) (ci := 1) (v := .int u.2.1) (C := RX2) (T := TX2) (N := 4) hx hb hts (fun _ h => List.mem_cons_of_mem _ (List.mem_append_left _ (List.mem_append_right _ h))) hown hK hP 0 rfl rfl 2 (by decide) (hts (.fieldLink RX2 22 "HazelGift$Game" "winner" "I") (List.mem_of_getElem? (i := 1) rfl)) (fun _ h9 => h9) rfl dX2_hasEnded_1 ?_
  refine lv_iconst (v := (-1)) hx hb dX2_hasEnded_4 (by decide) ?_
  refine lv_icmp_ne (tgt := 18) hx hb dX2_hasEnded_5 (by decide) (fun c1 => ?_) (fun c1 => ?_)
  · replace hw := Eq.mp (if_neg c1) hw
    refine lv_iconst (v := 1) hx hb dX2_hasEnded_18 (by decide) ?_
    refine lv_goto (tgt := 23) hx hb dX2_hasEnded_19 (by decide) ?_
    exact W.zret (v := 1) hx hb hr rfl (fun t ht hW => ⟨_, rfl, hw, ht⟩) (fun _ h => by cases h) dX2_hasEnded_23
  · replace hw := Eq.mp (if_pos c1) hw
    refine lv_aload_n hx hb dX2_hasEnded_8 rfl (lv_at hl 0 rfl) ?_
    refine va_get (D := D) (ci := 1) (v := .ref t_a.2.1) (C := RX2) (T := TX2) (N := 4) hx hb hts (fun _ h => List.mem_cons_of_mem _ (List.mem_append_left _ (List.mem_append_right _ h))) hown hK hP 0 rfl rfl 0 (by decide) (hts (.fieldLink RX2 12 "HazelGift$Game" "board" "LHazelGift$Board;") (List.mem_of_getElem? (i := 2) rfl)) (fun _ h9 => h9) rfl dX2_hasEnded_9 ?_
    refine gVi (As := []) (rest := []) (cs' := wB kI t_a.2.1 t_a.2.2.1 u.2.2.2) ⟨hx, hb, hml, hown, hts⟩ (kX0_emptyCount l D kI kC kG kJ t_a.2.1 t_a.2.2.1 u.2.2.2 _ hw) (cwV 0 hts gX2_hasEnded_X0_emptyCount rfl rfl rfl hdX0_emptyCount ⟨Nat.le_of_ble_eq_true rfl, Nat.le_of_ble_eq_true rfl⟩) hK hP hE hS [2, 3] rfl (ci := 0) (q0 := 0) rfl rfl rfl rfl hl.1 rfl (Nat.le_of_ble_eq_true rfl) dX2_hasEnded_12 ⟨Nat.le_of_ble_eq_true rfl, Nat.le_of_ble_eq_true rfl⟩ (fun r2 hw => ?_)
    refine lv_if_ne (tgt := 22) hx hb dX2_hasEnded_15 (by decide) (fun c3 => ?_) (fun c3 => ?_)
    · replace hw := Eq.mp (if_neg c3) hw
      refine lv_iconst (v := 0) hx hb dX2_hasEnded_22 (by decide) ?_
      exact W.zret (v := 0) hx hb hr rfl (fun t ht hW => ⟨_, rfl, hw, ht⟩) (fun _ h => by cases h) dX2_hasEnded_23
    · replace hw := Eq.mp (if_pos c3) hw
      refine lv_iconst (v := 1) hx hb dX2_hasEnded_18 (by decide) ?_
      refine lv_goto (tgt := 23) hx hb dX2_hasEnded_19 (by decide) ?_
      exact W.zret (v := 1) hx hb hr rfl (fun t ht hW => ⟨_, rfl, hw, ht⟩) (fun _ h => by cases h) dX2_hasEnded_23
set_option maxHeartbeats 4000000 in
set_option maxRecDepth 100000 in
theorem kX2_mover (l : Launch) (D : va_G) (kI kC kG kJ : ClassId) (t_a : AG) (u : SG) (Z : Int32 → Prop) (hw : pX2_mover u Z) : Met l yX2_mover wsX2_mover ({ frames := 4, cells := 0, slots := 0, locals := 80 } : Room) (gPr D (gT kI kC kG kJ) [.ref t_a.1] (wG kI t_a u)) (vp_Si Z) 0 0 (fun _ => False) := by
  refine Met.ofW (cc := cX2_mover) (maxL := 2) (ret := (some .int)) (by decide) rfl ?_
  intro p e s m args below meth c s₁ B hml hv
  obtain ⟨rfl, hP, hK, hE⟩ := hv
  have hx := B.exec
  have hb := B.bytes
  have hr := B.returns
  have hts := atoms_spec (ws := wsX2_mover) B.pre
  have hown : s.vm.findClass RX2 = some m.cls := findClass_of_methodNamed B.named
  have hlocks := B.notSynchronized
  have hS : va_S (fun _ => False) s.heap s.heap [] := va_S.rf
  have hl := lv_entry ([.ref t_a.1]) (n := 2) (Nat.le_of_ble_eq_true rfl)
  rw [lg_entry_eq]
  generalize (lg_sl ([.ref t_a.1]) ++ List.replicate (2 - (lg_sl ([.ref t_a.1])).length) Slot.unset).toArray = ls at hl ⊢
  have hl : lv_has ls 2 [(0, .ref t_a.1)] := hl
  unfold pX2_mover at hw
  refine lv_aload_n hx hb dX2_mover_0 rfl (lv_at hl 0 rfl) ?_
  refine gVi (As := []) (rest := []) (cs' := wG kI t_a u) ⟨hx, hb, hml, hown, hts⟩ (kX2_hasEnded l D kI kC kG kJ t_a u _ hw) (cwV 0 hts gX2_mover_X2_hasEnded rfl rfl rfl hdX2_hasEnded ⟨Nat.le_of_ble_eq_true rfl, Nat.le_of_ble_eq_true rfl⟩) hK hP hE hS [0, 1, 2, 3] rfl (ci := 1) (q0 := 0) rfl rfl rfl rfl hl.1 rfl (Nat.le_of_ble_eq_true rfl) dX2_mover_1 ⟨Nat.le_of_ble_eq_true rfl, Nat.le_of_ble_eq_true rfl⟩ (fun r1 hw => ?_)
  refine lv_if_eq (tgt := 9) hx hb dX2_mover_4 (by decide) (fun c2 => ?_) (fun c2 => ?_)
  · replace hw := Eq.mp (if_pos c2) hw
    refine lv_aload_n hx hb dX2_mover_9 rfl (lv_at hl 0 rfl) ?_
    refine va_get (D := D) (ci := 1) (v := .ref t_a.2.1) (C := RX2) (T := TX2) (N := 4) hx hb hts (fun _ h => List.mem_cons_of_mem _ (List.mem_append_left _ (List.mem_append_right _ h))) hown hK hP 0 rfl rfl 0 (by decide) (hts (.fieldLink RX2 12 "HazelGift$Game" "board" "LHazelGift$Board;") (List.mem_of_getElem? (i := 1) rfl)) (fun _ h9 => h9) rfl dX2_mover_10 ?_
    refine gVi (As := []) (rest := []) (cs' := wB kI t_a.2.1 t_a.2.2.1 u.2.2.2) ⟨hx, hb, hml, hown, hts⟩ (kX0_count l D kI kC kG kJ t_a.2.1 t_a.2.2.1 u.2.2.2 _ hw) (cwV 0 hts gX2_mover_X0_count rfl rfl rfl hdX0_count ⟨Nat.le_of_ble_eq_true rfl, Nat.le_of_ble_eq_true rfl⟩) hK hP hE hS [2, 3] rfl (ci := 0) (q0 := 0) rfl rfl rfl rfl hl.1 rfl (Nat.le_of_ble_eq_true rfl) dX2_mover_13 ⟨Nat.le_of_ble_eq_true rfl, Nat.le_of_ble_eq_true rfl⟩ (fun r3 hw => ?_)
    refine lv_iconst (v := 2) hx hb dX2_mover_16 (by decide) ?_
    refine lv_irem hx hb dX2_mover_17 (by decide) ?_
    refine lv_topi (fun x4 ex4 => ?_)
    replace hw := hw x4 ex4
    refine lv_istore_n (lv' := [(1, .int x4), (0, .ref t_a.1)]) hx hb dX2_mover_18 rfl hl (by decide) rfl (fun ls hl => ?_)
    refine lv_aload_n hx hb dX2_mover_19 rfl (lv_at hl 1 rfl) ?_
    refine va_get (D := D) (ci := 1) (v := .int u.1) (C := RX2) (T := TX2) (N := 4) hx hb hts (fun _ h => List.mem_cons_of_mem _ (List.mem_append_left _ (List.mem_append_right _ h))) hown hK hP 0 rfl rfl 1 (by decide) (hts (.fieldLink RX2 18 "HazelGift$Game" "gift" "I") (List.mem_of_getElem? (i := 2) rfl)) (fun _ h9 => h9) rfl dX2_mover_20 ?_
    refine lv_iconst (v := (-1)) hx hb dX2_mover_23 (by decide) ?_
    refine lv_icmp_ne (tgt := 31) hx hb dX2_mover_24 (by decide) (fun c5 => ?_) (fun c5 => ?_)
    · replace hw := Eq.mp (if_neg c5) hw
      refine lv_iconst (v := 1) hx hb dX2_mover_31 (by decide) ?_
      refine lv_iload_n hx hb dX2_mover_32 rfl (lv_at hl 0 rfl) ?_
      refine lv_isub hx hb dX2_mover_33 ?_
      exact W.iret (v := (1 - x4)) hx hb hr (fun t ht hW => ⟨_, rfl, hw, ht⟩) (fun _ h => by cases h) dX2_mover_34
    · replace hw := Eq.mp (if_pos c5) hw
      refine lv_iload_n hx hb dX2_mover_27 rfl (lv_at hl 0 rfl) ?_
      refine lv_goto (tgt := 34) hx hb dX2_mover_28 (by decide) ?_
      exact W.iret (v := x4) hx hb hr (fun t ht hW => ⟨_, rfl, hw, ht⟩) (fun _ h => by cases h) dX2_mover_34
  · replace hw := Eq.mp (if_neg c2) hw
    refine lv_iconst (v := (-1)) hx hb dX2_mover_7 (by decide) ?_
    exact W.iret (v := (-1)) hx hb hr (fun t ht hW => ⟨_, rfl, hw, ht⟩) (fun _ h => by cases h) dX2_mover_8
set_option maxHeartbeats 4000000 in
set_option maxRecDepth 100000 in
theorem kX2_isFree (l : Launch) (D : va_G) (kI kC kG kJ : ClassId) (t_a : AG) (u : SG) (p0 : Int32) (Z : Int32 → Prop) (hw : pX2_isFree p0 u Z) : Met l yX2_isFree wsX2_isFree ({ frames := 1, cells := 0, slots := 0, locals := 21 } : Room) (gPr D (gT kI kC kG kJ) [.ref t_a.1, .int p0] (wG kI t_a u)) (vp_Si Z) 0 0 (fun _ => False) := by
  refine Met.ofW (cc := cX2_isFree) (maxL := 2) (ret := (some .boolean)) (by decide) rfl ?_
  intro p e s m args below meth c s₁ B hml hv
  obtain ⟨rfl, hP, hK, hE⟩ := hv
  have hx := B.exec
  have hb := B.bytes
  have hr := B.returns
  have hts := atoms_spec (ws := wsX2_isFree) B.pre
  have hown : s.vm.findClass RX2 = some m.cls := findClass_of_methodNamed B.named
  have hlocks := B.notSynchronized
  have hS : va_S (fun _ => False) s.heap s.heap [] := va_S.rf
  have hl := lv_entry ([.ref t_a.1, .int p0]) (n := 2) (Nat.le_of_ble_eq_true rfl)
  rw [lg_entry_eq]
  generalize (lg_sl ([.ref t_a.1, .int p0]) ++ List.replicate (2 - (lg_sl ([.ref t_a.1, .int p0])).length) Slot.unset).toArray = ls at hl ⊢
  have hl : lv_has ls 2 [(0, .ref t_a.1), (1, .int p0)] := hl
  unfold pX2_isFree at hw
  refine lv_iload_n hx hb dX2_isFree_0 rfl (lv_at hl 1 rfl) ?_
  refine lv_aload_n hx hb dX2_isFree_1 rfl (lv_at hl 0 rfl) ?_
  refine va_get (D := D) (ci := 1) (v := .int u.1) (C := RX2) (T := TX2) (N := 4) hx hb hts (fun _ h => List.mem_cons_of_mem _ (List.mem_append_left _ (List.mem_append_right _ h))) hown hK hP 0 rfl rfl 1 (by decide) (hts (.fieldLink RX2 18 "HazelGift$Game" "gift" "I") (List.mem_of_getElem? (i := 1) rfl)) (fun _ h9 => h9) rfl dX2_isFree_2 ?_
  refine lv_icmp_eq (tgt := 23) hx hb dX2_isFree_5 (by decide) (fun c1 => ?_) (fun c1 => ?_)
  · replace hw := Eq.mp (if_pos c1) hw
    refine lv_iconst (v := 0) hx hb dX2_isFree_23 (by decide) ?_
    exact W.zret (v := 0) hx hb hr rfl (fun t ht hW => ⟨_, rfl, hw, ht⟩) (fun _ h => by cases h) dX2_isFree_24
  · replace hw := Eq.mp (if_neg c1) hw
    refine lv_aload_n hx hb dX2_isFree_8 rfl (lv_at hl 0 rfl) ?_
    refine va_get (D := D) (ci := 1) (v := .ref t_a.2.1) (C := RX2) (T := TX2) (N := 4) hx hb hts (fun _ h => List.mem_cons_of_mem _ (List.mem_append_left _ (List.mem_append_right _ h))) hown hK hP 0 rfl rfl 0 (by decide) (hts (.fieldLink RX2 12 "HazelGift$Game" "board" "LHazelGift$Board;") (List.mem_of_getElem? (i := 2) rfl)) (fun _ h9 => h9) rfl dX2_isFree_9 ?_
    refine lv_iload_n hx hb dX2_isFree_12 rfl (lv_at hl 1 rfl) ?_
    refine gVi (As := [.int p0]) (rest := []) (cs' := wB kI t_a.2.1 t_a.2.2.1 u.2.2.2) ⟨hx, hb, hml, hown, hts⟩ (kX0_holds l D kI kC kG kJ t_a.2.1 t_a.2.2.1 u.2.2.2 p0 _ hw) (cwV 1 hts gX2_isFree_X0_holds rfl rfl rfl hdX0_holds ⟨Nat.le_of_ble_eq_true rfl, Nat.le_of_ble_eq_true rfl⟩) hK hP hE hS [2, 3] rfl (ci := 0) (q0 := 0) rfl rfl rfl rfl hl.1 rfl (Nat.le_of_ble_eq_true rfl) dX2_isFree_13 ⟨Nat.le_of_ble_eq_true rfl, Nat.le_of_ble_eq_true rfl⟩ (fun r2 hw => ?_)
    refine lv_if_ne (tgt := 23) hx hb dX2_isFree_16 (by decide) (fun c3 => ?_) (fun c3 => ?_)
    · replace hw := Eq.mp (if_neg c3) hw
      refine lv_iconst (v := 0) hx hb dX2_isFree_23 (by decide) ?_
      exact W.zret (v := 0) hx hb hr rfl (fun t ht hW => ⟨_, rfl, hw, ht⟩) (fun _ h => by cases h) dX2_isFree_24
    · replace hw := Eq.mp (if_pos c3) hw
      refine lv_iconst (v := 1) hx hb dX2_isFree_19 (by decide) ?_
      refine lv_goto (tgt := 24) hx hb dX2_isFree_20 (by decide) ?_
      exact W.zret (v := 1) hx hb hr rfl (fun t ht hW => ⟨_, rfl, hw, ht⟩) (fun _ h => by cases h) dX2_isFree_24
set_option maxHeartbeats 4000000 in
set_option maxRecDepth 100000 in
theorem kX2_canGive (l : Launch) (D : va_G) (kI kC kG kJ : ClassId) (t_a : AG) (u : SG) (p0 : Int32) (Z : Int32 → Prop) (hw : pX2_canGive p0 u Z) : Met l yX2_canGive wsX2_canGive ({ frames := 4, cells := 0, slots := 0, locals := 80 } : Room) (gPr D (gT kI kC kG kJ) [.ref t_a.1, .int p0] (wG kI t_a u)) (vp_Si Z) 0 0 (fun _ => False) := by
  refine Met.ofW (cc := cX2_canGive) (maxL := 2) (ret := (some .boolean)) (by decide) rfl ?_
  intro p e s m args below meth c s₁ B hml hv
  obtain ⟨rfl, hP, hK, hE⟩ := hv
  have hx := B.exec
  have hb := B.bytes
  have hr := B.returns
  have hts := atoms_spec (ws := wsX2_canGive) B.pre
  have hown : s.vm.findClass RX2 = some m.cls := findClass_of_methodNamed B.named
  have hlocks := B.notSynchronized
  have hS : va_S (fun _ => False) s.heap s.heap [] := va_S.rf
  have hl := lv_entry ([.ref t_a.1, .int p0]) (n := 2) (Nat.le_of_ble_eq_true rfl)
  rw [lg_entry_eq]
  generalize (lg_sl ([.ref t_a.1, .int p0]) ++ List.replicate (2 - (lg_sl ([.ref t_a.1, .int p0])).length) Slot.unset).toArray = ls at hl ⊢
  have hl : lv_has ls 2 [(0, .ref t_a.1), (1, .int p0)] := hl
  unfold pX2_canGive at hw
  refine lv_aload_n hx hb dX2_canGive_0 rfl (lv_at hl 0 rfl) ?_
  refine gVi (As := []) (rest := []) (cs' := wG kI t_a u) ⟨hx, hb, hml, hown, hts⟩ (kX2_hasEnded l D kI kC kG kJ t_a u _ hw) (cwV 0 hts gX2_canGive_X2_hasEnded rfl rfl rfl hdX2_hasEnded ⟨Nat.le_of_ble_eq_true rfl, Nat.le_of_ble_eq_true rfl⟩) hK hP hE hS [0, 1, 2, 3] rfl (ci := 1) (q0 := 0) rfl rfl rfl rfl hl.1 rfl (Nat.le_of_ble_eq_true rfl) dX2_canGive_1 ⟨Nat.le_of_ble_eq_true rfl, Nat.le_of_ble_eq_true rfl⟩ (fun r1 hw => ?_)
  refine lv_if_ne (tgt := 30) hx hb dX2_canGive_4 (by decide) (fun c2 => ?_) (fun c2 => ?_)
  · replace hw := Eq.mp (if_neg c2) hw
    refine lv_iconst (v := 0) hx hb dX2_canGive_30 (by decide) ?_
    exact W.zret (v := 0) hx hb hr rfl (fun t ht hW => ⟨_, rfl, hw, ht⟩) (fun _ h => by cases h) dX2_canGive_31
  · replace hw := Eq.mp (if_pos c2) hw
    refine lv_aload_n hx hb dX2_canGive_7 rfl (lv_at hl 0 rfl) ?_
    refine va_get (D := D) (ci := 1) (v := .int u.1) (C := RX2) (T := TX2) (N := 4) hx hb hts (fun _ h => List.mem_cons_of_mem _ (List.mem_append_left _ (List.mem_append_right _ h))) hown hK hP 0 rfl rfl 1 (by decide) (hts (.fieldLink RX2 18 "HazelGift$Game" "gift" "I") (List.mem_of_getElem? (i := 1) rfl)) (fun _ h9 => h9) rfl dX2_canGive_8 ?_
    refine lv_iconst (v := (-1)) hx hb dX2_canGive_11 (by decide) ?_
    refine lv_icmp_ne (tgt := 30) hx hb dX2_canGive_12 (by decide) (fun c3 => ?_) (fun c3 => ?_)
    · replace hw := Eq.mp (if_neg c3) hw
      refine lv_iconst (v := 0) hx hb dX2_canGive_30 (by decide) ?_
      exact W.zret (v := 0) hx hb hr rfl (fun t ht hW => ⟨_, rfl, hw, ht⟩) (fun _ h => by cases h) dX2_canGive_31
    · replace hw := Eq.mp (if_pos c3) hw
      refine lv_aload_n hx hb dX2_canGive_15 rfl (lv_at hl 0 rfl) ?_
      refine va_get (D := D) (ci := 1) (v := .ref t_a.2.1) (C := RX2) (T := TX2) (N := 4) hx hb hts (fun _ h => List.mem_cons_of_mem _ (List.mem_append_left _ (List.mem_append_right _ h))) hown hK hP 0 rfl rfl 0 (by decide) (hts (.fieldLink RX2 12 "HazelGift$Game" "board" "LHazelGift$Board;") (List.mem_of_getElem? (i := 2) rfl)) (fun _ h9 => h9) rfl dX2_canGive_16 ?_
      refine lv_iload_n hx hb dX2_canGive_19 rfl (lv_at hl 1 rfl) ?_
      refine gVi (As := [.int p0]) (rest := []) (cs' := wB kI t_a.2.1 t_a.2.2.1 u.2.2.2) ⟨hx, hb, hml, hown, hts⟩ (kX0_holds l D kI kC kG kJ t_a.2.1 t_a.2.2.1 u.2.2.2 p0 _ hw) (cwV 1 hts gX2_canGive_X0_holds rfl rfl rfl hdX0_holds ⟨Nat.le_of_ble_eq_true rfl, Nat.le_of_ble_eq_true rfl⟩) hK hP hE hS [2, 3] rfl (ci := 0) (q0 := 0) rfl rfl rfl rfl hl.1 rfl (Nat.le_of_ble_eq_true rfl) dX2_canGive_20 ⟨Nat.le_of_ble_eq_true rfl, Nat.le_of_ble_eq_true rfl⟩ (fun r4 hw => ?_)
      refine lv_if_ne (tgt := 30) hx hb dX2_canGive_23 (by decide) (fun c5 => ?_) (fun c5 => ?_)
      · replace hw := Eq.mp (if_neg c5) hw
        refine lv_iconst (v := 0) hx hb dX2_canGive_30 (by decide) ?_
        exact W.zret (v := 0) hx hb hr rfl (fun t ht hW => ⟨_, rfl, hw, ht⟩) (fun _ h => by cases h) dX2_canGive_31
      · replace hw := Eq.mp (if_pos c5) hw
        refine lv_iconst (v := 1) hx hb dX2_canGive_26 (by decide) ?_
        refine lv_goto (tgt := 31) hx hb dX2_canGive_27 (by decide) ?_
        exact W.zret (v := 1) hx hb hr rfl (fun t ht hW => ⟨_, rfl, hw, ht⟩) (fun _ h => by cases h) dX2_canGive_31
set_option maxHeartbeats 4000000 in
set_option maxRecDepth 100000 in
theorem kX2_canPut (l : Launch) (D : va_G) (kI kC kG kJ : ClassId) (t_a : AG) (u : SG) (p0 : Int32) (Z : Int32 → Prop) (hw : pX2_canPut p0 u Z) : Met l yX2_canPut wsX2_canPut ({ frames := 1, cells := 0, slots := 0, locals := 21 } : Room) (gPr D (gT kI kC kG kJ) [.ref t_a.1, .int p0] (wG kI t_a u)) (vp_Si Z) 0 0 (fun _ => False) := by
  refine Met.ofW (cc := cX2_canPut) (maxL := 2) (ret := (some .boolean)) (by decide) rfl ?_
  intro p e s m args below meth c s₁ B hml hv
  obtain ⟨rfl, hP, hK, hE⟩ := hv
  have hx := B.exec
  have hb := B.bytes
  have hr := B.returns
  have hts := atoms_spec (ws := wsX2_canPut) B.pre
  have hown : s.vm.findClass RX2 = some m.cls := findClass_of_methodNamed B.named
  have hlocks := B.notSynchronized
  have hS : va_S (fun _ => False) s.heap s.heap [] := va_S.rf
  have hl := lv_entry ([.ref t_a.1, .int p0]) (n := 2) (Nat.le_of_ble_eq_true rfl)
  rw [lg_entry_eq]
  generalize (lg_sl ([.ref t_a.1, .int p0]) ++ List.replicate (2 - (lg_sl ([.ref t_a.1, .int p0])).length) Slot.unset).toArray = ls at hl ⊢
  have hl : lv_has ls 2 [(0, .ref t_a.1), (1, .int p0)] := hl
  unfold pX2_canPut at hw
  refine lv_aload_n hx hb dX2_canPut_0 rfl (lv_at hl 0 rfl) ?_
  refine va_get (D := D) (ci := 1) (v := .int u.1) (C := RX2) (T := TX2) (N := 4) hx hb hts (fun _ h => List.mem_cons_of_mem _ (List.mem_append_left _ (List.mem_append_right _ h))) hown hK hP 0 rfl rfl 1 (by decide) (hts (.fieldLink RX2 18 "HazelGift$Game" "gift" "I") (List.mem_of_getElem? (i := 1) rfl)) (fun _ h9 => h9) rfl dX2_canPut_1 ?_
  refine lv_iconst (v := (-1)) hx hb dX2_canPut_4 (by decide) ?_
  refine lv_icmp_eq (tgt := 23) hx hb dX2_canPut_5 (by decide) (fun c1 => ?_) (fun c1 => ?_)
  · replace hw := Eq.mp (if_pos c1) hw
    refine lv_iconst (v := 0) hx hb dX2_canPut_23 (by decide) ?_
    exact W.zret (v := 0) hx hb hr rfl (fun t ht hW => ⟨_, rfl, hw, ht⟩) (fun _ h => by cases h) dX2_canPut_24
  · replace hw := Eq.mp (if_neg c1) hw
    refine lv_aload_n hx hb dX2_canPut_8 rfl (lv_at hl 0 rfl) ?_
    refine va_get (D := D) (ci := 1) (v := .ref t_a.2.1) (C := RX2) (T := TX2) (N := 4) hx hb hts (fun _ h => List.mem_cons_of_mem _ (List.mem_append_left _ (List.mem_append_right _ h))) hown hK hP 0 rfl rfl 0 (by decide) (hts (.fieldLink RX2 12 "HazelGift$Game" "board" "LHazelGift$Board;") (List.mem_of_getElem? (i := 2) rfl)) (fun _ h9 => h9) rfl dX2_canPut_9 ?_
    refine lv_iload_n hx hb dX2_canPut_12 rfl (lv_at hl 1 rfl) ?_
    refine gVi (As := [.int p0]) (rest := []) (cs' := wB kI t_a.2.1 t_a.2.2.1 u.2.2.2) ⟨hx, hb, hml, hown, hts⟩ (kX0_isEmpty l D kI kC kG kJ t_a.2.1 t_a.2.2.1 u.2.2.2 p0 _ hw) (cwV 1 hts gX2_canPut_X0_isEmpty rfl rfl rfl hdX0_isEmpty ⟨Nat.le_of_ble_eq_true rfl, Nat.le_of_ble_eq_true rfl⟩) hK hP hE hS [2, 3] rfl (ci := 0) (q0 := 0) rfl rfl rfl rfl hl.1 rfl (Nat.le_of_ble_eq_true rfl) dX2_canPut_13 ⟨Nat.le_of_ble_eq_true rfl, Nat.le_of_ble_eq_true rfl⟩ (fun r2 hw => ?_)
    refine lv_if_eq (tgt := 23) hx hb dX2_canPut_16 (by decide) (fun c3 => ?_) (fun c3 => ?_)
    · replace hw := Eq.mp (if_pos c3) hw
      refine lv_iconst (v := 0) hx hb dX2_canPut_23 (by decide) ?_
      exact W.zret (v := 0) hx hb hr rfl (fun t ht hW => ⟨_, rfl, hw, ht⟩) (fun _ h => by cases h) dX2_canPut_24
    · replace hw := Eq.mp (if_neg c3) hw
      refine lv_iconst (v := 1) hx hb dX2_canPut_19 (by decide) ?_
      refine lv_goto (tgt := 24) hx hb dX2_canPut_20 (by decide) ?_
      exact W.zret (v := 1) hx hb hr rfl (fun t ht hW => ⟨_, rfl, hw, ht⟩) (fun _ h => by cases h) dX2_canPut_24
set_option maxHeartbeats 4000000 in
set_option maxRecDepth 100000 in
theorem kX2_setGift (l : Launch) (D : va_G) (kI kC kG kJ : ClassId) (t_a : AG) (sz : Nat) (u : SG) (p0 : Int32) (Z : SG → Prop) (hw : pX2_setGift p0 u Z) : Met l yX2_setGift wsX2_setGift ({ frames := 0, cells := 0, slots := 0, locals := 0 } : Room) (gPw D (gT kI kC kG kJ) [.ref t_a.1, .int p0] (wG kI t_a u) sz) (va_Qv Z (gB D (gT kI kC kG kJ) (fun (zz : SG) => wG kI t_a zz) (va_A (wG kI t_a u) sz)) (va_A (wG kI t_a u) sz)) 0 0 (va_A (wG kI t_a u) sz) := by
  refine Met.ofW (cc := cX2_setGift) (maxL := 2) (ret := none) (by decide) rfl ?_
  intro p e s m args below meth c s₁ B hml hv
  obtain ⟨rfl, hsz, hP, hK, hD0, hE⟩ := hv
  have hx := B.exec
  have hb := B.bytes
  have hr := B.returns
  have hts := atoms_spec (ws := wsX2_setGift) B.pre
  have hown : s.vm.findClass RX2 = some m.cls := findClass_of_methodNamed B.named
  have hlocks := B.notSynchronized
  subst hsz
  have hD := hD0.self (sz := s.heap.size)
  generalize hAe : va_A (wG kI t_a u) s.heap.size = A at hD hE ⊢
  have hA : ∀ q : Nat, s.heap.size ≤ q → A q := fun q h => by rw [← hAe]; exact Or.inr h
  have hS : va_S A s.heap s.heap [] := va_S.rf
  clear hAe hD0
  have hl := lv_entry ([.ref t_a.1, .int p0]) (n := 2) (Nat.le_of_ble_eq_true rfl)
  rw [lg_entry_eq]
  generalize (lg_sl ([.ref t_a.1, .int p0]) ++ List.replicate (2 - (lg_sl ([.ref t_a.1, .int p0])).length) Slot.unset).toArray = ls at hl ⊢
  have hl : lv_has ls 2 [(0, .ref t_a.1), (1, .int p0)] := hl
  have hP : va_P D vwCl (wG kI t_a u) s.heap := hP
  unfold pX2_setGift at hw
  refine lv_aload_n hx hb dX2_setGift_0 rfl (lv_at hl 0 rfl) ?_
  refine lv_iload_n hx hb dX2_setGift_1 rfl (lv_at hl 1 rfl) ?_
  refine va_put (D := D) (ci := 1) (v := .int p0) (ty := tyX2 1) (C := RX2) (T := TX2) (N := 4) hx hb hts (fun _ h => List.mem_cons_of_mem _ (List.mem_append_right _ h)) tyX2 tyX2_ok nmX2 hown hK hP hD hS 0 rfl rfl 1 (by decide) (hts (.fieldLink RX2 18 "HazelGift$Game" "gift" "I") (List.mem_of_getElem? (i := 1) rfl)) (fun _ h9 => h9) rfl (tyX2_ok 1 (by decide)) rfl rfl (Nat.le_of_ble_eq_true rfl) dX2_setGift_2 (fun H locs hP hD hS => ?_)
  have hP : va_P D vwCl (wG kI t_a (p0, u.2.1, u.2.2.1, u.2.2.2)) H := hP
  have hD : va_D A (wG kI t_a (p0, u.2.1, u.2.2.1, u.2.2.2)) := hD
  exact W.vret hx hb hr (fun t ht hW => ⟨⟨(p0, u.2.1, u.2.2.1, u.2.2.2), rfl, hw, by rw [ht]; exact hP, va_K.moved hW.alike hK, hD⟩, hS.F ht⟩) hS.2.2 dX2_setGift_5
set_option maxHeartbeats 4000000 in
set_option maxRecDepth 100000 in
theorem kX2_begin (l : Launch) (D : va_G) (kI kC kG kJ : ClassId) (t_a : AG) (sz : Nat) (u : SG) (p0 : Int32) (Z : SG → Prop) (hw : pX2_begin p0 u Z) : Met l yX2_begin wsX2_begin ({ frames := 1, cells := 0, slots := 0, locals := 22 } : Room) (gPw D (gT kI kC kG kJ) [.ref t_a.1, .int p0] (wG kI t_a u) sz) (va_Qv Z (gB D (gT kI kC kG kJ) (fun (zz : SG) => wG kI t_a zz) (va_A (wG kI t_a u) sz)) (va_A (wG kI t_a u) sz)) 0 0 (va_A (wG kI t_a u) sz) := by
  refine Met.ofW (cc := cX2_begin) (maxL := 2) (ret := none) (by decide) rfl ?_
  intro p e s m args below meth c s₁ B hml hv
  obtain ⟨rfl, hsz, hP, hK, hD0, hE⟩ := hv
  have hx := B.exec
  have hb := B.bytes
  have hr := B.returns
  have hts := atoms_spec (ws := wsX2_begin) B.pre
  have hown : s.vm.findClass RX2 = some m.cls := findClass_of_methodNamed B.named
  have hlocks := B.notSynchronized
  subst hsz
  have hD := hD0.self (sz := s.heap.size)
  generalize hAe : va_A (wG kI t_a u) s.heap.size = A at hD hE ⊢
  have hA : ∀ q : Nat, s.heap.size ≤ q → A q := fun q h => by rw [← hAe]; exact Or.inr h
  have hS : va_S A s.heap s.heap [] := va_S.rf
  clear hAe hD0
  have hl := lv_entry ([.ref t_a.1, .int p0]) (n := 2) (Nat.le_of_ble_eq_true rfl)
  rw [lg_entry_eq]
  generalize (lg_sl ([.ref t_a.1, .int p0]) ++ List.replicate (2 - (lg_sl ([.ref t_a.1, .int p0])).length) Slot.unset).toArray = ls at hl ⊢
  have hl : lv_has ls 2 [(0, .ref t_a.1), (1, .int p0)] := hl
  have hP : va_P D vwCl (wG kI t_a u) s.heap := hP
  unfold pX2_begin at hw
  refine lv_aload_n hx hb dX2_begin_0 rfl (lv_at hl 0 rfl) ?_
  refine va_get (D := D) (ci := 1) (v := .ref t_a.2.1) (C := RX2) (T := TX2) (N := 4) hx hb hts (fun _ h => List.mem_cons_of_mem _ (List.mem_append_left _ (List.mem_append_right _ h))) hown hK hP 0 rfl rfl 0 (by decide) (hts (.fieldLink RX2 12 "HazelGift$Game" "board" "LHazelGift$Board;") (List.mem_of_getElem? (i := 1) rfl)) (fun _ h9 => h9) rfl dX2_begin_1 ?_
  refine lv_iload_n hx hb dX2_begin_4 rfl (lv_at hl 1 rfl) ?_
  refine gWVv (S := SB) (As := [.int p0]) (rest := []) (wc := wB kI t_a.2.1 t_a.2.2.1 u.2.2.2) (wr := [(t_a.1, .inr (1, [.ref t_a.2.1, .int u.1, .int u.2.1, .ref t_a.2.2.2])), (t_a.2.2.2, .inl (kI, 2, .inl u.2.2.1))]) (cs1 := (fun zz : SB => wB kI t_a.2.1 t_a.2.2.1 zz)) (ws2 := (fun zz : SB => wG kI t_a (u.1, u.2.1, u.2.2.1, zz))) ⟨hx, hb, hml, hown, hts⟩ (fun sz => kX0_empty l D kI kC kG kJ t_a.2.1 t_a.2.2.1 sz u.2.2.2 p0 _ hw) (cwV 1 hts gX2_begin_X0_empty rfl rfl rfl hdX0_empty ⟨Nat.le_of_ble_eq_true rfl, Nat.le_of_ble_eq_true rfl⟩) hK hP hD hE hS hA [2, 3] [0, 1] rfl rfl rfl rfl (by decide) [0, 1, 2, 3] rfl (fun _ => rfl) (ci := 0) (q0 := 0) rfl rfl rfl rfl hl.1 rfl (Nat.le_of_ble_eq_true rfl) dX2_begin_5 ⟨Nat.le_of_ble_eq_true rfl, Nat.le_of_ble_eq_true rfl⟩ (fun w1 H locs hw hP hD hS => ?_)
  have hP : va_P D vwCl (wG kI t_a (u.1, u.2.1, u.2.2.1, w1)) H := hP
  have hD : va_D A (wG kI t_a (u.1, u.2.1, u.2.2.1, w1)) := hD
  refine lv_aload_n hx hb dX2_begin_8 rfl (lv_at hl 0 rfl) ?_
  refine lv_iconst (v := (-1)) hx hb dX2_begin_9 (by decide) ?_
  refine va_put (D := D) (ci := 1) (v := .int (-1)) (ty := tyX2 1) (C := RX2) (T := TX2) (N := 4) hx hb hts (fun _ h => List.mem_cons_of_mem _ (List.mem_append_left _ (List.mem_append_right _ h))) tyX2 tyX2_ok nmX2 hown hK hP hD hS 0 rfl rfl 1 (by decide) (hts (.fieldLink RX2 18 "HazelGift$Game" "gift" "I") (List.mem_of_getElem? (i := 2) rfl)) (fun _ h9 => h9) rfl (tyX2_ok 1 (by decide)) rfl rfl (Nat.le_of_ble_eq_true rfl) dX2_begin_10 (fun H locs hP hD hS => ?_)
  have hP : va_P D vwCl (wG kI t_a ((-1), u.2.1, u.2.2.1, w1)) H := hP
  have hD : va_D A (wG kI t_a ((-1), u.2.1, u.2.2.1, w1)) := hD
  refine lv_aload_n hx hb dX2_begin_13 rfl (lv_at hl 0 rfl) ?_
  refine lv_iconst (v := (-1)) hx hb dX2_begin_14 (by decide) ?_
  refine va_put (D := D) (ci := 1) (v := .int (-1)) (ty := tyX2 2) (C := RX2) (T := TX2) (N := 4) hx hb hts (fun _ h => List.mem_cons_of_mem _ (List.mem_append_left _ (List.mem_append_right _ h))) tyX2 tyX2_ok nmX2 hown hK hP hD hS 0 rfl rfl 2 (by decide) (hts (.fieldLink RX2 22 "HazelGift$Game" "winner" "I") (List.mem_of_getElem? (i := 3) rfl)) (fun _ h9 => h9) rfl (tyX2_ok 2 (by decide)) rfl rfl (Nat.le_of_ble_eq_true rfl) dX2_begin_15 (fun H locs hP hD hS => ?_)
  have hP : va_P D vwCl (wG kI t_a ((-1), (-1), u.2.2.1, w1)) H := hP
  have hD : va_D A (wG kI t_a ((-1), (-1), u.2.2.1, w1)) := hD
  exact W.vret hx hb hr (fun t ht hW => ⟨⟨((-1), (-1), u.2.2.1, w1), rfl, hw, by rw [ht]; exact hP, va_K.moved hW.alike hK, hD⟩, hS.F ht⟩) hS.2.2 dX2_begin_18
set_option maxHeartbeats 4000000 in
set_option maxRecDepth 100000 in
theorem kX2_putGift (l : Launch) (D : va_G) (kI kC kG kJ : ClassId) (t_a : AG) (sz : Nat) (u : SG) (p0 : Int32) (Z : Int32 → SG → Prop) (hw : pX2_putGift p0 u Z) : Met l yX2_putGift wsX2_putGift ({ frames := 5, cells := 0, slots := 0, locals := 101 } : Room) (gPw D (gT kI kC kG kJ) [.ref t_a.1, .int p0] (wG kI t_a u) sz) (va_Qi Z (gB D (gT kI kC kG kJ) (fun (zz : SG) => wG kI t_a zz) (va_A (wG kI t_a u) sz)) (va_A (wG kI t_a u) sz)) 0 0 (va_A (wG kI t_a u) sz) := by
  refine Met.ofW (cc := cX2_putGift) (maxL := 3) (ret := (some .boolean)) (by decide) rfl ?_
  intro p e s m args below meth c s₁ B hml hv
  obtain ⟨rfl, hsz, hP, hK, hD0, hE⟩ := hv
  have hx := B.exec
  have hb := B.bytes
  have hr := B.returns
  have hts := atoms_spec (ws := wsX2_putGift) B.pre
  have hown : s.vm.findClass RX2 = some m.cls := findClass_of_methodNamed B.named
  have hlocks := B.notSynchronized
  subst hsz
  have hD := hD0.self (sz := s.heap.size)
  generalize hAe : va_A (wG kI t_a u) s.heap.size = A at hD hE ⊢
  have hA : ∀ q : Nat, s.heap.size ≤ q → A q := fun q h => by rw [← hAe]; exact Or.inr h
  have hS : va_S A s.heap s.heap [] := va_S.rf
  clear hAe hD0
  have hl := lv_entry ([.ref t_a.1, .int p0]) (n := 3) (Nat.le_of_ble_eq_true rfl)
  rw [lg_entry_eq]
  generalize (lg_sl ([.ref t_a.1, .int p0]) ++ List.replicate (3 - (lg_sl ([.ref t_a.1, .int p0])).length) Slot.unset).toArray = ls at hl ⊢
  have hl : lv_has ls 3 [(0, .ref t_a.1), (1, .int p0)] := hl
  have hP : va_P D vwCl (wG kI t_a u) s.heap := hP
  unfold pX2_putGift at hw
  refine lv_aload_n hx hb dX2_putGift_0 rfl (lv_at hl 0 rfl) ?_
  refine gVi (As := []) (rest := []) (cs' := wG kI t_a u) ⟨hx, hb, hml, hown, hts⟩ (kX2_mover l D kI kC kG kJ t_a u _ hw) (cwV 0 hts gX2_putGift_X2_mover rfl rfl rfl hdX2_mover ⟨Nat.le_of_ble_eq_true rfl, Nat.le_of_ble_eq_true rfl⟩) hK hP hE hS [0, 1, 2, 3] rfl (ci := 1) (q0 := 0) rfl rfl rfl rfl hl.1 rfl (Nat.le_of_ble_eq_true rfl) dX2_putGift_1 ⟨Nat.le_of_ble_eq_true rfl, Nat.le_of_ble_eq_true rfl⟩ (fun r1 hw => ?_)
  refine lv_istore_n (lv' := [(2, .int r1), (0, .ref t_a.1), (1, .int p0)]) hx hb dX2_putGift_4 rfl hl (by decide) rfl (fun ls hl => ?_)
  refine lv_aload_n hx hb dX2_putGift_5 rfl (lv_at hl 1 rfl) ?_
  refine va_get (D := D) (ci := 1) (v := .ref t_a.2.1) (C := RX2) (T := TX2) (N := 4) hx hb hts (fun _ h => List.mem_cons_of_mem _ (List.mem_append_left _ (List.mem_append_right _ h))) hown hK hP 0 rfl rfl 0 (by decide) (hts (.fieldLink RX2 12 "HazelGift$Game" "board" "LHazelGift$Board;") (List.mem_of_getElem? (i := 1) rfl)) (fun _ h9 => h9) rfl dX2_putGift_6 ?_
  refine lv_aload_n hx hb dX2_putGift_9 rfl (lv_at hl 1 rfl) ?_
  refine va_get (D := D) (ci := 1) (v := .int u.1) (C := RX2) (T := TX2) (N := 4) hx hb hts (fun _ h => List.mem_cons_of_mem _ (List.mem_append_left _ (List.mem_append_right _ h))) hown hK hP 0 rfl rfl 1 (by decide) (hts (.fieldLink RX2 18 "HazelGift$Game" "gift" "I") (List.mem_of_getElem? (i := 2) rfl)) (fun _ h9 => h9) rfl dX2_putGift_10 ?_
  refine lv_iload_n hx hb dX2_putGift_13 rfl (lv_at hl 2 rfl) ?_
  refine gWVv (S := SB) (As := [.int u.1, .int p0]) (rest := []) (wc := wB kI t_a.2.1 t_a.2.2.1 u.2.2.2) (wr := [(t_a.1, .inr (1, [.ref t_a.2.1, .int u.1, .int u.2.1, .ref t_a.2.2.2])), (t_a.2.2.2, .inl (kI, 2, .inl u.2.2.1))]) (cs1 := (fun zz : SB => wB kI t_a.2.1 t_a.2.2.1 zz)) (ws2 := (fun zz : SB => wG kI t_a (u.1, u.2.1, u.2.2.1, zz))) ⟨hx, hb, hml, hown, hts⟩ (fun sz => kX0_put l D kI kC kG kJ t_a.2.1 t_a.2.2.1 sz u.2.2.2 u.1 p0 _ hw) (cwV 2 hts gX2_putGift_X0_put rfl rfl rfl hdX0_put ⟨Nat.le_of_ble_eq_true rfl, Nat.le_of_ble_eq_true rfl⟩) hK hP hD hE hS hA [2, 3] [0, 1] rfl rfl rfl rfl (by decide) [0, 1, 2, 3] rfl (fun _ => rfl) (ci := 0) (q0 := 0) rfl rfl rfl rfl hl.1 rfl (Nat.le_of_ble_eq_true rfl) dX2_putGift_14 ⟨Nat.le_of_ble_eq_true rfl, Nat.le_of_ble_eq_true rfl⟩ (fun w2 H locs hw hP hD hS => ?_)
  have hP : va_P D vwCl (wG kI t_a (u.1, u.2.1, u.2.2.1, w2)) H := hP
  have hD : va_D A (wG kI t_a (u.1, u.2.1, u.2.2.1, w2)) := hD
  refine lv_aload_n hx hb dX2_putGift_17 rfl (lv_at hl 1 rfl) ?_
  refine lv_iconst (v := (-1)) hx hb dX2_putGift_18 (by decide) ?_
  refine va_put (D := D) (ci := 1) (v := .int (-1)) (ty := tyX2 1) (C := RX2) (T := TX2) (N := 4) hx hb hts (fun _ h => List.mem_cons_of_mem _ (List.mem_append_left _ (List.mem_append_right _ h))) tyX2 tyX2_ok nmX2 hown hK hP hD hS 0 rfl rfl 1 (by decide) (hts (.fieldLink RX2 18 "HazelGift$Game" "gift" "I") (List.mem_of_getElem? (i := 2) rfl)) (fun _ h9 => h9) rfl (tyX2_ok 1 (by decide)) rfl rfl (Nat.le_of_ble_eq_true rfl) dX2_putGift_19 (fun H locs hP hD hS => ?_)
  have hP : va_P D vwCl (wG kI t_a ((-1), u.2.1, u.2.2.1, w2)) H := hP
  have hD : va_D A (wG kI t_a ((-1), u.2.1, u.2.2.1, w2)) := hD
  refine lv_aload_n hx hb dX2_putGift_22 rfl (lv_at hl 1 rfl) ?_
  refine va_get (D := D) (ci := 1) (v := .ref t_a.2.1) (C := RX2) (T := TX2) (N := 4) hx hb hts (fun _ h => List.mem_cons_of_mem _ (List.mem_append_left _ (List.mem_append_right _ h))) hown hK hP 0 rfl rfl 0 (by decide) (hts (.fieldLink RX2 12 "HazelGift$Game" "board" "LHazelGift$Board;") (List.mem_of_getElem? (i := 1) rfl)) (fun _ h9 => h9) rfl dX2_putGift_23 ?_
  refine gVi (As := []) (rest := []) (cs' := wB kI t_a.2.1 t_a.2.2.1 w2) ⟨hx, hb, hml, hown, hts⟩ (kX0_hasWonLine l D kI kC kG kJ t_a.2.1 t_a.2.2.1 w2 _ hw) (cwV 0 hts gX2_putGift_X0_hasWonLine rfl rfl rfl hdX0_hasWonLine ⟨Nat.le_of_ble_eq_true rfl, Nat.le_of_ble_eq_true rfl⟩) hK hP hE hS [2, 3] rfl (ci := 0) (q0 := 0) rfl rfl rfl rfl hl.1 rfl (Nat.le_of_ble_eq_true rfl) dX2_putGift_26 ⟨Nat.le_of_ble_eq_true rfl, Nat.le_of_ble_eq_true rfl⟩ (fun r3 hw => ?_)
  refine lv_if_ne (tgt := 34) hx hb dX2_putGift_29 (by decide) (fun c4 => ?_) (fun c4 => ?_)
  · replace hw := Eq.mp (if_neg c4) hw
    refine lv_aload_n hx hb dX2_putGift_34 rfl (lv_at hl 1 rfl) ?_
    refine lv_iload_n hx hb dX2_putGift_35 rfl (lv_at hl 0 rfl) ?_
    refine va_put (D := D) (ci := 1) (v := .int r1) (ty := tyX2 2) (C := RX2) (T := TX2) (N := 4) hx hb hts (fun _ h => List.mem_cons_of_mem _ (List.mem_append_left _ (List.mem_append_right _ h))) tyX2 tyX2_ok nmX2 hown hK hP hD hS 0 rfl rfl 2 (by decide) (hts (.fieldLink RX2 22 "HazelGift$Game" "winner" "I") (List.mem_of_getElem? (i := 3) rfl)) (fun _ h9 => h9) rfl (tyX2_ok 2 (by decide)) rfl rfl (Nat.le_of_ble_eq_true rfl) dX2_putGift_36 (fun H locs hP hD hS => ?_)
    have hP : va_P D vwCl (wG kI t_a ((-1), r1, u.2.2.1, w2)) H := hP
    have hD : va_D A (wG kI t_a ((-1), r1, u.2.2.1, w2)) := hD
    refine lv_iload_n hx hb dX2_putGift_39 rfl (lv_at hl 0 rfl) ?_
    refine lv_if_lt (tgt := 62) hx hb dX2_putGift_40 (by decide) (fun c5 => ?_) (fun c5 => ?_)
    · replace hw := Eq.mp (if_pos c5) hw
      refine lv_iconst (v := 1) hx hb dX2_putGift_62 (by decide) ?_
      exact W.zret (v := 1) hx hb hr rfl (fun t ht hW => ⟨⟨1, ((-1), r1, u.2.2.1, w2), rfl, hw, by rw [ht]; exact hP, va_K.moved hW.alike hK, hD⟩, hS.F ht⟩) hS.2.2 dX2_putGift_63
    · replace hw := Eq.mp (if_neg c5) hw
      refine lv_iload_n hx hb dX2_putGift_43 rfl (lv_at hl 0 rfl) ?_
      refine lv_aload_n hx hb dX2_putGift_44 rfl (lv_at hl 1 rfl) ?_
      refine va_get (D := D) (ci := 1) (v := .ref t_a.2.2.2) (C := RX2) (T := TX2) (N := 4) hx hb hts (fun _ h => List.mem_cons_of_mem _ (List.mem_append_left _ (List.mem_append_right _ h))) hown hK hP 0 rfl rfl 3 (by decide) (hts (.fieldLink RX2 25 "HazelGift$Game" "victories" "[I") (List.mem_of_getElem? (i := 4) rfl)) (fun _ h9 => h9) rfl dX2_putGift_45 ?_
      refine va_alen (v := 2) hx hb hK hP 1 0 rfl rfl rfl dX2_putGift_48 ?_
      refine lv_icmp_ge (tgt := 62) hx hb dX2_putGift_49 (by decide) (fun c6 => ?_) (fun c6 => ?_)
      · replace hw := Eq.mp (if_pos c6) hw
        refine lv_iconst (v := 1) hx hb dX2_putGift_62 (by decide) ?_
        exact W.zret (v := 1) hx hb hr rfl (fun t ht hW => ⟨⟨1, ((-1), r1, u.2.2.1, w2), rfl, hw, by rw [ht]; exact hP, va_K.moved hW.alike hK, hD⟩, hS.F ht⟩) hS.2.2 dX2_putGift_63
      · replace hw := Eq.mp (if_neg c6) hw
        refine lv_aload_n hx hb dX2_putGift_52 rfl (lv_at hl 1 rfl) ?_
        refine va_get (D := D) (ci := 1) (v := .ref t_a.2.2.2) (C := RX2) (T := TX2) (N := 4) hx hb hts (fun _ h => List.mem_cons_of_mem _ (List.mem_append_left _ (List.mem_append_right _ h))) hown hK hP 0 rfl rfl 3 (by decide) (hts (.fieldLink RX2 25 "HazelGift$Game" "victories" "[I") (List.mem_of_getElem? (i := 4) rfl)) (fun _ h9 => h9) rfl dX2_putGift_53 ?_
        refine lv_iload_n hx hb dX2_putGift_56 rfl (lv_at hl 0 rfl) ?_
        refine lv_dup2_11 hx hb dX2_putGift_57 rfl rfl ?_
        obtain ⟨hi7, hw⟩ := hw
        refine gIald (k := (r1).toNatClampNeg) hx hb hK hP 1 0 rfl rfl hi7 rfl dX2_putGift_58 ?_
        refine lv_iconst (v := 1) hx hb dX2_putGift_59 (by decide) ?_
        refine lv_iadd hx hb dX2_putGift_60 ?_
        refine lv_topi (fun x8 ex8 => ?_)
        replace hw := hw x8 ex8
        obtain ⟨hi9, hw⟩ := hw
        refine gIast (k := (r1).toNatClampNeg) hx hb hK hP hD hS 1 0 rfl rfl hi9 rfl dX2_putGift_61 (fun H locs hP hD hS => ?_)
        have hP : va_P D vwCl (wG kI t_a ((-1), r1, (upd u.2.2.1 (r1).toNatClampNeg x8), w2)) H := hP
        have hD : va_D A (wG kI t_a ((-1), r1, (upd u.2.2.1 (r1).toNatClampNeg x8), w2)) := hD
        refine lv_iconst (v := 1) hx hb dX2_putGift_62 (by decide) ?_
        exact W.zret (v := 1) hx hb hr rfl (fun t ht hW => ⟨⟨1, ((-1), r1, (upd u.2.2.1 (r1).toNatClampNeg x8), w2), rfl, hw, by rw [ht]; exact hP, va_K.moved hW.alike hK, hD⟩, hS.F ht⟩) hS.2.2 dX2_putGift_63
  · replace hw := Eq.mp (if_pos c4) hw
    refine lv_iconst (v := 0) hx hb dX2_putGift_32 (by decide) ?_
    exact W.zret (v := 0) hx hb hr rfl (fun t ht hW => ⟨⟨0, ((-1), u.2.1, u.2.2.1, w2), rfl, hw, by rw [ht]; exact hP, va_K.moved hW.alike hK, hD⟩, hS.F ht⟩) hS.2.2 dX2_putGift_33
set_option maxHeartbeats 4000000 in
set_option maxRecDepth 100000 in
theorem kX2_tryMove (l : Launch) (D : va_G) (kI kC kG kJ : ClassId) (t_a : AG) (sz : Nat) (u : SG) (p0 : Int32) (p1 : Int32) (Z : Int32 → SG → Prop) (hw : pX2_tryMove p0 p1 u Z) : Met l yX2_tryMove wsX2_tryMove ({ frames := 6, cells := 0, slots := 0, locals := 123 } : Room) (gPw D (gT kI kC kG kJ) [.ref t_a.1, .int p0, .int p1] (wG kI t_a u) sz) (va_Qi Z (gB D (gT kI kC kG kJ) (fun (zz : SG) => wG kI t_a zz) (va_A (wG kI t_a u) sz)) (va_A (wG kI t_a u) sz)) 0 0 (va_A (wG kI t_a u) sz) := by
  refine Met.ofW (cc := cX2_tryMove) (maxL := 3) (ret := (some .boolean)) (by decide) rfl ?_
  intro p e s m args below meth c s₁ B hml hv
  obtain ⟨rfl, hsz, hP, hK, hD0, hE⟩ := hv
  have hx := B.exec
  have hb := B.bytes
  have hr := B.returns
  have hts := atoms_spec (ws := wsX2_tryMove) B.pre
  have hown : s.vm.findClass RX2 = some m.cls := findClass_of_methodNamed B.named
  have hlocks := B.notSynchronized
  subst hsz
  have hD := hD0.self (sz := s.heap.size)
  generalize hAe : va_A (wG kI t_a u) s.heap.size = A at hD hE ⊢
  have hA : ∀ q : Nat, s.heap.size ≤ q → A q := fun q h => by rw [← hAe]; exact Or.inr h
  have hS : va_S A s.heap s.heap [] := va_S.rf
  clear hAe hD0
  have hl := lv_entry ([.ref t_a.1, .int p0, .int p1]) (n := 3) (Nat.le_of_ble_eq_true rfl)
  rw [lg_entry_eq]
  generalize (lg_sl ([.ref t_a.1, .int p0, .int p1]) ++ List.replicate (3 - (lg_sl ([.ref t_a.1, .int p0, .int p1])).length) Slot.unset).toArray = ls at hl ⊢
  have hl : lv_has ls 3 [(0, .ref t_a.1), (1, .int p0), (2, .int p1)] := hl
  have hP : va_P D vwCl (wG kI t_a u) s.heap := hP
  unfold pX2_tryMove at hw
  refine lv_iload_n hx hb dX2_tryMove_0 rfl (lv_at hl 1 rfl) ?_
  refine lv_if_eq (tgt := 21) hx hb dX2_tryMove_1 (by decide) (fun c1 => ?_) (fun c1 => ?_)
  · replace hw := Eq.mp (if_pos c1) hw
    refine lv_aload_n hx hb dX2_tryMove_21 rfl (lv_at hl 0 rfl) ?_
    refine lv_iload_n hx hb dX2_tryMove_22 rfl (lv_at hl 2 rfl) ?_
    refine gVi (As := [.int p1]) (rest := []) (cs' := wG kI t_a u) ⟨hx, hb, hml, hown, hts⟩ (kX2_canPut l D kI kC kG kJ t_a u p1 _ hw) (cwV 1 hts gX2_tryMove_X2_canPut rfl rfl rfl hdX2_canPut ⟨Nat.le_of_ble_eq_true rfl, Nat.le_of_ble_eq_true rfl⟩) hK hP hE hS [0, 1, 2, 3] rfl (ci := 1) (q0 := 0) rfl rfl rfl rfl hl.1 rfl (Nat.le_of_ble_eq_true rfl) dX2_tryMove_23 ⟨Nat.le_of_ble_eq_true rfl, Nat.le_of_ble_eq_true rfl⟩ (fun r2 hw => ?_)
    refine lv_if_ne (tgt := 31) hx hb dX2_tryMove_26 (by decide) (fun c3 => ?_) (fun c3 => ?_)
    · replace hw := Eq.mp (if_neg c3) hw
      refine lv_aload_n hx hb dX2_tryMove_31 rfl (lv_at hl 0 rfl) ?_
      refine lv_iload_n hx hb dX2_tryMove_32 rfl (lv_at hl 2 rfl) ?_
      refine gWVi (S := SG) (As := [.int p1]) (rest := []) (wc := wG kI t_a u) (wr := []) (cs1 := (fun zz : SG => wG kI t_a zz)) (ws2 := (fun zz : SG => wG kI t_a zz)) ⟨hx, hb, hml, hown, hts⟩ (fun sz => kX2_putGift l D kI kC kG kJ t_a sz u p1 _ hw) (cwV 1 hts gX2_tryMove_X2_putGift rfl rfl rfl hdX2_putGift ⟨Nat.le_of_ble_eq_true rfl, Nat.le_of_ble_eq_true rfl⟩) hK hP hD hE hS hA [0, 1, 2, 3] [] rfl rfl rfl rfl (by decide) [0, 1, 2, 3] rfl (fun _ => rfl) (ci := 1) (q0 := 0) rfl rfl rfl rfl hl.1 rfl (Nat.le_of_ble_eq_true rfl) dX2_tryMove_33 ⟨Nat.le_of_ble_eq_true rfl, Nat.le_of_ble_eq_true rfl⟩ (fun r4 w4 H locs hw hP hD hS => ?_)
      have hP : va_P D vwCl (wG kI t_a w4) H := hP
      have hD : va_D A (wG kI t_a w4) := hD
      refine lv_pop hx hb dX2_tryMove_36 rfl ?_
      refine lv_iconst (v := 1) hx hb dX2_tryMove_37 (by decide) ?_
      exact W.zret (v := 1) hx hb hr rfl (fun t ht hW => ⟨⟨1, w4, rfl, hw, by rw [ht]; exact hP, va_K.moved hW.alike hK, hD⟩, hS.F ht⟩) hS.2.2 dX2_tryMove_38
    · replace hw := Eq.mp (if_pos c3) hw
      refine lv_iconst (v := 0) hx hb dX2_tryMove_29 (by decide) ?_
      exact W.zret (v := 0) hx hb hr rfl (fun t ht hW => ⟨⟨0, u, rfl, hw, by rw [ht]; exact hP, va_K.moved hW.alike hK, hD⟩, hS.F ht⟩) hS.2.2 dX2_tryMove_30
  · replace hw := Eq.mp (if_neg c1) hw
    refine lv_aload_n hx hb dX2_tryMove_4 rfl (lv_at hl 0 rfl) ?_
    refine lv_iload_n hx hb dX2_tryMove_5 rfl (lv_at hl 2 rfl) ?_
    refine gVi (As := [.int p1]) (rest := []) (cs' := wG kI t_a u) ⟨hx, hb, hml, hown, hts⟩ (kX2_canGive l D kI kC kG kJ t_a u p1 _ hw) (cwV 1 hts gX2_tryMove_X2_canGive rfl rfl rfl hdX2_canGive ⟨Nat.le_of_ble_eq_true rfl, Nat.le_of_ble_eq_true rfl⟩) hK hP hE hS [0, 1, 2, 3] rfl (ci := 1) (q0 := 0) rfl rfl rfl rfl hl.1 rfl (Nat.le_of_ble_eq_true rfl) dX2_tryMove_6 ⟨Nat.le_of_ble_eq_true rfl, Nat.le_of_ble_eq_true rfl⟩ (fun r5 hw => ?_)
    refine lv_if_ne (tgt := 14) hx hb dX2_tryMove_9 (by decide) (fun c6 => ?_) (fun c6 => ?_)
    · replace hw := Eq.mp (if_neg c6) hw
      refine lv_aload_n hx hb dX2_tryMove_14 rfl (lv_at hl 0 rfl) ?_
      refine lv_iload_n hx hb dX2_tryMove_15 rfl (lv_at hl 2 rfl) ?_
      refine gWVv (S := SG) (As := [.int p1]) (rest := []) (wc := wG kI t_a u) (wr := []) (cs1 := (fun zz : SG => wG kI t_a zz)) (ws2 := (fun zz : SG => wG kI t_a zz)) ⟨hx, hb, hml, hown, hts⟩ (fun sz => kX2_setGift l D kI kC kG kJ t_a sz u p1 _ hw) (cwV 1 hts gX2_tryMove_X2_setGift rfl rfl rfl hdX2_setGift ⟨Nat.le_of_ble_eq_true rfl, Nat.le_of_ble_eq_true rfl⟩) hK hP hD hE hS hA [0, 1, 2, 3] [] rfl rfl rfl rfl (by decide) [0, 1, 2, 3] rfl (fun _ => rfl) (ci := 1) (q0 := 0) rfl rfl rfl rfl hl.1 rfl (Nat.le_of_ble_eq_true rfl) dX2_tryMove_16 ⟨Nat.le_of_ble_eq_true rfl, Nat.le_of_ble_eq_true rfl⟩ (fun w7 H locs hw hP hD hS => ?_)
      have hP : va_P D vwCl (wG kI t_a w7) H := hP
      have hD : va_D A (wG kI t_a w7) := hD
      refine lv_iconst (v := 1) hx hb dX2_tryMove_19 (by decide) ?_
      exact W.zret (v := 1) hx hb hr rfl (fun t ht hW => ⟨⟨1, w7, rfl, hw, by rw [ht]; exact hP, va_K.moved hW.alike hK, hD⟩, hS.F ht⟩) hS.2.2 dX2_tryMove_20
    · replace hw := Eq.mp (if_pos c6) hw
      refine lv_iconst (v := 0) hx hb dX2_tryMove_12 (by decide) ?_
      exact W.zret (v := 0) hx hb hr rfl (fun t ht hW => ⟨⟨0, u, rfl, hw, by rw [ht]; exact hP, va_K.moved hW.alike hK, hD⟩, hS.F ht⟩) hS.2.2 dX2_tryMove_13
set_option maxHeartbeats 4000000 in
set_option maxRecDepth 100000 in
theorem kX2_copyFrom (l : Launch) (D : va_G) (kI kC kG kJ : ClassId) (t_a : AG) (o0_a : AG) (sz : Nat) (u : SG) (w0 : SG) (Z : SG × SG → Prop) (hw : pX2_copyFrom u w0 Z) : Met l yX2_copyFrom wsX2_copyFrom ({ frames := 1, cells := 0, slots := 0, locals := 22 } : Room) (gPw D (gT kI kC kG kJ) [.ref t_a.1, .ref o0_a.1] (wG kI t_a u ++ wG kI o0_a w0) sz) (va_Qv Z (gB D (gT kI kC kG kJ) (fun (zz : SG × SG) => wG kI t_a zz.1 ++ wG kI o0_a zz.2) (va_A (wG kI t_a u ++ wG kI o0_a w0) sz)) (va_A (wG kI t_a u ++ wG kI o0_a w0) sz)) 0 0 (va_A (wG kI t_a u ++ wG kI o0_a w0) sz) := by
  refine Met.ofW (cc := cX2_copyFrom) (maxL := 3) (ret := none) (by decide) rfl ?_
  intro p e s m args below meth c s₁ B hml hv
  obtain ⟨rfl, hsz, hP, hK, hD0, hE⟩ := hv
  have hx := B.exec
  have hb := B.bytes
  have hr := B.returns
  have hts := atoms_spec (ws := wsX2_copyFrom) B.pre
  have hown : s.vm.findClass RX2 = some m.cls := findClass_of_methodNamed B.named
  have hlocks := B.notSynchronized
  subst hsz
  have hD := hD0.self (sz := s.heap.size)
  generalize hAe : va_A (wG kI t_a u ++ wG kI o0_a w0) s.heap.size = A at hD hE ⊢
  have hA : ∀ q : Nat, s.heap.size ≤ q → A q := fun q h => by rw [← hAe]; exact Or.inr h
  have hS : va_S A s.heap s.heap [] := va_S.rf
  clear hAe hD0
  have hl := lv_entry ([.ref t_a.1, .ref o0_a.1]) (n := 3) (Nat.le_of_ble_eq_true rfl)
  rw [lg_entry_eq]
  generalize (lg_sl ([.ref t_a.1, .ref o0_a.1]) ++ List.replicate (3 - (lg_sl ([.ref t_a.1, .ref o0_a.1])).length) Slot.unset).toArray = ls at hl ⊢
  have hl : lv_has ls 3 [(0, .ref t_a.1), (1, .ref o0_a.1)] := hl
  have hP : va_P D vwCl (wG kI t_a u ++ wG kI o0_a w0) s.heap := hP
  have L29 : ∀ (w0 : SG), ∀ (n : Nat), ∀ (v2 : Int32) (u : SG) (H : Heap) (locs : List Loc) (ls : Array Slot), va_P D vwCl (wG kI t_a u ++ wG kI o0_a w0) H → va_D A (wG kI t_a u ++ wG kI o0_a w0) → va_S A s.heap H locs → lv_has ls 3 [(0, .ref t_a.1), (1, .ref o0_a.1), (2, .int v2)] → pX2_copyFrom_29 Z w0 n v2 u → W p l e (headSpec wsX2_copyFrom ({ frames := 1, cells := 0, slots := 0, locals := 22 } : Room)).room s m ([.ref t_a.1, .ref o0_a.1] : List Value).toArray below meth c H locs 0 0 (MQ below (va_Qv Z (gB D (gT kI kC kG kJ) (fun (zz : SG × SG) => wG kI t_a zz.1 ++ wG kI o0_a zz.2) A) A) ([.ref t_a.1, .ref o0_a.1] : List Value).toArray s 0 0 A) (F0 m 29 ls []) := by
    intro w0 n
    induction n with
    | zero => intro v2 u H locs ls hP hD hS hl hw; exact hw.elim
    | succ n ih =>
    intro v2 u H locs ls hP hD hS hl hw
    rw [pX2_copyFrom_29] at hw
    refine lv_iload_n hx hb dX2_copyFrom_29 rfl (lv_at hl 2 rfl) ?_
    refine lv_aload_n hx hb dX2_copyFrom_30 rfl (lv_at hl 0 rfl) ?_
    refine va_get (D := D) (ci := 1) (v := .ref t_a.2.2.2) (C := RX2) (T := TX2) (N := 4) hx hb hts (fun _ h => List.mem_cons_of_mem _ (List.mem_append_left _ (List.mem_append_right _ h))) hown hK hP 0 rfl rfl 3 (by decide) (hts (.fieldLink RX2 25 "HazelGift$Game" "victories" "[I") (List.mem_of_getElem? (i := 4) rfl)) (fun _ h9 => h9) rfl dX2_copyFrom_31 ?_
    refine va_alen (v := 2) hx hb hK hP 1 0 rfl rfl rfl dX2_copyFrom_34 ?_
    refine lv_icmp_ge (tgt := 65) hx hb dX2_copyFrom_35 (by decide) (fun c2 => ?_) (fun c2 => ?_)
    · replace hw := Eq.mp (if_pos c2) hw
      exact W.vret hx hb hr (fun t ht hW => ⟨⟨(u, w0), rfl, hw, by rw [ht]; exact hP, va_K.moved hW.alike hK, hD⟩, hS.F ht⟩) hS.2.2 dX2_copyFrom_65
    · replace hw := Eq.mp (if_neg c2) hw
      refine lv_iload_n hx hb dX2_copyFrom_38 rfl (lv_at hl 2 rfl) ?_
      refine lv_aload_n hx hb dX2_copyFrom_39 rfl (lv_at hl 1 rfl) ?_
      refine va_get (D := D) (ci := 1) (v := .ref o0_a.2.2.2) (C := RX2) (T := TX2) (N := 4) hx hb hts (fun _ h => List.mem_cons_of_mem _ (List.mem_append_left _ (List.mem_append_right _ h))) hown hK hP 4 rfl rfl 3 (by decide) (hts (.fieldLink RX2 25 "HazelGift$Game" "victories" "[I") (List.mem_of_getElem? (i := 4) rfl)) (fun _ h9 => h9) rfl dX2_copyFrom_40 ?_
      refine va_alen (v := 2) hx hb hK hP 5 0 rfl rfl rfl dX2_copyFrom_43 ?_
      refine lv_icmp_ge (tgt := 65) hx hb dX2_copyFrom_44 (by decide) (fun c3 => ?_) (fun c3 => ?_)
      · replace hw := Eq.mp (if_pos c3) hw
        exact W.vret hx hb hr (fun t ht hW => ⟨⟨(u, w0), rfl, hw, by rw [ht]; exact hP, va_K.moved hW.alike hK, hD⟩, hS.F ht⟩) hS.2.2 dX2_copyFrom_65
      · replace hw := Eq.mp (if_neg c3) hw
        refine lv_aload_n hx hb dX2_copyFrom_47 rfl (lv_at hl 0 rfl) ?_
        refine va_get (D := D) (ci := 1) (v := .ref t_a.2.2.2) (C := RX2) (T := TX2) (N := 4) hx hb hts (fun _ h => List.mem_cons_of_mem _ (List.mem_append_left _ (List.mem_append_right _ h))) hown hK hP 0 rfl rfl 3 (by decide) (hts (.fieldLink RX2 25 "HazelGift$Game" "victories" "[I") (List.mem_of_getElem? (i := 4) rfl)) (fun _ h9 => h9) rfl dX2_copyFrom_48 ?_
        refine lv_iload_n hx hb dX2_copyFrom_51 rfl (lv_at hl 2 rfl) ?_
        refine lv_aload_n hx hb dX2_copyFrom_52 rfl (lv_at hl 1 rfl) ?_
        refine va_get (D := D) (ci := 1) (v := .ref o0_a.2.2.2) (C := RX2) (T := TX2) (N := 4) hx hb hts (fun _ h => List.mem_cons_of_mem _ (List.mem_append_left _ (List.mem_append_right _ h))) hown hK hP 4 rfl rfl 3 (by decide) (hts (.fieldLink RX2 25 "HazelGift$Game" "victories" "[I") (List.mem_of_getElem? (i := 4) rfl)) (fun _ h9 => h9) rfl dX2_copyFrom_53 ?_
        refine lv_iload_n hx hb dX2_copyFrom_56 rfl (lv_at hl 2 rfl) ?_
        obtain ⟨hi4, hw⟩ := hw
        refine gIald (k := (v2).toNatClampNeg) hx hb hK hP 5 0 rfl rfl hi4 rfl dX2_copyFrom_57 ?_
        refine lv_topi (fun x5 ex5 => ?_)
        replace hw := hw x5 ex5
        obtain ⟨hi6, hw⟩ := hw
        refine gIast (k := (v2).toNatClampNeg) hx hb hK hP hD hS 1 0 rfl rfl hi6 rfl dX2_copyFrom_58 (fun H locs hP hD hS => ?_)
        have hP : va_P D vwCl (wG kI t_a (u.1, u.2.1, (upd u.2.2.1 (v2).toNatClampNeg x5), u.2.2.2) ++ wG kI o0_a w0) H := hP
        have hD : va_D A (wG kI t_a (u.1, u.2.1, (upd u.2.2.1 (v2).toNatClampNeg x5), u.2.2.2) ++ wG kI o0_a w0) := hD
        obtain ⟨x7, ex7⟩ : ∃ y : Int32, y = (v2 + 1) := ⟨_, rfl⟩
        replace hw := hw x7 ex7
        refine lv_iinc (v := x7) (lv' := [(2, .int x7), (0, .ref t_a.1), (1, .ref o0_a.1)]) hx hb dX2_copyFrom_59 hl (k := 2) rfl (by rw [ex7]; rfl) (by decide) rfl (fun ls hl => ?_)
        refine lv_goto (tgt := 29) hx hb dX2_copyFrom_62 (by decide) ?_
        exact ih x7 (u.1, u.2.1, (upd u.2.2.1 (v2).toNatClampNeg x5), u.2.2.2) H locs ls hP hD hS (lv_sub hl [1, 2, 0] rfl) hw
  unfold pX2_copyFrom at hw
  refine lv_aload_n hx hb dX2_copyFrom_0 rfl (lv_at hl 0 rfl) ?_
  refine va_get (D := D) (ci := 1) (v := .ref t_a.2.1) (C := RX2) (T := TX2) (N := 4) hx hb hts (fun _ h => List.mem_cons_of_mem _ (List.mem_append_left _ (List.mem_append_right _ h))) hown hK hP 0 rfl rfl 0 (by decide) (hts (.fieldLink RX2 12 "HazelGift$Game" "board" "LHazelGift$Board;") (List.mem_of_getElem? (i := 1) rfl)) (fun _ h9 => h9) rfl dX2_copyFrom_1 ?_
  refine lv_aload_n hx hb dX2_copyFrom_4 rfl (lv_at hl 1 rfl) ?_
  refine va_get (D := D) (ci := 1) (v := .ref o0_a.2.1) (C := RX2) (T := TX2) (N := 4) hx hb hts (fun _ h => List.mem_cons_of_mem _ (List.mem_append_left _ (List.mem_append_right _ h))) hown hK hP 4 rfl rfl 0 (by decide) (hts (.fieldLink RX2 12 "HazelGift$Game" "board" "LHazelGift$Board;") (List.mem_of_getElem? (i := 1) rfl)) (fun _ h9 => h9) rfl dX2_copyFrom_5 ?_
  refine gWVv (S := SB × SB) (As := [.ref o0_a.2.1]) (rest := []) (wc := wB kI t_a.2.1 t_a.2.2.1 u.2.2.2 ++ wB kI o0_a.2.1 o0_a.2.2.1 w0.2.2.2) (wr := [(t_a.1, .inr (1, [.ref t_a.2.1, .int u.1, .int u.2.1, .ref t_a.2.2.2])), (t_a.2.2.2, .inl (kI, 2, .inl u.2.2.1))] ++ [(o0_a.1, .inr (1, [.ref o0_a.2.1, .int w0.1, .int w0.2.1, .ref o0_a.2.2.2])), (o0_a.2.2.2, .inl (kI, 2, .inl w0.2.2.1))]) (cs1 := (fun zz : SB × SB => wB kI t_a.2.1 t_a.2.2.1 zz.1 ++ wB kI o0_a.2.1 o0_a.2.2.1 zz.2)) (ws2 := (fun zz : SB × SB => wG kI t_a (u.1, u.2.1, u.2.2.1, zz.1) ++ wG kI o0_a (w0.1, w0.2.1, w0.2.2.1, zz.2))) ⟨hx, hb, hml, hown, hts⟩ (fun sz => kX0_copyFrom l D kI kC kG kJ t_a.2.1 t_a.2.2.1 o0_a.2.1 o0_a.2.2.1 sz u.2.2.2 w0.2.2.2 _ hw) (cwV 1 hts gX2_copyFrom_X0_copyFrom rfl rfl rfl hdX0_copyFrom ⟨Nat.le_of_ble_eq_true rfl, Nat.le_of_ble_eq_true rfl⟩) hK hP hD hE hS hA [2, 3, 6, 7] [0, 1, 4, 5] rfl rfl rfl rfl (by decide) [0, 1, 4, 5, 2, 3, 6, 7] rfl (fun _ => rfl) (ci := 0) (q0 := 0) rfl rfl rfl rfl hl.1 rfl (Nat.le_of_ble_eq_true rfl) dX2_copyFrom_8 ⟨Nat.le_of_ble_eq_true rfl, Nat.le_of_ble_eq_true rfl⟩ (fun w1 H locs hw hP hD hS => ?_)
  have hP : va_P D vwCl (wG kI t_a (u.1, u.2.1, u.2.2.1, w1.1) ++ wG kI o0_a (w0.1, w0.2.1, w0.2.2.1, w1.2)) H := hP
  have hD : va_D A (wG kI t_a (u.1, u.2.1, u.2.2.1, w1.1) ++ wG kI o0_a (w0.1, w0.2.1, w0.2.2.1, w1.2)) := hD
  refine lv_aload_n hx hb dX2_copyFrom_11 rfl (lv_at hl 0 rfl) ?_
  refine lv_aload_n hx hb dX2_copyFrom_12 rfl (lv_at hl 1 rfl) ?_
  refine va_get (D := D) (ci := 1) (v := .int w0.1) (C := RX2) (T := TX2) (N := 4) hx hb hts (fun _ h => List.mem_cons_of_mem _ (List.mem_append_left _ (List.mem_append_right _ h))) hown hK hP 4 rfl rfl 1 (by decide) (hts (.fieldLink RX2 18 "HazelGift$Game" "gift" "I") (List.mem_of_getElem? (i := 2) rfl)) (fun _ h9 => h9) rfl dX2_copyFrom_13 ?_
  refine va_put (D := D) (ci := 1) (v := .int w0.1) (ty := tyX2 1) (C := RX2) (T := TX2) (N := 4) hx hb hts (fun _ h => List.mem_cons_of_mem _ (List.mem_append_left _ (List.mem_append_right _ h))) tyX2 tyX2_ok nmX2 hown hK hP hD hS 0 rfl rfl 1 (by decide) (hts (.fieldLink RX2 18 "HazelGift$Game" "gift" "I") (List.mem_of_getElem? (i := 2) rfl)) (fun _ h9 => h9) rfl (tyX2_ok 1 (by decide)) rfl rfl (Nat.le_of_ble_eq_true rfl) dX2_copyFrom_16 (fun H locs hP hD hS => ?_)
  have hP : va_P D vwCl (wG kI t_a (w0.1, u.2.1, u.2.2.1, w1.1) ++ wG kI o0_a (w0.1, w0.2.1, w0.2.2.1, w1.2)) H := hP
  have hD : va_D A (wG kI t_a (w0.1, u.2.1, u.2.2.1, w1.1) ++ wG kI o0_a (w0.1, w0.2.1, w0.2.2.1, w1.2)) := hD
  refine lv_aload_n hx hb dX2_copyFrom_19 rfl (lv_at hl 0 rfl) ?_
  refine lv_aload_n hx hb dX2_copyFrom_20 rfl (lv_at hl 1 rfl) ?_
  refine va_get (D := D) (ci := 1) (v := .int w0.2.1) (C := RX2) (T := TX2) (N := 4) hx hb hts (fun _ h => List.mem_cons_of_mem _ (List.mem_append_left _ (List.mem_append_right _ h))) hown hK hP 4 rfl rfl 2 (by decide) (hts (.fieldLink RX2 22 "HazelGift$Game" "winner" "I") (List.mem_of_getElem? (i := 3) rfl)) (fun _ h9 => h9) rfl dX2_copyFrom_21 ?_
  refine va_put (D := D) (ci := 1) (v := .int w0.2.1) (ty := tyX2 2) (C := RX2) (T := TX2) (N := 4) hx hb hts (fun _ h => List.mem_cons_of_mem _ (List.mem_append_left _ (List.mem_append_right _ h))) tyX2 tyX2_ok nmX2 hown hK hP hD hS 0 rfl rfl 2 (by decide) (hts (.fieldLink RX2 22 "HazelGift$Game" "winner" "I") (List.mem_of_getElem? (i := 3) rfl)) (fun _ h9 => h9) rfl (tyX2_ok 2 (by decide)) rfl rfl (Nat.le_of_ble_eq_true rfl) dX2_copyFrom_24 (fun H locs hP hD hS => ?_)
  have hP : va_P D vwCl (wG kI t_a (w0.1, w0.2.1, u.2.2.1, w1.1) ++ wG kI o0_a (w0.1, w0.2.1, w0.2.2.1, w1.2)) H := hP
  have hD : va_D A (wG kI t_a (w0.1, w0.2.1, u.2.2.1, w1.1) ++ wG kI o0_a (w0.1, w0.2.1, w0.2.2.1, w1.2)) := hD
  refine lv_iconst (v := 0) hx hb dX2_copyFrom_27 (by decide) ?_
  refine lv_istore_n (lv' := [(2, .int 0), (0, .ref t_a.1), (1, .ref o0_a.1)]) hx hb dX2_copyFrom_28 rfl hl (by decide) rfl (fun ls hl => ?_)
  obtain ⟨n9, hw⟩ := hw
  exact L29 (w0.1, w0.2.1, w0.2.2.1, w1.2) n9 0 (w0.1, w0.2.1, u.2.2.1, w1.1) H locs ls hP hD hS (lv_sub hl [1, 2, 0] rfl) hw
