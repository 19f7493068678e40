/-! the script's ints by the law's own helper -/
def gPs (av : List Value) (b L : Nat) (xs : Nat → Int32) : Array Value → State → Prop := va_Pc av (fun U => va_X b L xs U U.heap)
theorem gPs.blind {av : List Value} {b L : Nat} {xs : Nat → Int32} : FrameBlind (gPs av b L xs) := fun a U g mk q => by
  obtain ⟨q0, q1⟩ := q
  exact ⟨q0, va_X.moved (u := U) (U := U.calling g mk a) (Vm.Alike.refl U.vm) q1⟩
set_option maxHeartbeats 4000000 in
set_option maxRecDepth 100000 in
theorem kL_cell (l : Launch) (b L : Nat) (xs : Nat → Int32) (k : Nat) (hk : k < 1000) (hL : L ≤ 260) : Met l yL_cell wsL_cell ({ frames := 0, cells := 0, slots := 0, locals := 0 } : Room) (gPs [.ref b, .int (nI k)] b L xs) (vp_Si (fun _ => True)) 0 0 (fun _ => False) := by
  refine Met.ofW (cc := cL_cell) (maxL := 2) (ret := (some .int)) (by decide) rfl ?_
  intro p e s m args below meth c s₁ B hml hv
  obtain ⟨rfl, hX⟩ := hv
  have hx := B.exec
  have hb := B.bytes
  have hr := B.returns
  have hts := atoms_spec (ws := wsL_cell) B.pre
  have hown : s.vm.findClass RL = some m.cls := findClass_of_methodNamed B.named
  have hS : va_S (fun _ => False) s.heap s.heap [] := va_S.rf
  have hbl : b < s.heap.size := by
    obtain ⟨scr, h1, -⟩ := hX
    exact (Array.getElem?_eq_some_iff.mp h1).1
  have hbA : ¬ (fun _ : Nat => False) b := fun h => h
  have hl := lv_entry ([.ref b, .int (nI k)]) (n := 2) (Nat.le_of_ble_eq_true rfl)
  rw [lg_entry_eq]
  generalize (lg_sl ([.ref b, .int (nI k)]) ++ List.replicate (2 - (lg_sl ([.ref b, .int (nI k)])).length) Slot.unset).toArray = ls at hl ⊢
  have hl : lv_has ls 2 [(0, .ref b), (1, .int (nI k))] := hl
  refine lv_iload_n hx hb dL_cell_0 rfl (lv_at hl 1 rfl) ?_
  refine lv_aload_n hx hb dL_cell_1 rfl (lv_at hl 0 rfl) ?_
  refine va_slen hx hb hX hbl hbA hS dL_cell_2 ?_
  refine lv_icmp_ge (tgt := 12) hx hb dL_cell_3 (by decide) (fun c1 => ?_) (fun c1 => ?_)
  · refine lv_ldc (v := 2144861637) hx hb hown (hts (.constant RL 7 (2144861637)) (List.mem_of_getElem? (i := 1) rfl)) dL_cell_12 ?_
    refine lv_iload_n hx hb dL_cell_14 rfl (lv_at hl 1 rfl) ?_
    refine lv_sipush (v := 1907) hx hb dL_cell_15 (by decide) ?_
    refine lv_iadd hx hb dL_cell_18 ?_
    refine lv_imul hx hb dL_cell_19 ?_
    exact W.iret hx hb hr (fun t ht hW => ⟨_, rfl, trivial, ht⟩) (fun _ h => by cases h) dL_cell_20
  · have hkL : k < L := by
      have c2 : ¬ nI L ≤ nI k := c1
      rw [nI_leI (by omega) (by omega)] at c2
      omega
    refine lv_aload_n hx hb dL_cell_6 rfl (lv_at hl 0 rfl) ?_
    refine lv_iload_n hx hb dL_cell_7 rfl (lv_at hl 1 rfl) ?_
    refine va_sld hx hb hX hbl hbA hS (vp_in_nI hkL (by omega)) dL_cell_8 ?_
    refine lv_goto (tgt := 20) hx hb dL_cell_9 (by decide) ?_
    exact W.iret hx hb hr (fun t ht hW => ⟨_, rfl, trivial, ht⟩) (fun _ h => by cases h) dL_cell_20
section GCS
variable {p : Program} {l : Launch} {e : Env} {R : Room} {s : State} {m : MethodId} {args : Array Value} {below : List Frame} {meth : Method} {c : Code} {H : Heap} {locs : List Loc} {cells slots : Nat} {Q : State → Prop} {cc : ByteArray} {nL : Nat} {Ts : List Cond} {own : String} {A : Nat → Prop} {ls : Array Slot} {pc index : Nat} {rest st0 : List Value}
/-- a call of it -/
theorem gCell {b L k : Nat} {xs : Nat → Int32} {v : Int32} (hv : v = nI k ∧ k < 1000) (hL : L ≤ 260) (S : CallFix p m c cc nL s args Ts own) {bytes : ByteArray} {maxL n : Nat} {ret : Option FieldType} (cw : CallB R s args own index yL_cell bytes maxL ret wsL_cell ({ frames := 0, cells := 0, slots := 0, locals := 0 } : Room) 0 0 n ∧ (Cond.static yL_cell).before args s = true)
    (hX : va_X b L xs s s.heap) (hbl : b < s.heap.size) (hbA : ¬ A b) (hS : va_S A s.heap H locs)
    (hn : 2 = n) (hsize : ls.size = nL) (hstack : st0 = .int v :: .ref b :: rest) (hW : (rest.map fun v => v.category).sum ≤ 8) (hdg : decode cc pc = .ok (.invokestatic index, 3)) (hf : cells ≤ R.cells ∧ slots ≤ R.slots)
    (kk : ∀ r : Int32, W p l e R s m args below meth c H locs cells slots Q (F0 m (pc + 3) ls (.int r :: rest))) : W p l e R s m args below meth c H locs cells slots Q (F0 m pc ls st0) := by
  obtain ⟨rfl, hk⟩ := hv
  exact vp_callSi (va_runS (As := [.ref b, .int (nI k)]) (rest := rest) (g := F0 m pc ls st0) S (kL_cell l b L xs k hk hL) cw ⟨gPs.blind, fun U hU hW => ⟨rfl, by show va_X b L xs U U.heap; rw [hU]; exact va_X.moved hW.alike (va_X.kept hX (hS.2.1 b hbl hbA))⟩⟩ rfl hn hsize hstack (lv_room hW) hdg hf).run (fun r _ => kk r)
end GCS
set_option maxHeartbeats 16000000 in
set_option maxRecDepth 100000 in
/-- one turn of the law, behind the tests at its head -/
theorem law_body {p : Program} {l : Launch} {e : Env} {s : State} {m : MethodId} {below : List Frame} {meth : Method} {c : Code} {D : va_G} {kI kC kG kJ : ClassId} {b L : Nat} {xs : Nat → Int32} (hlt : l.stackTraces = false) (hL : L ≤ 260) (C0 : lw_At p s m meth c b L xs) (hK : va_K D vwCl (gT kI kC kG kJ) s) (hE : gE (fun q : Nat => s.heap.size ≤ q) s s.heap) {x : Nat} {ag at_ as_ : AG} {hh hst : Nat} {a0 a1 a2 a3 : AG} {tx tch : Nat} {y : Nat} {bg bt_ bs_ : AG} {yh yst : Nat} {b0 b1 b2 b3 : AG} {tyy tych : Nat} (K : SX → SX → Prop) (j : Nat) (hback : ∀ (v4 : Int32) (u ub : SX) (H : Heap) (locs : List Loc) (ls : Array Slot), va_P D vwCl (wX kI kC kG x ag at_ as_ hh hst a0 a1 a2 a3 tx tch u ++ wX kI kC kG y bg bt_ bs_ yh yst b0 b1 b2 b3 tyy tych ub) H → va_D (fun q : Nat => s.heap.size ≤ q) (wX kI kC kG x ag at_ as_ hh hst a0 a1 a2 a3 tx tch u ++ wX kI kC kG y bg bt_ bs_ yh yst b0 b1 b2 b3 tyy tych ub) → va_S (fun q : Nat => s.heap.size ≤ q) s.heap H locs → lv_has ls 5 [(4, .int v4), (3, .int 1), (0, .ref b), (1, .ref x), (2, .ref y)] → v4 = nI (j + 1) → K u ub → W p l e room_1 s m #[Value.ref b] below meth c H locs (80 + 4 * (j + 1)) (1000 + 24 * (j + 1)) (lw_Z below #[Value.ref b] s) (F0 m 21 ls [])) (v4 : Int32) (ev4 : v4 = nI j) (hj : j < 80) (u ub : SX) (H : Heap) (locs : List Loc) (ls : Array Slot) : va_P D vwCl (wX kI kC kG x ag at_ as_ hh hst a0 a1 a2 a3 tx tch u ++ wX kI kC kG y bg bt_ bs_ yh yst b0 b1 b2 b3 tyy tych ub) H → va_D (fun q : Nat => s.heap.size ≤ q) (wX kI kC kG x ag at_ as_ hh hst a0 a1 a2 a3 tx tch u ++ wX kI kC kG y bg bt_ bs_ yh yst b0 b1 b2 b3 tyy tych ub) → va_S (fun q : Nat => s.heap.size ≤ q) s.heap H locs → lv_has ls 5 [(4, .int v4), (3, .int 1), (0, .ref b), (1, .ref x), (2, .ref y)] → pL_body v4 u ub K → W p l e room_1 s m #[Value.ref b] below meth c H locs (80 + 4 * j) (1000 + 24 * j) (lw_Z below #[Value.ref b] s) (F0 m 28 ls []) := by
  intro hP hD hS hl hw
  obtain ⟨hx, hb, hr, hml, hown, hts0, hX, hbl, hlocks, hgv⟩ := id C0
  have hown : s.vm.findClass RL = some m.cls := hown
  have hts : ∀ w ∈ wsL_law, w.before #[Value.ref b] s = true := fun w h => hts0 w (wsL_law_in w h)
  have hA : ∀ q : Nat, s.heap.size ≤ q → (fun q : Nat => s.heap.size ≤ q) q := fun _ h => h
  have hbA : ¬ (fun q : Nat => s.heap.size ≤ q) b := Nat.not_le.mpr hbl
  have hi0 : v4 = nI j ∧ j < 1000 := ⟨ev4, by omega⟩
  have hi1 : v4 + 1 = nI (j + 1) ∧ j + 1 < 1000 := ⟨by rw [ev4, nI_1], by omega⟩
  unfold pL_body at hw
  refine lv_iload_n hx hb dL_law_28 rfl (lv_at hl 1 rfl) ?_
  refine lv_if_eq (tgt := 82) hx hb dL_law_29 (by decide) (fun c1 => ?_) (fun c1 => ?_)
  · exact absurd c1 (by decide)
  refine lv_aload_n hx hb dL_law_32 rfl (lv_at hl 3 rfl) ?_
  refine lv_aload_n hx hb dL_law_33 rfl (lv_at hl 4 rfl) ?_
  refine lv_aload_n hx hb dL_law_34 rfl (lv_at hl 2 rfl) ?_
  refine lv_iload hx hb dL_law_35 (lv_at hl 0 rfl) ?_
  refine gCell hi0 hL ⟨hx, hb, hml, hown, hts⟩ (va_cwS 2 hts gL_law_L_cell rfl rfl rfl hdL_cell ⟨Nat.le_of_ble_eq_true rfl, Nat.le_of_ble_eq_true rfl⟩) hX hbl hbA hS rfl hl.1 rfl (Nat.le_of_ble_eq_true rfl) dL_law_37 (gr1 (by omega)) (fun r2 => ?_)
  replace hw := hw r2
  refine lv_aload_n hx hb dL_law_40 rfl (lv_at hl 2 rfl) ?_
  refine lv_iload hx hb dL_law_41 (lv_at hl 0 rfl) ?_
  refine lv_iconst (v := 1) hx hb dL_law_43 (by decide) ?_
  refine lv_iadd hx hb dL_law_44 ?_
  refine gCell hi1 hL ⟨hx, hb, hml, hown, hts⟩ (va_cwS 2 hts gL_law_L_cell rfl rfl rfl hdL_cell ⟨Nat.le_of_ble_eq_true rfl, Nat.le_of_ble_eq_true rfl⟩) hX hbl hbA hS rfl hl.1 rfl (Nat.le_of_ble_eq_true rfl) dL_law_45 (gr1 (by omega)) (fun r3 => ?_)
  replace hw := hw r3
  refine lv_iconst (v := 2) hx hb dL_law_48 (by decide) ?_
  refine lv_ishr hx hb dL_law_49 ?_
  refine gWSi (mc := 4) (ms := 24) (S := SX × SX) (As := [.ref x, .ref y, .int r2, .int (r3 >>> (2 &&& 31))]) (rest := []) (wc := wX kI kC kG x ag at_ as_ hh hst a0 a1 a2 a3 tx tch u ++ wX kI kC kG y bg bt_ bs_ yh yst b0 b1 b2 b3 tyy tych ub) (wr := []) (cs1 := (fun zz : SX × SX => wX kI kC kG x ag at_ as_ hh hst a0 a1 a2 a3 tx tch zz.1 ++ wX kI kC kG y bg bt_ bs_ yh yst b0 b1 b2 b3 tyy tych zz.2)) (ws2 := (fun zz : SX × SX => wX kI kC kG x ag at_ as_ hh hst a0 a1 a2 a3 tx tch zz.1 ++ wX kI kC kG y bg bt_ bs_ yh yst b0 b1 b2 b3 tyy tych zz.2)) ⟨hx, hb, hml, hown, hts⟩ (fun sz => kL_isStep l D kI kC kG kJ hlt x ag at_ as_ hh hst a0 a1 a2 a3 tx tch y bg bt_ bs_ yh yst b0 b1 b2 b3 tyy tych sz u ub r2 (r3 >>> (2 &&& 31)) _ hw) (va_cwS 4 hts gL_law_L_isStep rfl rfl rfl hdL_isStep ⟨Nat.le_of_ble_eq_true rfl, Nat.le_of_ble_eq_true rfl⟩) hK hP hD hE hS hA [0, 1, 2, 3, 4, 5, 6, 7, 8, 9, 10, 11, 12, 13, 14, 15, 16, 17, 18, 19, 20, 21, 22, 23, 24, 25, 26, 27, 28, 29, 30, 31, 32, 33, 34, 35, 36, 37, 38, 39, 40, 41, 42, 43, 44, 45, 46, 47, 48, 49, 50, 51, 52, 53, 54, 55, 56, 57, 58, 59, 60, 61, 62, 63, 64, 65] [] rfl rfl rfl rfl (by decide) [0, 1, 2, 3, 4, 5, 6, 7, 8, 9, 10, 11, 12, 13, 14, 15, 16, 17, 18, 19, 20, 21, 22, 23, 24, 25, 26, 27, 28, 29, 30, 31, 32, 33, 34, 35, 36, 37, 38, 39, 40, 41, 42, 43, 44, 45, 46, 47, 48, 49, 50, 51, 52, 53, 54, 55, 56, 57, 58, 59, 60, 61, 62, 63, 64, 65] rfl (fun _ => rfl) rfl hl.1 rfl (Nat.le_of_ble_eq_true rfl) dL_law_50 (gr1 (by omega)) (fun r4 w4 H locs hw hP hD hS => ?_)
  have hP : va_P D vwCl (wX kI kC kG x ag at_ as_ hh hst a0 a1 a2 a3 tx tch w4.1 ++ wX kI kC kG y bg bt_ bs_ yh yst b0 b1 b2 b3 tyy tych w4.2) H := hP
  have hD : va_D (fun q : Nat => s.heap.size ≤ q) (wX kI kC kG x ag at_ as_ hh hst a0 a1 a2 a3 tx tch w4.1 ++ wX kI kC kG y bg bt_ bs_ yh yst b0 b1 b2 b3 tyy tych w4.2) := hD
  refine lv_if_eq (tgt := 74) hx hb dL_law_53 (by decide) (fun c5 => ?_) (fun c5 => ?_)
  · replace hw := Eq.mp (if_pos c5) hw
    refine lv_iconst (v := 0) hx hb dL_law_74 (by decide) ?_
    refine lv_istore_n (lv' := [(3, .int 0), (4, .int v4), (0, .ref b), (1, .ref x), (2, .ref y)]) hx hb dL_law_75 rfl hl (by decide) rfl (fun ls hl => ?_)
    obtain ⟨x6, ex6⟩ : ∃ y : Int32, y = (v4 + 1) := ⟨_, rfl⟩
    replace hw := hw x6 ex6
    refine lv_iinc (v := x6) (lv' := [(4, .int x6), (3, .int 0), (0, .ref b), (1, .ref x), (2, .ref y)]) hx hb dL_law_76 hl (k := 1) rfl (by rw [ex6]; rfl) (by decide) rfl (fun ls hl => ?_)
    refine lv_goto (tgt := 21) hx hb dL_law_79 (by decide) ?_
    exact (hw : False).elim
  · replace hw := Eq.mp (if_neg c5) hw
    refine lv_iload hx hb dL_law_56 (lv_at hl 0 rfl) ?_
    refine lv_iconst (v := 4) hx hb dL_law_58 (by decide) ?_
    refine lv_irem hx hb dL_law_59 (by decide) ?_
    refine lv_if_gt (tgt := 70) hx hb dL_law_60 (by decide) (fun c7 => ?_) (fun c7 => ?_)
    · replace hw := Eq.mp (if_pos c7) hw
      refine lv_iconst (v := 1) hx hb dL_law_70 (by decide) ?_
      refine lv_goto (tgt := 75) hx hb dL_law_71 (by decide) ?_
      refine lv_istore_n (lv' := [(3, .int 1), (4, .int v4), (0, .ref b), (1, .ref x), (2, .ref y)]) hx hb dL_law_75 rfl hl (by decide) rfl (fun ls hl => ?_)
      obtain ⟨x8, ex8⟩ : ∃ y : Int32, y = (v4 + 1) := ⟨_, rfl⟩
      replace hw := hw x8 ex8
      refine lv_iinc (v := x8) (lv' := [(4, .int x8), (3, .int 1), (0, .ref b), (1, .ref x), (2, .ref y)]) hx hb dL_law_76 hl (k := 1) rfl (by rw [ex8]; rfl) (by decide) rfl (fun ls hl => ?_)
      refine lv_goto (tgt := 21) hx hb dL_law_79 (by decide) ?_
      refine W.widen (k := 80 + 4 * (j + 1)) (n := 1000 + 24 * (j + 1)) (by omega) (by omega) ?_
      exact hback x8 w4.1 w4.2 H locs ls hP hD hS (lv_sub hl [0, 1, 2, 3, 4] rfl) (by rw [ex8, ev4, nI_1]) hw
    · replace hw := Eq.mp (if_neg c7) hw
      refine lv_aload_n hx hb dL_law_63 rfl (lv_at hl 3 rfl) ?_
      refine gWSi (mc := 0) (ms := 0) (S := SX) (As := [.ref x]) (rest := []) (wc := wX kI kC kG x ag at_ as_ hh hst a0 a1 a2 a3 tx tch w4.1) (wr := [(y, .inr (4, [.ref bg.1, .ref bt_.1, .ref bs_.1, .int w4.2.1, .ref yh, .ref tyy]))] ++ wG kI bg w4.2.2.1 ++ wG kI bt_ w4.2.2.2.1 ++ wG kI bs_ w4.2.2.2.2.1 ++ [(yh, .inr (2, [.ref yst, .int w4.2.2.2.2.2.1.1, .int w4.2.2.2.2.2.1.2.1])), (yst, .inl (kG, 4, .inr (.inr (.inr (.inr (fH b0 b1 b2 b3))))))] ++ wG kI b0 w4.2.2.2.2.2.1.2.2.1 ++ wG kI b1 w4.2.2.2.2.2.1.2.2.2.1 ++ wG kI b2 w4.2.2.2.2.2.1.2.2.2.2.1 ++ wG kI b3 w4.2.2.2.2.2.1.2.2.2.2.2 ++ wT kC tyy tych w4.2.2.2.2.2.2) (cs1 := (fun zz : SX => wX kI kC kG x ag at_ as_ hh hst a0 a1 a2 a3 tx tch zz)) (ws2 := (fun zz : SX => wX kI kC kG x ag at_ as_ hh hst a0 a1 a2 a3 tx tch zz ++ wX kI kC kG y bg bt_ bs_ yh yst b0 b1 b2 b3 tyy tych w4.2)) ⟨hx, hb, hml, hown, hts⟩ (fun sz => kL_isWell l D kI kC kG kJ hlt x ag at_ as_ hh hst a0 a1 a2 a3 tx tch sz w4.1 _ hw) (va_cwS 1 hts gL_law_L_isWell rfl rfl rfl hdL_isWell ⟨Nat.le_of_ble_eq_true rfl, Nat.le_of_ble_eq_true rfl⟩) hK hP hD hE hS hA [0, 1, 2, 3, 4, 5, 6, 7, 8, 9, 10, 11, 12, 13, 14, 15, 16, 17, 18, 19, 20, 21, 22, 23, 24, 25, 26, 27, 28, 29, 30, 31, 32] [33, 34, 35, 36, 37, 38, 39, 40, 41, 42, 43, 44, 45, 46, 47, 48, 49, 50, 51, 52, 53, 54, 55, 56, 57, 58, 59, 60, 61, 62, 63, 64, 65] rfl rfl rfl rfl (by decide) [33, 34, 35, 36, 37, 38, 39, 40, 41, 42, 43, 44, 45, 46, 47, 48, 49, 50, 51, 52, 53, 54, 55, 56, 57, 58, 59, 60, 61, 62, 63, 64, 65, 0, 1, 2, 3, 4, 5, 6, 7, 8, 9, 10, 11, 12, 13, 14, 15, 16, 17, 18, 19, 20, 21, 22, 23, 24, 25, 26, 27, 28, 29, 30, 31, 32] rfl (fun _ => rfl) rfl hl.1 rfl (Nat.le_of_ble_eq_true rfl) dL_law_64 (gr1 (by omega)) (fun r9 w9 H locs hw hP hD hS => ?_)
      have hP : va_P D vwCl (wX kI kC kG x ag at_ as_ hh hst a0 a1 a2 a3 tx tch w9 ++ wX kI kC kG y bg bt_ bs_ yh yst b0 b1 b2 b3 tyy tych w4.2) H := hP
      have hD : va_D (fun q : Nat => s.heap.size ≤ q) (wX kI kC kG x ag at_ as_ hh hst a0 a1 a2 a3 tx tch w9 ++ wX kI kC kG y bg bt_ bs_ yh yst b0 b1 b2 b3 tyy tych w4.2) := hD
      refine lv_if_eq (tgt := 74) hx hb dL_law_67 (by decide) (fun c10 => ?_) (fun c10 => ?_)
      · replace hw := Eq.mp (if_pos c10) hw
        refine lv_iconst (v := 0) hx hb dL_law_74 (by decide) ?_
        refine lv_istore_n (lv' := [(3, .int 0), (4, .int v4), (0, .ref b), (1, .ref x), (2, .ref y)]) hx hb dL_law_75 rfl hl (by decide) rfl (fun ls hl => ?_)
        obtain ⟨x11, ex11⟩ : ∃ y : Int32, y = (v4 + 1) := ⟨_, rfl⟩
        replace hw := hw x11 ex11
        refine lv_iinc (v := x11) (lv' := [(4, .int x11), (3, .int 0), (0, .ref b), (1, .ref x), (2, .ref y)]) hx hb dL_law_76 hl (k := 1) rfl (by rw [ex11]; rfl) (by decide) rfl (fun ls hl => ?_)
        refine lv_goto (tgt := 21) hx hb dL_law_79 (by decide) ?_
        exact (hw : False).elim
      · replace hw := Eq.mp (if_neg c10) hw
        refine lv_iconst (v := 1) hx hb dL_law_70 (by decide) ?_
        refine lv_goto (tgt := 75) hx hb dL_law_71 (by decide) ?_
        refine lv_istore_n (lv' := [(3, .int 1), (4, .int v4), (0, .ref b), (1, .ref x), (2, .ref y)]) hx hb dL_law_75 rfl hl (by decide) rfl (fun ls hl => ?_)
        obtain ⟨x12, ex12⟩ : ∃ y : Int32, y = (v4 + 1) := ⟨_, rfl⟩
        replace hw := hw x12 ex12
        refine lv_iinc (v := x12) (lv' := [(4, .int x12), (3, .int 1), (0, .ref b), (1, .ref x), (2, .ref y)]) hx hb dL_law_76 hl (k := 1) rfl (by rw [ex12]; rfl) (by decide) rfl (fun ls hl => ?_)
        refine lv_goto (tgt := 21) hx hb dL_law_79 (by decide) ?_
        refine W.widen (k := 80 + 4 * (j + 1)) (n := 1000 + 24 * (j + 1)) (by omega) (by omega) ?_
        exact hback x12 w9 w4.2 H locs ls hP hD hS (lv_sub hl [0, 1, 2, 3, 4] rfl) (by rw [ex12, ev4, nI_1]) hw
set_option maxHeartbeats 16000000 in
set_option maxRecDepth 100000 in
/-- the end of the law, behind its loop -/
theorem law_end {p : Program} {l : Launch} {e : Env} {s : State} {m : MethodId} {below : List Frame} {meth : Method} {c : Code} {D : va_G} {kI kC kG kJ : ClassId} {b L : Nat} {xs : Nat → Int32} (hlt : l.stackTraces = false) (hL : L ≤ 260) (C0 : lw_At p s m meth c b L xs) (hK : va_K D vwCl (gT kI kC kG kJ) s) (hE : gE (fun q : Nat => s.heap.size ≤ q) s s.heap) {x : Nat} {ag at_ as_ : AG} {hh hst : Nat} {a0 a1 a2 a3 : AG} {tx tch : Nat} {y : Nat} {bg bt_ bs_ : AG} {yh yst : Nat} {b0 b1 b2 b3 : AG} {tyy tych : Nat} (j : Nat) (hj : j ≤ 80) (v4 : Int32) (u ub : SX) (H : Heap) (locs : List Loc) (ls : Array Slot) : va_P D vwCl (wX kI kC kG x ag at_ as_ hh hst a0 a1 a2 a3 tx tch u ++ wX kI kC kG y bg bt_ bs_ yh yst b0 b1 b2 b3 tyy tych ub) H → va_D (fun q : Nat => s.heap.size ≤ q) (wX kI kC kG x ag at_ as_ hh hst a0 a1 a2 a3 tx tch u ++ wX kI kC kG y bg bt_ bs_ yh yst b0 b1 b2 b3 tyy tych ub) → va_S (fun q : Nat => s.heap.size ≤ q) s.heap H locs → lv_has ls 5 [(4, .int v4), (3, .int 1), (0, .ref b), (1, .ref x), (2, .ref y)] → pL_end u ub → W p l e room_1 s m #[Value.ref b] below meth c H locs (80 + 4 * j) (1000 + 24 * j) (lw_Z below #[Value.ref b] s) (F0 m 82 ls []) := by
  intro hP hD hS hl hw
  obtain ⟨hx, hb, hr, hml, hown, hts0, hX, hbl, hlocks, hgv⟩ := id C0
  have hown : s.vm.findClass RL = some m.cls := hown
  have hts : ∀ w ∈ wsL_law, w.before #[Value.ref b] s = true := fun w h => hts0 w (wsL_law_in w h)
  have hA : ∀ q : Nat, s.heap.size ≤ q → (fun q : Nat => s.heap.size ≤ q) q := fun _ h => h
  have hbA : ¬ (fun q : Nat => s.heap.size ≤ q) b := Nat.not_le.mpr hbl
  unfold pL_end at hw
  refine lv_iload_n hx hb dL_law_82 rfl (lv_at hl 1 rfl) ?_
  refine lv_if_eq (tgt := 105) hx hb dL_law_83 (by decide) (fun c1 => ?_) (fun c1 => ?_)
  · exact absurd c1 (by decide)
  refine lv_aload_n hx hb dL_law_86 rfl (lv_at hl 3 rfl) ?_
  refine gWSi (mc := 0) (ms := 0) (S := SX) (As := [.ref x]) (rest := []) (wc := wX kI kC kG x ag at_ as_ hh hst a0 a1 a2 a3 tx tch u) (wr := [(y, .inr (4, [.ref bg.1, .ref bt_.1, .ref bs_.1, .int ub.1, .ref yh, .ref tyy]))] ++ wG kI bg ub.2.1 ++ wG kI bt_ ub.2.2.1 ++ wG kI bs_ ub.2.2.2.1 ++ [(yh, .inr (2, [.ref yst, .int ub.2.2.2.2.1.1, .int ub.2.2.2.2.1.2.1])), (yst, .inl (kG, 4, .inr (.inr (.inr (.inr (fH b0 b1 b2 b3))))))] ++ wG kI b0 ub.2.2.2.2.1.2.2.1 ++ wG kI b1 ub.2.2.2.2.1.2.2.2.1 ++ wG kI b2 ub.2.2.2.2.1.2.2.2.2.1 ++ wG kI b3 ub.2.2.2.2.1.2.2.2.2.2 ++ wT kC tyy tych ub.2.2.2.2.2) (cs1 := (fun zz : SX => wX kI kC kG x ag at_ as_ hh hst a0 a1 a2 a3 tx tch zz)) (ws2 := (fun zz : SX => wX kI kC kG x ag at_ as_ hh hst a0 a1 a2 a3 tx tch zz ++ wX kI kC kG y bg bt_ bs_ yh yst b0 b1 b2 b3 tyy tych ub)) ⟨hx, hb, hml, hown, hts⟩ (fun sz => kL_isWell l D kI kC kG kJ hlt x ag at_ as_ hh hst a0 a1 a2 a3 tx tch sz u _ hw) (va_cwS 1 hts gL_law_L_isWell rfl rfl rfl hdL_isWell ⟨Nat.le_of_ble_eq_true rfl, Nat.le_of_ble_eq_true rfl⟩) hK hP hD hE hS hA [0, 1, 2, 3, 4, 5, 6, 7, 8, 9, 10, 11, 12, 13, 14, 15, 16, 17, 18, 19, 20, 21, 22, 23, 24, 25, 26, 27, 28, 29, 30, 31, 32] [33, 34, 35, 36, 37, 38, 39, 40, 41, 42, 43, 44, 45, 46, 47, 48, 49, 50, 51, 52, 53, 54, 55, 56, 57, 58, 59, 60, 61, 62, 63, 64, 65] rfl rfl rfl rfl (by decide) [33, 34, 35, 36, 37, 38, 39, 40, 41, 42, 43, 44, 45, 46, 47, 48, 49, 50, 51, 52, 53, 54, 55, 56, 57, 58, 59, 60, 61, 62, 63, 64, 65, 0, 1, 2, 3, 4, 5, 6, 7, 8, 9, 10, 11, 12, 13, 14, 15, 16, 17, 18, 19, 20, 21, 22, 23, 24, 25, 26, 27, 28, 29, 30, 31, 32] rfl (fun _ => rfl) rfl hl.1 rfl (Nat.le_of_ble_eq_true rfl) dL_law_87 (gr1 (by omega)) (fun r2 w2 H locs hw hP hD hS => ?_)
  have hP : va_P D vwCl (wX kI kC kG x ag at_ as_ hh hst a0 a1 a2 a3 tx tch w2 ++ wX kI kC kG y bg bt_ bs_ yh yst b0 b1 b2 b3 tyy tych ub) H := hP
  have hD : va_D (fun q : Nat => s.heap.size ≤ q) (wX kI kC kG x ag at_ as_ hh hst a0 a1 a2 a3 tx tch w2 ++ wX kI kC kG y bg bt_ bs_ yh yst b0 b1 b2 b3 tyy tych ub) := hD
  refine lv_if_eq (tgt := 105) hx hb dL_law_90 (by decide) (fun c3 => ?_) (fun c3 => ?_)
  · replace hw := Eq.mp (if_pos c3) hw
    refine lv_iconst (v := 0) hx hb dL_law_105 (by decide) ?_
    exact (hw : False).elim
  · replace hw := Eq.mp (if_neg c3) hw
    refine lv_aload_n hx hb dL_law_93 rfl (lv_at hl 3 rfl) ?_
    refine lv_aload_n hx hb dL_law_94 rfl (lv_at hl 4 rfl) ?_
    refine gWSi (mc := 2) (ms := 12) (S := SX × SX) (As := [.ref x, .ref y]) (rest := []) (wc := wX kI kC kG x ag at_ as_ hh hst a0 a1 a2 a3 tx tch w2 ++ wX kI kC kG y bg bt_ bs_ yh yst b0 b1 b2 b3 tyy tych ub) (wr := []) (cs1 := (fun zz : SX × SX => wX kI kC kG x ag at_ as_ hh hst a0 a1 a2 a3 tx tch zz.1 ++ wX kI kC kG y bg bt_ bs_ yh yst b0 b1 b2 b3 tyy tych zz.2)) (ws2 := (fun zz : SX × SX => wX kI kC kG x ag at_ as_ hh hst a0 a1 a2 a3 tx tch zz.1 ++ wX kI kC kG y bg bt_ bs_ yh yst b0 b1 b2 b3 tyy tych zz.2)) ⟨hx, hb, hml, hown, hts⟩ (fun sz => kL_areAlike l D kI kC kG kJ hlt x ag at_ as_ hh hst a0 a1 a2 a3 tx tch y bg bt_ bs_ yh yst b0 b1 b2 b3 tyy tych sz w2 ub _ hw) (va_cwS 2 hts gL_law_L_areAlike rfl rfl rfl hdL_areAlike ⟨Nat.le_of_ble_eq_true rfl, Nat.le_of_ble_eq_true rfl⟩) hK hP hD hE hS hA [0, 1, 2, 3, 4, 5, 6, 7, 8, 9, 10, 11, 12, 13, 14, 15, 16, 17, 18, 19, 20, 21, 22, 23, 24, 25, 26, 27, 28, 29, 30, 31, 32, 33, 34, 35, 36, 37, 38, 39, 40, 41, 42, 43, 44, 45, 46, 47, 48, 49, 50, 51, 52, 53, 54, 55, 56, 57, 58, 59, 60, 61, 62, 63, 64, 65] [] rfl rfl rfl rfl (by decide) [0, 1, 2, 3, 4, 5, 6, 7, 8, 9, 10, 11, 12, 13, 14, 15, 16, 17, 18, 19, 20, 21, 22, 23, 24, 25, 26, 27, 28, 29, 30, 31, 32, 33, 34, 35, 36, 37, 38, 39, 40, 41, 42, 43, 44, 45, 46, 47, 48, 49, 50, 51, 52, 53, 54, 55, 56, 57, 58, 59, 60, 61, 62, 63, 64, 65] rfl (fun _ => rfl) rfl hl.1 rfl (Nat.le_of_ble_eq_true rfl) dL_law_95 (gr1 (by omega)) (fun r4 w4 H locs hw hP hD hS => ?_)
    have hP : va_P D vwCl (wX kI kC kG x ag at_ as_ hh hst a0 a1 a2 a3 tx tch w4.1 ++ wX kI kC kG y bg bt_ bs_ yh yst b0 b1 b2 b3 tyy tych w4.2) H := hP
    have hD : va_D (fun q : Nat => s.heap.size ≤ q) (wX kI kC kG x ag at_ as_ hh hst a0 a1 a2 a3 tx tch w4.1 ++ wX kI kC kG y bg bt_ bs_ yh yst b0 b1 b2 b3 tyy tych w4.2) := hD
    refine lv_if_eq (tgt := 105) hx hb dL_law_98 (by decide) (fun c5 => ?_) (fun c5 => ?_)
    · replace hw := Eq.mp (if_pos c5) hw
      refine lv_iconst (v := 0) hx hb dL_law_105 (by decide) ?_
      exact (hw : False).elim
    · replace hw := Eq.mp (if_neg c5) hw
      refine lv_iconst (v := 1) hx hb dL_law_101 (by decide) ?_
      refine lv_goto (tgt := 106) hx hb dL_law_102 (by decide) ?_
      refine va_forget (fun q hq => hS.2.2 q hq) ?_
      refine W.widen (k := 681941) (n := 7054864) (by omega) (by omega) ?_
      exact lw_ret hx hb hr hlocks dL_law_106
set_option maxHeartbeats 4000000 in
set_option maxRecDepth 100000 in
/-- the law's loop, for any relation that a turn keeps -/
theorem law_loop {p : Program} {l : Launch} {e : Env} {s : State} {m : MethodId} {below : List Frame} {meth : Method} {c : Code} {D : va_G} {kI kC kG kJ : ClassId} {b L : Nat} {xs : Nat → Int32} (hlt : l.stackTraces = false) (hL : L ≤ 260) (C0 : lw_At p s m meth c b L xs) (hK : va_K D vwCl (gT kI kC kG kJ) s) (hE : gE (fun q : Nat => s.heap.size ≤ q) s s.heap) {x : Nat} {ag at_ as_ : AG} {hh hst : Nat} {a0 a1 a2 a3 : AG} {tx tch : Nat} {y : Nat} {bg bt_ bs_ : AG} {yh yst : Nat} {b0 b1 b2 b3 : AG} {tyy tych : Nat} (K : SX → SX → Prop) (hstep : ∀ (v4 : Int32) (u ub : SX), K u ub → pL_body v4 u ub K) (hend : ∀ (u ub : SX), K u ub → pL_end u ub) : ∀ (n j : Nat), j + n = 80 → ∀ (v4 : Int32), v4 = nI j → ∀ (u ub : SX) (H : Heap) (locs : List Loc) (ls : Array Slot), va_P D vwCl (wX kI kC kG x ag at_ as_ hh hst a0 a1 a2 a3 tx tch u ++ wX kI kC kG y bg bt_ bs_ yh yst b0 b1 b2 b3 tyy tych ub) H → va_D (fun q : Nat => s.heap.size ≤ q) (wX kI kC kG x ag at_ as_ hh hst a0 a1 a2 a3 tx tch u ++ wX kI kC kG y bg bt_ bs_ yh yst b0 b1 b2 b3 tyy tych ub) → va_S (fun q : Nat => s.heap.size ≤ q) s.heap H locs → lv_has ls 5 [(4, .int v4), (3, .int 1), (0, .ref b), (1, .ref x), (2, .ref y)] → K u ub → W p l e room_1 s m #[Value.ref b] below meth c H locs (80 + 4 * j) (1000 + 24 * j) (lw_Z below #[Value.ref b] s) (F0 m 21 ls []) := by
  obtain ⟨hx, hb, hr, hml, hown, hts0, hX, hbl, hlocks, hgv⟩ := id C0
  intro n
  induction n with
  | zero =>
    intro j hj v4 ev4 u ub H locs ls hP hD hS hl hk
    refine lv_iload hx hb dL_law_21 (lv_at hl 0 rfl) ?_
    refine lv_bipush (v := 80) hx hb dL_law_23 (by decide) ?_
    refine lv_icmp_ge (tgt := 82) hx hb dL_law_25 (by decide) (fun c1 => ?_) (fun c1 => ?_)
    · exact law_end hlt hL C0 hK hE j (by omega) v4 u ub H locs ls hP hD hS hl (hend u ub hk)
    · exact absurd (by rw [ev4, show j = 80 by omega]; decide) c1
  | succ n ih =>
    intro j hj v4 ev4 u ub H locs ls hP hD hS hl hk
    refine lv_iload hx hb dL_law_21 (lv_at hl 0 rfl) ?_
    refine lv_bipush (v := 80) hx hb dL_law_23 (by decide) ?_
    refine lv_icmp_ge (tgt := 82) hx hb dL_law_25 (by decide) (fun c1 => ?_) (fun c1 => ?_)
    · rw [ev4] at c1
      exact absurd ((nI_leI (a := 80) (by omega) (by omega)).mp c1) (by omega)
    · exact law_body hlt hL C0 hK hE K j (fun v5 u5 w5 H5 locs5 ls5 hP5 hD5 hS5 hl5 ev5 hk5 => ih (j + 1) (by omega) v5 ev5 u5 w5 H5 locs5 ls5 hP5 hD5 hS5 hl5 hk5) v4 ev4 (by omega) u ub H locs ls hP hD hS hl (hstep v4 u ub hk)
