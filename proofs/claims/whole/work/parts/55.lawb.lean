set_option maxHeartbeats 16000000 in
set_option maxRecDepth 100000 in
/-- one turn of the law, behind the test at its head -/
theorem law_body {p : Program} {l : Launch} {e : Env} {s : State} {m : MethodId} {below : List Frame} {meth : Method} {c : Code} {D : va_G} {kI kC kG kJ : ClassId} {b L : Nat} {xs : Nat → Int32} (hlt : l.stackTraces = false) (hL : L ≤ 1024) (C0 : lw_At p s m meth c b L xs) (hK : va_K D vwCl (gT kI kC kG kJ) s) (hE : gE (fun q : Nat => s.heap.size ≤ q) s s.heap) {x : Nat} {ag at_ as_ : AG} {hh hst : Nat} {a0 a1 a2 a3 : AG} {tx tch : Nat} {mo m0 m1 m2 m3 m4 m5 m6 m7 : Nat} {oo : Nat} (K : SX → SM → (Nat → Int64) → Prop) (j : Nat) (hback : ∀ (v4 : Int32) (u : SX) (v : SM) (f : Nat → Int64) (H : Heap) (locs : List Loc) (ls : Array Slot), va_P D vwCl (wX kI kC kG x ag at_ as_ hh hst a0 a1 a2 a3 tx tch u ++ wM kI mo m0 m1 m2 m3 m4 m5 m6 m7 v ++ [(oo, .inl (kJ, 1, .inr (.inl f)))]) H → va_D (fun q : Nat => s.heap.size ≤ q) (wX kI kC kG x ag at_ as_ hh hst a0 a1 a2 a3 tx tch u ++ wM kI mo m0 m1 m2 m3 m4 m5 m6 m7 v ++ [(oo, .inl (kJ, 1, .inr (.inl f)))]) → va_S (fun q : Nat => s.heap.size ≤ q) s.heap H locs → lv_has ls 7 [(4, .int v4), (0, .ref b), (1, .ref x), (2, .ref mo), (3, .ref oo)] → v4 = nI (j + 2) → K u v f → W p l e room_1 s m #[Value.ref b] below meth c H locs (60 + 2 * (j + 2)) (600 + 12 * (j + 2)) (lw_Z below #[Value.ref b] s) (F0 m 23 ls [])) (v4 : Int32) (ev4 : v4 = nI j) (hj : j + 2 ≤ L) (u : SX) (v : SM) (f : Nat → Int64) (H : Heap) (locs : List Loc) (ls : Array Slot) : va_P D vwCl (wX kI kC kG x ag at_ as_ hh hst a0 a1 a2 a3 tx tch u ++ wM kI mo m0 m1 m2 m3 m4 m5 m6 m7 v ++ [(oo, .inl (kJ, 1, .inr (.inl f)))]) H → va_D (fun q : Nat => s.heap.size ≤ q) (wX kI kC kG x ag at_ as_ hh hst a0 a1 a2 a3 tx tch u ++ wM kI mo m0 m1 m2 m3 m4 m5 m6 m7 v ++ [(oo, .inl (kJ, 1, .inr (.inl f)))]) → va_S (fun q : Nat => s.heap.size ≤ q) s.heap H locs → lv_has ls 7 [(4, .int v4), (0, .ref b), (1, .ref x), (2, .ref mo), (3, .ref oo)] → pL_body v4 (xs (v4).toNatClampNeg) (xs ((v4 + 1)).toNatClampNeg) u v f K → W p l e room_1 s m #[Value.ref b] below meth c H locs (60 + 2 * j) (600 + 12 * j) (lw_Z below #[Value.ref b] s) (F0 m 32 ls []) := by
  intro hP hD hS hl hw
  obtain ⟨hx, hb, hr, hml, hown, hts0, hX, hbl, hlocks, hgv⟩ := id C0
  have hown : s.vm.findClass RL = some m.cls := hown
  have hts : ∀ w ∈ wsL_law, w.before #[Value.ref b] s = true := fun w h => hts0 w (wsL_law_in w h)
  have hA : ∀ q : Nat, s.heap.size ≤ q → (fun q : Nat => s.heap.size ≤ q) q := fun _ h => h
  have hbA : ¬ (fun q : Nat => s.heap.size ≤ q) b := Nat.not_le.mpr hbl
  have hi0 : vp_in v4 L := by rw [ev4]; exact vp_in_nI (by omega) (by omega)
  have hi1 : vp_in (v4 + 1) L := by rw [ev4, nI_1]; exact vp_in_nI (by omega) (by omega)
  unfold pL_body at hw
  refine lv_aload_n hx hb dL_law_32 rfl (lv_at hl 1 rfl) ?_
  refine lv_iload hx hb dL_law_33 (lv_at hl 0 rfl) ?_
  refine va_sld hx hb hX hbl hbA hS hi0 dL_law_35 ?_
  refine lv_bipush (v := 31) hx hb dL_law_36 (by decide) ?_
  refine lv_iand hx hb dL_law_38 ?_
  refine lv_topi (fun x1 ex1 => ?_)
  replace hw := hw x1 ex1
  by_cases c2_0 : x1 = 0
  · replace hw := Eq.mp (if_pos c2_0) hw
    refine lv_tableIn (off := 133) (tgt := 172) hx hb dL_law_39 (by rw [c2_0]; decide) (by rw [c2_0]; decide) (by rw [c2_0]; rfl) (by decide) ?_
    refine lv_aload_n hx hb dL_law_172 rfl (lv_at hl 2 rfl) ?_
    refine lv_aload_n hx hb dL_law_173 rfl (lv_at hl 1 rfl) ?_
    refine lv_iload hx hb dL_law_174 (lv_at hl 0 rfl) ?_
    refine lv_iconst (v := 1) hx hb dL_law_176 (by decide) ?_
    refine lv_iadd hx hb dL_law_177 ?_
    refine va_sld hx hb hX hbl hbA hS hi1 dL_law_178 ?_
    refine lv_aload_n hx hb dL_law_179 rfl (lv_at hl 4 rfl) ?_
    refine gLSi (S := SX × (Nat → Int64)) (As := [.ref x, .int (xs ((v4 + 1)).toNatClampNeg), .ref oo]) (rest := []) (wc := wX kI kC kG x ag at_ as_ hh hst a0 a1 a2 a3 tx tch u ++ [(oo, .inl (kJ, 1, .inr (.inl f)))]) (wr := wM kI mo m0 m1 m2 m3 m4 m5 m6 m7 v) (cs1 := (fun zz : SX × (Nat → Int64) => wX kI kC kG x ag at_ as_ hh hst a0 a1 a2 a3 tx tch zz.1 ++ [(oo, .inl (kJ, 1, .inr (.inl zz.2)))])) (ws2 := (fun zz : SX × (Nat → Int64) => wX kI kC kG x ag at_ as_ hh hst a0 a1 a2 a3 tx tch zz.1 ++ wM kI mo m0 m1 m2 m3 m4 m5 m6 m7 v ++ [(oo, .inl (kJ, 1, .inr (.inl zz.2)))])) ⟨hx, hb, hml, hown, hts⟩ (fun sz => kL_give l D kI kC kG kJ hlt x ag at_ as_ hh hst a0 a1 a2 a3 tx tch oo sz u f (xs ((v4 + 1)).toNatClampNeg) _ hw) (vx_cwSW 3 hts gL_law_L_give rfl rfl rfl hdL_give ⟨Nat.le_of_ble_eq_true rfl, Nat.le_of_ble_eq_true rfl⟩) hK hP hD hE hS hA [0, 1, 2, 3, 4, 5, 6, 7, 8, 9, 10, 11, 12, 13, 14, 15, 16, 17, 18, 19, 20, 21, 22, 23, 24, 25, 26, 27, 28, 29, 30, 31, 32, 42] [33, 34, 35, 36, 37, 38, 39, 40, 41] rfl rfl rfl rfl (by decide) [9, 10, 11, 12, 13, 14, 15, 16, 17, 18, 19, 20, 21, 22, 23, 24, 25, 26, 27, 28, 29, 30, 31, 32, 33, 34, 35, 36, 37, 38, 39, 40, 41, 0, 1, 2, 3, 4, 5, 6, 7, 8, 42] rfl (fun _ => rfl) rfl hl.1 rfl (Nat.le_of_ble_eq_true rfl) dL_law_180 (gr1 (by omega)) (fun r3 w3 H locs hw hP hD hS => ?_)
    have hP : va_P D vwCl (wX kI kC kG x ag at_ as_ hh hst a0 a1 a2 a3 tx tch w3.1 ++ wM kI mo m0 m1 m2 m3 m4 m5 m6 m7 v ++ [(oo, .inl (kJ, 1, .inr (.inl w3.2)))]) H := hP
    have hD : va_D (fun q : Nat => s.heap.size ≤ q) (wX kI kC kG x ag at_ as_ hh hst a0 a1 a2 a3 tx tch w3.1 ++ wM kI mo m0 m1 m2 m3 m4 m5 m6 m7 v ++ [(oo, .inl (kJ, 1, .inr (.inl w3.2)))]) := hD
    refine lv_istore (lv' := [(5, .int r3), (4, .int v4), (0, .ref b), (1, .ref x), (2, .ref mo), (3, .ref oo)]) hx hb dL_law_183 hl (by decide) rfl (fun ls hl => ?_)
    refine lv_aload_n hx hb dL_law_185 rfl (lv_at hl 4 rfl) ?_
    refine lv_aload_n hx hb dL_law_186 rfl (lv_at hl 2 rfl) ?_
    refine lv_iload hx hb dL_law_187 (lv_at hl 1 rfl) ?_
    refine lv_iconst (v := 1) hx hb dL_law_189 (by decide) ?_
    refine lv_iadd hx hb dL_law_190 ?_
    refine va_sld hx hb hX hbl hbA hS hi1 dL_law_191 ?_
    refine gWVi (S := SM) (As := [.int (xs ((v4 + 1)).toNatClampNeg)]) (rest := []) (wc := wM kI mo m0 m1 m2 m3 m4 m5 m6 m7 v) (wr := [(x, .inr (4, [.ref ag.1, .ref at_.1, .ref as_.1, .int w3.1.1, .ref hh, .ref tx]))] ++ wG kI ag w3.1.2.1 ++ wG kI at_ w3.1.2.2.1 ++ wG kI as_ w3.1.2.2.2.1 ++ [(hh, .inr (2, [.ref hst, .int w3.1.2.2.2.2.1.1, .int w3.1.2.2.2.2.1.2.1])), (hst, .inl (kG, 4, .inr (.inr (.inr (.inr (fH a0 a1 a2 a3))))))] ++ wG kI a0 w3.1.2.2.2.2.1.2.2.1 ++ wG kI a1 w3.1.2.2.2.2.1.2.2.2.1 ++ wG kI a2 w3.1.2.2.2.2.1.2.2.2.2.1 ++ wG kI a3 w3.1.2.2.2.2.1.2.2.2.2.2 ++ wT kC tx tch w3.1.2.2.2.2.2 ++ [(oo, .inl (kJ, 1, .inr (.inl w3.2)))]) (cs1 := (fun zz : SM => wM kI mo m0 m1 m2 m3 m4 m5 m6 m7 zz)) (ws2 := (fun zz : SM => wX kI kC kG x ag at_ as_ hh hst a0 a1 a2 a3 tx tch w3.1 ++ wM kI mo m0 m1 m2 m3 m4 m5 m6 m7 zz ++ [(oo, .inl (kJ, 1, .inr (.inl w3.2)))])) ⟨hx, hb, hml, hown, hts⟩ (fun sz => kX6_give l D kI kC kG kJ mo m0 m1 m2 m3 m4 m5 m6 m7 sz v (xs ((v4 + 1)).toNatClampNeg) _ hw) (cwV 1 hts gL_law_X6_give rfl rfl rfl hdX6_give ⟨Nat.le_of_ble_eq_true rfl, Nat.le_of_ble_eq_true rfl⟩) hK hP hD hE hS hA [33, 34, 35, 36, 37, 38, 39, 40, 41] [0, 1, 2, 3, 4, 5, 6, 7, 8, 9, 10, 11, 12, 13, 14, 15, 16, 17, 18, 19, 20, 21, 22, 23, 24, 25, 26, 27, 28, 29, 30, 31, 32, 42] rfl rfl rfl rfl (by decide) [0, 1, 2, 3, 4, 5, 6, 7, 8, 9, 10, 11, 12, 13, 14, 15, 16, 17, 18, 19, 20, 21, 22, 23, 24, 25, 26, 27, 28, 29, 30, 31, 32, 34, 35, 36, 37, 38, 39, 40, 41, 42, 33] rfl (fun _ => rfl) (ci := 5) (q0 := 0) rfl rfl rfl rfl hl.1 rfl (Nat.le_of_ble_eq_true rfl) dL_law_192 (gr1 (by omega)) (fun r4 w4 H locs hw hP hD hS => ?_)
    have hP : va_P D vwCl (wX kI kC kG x ag at_ as_ hh hst a0 a1 a2 a3 tx tch w3.1 ++ wM kI mo m0 m1 m2 m3 m4 m5 m6 m7 w4 ++ [(oo, .inl (kJ, 1, .inr (.inl w3.2)))]) H := hP
    have hD : va_D (fun q : Nat => s.heap.size ≤ q) (wX kI kC kG x ag at_ as_ hh hst a0 a1 a2 a3 tx tch w3.1 ++ wM kI mo m0 m1 m2 m3 m4 m5 m6 m7 w4 ++ [(oo, .inl (kJ, 1, .inr (.inl w3.2)))]) := hD
    refine lv_istore (lv' := [(6, .int r4), (5, .int r3), (4, .int v4), (0, .ref b), (1, .ref x), (2, .ref mo), (3, .ref oo)]) hx hb dL_law_195 hl (by decide) rfl (fun ls hl => ?_)
    refine lv_aload_n hx hb dL_law_197 rfl (lv_at hl 5 rfl) ?_
    refine gVi (As := []) (rest := []) (cs' := wM kI mo m0 m1 m2 m3 m4 m5 m6 m7 w4) ⟨hx, hb, hml, hown, hts⟩ (kX6_thrown l D kI kC kG kJ mo m0 m1 m2 m3 m4 m5 m6 m7 w4 _ hw) (cwV 0 hts gL_law_X6_thrown rfl rfl rfl hdX6_thrown ⟨Nat.le_of_ble_eq_true rfl, Nat.le_of_ble_eq_true rfl⟩) hK hP hE hS [33, 34, 35, 36, 37, 38, 39, 40, 41] rfl (ci := 5) (q0 := 0) rfl rfl rfl rfl hl.1 rfl (Nat.le_of_ble_eq_true rfl) dL_law_198 (gr1 (by omega)) (fun r5 hw => ?_)
    refine lv_iload hx hb dL_law_201 (lv_at hl 1 rfl) ?_
    refine lv_icmp_eq (tgt := 208) hx hb dL_law_203 (by decide) (fun c6 => ?_) (fun c6 => ?_)
    · replace hw := Eq.mp (if_pos c6) hw
      refine lv_iload hx hb dL_law_208 (lv_at hl 1 rfl) ?_
      refine lv_if_ne (tgt := 225) hx hb dL_law_210 (by decide) (fun c7 => ?_) (fun c7 => ?_)
      · replace hw := Eq.mp (if_neg c7) hw
        refine lv_goto (tgt := 1187) hx hb dL_law_225 (by decide) ?_
        obtain ⟨x8, ex8⟩ : ∃ y : Int32, y = (v4 + 2) := ⟨_, rfl⟩
        replace hw := hw x8 ex8
        refine lv_iinc (v := x8) (lv' := [(4, .int x8), (6, .int r4), (5, .int r3), (0, .ref b), (1, .ref x), (2, .ref mo), (3, .ref oo)]) hx hb dL_law_1187 hl (k := 2) rfl (by rw [ex8]; rfl) (by decide) rfl (fun ls hl => ?_)
        refine lv_goto (tgt := 23) hx hb dL_law_1190 (by decide) ?_
        refine W.widen (k := 60 + 2 * (j + 2)) (n := 600 + 12 * (j + 2)) (by omega) (by omega) ?_
        exact hback x8 w3.1 w4 w3.2 H locs ls hP hD hS (lv_sub hl [0, 3, 4, 5, 6] rfl) (by rw [ex8, ev4]; exact nI_add j 2) hw
      · replace hw := Eq.mp (if_pos c7) hw
        refine lv_aload_n hx hb dL_law_213 rfl (lv_at hl 6 rfl) ?_
        refine lv_iconst (v := 0) hx hb dL_law_214 (by decide) ?_
        refine gLald (k := 0) hx hb hK hP 42 3 rfl rfl (gin (by decide)) (by decide) dL_law_215 ?_
        refine lv_iload hx hb dL_law_216 (lv_at hl 0 rfl) ?_
        refine lv_i2l (v := r4.toInt64) hx hb dL_law_218 rfl ?_
        refine W.lcmp hx hb dL_law_219 ?_
        refine lv_if_eq (tgt := 225) hx hb dL_law_220 (by decide) (fun c9 => ?_) (fun c9 => ?_)
        · replace hw := Eq.mp (if_pos c9) hw
          refine lv_goto (tgt := 1187) hx hb dL_law_225 (by decide) ?_
          obtain ⟨x10, ex10⟩ : ∃ y : Int32, y = (v4 + 2) := ⟨_, rfl⟩
          replace hw := hw x10 ex10
          refine lv_iinc (v := x10) (lv' := [(4, .int x10), (6, .int r4), (5, .int r3), (0, .ref b), (1, .ref x), (2, .ref mo), (3, .ref oo)]) hx hb dL_law_1187 hl (k := 2) rfl (by rw [ex10]; rfl) (by decide) rfl (fun ls hl => ?_)
          refine lv_goto (tgt := 23) hx hb dL_law_1190 (by decide) ?_
          refine W.widen (k := 60 + 2 * (j + 2)) (n := 600 + 12 * (j + 2)) (by omega) (by omega) ?_
          exact hback x10 w3.1 w4 w3.2 H locs ls hP hD hS (lv_sub hl [0, 3, 4, 5, 6] rfl) (by rw [ex10, ev4]; exact nI_add j 2) hw
        · replace hw := Eq.mp (if_neg c9) hw
          refine lv_iconst (v := 0) hx hb dL_law_223 (by decide) ?_
          exact (hw : False).elim
    · replace hw := Eq.mp (if_neg c6) hw
      refine lv_iconst (v := 0) hx hb dL_law_206 (by decide) ?_
      exact (hw : False).elim
  replace hw := Eq.mp (if_neg c2_0) hw
  by_cases c2_1 : x1 = 1
  · replace hw := Eq.mp (if_pos c2_1) hw
    refine lv_tableIn (off := 189) (tgt := 228) hx hb dL_law_39 (by rw [c2_1]; decide) (by rw [c2_1]; decide) (by rw [c2_1]; rfl) (by decide) ?_
    refine lv_aload_n hx hb dL_law_228 rfl (lv_at hl 2 rfl) ?_
    refine lv_aload_n hx hb dL_law_229 rfl (lv_at hl 1 rfl) ?_
    refine lv_iload hx hb dL_law_230 (lv_at hl 0 rfl) ?_
    refine lv_iconst (v := 1) hx hb dL_law_232 (by decide) ?_
    refine lv_iadd hx hb dL_law_233 ?_
    refine va_sld hx hb hX hbl hbA hS hi1 dL_law_234 ?_
    refine lv_aload_n hx hb dL_law_235 rfl (lv_at hl 4 rfl) ?_
    refine gLSi (S := SX × (Nat → Int64)) (As := [.ref x, .int (xs ((v4 + 1)).toNatClampNeg), .ref oo]) (rest := []) (wc := wX kI kC kG x ag at_ as_ hh hst a0 a1 a2 a3 tx tch u ++ [(oo, .inl (kJ, 1, .inr (.inl f)))]) (wr := wM kI mo m0 m1 m2 m3 m4 m5 m6 m7 v) (cs1 := (fun zz : SX × (Nat → Int64) => wX kI kC kG x ag at_ as_ hh hst a0 a1 a2 a3 tx tch zz.1 ++ [(oo, .inl (kJ, 1, .inr (.inl zz.2)))])) (ws2 := (fun zz : SX × (Nat → Int64) => wX kI kC kG x ag at_ as_ hh hst a0 a1 a2 a3 tx tch zz.1 ++ wM kI mo m0 m1 m2 m3 m4 m5 m6 m7 v ++ [(oo, .inl (kJ, 1, .inr (.inl zz.2)))])) ⟨hx, hb, hml, hown, hts⟩ (fun sz => kL_place l D kI kC kG kJ hlt x ag at_ as_ hh hst a0 a1 a2 a3 tx tch oo sz u f (xs ((v4 + 1)).toNatClampNeg) _ hw) (vx_cwSW 3 hts gL_law_L_place rfl rfl rfl hdL_place ⟨Nat.le_of_ble_eq_true rfl, Nat.le_of_ble_eq_true rfl⟩) hK hP hD hE hS hA [0, 1, 2, 3, 4, 5, 6, 7, 8, 9, 10, 11, 12, 13, 14, 15, 16, 17, 18, 19, 20, 21, 22, 23, 24, 25, 26, 27, 28, 29, 30, 31, 32, 42] [33, 34, 35, 36, 37, 38, 39, 40, 41] rfl rfl rfl rfl (by decide) [9, 10, 11, 12, 13, 14, 15, 16, 17, 18, 19, 20, 21, 22, 23, 24, 25, 26, 27, 28, 29, 30, 31, 32, 33, 34, 35, 36, 37, 38, 39, 40, 41, 0, 1, 2, 3, 4, 5, 6, 7, 8, 42] rfl (fun _ => rfl) rfl hl.1 rfl (Nat.le_of_ble_eq_true rfl) dL_law_236 (gr1 (by omega)) (fun r11 w11 H locs hw hP hD hS => ?_)
    have hP : va_P D vwCl (wX kI kC kG x ag at_ as_ hh hst a0 a1 a2 a3 tx tch w11.1 ++ wM kI mo m0 m1 m2 m3 m4 m5 m6 m7 v ++ [(oo, .inl (kJ, 1, .inr (.inl w11.2)))]) H := hP
    have hD : va_D (fun q : Nat => s.heap.size ≤ q) (wX kI kC kG x ag at_ as_ hh hst a0 a1 a2 a3 tx tch w11.1 ++ wM kI mo m0 m1 m2 m3 m4 m5 m6 m7 v ++ [(oo, .inl (kJ, 1, .inr (.inl w11.2)))]) := hD
    refine lv_istore (lv' := [(5, .int r11), (4, .int v4), (0, .ref b), (1, .ref x), (2, .ref mo), (3, .ref oo)]) hx hb dL_law_239 hl (by decide) rfl (fun ls hl => ?_)
    refine lv_aload_n hx hb dL_law_241 rfl (lv_at hl 4 rfl) ?_
    refine lv_aload_n hx hb dL_law_242 rfl (lv_at hl 2 rfl) ?_
    refine lv_iload hx hb dL_law_243 (lv_at hl 1 rfl) ?_
    refine lv_iconst (v := 1) hx hb dL_law_245 (by decide) ?_
    refine lv_iadd hx hb dL_law_246 ?_
    refine va_sld hx hb hX hbl hbA hS hi1 dL_law_247 ?_
    refine gWVi (S := SM) (As := [.int (xs ((v4 + 1)).toNatClampNeg)]) (rest := []) (wc := wM kI mo m0 m1 m2 m3 m4 m5 m6 m7 v) (wr := [(x, .inr (4, [.ref ag.1, .ref at_.1, .ref as_.1, .int w11.1.1, .ref hh, .ref tx]))] ++ wG kI ag w11.1.2.1 ++ wG kI at_ w11.1.2.2.1 ++ wG kI as_ w11.1.2.2.2.1 ++ [(hh, .inr (2, [.ref hst, .int w11.1.2.2.2.2.1.1, .int w11.1.2.2.2.2.1.2.1])), (hst, .inl (kG, 4, .inr (.inr (.inr (.inr (fH a0 a1 a2 a3))))))] ++ wG kI a0 w11.1.2.2.2.2.1.2.2.1 ++ wG kI a1 w11.1.2.2.2.2.1.2.2.2.1 ++ wG kI a2 w11.1.2.2.2.2.1.2.2.2.2.1 ++ wG kI a3 w11.1.2.2.2.2.1.2.2.2.2.2 ++ wT kC tx tch w11.1.2.2.2.2.2 ++ [(oo, .inl (kJ, 1, .inr (.inl w11.2)))]) (cs1 := (fun zz : SM => wM kI mo m0 m1 m2 m3 m4 m5 m6 m7 zz)) (ws2 := (fun zz : SM => wX kI kC kG x ag at_ as_ hh hst a0 a1 a2 a3 tx tch w11.1 ++ wM kI mo m0 m1 m2 m3 m4 m5 m6 m7 zz ++ [(oo, .inl (kJ, 1, .inr (.inl w11.2)))])) ⟨hx, hb, hml, hown, hts⟩ (fun sz => kX6_place l D kI kC kG kJ mo m0 m1 m2 m3 m4 m5 m6 m7 sz v (xs ((v4 + 1)).toNatClampNeg) _ hw) (cwV 1 hts gL_law_X6_place rfl rfl rfl hdX6_place ⟨Nat.le_of_ble_eq_true rfl, Nat.le_of_ble_eq_true rfl⟩) hK hP hD hE hS hA [33, 34, 35, 36, 37, 38, 39, 40, 41] [0, 1, 2, 3, 4, 5, 6, 7, 8, 9, 10, 11, 12, 13, 14, 15, 16, 17, 18, 19, 20, 21, 22, 23, 24, 25, 26, 27, 28, 29, 30, 31, 32, 42] rfl rfl rfl rfl (by decide) [0, 1, 2, 3, 4, 5, 6, 7, 8, 9, 10, 11, 12, 13, 14, 15, 16, 17, 18, 19, 20, 21, 22, 23, 24, 25, 26, 27, 28, 29, 30, 31, 32, 34, 35, 36, 37, 38, 39, 40, 41, 42, 33] rfl (fun _ => rfl) (ci := 5) (q0 := 0) rfl rfl rfl rfl hl.1 rfl (Nat.le_of_ble_eq_true rfl) dL_law_248 (gr1 (by omega)) (fun r12 w12 H locs hw hP hD hS => ?_)
    have hP : va_P D vwCl (wX kI kC kG x ag at_ as_ hh hst a0 a1 a2 a3 tx tch w11.1 ++ wM kI mo m0 m1 m2 m3 m4 m5 m6 m7 w12 ++ [(oo, .inl (kJ, 1, .inr (.inl w11.2)))]) H := hP
    have hD : va_D (fun q : Nat => s.heap.size ≤ q) (wX kI kC kG x ag at_ as_ hh hst a0 a1 a2 a3 tx tch w11.1 ++ wM kI mo m0 m1 m2 m3 m4 m5 m6 m7 w12 ++ [(oo, .inl (kJ, 1, .inr (.inl w11.2)))]) := hD
    refine lv_istore (lv' := [(6, .int r12), (5, .int r11), (4, .int v4), (0, .ref b), (1, .ref x), (2, .ref mo), (3, .ref oo)]) hx hb dL_law_251 hl (by decide) rfl (fun ls hl => ?_)
    refine lv_aload_n hx hb dL_law_253 rfl (lv_at hl 5 rfl) ?_
    refine gVi (As := []) (rest := []) (cs' := wM kI mo m0 m1 m2 m3 m4 m5 m6 m7 w12) ⟨hx, hb, hml, hown, hts⟩ (kX6_thrown l D kI kC kG kJ mo m0 m1 m2 m3 m4 m5 m6 m7 w12 _ hw) (cwV 0 hts gL_law_X6_thrown rfl rfl rfl hdX6_thrown ⟨Nat.le_of_ble_eq_true rfl, Nat.le_of_ble_eq_true rfl⟩) hK hP hE hS [33, 34, 35, 36, 37, 38, 39, 40, 41] rfl (ci := 5) (q0 := 0) rfl rfl rfl rfl hl.1 rfl (Nat.le_of_ble_eq_true rfl) dL_law_254 (gr1 (by omega)) (fun r13 hw => ?_)
    refine lv_iload hx hb dL_law_257 (lv_at hl 1 rfl) ?_
    refine lv_icmp_eq (tgt := 264) hx hb dL_law_259 (by decide) (fun c14 => ?_) (fun c14 => ?_)
    · replace hw := Eq.mp (if_pos c14) hw
      refine lv_iload hx hb dL_law_264 (lv_at hl 1 rfl) ?_
      refine lv_if_ne (tgt := 288) hx hb dL_law_266 (by decide) (fun c15 => ?_) (fun c15 => ?_)
      · replace hw := Eq.mp (if_neg c15) hw
        refine lv_goto (tgt := 1187) hx hb dL_law_288 (by decide) ?_
        obtain ⟨x16, ex16⟩ : ∃ y : Int32, y = (v4 + 2) := ⟨_, rfl⟩
        replace hw := hw x16 ex16
        refine lv_iinc (v := x16) (lv' := [(4, .int x16), (6, .int r12), (5, .int r11), (0, .ref b), (1, .ref x), (2, .ref mo), (3, .ref oo)]) hx hb dL_law_1187 hl (k := 2) rfl (by rw [ex16]; rfl) (by decide) rfl (fun ls hl => ?_)
        refine lv_goto (tgt := 23) hx hb dL_law_1190 (by decide) ?_
        refine W.widen (k := 60 + 2 * (j + 2)) (n := 600 + 12 * (j + 2)) (by omega) (by omega) ?_
        exact hback x16 w11.1 w12 w11.2 H locs ls hP hD hS (lv_sub hl [0, 3, 4, 5, 6] rfl) (by rw [ex16, ev4]; exact nI_add j 2) hw
      · replace hw := Eq.mp (if_pos c15) hw
        refine lv_aload_n hx hb dL_law_269 rfl (lv_at hl 6 rfl) ?_
        refine lv_iconst (v := 0) hx hb dL_law_270 (by decide) ?_
        refine gLald (k := 0) hx hb hK hP 42 3 rfl rfl (gin (by decide)) (by decide) dL_law_271 ?_
        refine lv_iload hx hb dL_law_272 (lv_at hl 0 rfl) ?_
        refine lv_if_eq (tgt := 281) hx hb dL_law_274 (by decide) (fun c17 => ?_) (fun c17 => ?_)
        · replace hw := Eq.mp (if_pos c17) hw
          refine lv_lconst (v := 0) hx hb dL_law_281 (by decide) ?_
          refine W.lcmp hx hb dL_law_282 ?_
          refine lv_if_eq (tgt := 288) hx hb dL_law_283 (by decide) (fun c18 => ?_) (fun c18 => ?_)
          · replace hw := Eq.mp (if_pos c18) hw
            refine lv_goto (tgt := 1187) hx hb dL_law_288 (by decide) ?_
            obtain ⟨x19, ex19⟩ : ∃ y : Int32, y = (v4 + 2) := ⟨_, rfl⟩
            replace hw := hw x19 ex19
            refine lv_iinc (v := x19) (lv' := [(4, .int x19), (6, .int r12), (5, .int r11), (0, .ref b), (1, .ref x), (2, .ref mo), (3, .ref oo)]) hx hb dL_law_1187 hl (k := 2) rfl (by rw [ex19]; rfl) (by decide) rfl (fun ls hl => ?_)
            refine lv_goto (tgt := 23) hx hb dL_law_1190 (by decide) ?_
            refine W.widen (k := 60 + 2 * (j + 2)) (n := 600 + 12 * (j + 2)) (by omega) (by omega) ?_
            exact hback x19 w11.1 w12 w11.2 H locs ls hP hD hS (lv_sub hl [0, 3, 4, 5, 6] rfl) (by rw [ex19, ev4]; exact nI_add j 2) hw
          · replace hw := Eq.mp (if_neg c18) hw
            refine lv_iconst (v := 0) hx hb dL_law_286 (by decide) ?_
            exact (hw : False).elim
        · replace hw := Eq.mp (if_neg c17) hw
          refine lv_lconst (v := 1) hx hb dL_law_277 (by decide) ?_
          refine lv_goto (tgt := 282) hx hb dL_law_278 (by decide) ?_
          refine W.lcmp hx hb dL_law_282 ?_
          refine lv_if_eq (tgt := 288) hx hb dL_law_283 (by decide) (fun c20 => ?_) (fun c20 => ?_)
          · replace hw := Eq.mp (if_pos c20) hw
            refine lv_goto (tgt := 1187) hx hb dL_law_288 (by decide) ?_
            obtain ⟨x21, ex21⟩ : ∃ y : Int32, y = (v4 + 2) := ⟨_, rfl⟩
            replace hw := hw x21 ex21
            refine lv_iinc (v := x21) (lv' := [(4, .int x21), (6, .int r12), (5, .int r11), (0, .ref b), (1, .ref x), (2, .ref mo), (3, .ref oo)]) hx hb dL_law_1187 hl (k := 2) rfl (by rw [ex21]; rfl) (by decide) rfl (fun ls hl => ?_)
            refine lv_goto (tgt := 23) hx hb dL_law_1190 (by decide) ?_
            refine W.widen (k := 60 + 2 * (j + 2)) (n := 600 + 12 * (j + 2)) (by omega) (by omega) ?_
            exact hback x21 w11.1 w12 w11.2 H locs ls hP hD hS (lv_sub hl [0, 3, 4, 5, 6] rfl) (by rw [ex21, ev4]; exact nI_add j 2) hw
          · replace hw := Eq.mp (if_neg c20) hw
            refine lv_iconst (v := 0) hx hb dL_law_286 (by decide) ?_
            exact (hw : False).elim
    · replace hw := Eq.mp (if_neg c14) hw
      refine lv_iconst (v := 0) hx hb dL_law_262 (by decide) ?_
      exact (hw : False).elim
  replace hw := Eq.mp (if_neg c2_1) hw
  by_cases c2_2 : x1 = 2
  · replace hw := Eq.mp (if_pos c2_2) hw
    refine lv_tableIn (off := 252) (tgt := 291) hx hb dL_law_39 (by rw [c2_2]; decide) (by rw [c2_2]; decide) (by rw [c2_2]; rfl) (by decide) ?_
    refine lv_aload_n hx hb dL_law_291 rfl (lv_at hl 2 rfl) ?_
    refine lv_aload_n hx hb dL_law_292 rfl (lv_at hl 1 rfl) ?_
    refine lv_iload hx hb dL_law_293 (lv_at hl 0 rfl) ?_
    refine lv_iconst (v := 1) hx hb dL_law_295 (by decide) ?_
    refine lv_iadd hx hb dL_law_296 ?_
    refine va_sld hx hb hX hbl hbA hS hi1 dL_law_297 ?_
    refine lv_aload_n hx hb dL_law_298 rfl (lv_at hl 4 rfl) ?_
    refine gLSi (S := SX × (Nat → Int64)) (As := [.ref x, .int (xs ((v4 + 1)).toNatClampNeg), .ref oo]) (rest := []) (wc := wX kI kC kG x ag at_ as_ hh hst a0 a1 a2 a3 tx tch u ++ [(oo, .inl (kJ, 1, .inr (.inl f)))]) (wr := wM kI mo m0 m1 m2 m3 m4 m5 m6 m7 v) (cs1 := (fun zz : SX × (Nat → Int64) => wX kI kC kG x ag at_ as_ hh hst a0 a1 a2 a3 tx tch zz.1 ++ [(oo, .inl (kJ, 1, .inr (.inl zz.2)))])) (ws2 := (fun zz : SX × (Nat → Int64) => wX kI kC kG x ag at_ as_ hh hst a0 a1 a2 a3 tx tch zz.1 ++ wM kI mo m0 m1 m2 m3 m4 m5 m6 m7 v ++ [(oo, .inl (kJ, 1, .inr (.inl zz.2)))])) ⟨hx, hb, hml, hown, hts⟩ (fun sz => kL_restart l D kI kC kG kJ hlt x ag at_ as_ hh hst a0 a1 a2 a3 tx tch oo sz u f (xs ((v4 + 1)).toNatClampNeg) _ hw) (vx_cwSW 3 hts gL_law_L_restart rfl rfl rfl hdL_restart ⟨Nat.le_of_ble_eq_true rfl, Nat.le_of_ble_eq_true rfl⟩) hK hP hD hE hS hA [0, 1, 2, 3, 4, 5, 6, 7, 8, 9, 10, 11, 12, 13, 14, 15, 16, 17, 18, 19, 20, 21, 22, 23, 24, 25, 26, 27, 28, 29, 30, 31, 32, 42] [33, 34, 35, 36, 37, 38, 39, 40, 41] rfl rfl rfl rfl (by decide) [9, 10, 11, 12, 13, 14, 15, 16, 17, 18, 19, 20, 21, 22, 23, 24, 25, 26, 27, 28, 29, 30, 31, 32, 33, 34, 35, 36, 37, 38, 39, 40, 41, 0, 1, 2, 3, 4, 5, 6, 7, 8, 42] rfl (fun _ => rfl) rfl hl.1 rfl (Nat.le_of_ble_eq_true rfl) dL_law_299 (gr1 (by omega)) (fun r22 w22 H locs hw hP hD hS => ?_)
    have hP : va_P D vwCl (wX kI kC kG x ag at_ as_ hh hst a0 a1 a2 a3 tx tch w22.1 ++ wM kI mo m0 m1 m2 m3 m4 m5 m6 m7 v ++ [(oo, .inl (kJ, 1, .inr (.inl w22.2)))]) H := hP
    have hD : va_D (fun q : Nat => s.heap.size ≤ q) (wX kI kC kG x ag at_ as_ hh hst a0 a1 a2 a3 tx tch w22.1 ++ wM kI mo m0 m1 m2 m3 m4 m5 m6 m7 v ++ [(oo, .inl (kJ, 1, .inr (.inl w22.2)))]) := hD
    refine lv_istore (lv' := [(5, .int r22), (4, .int v4), (0, .ref b), (1, .ref x), (2, .ref mo), (3, .ref oo)]) hx hb dL_law_302 hl (by decide) rfl (fun ls hl => ?_)
    refine lv_aload_n hx hb dL_law_304 rfl (lv_at hl 4 rfl) ?_
    refine lv_aload_n hx hb dL_law_305 rfl (lv_at hl 2 rfl) ?_
    refine lv_iload hx hb dL_law_306 (lv_at hl 1 rfl) ?_
    refine lv_iconst (v := 1) hx hb dL_law_308 (by decide) ?_
    refine lv_iadd hx hb dL_law_309 ?_
    refine va_sld hx hb hX hbl hbA hS hi1 dL_law_310 ?_
    refine gWVi (S := SM) (As := [.int (xs ((v4 + 1)).toNatClampNeg)]) (rest := []) (wc := wM kI mo m0 m1 m2 m3 m4 m5 m6 m7 v) (wr := [(x, .inr (4, [.ref ag.1, .ref at_.1, .ref as_.1, .int w22.1.1, .ref hh, .ref tx]))] ++ wG kI ag w22.1.2.1 ++ wG kI at_ w22.1.2.2.1 ++ wG kI as_ w22.1.2.2.2.1 ++ [(hh, .inr (2, [.ref hst, .int w22.1.2.2.2.2.1.1, .int w22.1.2.2.2.2.1.2.1])), (hst, .inl (kG, 4, .inr (.inr (.inr (.inr (fH a0 a1 a2 a3))))))] ++ wG kI a0 w22.1.2.2.2.2.1.2.2.1 ++ wG kI a1 w22.1.2.2.2.2.1.2.2.2.1 ++ wG kI a2 w22.1.2.2.2.2.1.2.2.2.2.1 ++ wG kI a3 w22.1.2.2.2.2.1.2.2.2.2.2 ++ wT kC tx tch w22.1.2.2.2.2.2 ++ [(oo, .inl (kJ, 1, .inr (.inl w22.2)))]) (cs1 := (fun zz : SM => wM kI mo m0 m1 m2 m3 m4 m5 m6 m7 zz)) (ws2 := (fun zz : SM => wX kI kC kG x ag at_ as_ hh hst a0 a1 a2 a3 tx tch w22.1 ++ wM kI mo m0 m1 m2 m3 m4 m5 m6 m7 zz ++ [(oo, .inl (kJ, 1, .inr (.inl w22.2)))])) ⟨hx, hb, hml, hown, hts⟩ (fun sz => kX6_restart l D kI kC kG kJ mo m0 m1 m2 m3 m4 m5 m6 m7 sz v (xs ((v4 + 1)).toNatClampNeg) _ hw) (cwV 1 hts gL_law_X6_restart rfl rfl rfl hdX6_restart ⟨Nat.le_of_ble_eq_true rfl, Nat.le_of_ble_eq_true rfl⟩) hK hP hD hE hS hA [33, 34, 35, 36, 37, 38, 39, 40, 41] [0, 1, 2, 3, 4, 5, 6, 7, 8, 9, 10, 11, 12, 13, 14, 15, 16, 17, 18, 19, 20, 21, 22, 23, 24, 25, 26, 27, 28, 29, 30, 31, 32, 42] rfl rfl rfl rfl (by decide) [0, 1, 2, 3, 4, 5, 6, 7, 8, 9, 10, 11, 12, 13, 14, 15, 16, 17, 18, 19, 20, 21, 22, 23, 24, 25, 26, 27, 28, 29, 30, 31, 32, 34, 35, 36, 37, 38, 39, 40, 41, 42, 33] rfl (fun _ => rfl) (ci := 5) (q0 := 0) rfl rfl rfl rfl hl.1 rfl (Nat.le_of_ble_eq_true rfl) dL_law_311 (gr1 (by omega)) (fun r23 w23 H locs hw hP hD hS => ?_)
    have hP : va_P D vwCl (wX kI kC kG x ag at_ as_ hh hst a0 a1 a2 a3 tx tch w22.1 ++ wM kI mo m0 m1 m2 m3 m4 m5 m6 m7 w23 ++ [(oo, .inl (kJ, 1, .inr (.inl w22.2)))]) H := hP
    have hD : va_D (fun q : Nat => s.heap.size ≤ q) (wX kI kC kG x ag at_ as_ hh hst a0 a1 a2 a3 tx tch w22.1 ++ wM kI mo m0 m1 m2 m3 m4 m5 m6 m7 w23 ++ [(oo, .inl (kJ, 1, .inr (.inl w22.2)))]) := hD
    refine lv_istore (lv' := [(6, .int r23), (5, .int r22), (4, .int v4), (0, .ref b), (1, .ref x), (2, .ref mo), (3, .ref oo)]) hx hb dL_law_314 hl (by decide) rfl (fun ls hl => ?_)
    refine lv_aload_n hx hb dL_law_316 rfl (lv_at hl 5 rfl) ?_
    refine gVi (As := []) (rest := []) (cs' := wM kI mo m0 m1 m2 m3 m4 m5 m6 m7 w23) ⟨hx, hb, hml, hown, hts⟩ (kX6_thrown l D kI kC kG kJ mo m0 m1 m2 m3 m4 m5 m6 m7 w23 _ hw) (cwV 0 hts gL_law_X6_thrown rfl rfl rfl hdX6_thrown ⟨Nat.le_of_ble_eq_true rfl, Nat.le_of_ble_eq_true rfl⟩) hK hP hE hS [33, 34, 35, 36, 37, 38, 39, 40, 41] rfl (ci := 5) (q0 := 0) rfl rfl rfl rfl hl.1 rfl (Nat.le_of_ble_eq_true rfl) dL_law_317 (gr1 (by omega)) (fun r24 hw => ?_)
    refine lv_iload hx hb dL_law_320 (lv_at hl 1 rfl) ?_
    refine lv_icmp_eq (tgt := 327) hx hb dL_law_322 (by decide) (fun c25 => ?_) (fun c25 => ?_)
    · replace hw := Eq.mp (if_pos c25) hw
      refine lv_iload hx hb dL_law_327 (lv_at hl 1 rfl) ?_
      refine lv_if_ne (tgt := 344) hx hb dL_law_329 (by decide) (fun c26 => ?_) (fun c26 => ?_)
      · replace hw := Eq.mp (if_neg c26) hw
        refine lv_goto (tgt := 1187) hx hb dL_law_344 (by decide) ?_
        obtain ⟨x27, ex27⟩ : ∃ y : Int32, y = (v4 + 2) := ⟨_, rfl⟩
        replace hw := hw x27 ex27
        refine lv_iinc (v := x27) (lv' := [(4, .int x27), (6, .int r23), (5, .int r22), (0, .ref b), (1, .ref x), (2, .ref mo), (3, .ref oo)]) hx hb dL_law_1187 hl (k := 2) rfl (by rw [ex27]; rfl) (by decide) rfl (fun ls hl => ?_)
        refine lv_goto (tgt := 23) hx hb dL_law_1190 (by decide) ?_
        refine W.widen (k := 60 + 2 * (j + 2)) (n := 600 + 12 * (j + 2)) (by omega) (by omega) ?_
        exact hback x27 w22.1 w23 w22.2 H locs ls hP hD hS (lv_sub hl [0, 3, 4, 5, 6] rfl) (by rw [ex27, ev4]; exact nI_add j 2) hw
      · replace hw := Eq.mp (if_pos c26) hw
        refine lv_aload_n hx hb dL_law_332 rfl (lv_at hl 6 rfl) ?_
        refine lv_iconst (v := 0) hx hb dL_law_333 (by decide) ?_
        refine gLald (k := 0) hx hb hK hP 42 3 rfl rfl (gin (by decide)) (by decide) dL_law_334 ?_
        refine lv_iload hx hb dL_law_335 (lv_at hl 0 rfl) ?_
        refine lv_i2l (v := r23.toInt64) hx hb dL_law_337 rfl ?_
        refine W.lcmp hx hb dL_law_338 ?_
        refine lv_if_eq (tgt := 344) hx hb dL_law_339 (by decide) (fun c28 => ?_) (fun c28 => ?_)
        · replace hw := Eq.mp (if_pos c28) hw
          refine lv_goto (tgt := 1187) hx hb dL_law_344 (by decide) ?_
          obtain ⟨x29, ex29⟩ : ∃ y : Int32, y = (v4 + 2) := ⟨_, rfl⟩
          replace hw := hw x29 ex29
          refine lv_iinc (v := x29) (lv' := [(4, .int x29), (6, .int r23), (5, .int r22), (0, .ref b), (1, .ref x), (2, .ref mo), (3, .ref oo)]) hx hb dL_law_1187 hl (k := 2) rfl (by rw [ex29]; rfl) (by decide) rfl (fun ls hl => ?_)
          refine lv_goto (tgt := 23) hx hb dL_law_1190 (by decide) ?_
          refine W.widen (k := 60 + 2 * (j + 2)) (n := 600 + 12 * (j + 2)) (by omega) (by omega) ?_
          exact hback x29 w22.1 w23 w22.2 H locs ls hP hD hS (lv_sub hl [0, 3, 4, 5, 6] rfl) (by rw [ex29, ev4]; exact nI_add j 2) hw
        · replace hw := Eq.mp (if_neg c28) hw
          refine lv_iconst (v := 0) hx hb dL_law_342 (by decide) ?_
          exact (hw : False).elim
    · replace hw := Eq.mp (if_neg c25) hw
      refine lv_iconst (v := 0) hx hb dL_law_325 (by decide) ?_
      exact (hw : False).elim
  replace hw := Eq.mp (if_neg c2_2) hw
  by_cases c2_3 : x1 = 3
  · replace hw := Eq.mp (if_pos c2_3) hw
    refine lv_tableIn (off := 308) (tgt := 347) hx hb dL_law_39 (by rw [c2_3]; decide) (by rw [c2_3]; decide) (by rw [c2_3]; rfl) (by decide) ?_
    refine lv_aload_n hx hb dL_law_347 rfl (lv_at hl 2 rfl) ?_
    refine lv_aload_n hx hb dL_law_348 rfl (lv_at hl 1 rfl) ?_
    refine lv_iload hx hb dL_law_349 (lv_at hl 0 rfl) ?_
    refine lv_iconst (v := 1) hx hb dL_law_351 (by decide) ?_
    refine lv_iadd hx hb dL_law_352 ?_
    refine va_sld hx hb hX hbl hbA hS hi1 dL_law_353 ?_
    refine lv_i2c (v := (((xs ((v4 + 1)).toNatClampNeg)).toUInt32 % 65536).toInt32) hx hb dL_law_354 rfl ?_
    refine lv_aload_n hx hb dL_law_355 rfl (lv_at hl 4 rfl) ?_
    refine gLSi (S := SX × (Nat → Int64)) (As := [.ref x, .int (((xs ((v4 + 1)).toNatClampNeg)).toUInt32 % 65536).toInt32, .ref oo]) (rest := []) (wc := wX kI kC kG x ag at_ as_ hh hst a0 a1 a2 a3 tx tch u ++ [(oo, .inl (kJ, 1, .inr (.inl f)))]) (wr := wM kI mo m0 m1 m2 m3 m4 m5 m6 m7 v) (cs1 := (fun zz : SX × (Nat → Int64) => wX kI kC kG x ag at_ as_ hh hst a0 a1 a2 a3 tx tch zz.1 ++ [(oo, .inl (kJ, 1, .inr (.inl zz.2)))])) (ws2 := (fun zz : SX × (Nat → Int64) => wX kI kC kG x ag at_ as_ hh hst a0 a1 a2 a3 tx tch zz.1 ++ wM kI mo m0 m1 m2 m3 m4 m5 m6 m7 v ++ [(oo, .inl (kJ, 1, .inr (.inl zz.2)))])) ⟨hx, hb, hml, hown, hts⟩ (fun sz => kL_type l D kI kC kG kJ hlt x ag at_ as_ hh hst a0 a1 a2 a3 tx tch oo sz u f (((xs ((v4 + 1)).toNatClampNeg)).toUInt32 % 65536).toInt32 _ hw) (vx_cwSW 3 hts gL_law_L_type rfl rfl rfl hdL_type ⟨Nat.le_of_ble_eq_true rfl, Nat.le_of_ble_eq_true rfl⟩) hK hP hD hE hS hA [0, 1, 2, 3, 4, 5, 6, 7, 8, 9, 10, 11, 12, 13, 14, 15, 16, 17, 18, 19, 20, 21, 22, 23, 24, 25, 26, 27, 28, 29, 30, 31, 32, 42] [33, 34, 35, 36, 37, 38, 39, 40, 41] rfl rfl rfl rfl (by decide) [9, 10, 11, 12, 13, 14, 15, 16, 17, 18, 19, 20, 21, 22, 23, 24, 25, 26, 27, 28, 29, 30, 31, 32, 33, 34, 35, 36, 37, 38, 39, 40, 41, 0, 1, 2, 3, 4, 5, 6, 7, 8, 42] rfl (fun _ => rfl) rfl hl.1 rfl (Nat.le_of_ble_eq_true rfl) dL_law_356 (gr1 (by omega)) (fun r30 w30 H locs hw hP hD hS => ?_)
    have hP : va_P D vwCl (wX kI kC kG x ag at_ as_ hh hst a0 a1 a2 a3 tx tch w30.1 ++ wM kI mo m0 m1 m2 m3 m4 m5 m6 m7 v ++ [(oo, .inl (kJ, 1, .inr (.inl w30.2)))]) H := hP
    have hD : va_D (fun q : Nat => s.heap.size ≤ q) (wX kI kC kG x ag at_ as_ hh hst a0 a1 a2 a3 tx tch w30.1 ++ wM kI mo m0 m1 m2 m3 m4 m5 m6 m7 v ++ [(oo, .inl (kJ, 1, .inr (.inl w30.2)))]) := hD
    refine lv_istore (lv' := [(5, .int r30), (4, .int v4), (0, .ref b), (1, .ref x), (2, .ref mo), (3, .ref oo)]) hx hb dL_law_359 hl (by decide) rfl (fun ls hl => ?_)
    refine lv_aload_n hx hb dL_law_361 rfl (lv_at hl 4 rfl) ?_
    refine lv_aload_n hx hb dL_law_362 rfl (lv_at hl 2 rfl) ?_
    refine lv_iload hx hb dL_law_363 (lv_at hl 1 rfl) ?_
    refine lv_iconst (v := 1) hx hb dL_law_365 (by decide) ?_
    refine lv_iadd hx hb dL_law_366 ?_
    refine va_sld hx hb hX hbl hbA hS hi1 dL_law_367 ?_
    refine lv_i2c (v := (((xs ((v4 + 1)).toNatClampNeg)).toUInt32 % 65536).toInt32) hx hb dL_law_368 rfl ?_
    refine gWVi (S := SM) (As := [.int (((xs ((v4 + 1)).toNatClampNeg)).toUInt32 % 65536).toInt32]) (rest := []) (wc := wM kI mo m0 m1 m2 m3 m4 m5 m6 m7 v) (wr := [(x, .inr (4, [.ref ag.1, .ref at_.1, .ref as_.1, .int w30.1.1, .ref hh, .ref tx]))] ++ wG kI ag w30.1.2.1 ++ wG kI at_ w30.1.2.2.1 ++ wG kI as_ w30.1.2.2.2.1 ++ [(hh, .inr (2, [.ref hst, .int w30.1.2.2.2.2.1.1, .int w30.1.2.2.2.2.1.2.1])), (hst, .inl (kG, 4, .inr (.inr (.inr (.inr (fH a0 a1 a2 a3))))))] ++ wG kI a0 w30.1.2.2.2.2.1.2.2.1 ++ wG kI a1 w30.1.2.2.2.2.1.2.2.2.1 ++ wG kI a2 w30.1.2.2.2.2.1.2.2.2.2.1 ++ wG kI a3 w30.1.2.2.2.2.1.2.2.2.2.2 ++ wT kC tx tch w30.1.2.2.2.2.2 ++ [(oo, .inl (kJ, 1, .inr (.inl w30.2)))]) (cs1 := (fun zz : SM => wM kI mo m0 m1 m2 m3 m4 m5 m6 m7 zz)) (ws2 := (fun zz : SM => wX kI kC kG x ag at_ as_ hh hst a0 a1 a2 a3 tx tch w30.1 ++ wM kI mo m0 m1 m2 m3 m4 m5 m6 m7 zz ++ [(oo, .inl (kJ, 1, .inr (.inl w30.2)))])) ⟨hx, hb, hml, hown, hts⟩ (fun sz => kX6_type l D kI kC kG kJ mo m0 m1 m2 m3 m4 m5 m6 m7 sz v (((xs ((v4 + 1)).toNatClampNeg)).toUInt32 % 65536).toInt32 _ hw) (cwV 1 hts gL_law_X6_type rfl rfl rfl hdX6_type ⟨Nat.le_of_ble_eq_true rfl, Nat.le_of_ble_eq_true rfl⟩) hK hP hD hE hS hA [33, 34, 35, 36, 37, 38, 39, 40, 41] [0, 1, 2, 3, 4, 5, 6, 7, 8, 9, 10, 11, 12, 13, 14, 15, 16, 17, 18, 19, 20, 21, 22, 23, 24, 25, 26, 27, 28, 29, 30, 31, 32, 42] rfl rfl rfl rfl (by decide) [0, 1, 2, 3, 4, 5, 6, 7, 8, 9, 10, 11, 12, 13, 14, 15, 16, 17, 18, 19, 20, 21, 22, 23, 24, 25, 26, 27, 28, 29, 30, 31, 32, 34, 35, 36, 37, 38, 39, 40, 41, 42, 33] rfl (fun _ => rfl) (ci := 5) (q0 := 0) rfl rfl rfl rfl hl.1 rfl (Nat.le_of_ble_eq_true rfl) dL_law_369 (gr1 (by omega)) (fun r31 w31 H locs hw hP hD hS => ?_)
    have hP : va_P D vwCl (wX kI kC kG x ag at_ as_ hh hst a0 a1 a2 a3 tx tch w30.1 ++ wM kI mo m0 m1 m2 m3 m4 m5 m6 m7 w31 ++ [(oo, .inl (kJ, 1, .inr (.inl w30.2)))]) H := hP
    have hD : va_D (fun q : Nat => s.heap.size ≤ q) (wX kI kC kG x ag at_ as_ hh hst a0 a1 a2 a3 tx tch w30.1 ++ wM kI mo m0 m1 m2 m3 m4 m5 m6 m7 w31 ++ [(oo, .inl (kJ, 1, .inr (.inl w30.2)))]) := hD
    refine lv_istore (lv' := [(6, .int r31), (5, .int r30), (4, .int v4), (0, .ref b), (1, .ref x), (2, .ref mo), (3, .ref oo)]) hx hb dL_law_372 hl (by decide) rfl (fun ls hl => ?_)
    refine lv_aload_n hx hb dL_law_374 rfl (lv_at hl 5 rfl) ?_
    refine gVi (As := []) (rest := []) (cs' := wM kI mo m0 m1 m2 m3 m4 m5 m6 m7 w31) ⟨hx, hb, hml, hown, hts⟩ (kX6_thrown l D kI kC kG kJ mo m0 m1 m2 m3 m4 m5 m6 m7 w31 _ hw) (cwV 0 hts gL_law_X6_thrown rfl rfl rfl hdX6_thrown ⟨Nat.le_of_ble_eq_true rfl, Nat.le_of_ble_eq_true rfl⟩) hK hP hE hS [33, 34, 35, 36, 37, 38, 39, 40, 41] rfl (ci := 5) (q0 := 0) rfl rfl rfl rfl hl.1 rfl (Nat.le_of_ble_eq_true rfl) dL_law_375 (gr1 (by omega)) (fun r32 hw => ?_)
    refine lv_iload hx hb dL_law_378 (lv_at hl 1 rfl) ?_
    refine lv_icmp_eq (tgt := 385) hx hb dL_law_380 (by decide) (fun c33 => ?_) (fun c33 => ?_)
    · replace hw := Eq.mp (if_pos c33) hw
      refine lv_iload hx hb dL_law_385 (lv_at hl 1 rfl) ?_
      refine lv_if_ne (tgt := 402) hx hb dL_law_387 (by decide) (fun c34 => ?_) (fun c34 => ?_)
      · replace hw := Eq.mp (if_neg c34) hw
        refine lv_goto (tgt := 1187) hx hb dL_law_402 (by decide) ?_
        obtain ⟨x35, ex35⟩ : ∃ y : Int32, y = (v4 + 2) := ⟨_, rfl⟩
        replace hw := hw x35 ex35
        refine lv_iinc (v := x35) (lv' := [(4, .int x35), (6, .int r31), (5, .int r30), (0, .ref b), (1, .ref x), (2, .ref mo), (3, .ref oo)]) hx hb dL_law_1187 hl (k := 2) rfl (by rw [ex35]; rfl) (by decide) rfl (fun ls hl => ?_)
        refine lv_goto (tgt := 23) hx hb dL_law_1190 (by decide) ?_
        refine W.widen (k := 60 + 2 * (j + 2)) (n := 600 + 12 * (j + 2)) (by omega) (by omega) ?_
        exact hback x35 w30.1 w31 w30.2 H locs ls hP hD hS (lv_sub hl [0, 3, 4, 5, 6] rfl) (by rw [ex35, ev4]; exact nI_add j 2) hw
      · replace hw := Eq.mp (if_pos c34) hw
        refine lv_aload_n hx hb dL_law_390 rfl (lv_at hl 6 rfl) ?_
        refine lv_iconst (v := 0) hx hb dL_law_391 (by decide) ?_
        refine gLald (k := 0) hx hb hK hP 42 3 rfl rfl (gin (by decide)) (by decide) dL_law_392 ?_
        refine lv_iload hx hb dL_law_393 (lv_at hl 0 rfl) ?_
        refine lv_i2l (v := r31.toInt64) hx hb dL_law_395 rfl ?_
        refine W.lcmp hx hb dL_law_396 ?_
        refine lv_if_eq (tgt := 402) hx hb dL_law_397 (by decide) (fun c36 => ?_) (fun c36 => ?_)
        · replace hw := Eq.mp (if_pos c36) hw
          refine lv_goto (tgt := 1187) hx hb dL_law_402 (by decide) ?_
          obtain ⟨x37, ex37⟩ : ∃ y : Int32, y = (v4 + 2) := ⟨_, rfl⟩
          replace hw := hw x37 ex37
          refine lv_iinc (v := x37) (lv' := [(4, .int x37), (6, .int r31), (5, .int r30), (0, .ref b), (1, .ref x), (2, .ref mo), (3, .ref oo)]) hx hb dL_law_1187 hl (k := 2) rfl (by rw [ex37]; rfl) (by decide) rfl (fun ls hl => ?_)
          refine lv_goto (tgt := 23) hx hb dL_law_1190 (by decide) ?_
          refine W.widen (k := 60 + 2 * (j + 2)) (n := 600 + 12 * (j + 2)) (by omega) (by omega) ?_
          exact hback x37 w30.1 w31 w30.2 H locs ls hP hD hS (lv_sub hl [0, 3, 4, 5, 6] rfl) (by rw [ex37, ev4]; exact nI_add j 2) hw
        · replace hw := Eq.mp (if_neg c36) hw
          refine lv_iconst (v := 0) hx hb dL_law_400 (by decide) ?_
          exact (hw : False).elim
    · replace hw := Eq.mp (if_neg c33) hw
      refine lv_iconst (v := 0) hx hb dL_law_383 (by decide) ?_
      exact (hw : False).elim
  replace hw := Eq.mp (if_neg c2_3) hw
  by_cases c2_4 : x1 = 4
  · replace hw := Eq.mp (if_pos c2_4) hw
    refine lv_tableIn (off := 366) (tgt := 405) hx hb dL_law_39 (by rw [c2_4]; decide) (by rw [c2_4]; decide) (by rw [c2_4]; rfl) (by decide) ?_
    refine lv_aload_n hx hb dL_law_405 rfl (lv_at hl 2 rfl) ?_
    refine gWVi (S := SX) (As := []) (rest := []) (wc := wX kI kC kG x ag at_ as_ hh hst a0 a1 a2 a3 tx tch u) (wr := wM kI mo m0 m1 m2 m3 m4 m5 m6 m7 v ++ [(oo, .inl (kJ, 1, .inr (.inl f)))]) (cs1 := (fun zz : SX => wX kI kC kG x ag at_ as_ hh hst a0 a1 a2 a3 tx tch zz)) (ws2 := (fun zz : SX => wX kI kC kG x ag at_ as_ hh hst a0 a1 a2 a3 tx tch zz ++ wM kI mo m0 m1 m2 m3 m4 m5 m6 m7 v ++ [(oo, .inl (kJ, 1, .inr (.inl f)))])) ⟨hx, hb, hml, hown, hts⟩ (fun sz => kX5_clearText l D kI kC kG kJ x ag at_ as_ hh hst a0 a1 a2 a3 tx tch sz u _ hw) (cwV 0 hts gL_law_X5_clearText rfl rfl rfl hdX5_clearText ⟨Nat.le_of_ble_eq_true rfl, Nat.le_of_ble_eq_true rfl⟩) hK hP hD hE hS hA [0, 1, 2, 3, 4, 5, 6, 7, 8, 9, 10, 11, 12, 13, 14, 15, 16, 17, 18, 19, 20, 21, 22, 23, 24, 25, 26, 27, 28, 29, 30, 31, 32] [33, 34, 35, 36, 37, 38, 39, 40, 41, 42] rfl rfl rfl rfl (by decide) [10, 11, 12, 13, 14, 15, 16, 17, 18, 19, 20, 21, 22, 23, 24, 25, 26, 27, 28, 29, 30, 31, 32, 33, 34, 35, 36, 37, 38, 39, 40, 41, 42, 0, 1, 2, 3, 4, 5, 6, 7, 8, 9] rfl (fun _ => rfl) (ci := 4) (q0 := 0) rfl rfl rfl rfl hl.1 rfl (Nat.le_of_ble_eq_true rfl) dL_law_406 (gr1 (by omega)) (fun r38 w38 H locs hw hP hD hS => ?_)
    have hP : va_P D vwCl (wX kI kC kG x ag at_ as_ hh hst a0 a1 a2 a3 tx tch w38 ++ wM kI mo m0 m1 m2 m3 m4 m5 m6 m7 v ++ [(oo, .inl (kJ, 1, .inr (.inl f)))]) H := hP
    have hD : va_D (fun q : Nat => s.heap.size ≤ q) (wX kI kC kG x ag at_ as_ hh hst a0 a1 a2 a3 tx tch w38 ++ wM kI mo m0 m1 m2 m3 m4 m5 m6 m7 v ++ [(oo, .inl (kJ, 1, .inr (.inl f)))]) := hD
    refine lv_aload_n hx hb dL_law_409 rfl (lv_at hl 3 rfl) ?_
    refine gWVi (S := SM) (As := []) (rest := [.int r38]) (wc := wM kI mo m0 m1 m2 m3 m4 m5 m6 m7 v) (wr := [(x, .inr (4, [.ref ag.1, .ref at_.1, .ref as_.1, .int w38.1, .ref hh, .ref tx]))] ++ wG kI ag w38.2.1 ++ wG kI at_ w38.2.2.1 ++ wG kI as_ w38.2.2.2.1 ++ [(hh, .inr (2, [.ref hst, .int w38.2.2.2.2.1.1, .int w38.2.2.2.2.1.2.1])), (hst, .inl (kG, 4, .inr (.inr (.inr (.inr (fH a0 a1 a2 a3))))))] ++ wG kI a0 w38.2.2.2.2.1.2.2.1 ++ wG kI a1 w38.2.2.2.2.1.2.2.2.1 ++ wG kI a2 w38.2.2.2.2.1.2.2.2.2.1 ++ wG kI a3 w38.2.2.2.2.1.2.2.2.2.2 ++ wT kC tx tch w38.2.2.2.2.2 ++ [(oo, .inl (kJ, 1, .inr (.inl f)))]) (cs1 := (fun zz : SM => wM kI mo m0 m1 m2 m3 m4 m5 m6 m7 zz)) (ws2 := (fun zz : SM => wX kI kC kG x ag at_ as_ hh hst a0 a1 a2 a3 tx tch w38 ++ wM kI mo m0 m1 m2 m3 m4 m5 m6 m7 zz ++ [(oo, .inl (kJ, 1, .inr (.inl f)))])) ⟨hx, hb, hml, hown, hts⟩ (fun sz => kX6_clearText l D kI kC kG kJ mo m0 m1 m2 m3 m4 m5 m6 m7 sz v _ hw) (cwV 0 hts gL_law_X6_clearText rfl rfl rfl hdX6_clearText ⟨Nat.le_of_ble_eq_true rfl, Nat.le_of_ble_eq_true rfl⟩) hK hP hD hE hS hA [33, 34, 35, 36, 37, 38, 39, 40, 41] [0, 1, 2, 3, 4, 5, 6, 7, 8, 9, 10, 11, 12, 13, 14, 15, 16, 17, 18, 19, 20, 21, 22, 23, 24, 25, 26, 27, 28, 29, 30, 31, 32, 42] rfl rfl rfl rfl (by decide) [0, 1, 2, 3, 4, 5, 6, 7, 8, 9, 10, 11, 12, 13, 14, 15, 16, 17, 18, 19, 20, 21, 22, 23, 24, 25, 26, 27, 28, 29, 30, 31, 32, 34, 35, 36, 37, 38, 39, 40, 41, 42, 33] rfl (fun _ => rfl) (ci := 5) (q0 := 0) rfl rfl rfl rfl hl.1 rfl (Nat.le_of_ble_eq_true rfl) dL_law_410 (gr1 (by omega)) (fun r39 w39 H locs hw hP hD hS => ?_)
    have hP : va_P D vwCl (wX kI kC kG x ag at_ as_ hh hst a0 a1 a2 a3 tx tch w38 ++ wM kI mo m0 m1 m2 m3 m4 m5 m6 m7 w39 ++ [(oo, .inl (kJ, 1, .inr (.inl f)))]) H := hP
    have hD : va_D (fun q : Nat => s.heap.size ≤ q) (wX kI kC kG x ag at_ as_ hh hst a0 a1 a2 a3 tx tch w38 ++ wM kI mo m0 m1 m2 m3 m4 m5 m6 m7 w39 ++ [(oo, .inl (kJ, 1, .inr (.inl f)))]) := hD
    refine lv_icmp_eq (tgt := 1187) hx hb dL_law_413 (by decide) (fun c40 => ?_) (fun c40 => ?_)
    · replace hw := Eq.mp (if_pos c40) hw
      obtain ⟨x41, ex41⟩ : ∃ y : Int32, y = (v4 + 2) := ⟨_, rfl⟩
      replace hw := hw x41 ex41
      refine lv_iinc (v := x41) (lv' := [(4, .int x41), (0, .ref b), (1, .ref x), (2, .ref mo), (3, .ref oo)]) hx hb dL_law_1187 hl (k := 0) rfl (by rw [ex41]; rfl) (by decide) rfl (fun ls hl => ?_)
      refine lv_goto (tgt := 23) hx hb dL_law_1190 (by decide) ?_
      refine W.widen (k := 60 + 2 * (j + 2)) (n := 600 + 12 * (j + 2)) (by omega) (by omega) ?_
      exact hback x41 w38 w39 f H locs ls hP hD hS (lv_sub hl [0, 1, 2, 3, 4] rfl) (by rw [ex41, ev4]; exact nI_add j 2) hw
    · replace hw := Eq.mp (if_neg c40) hw
      refine lv_iconst (v := 0) hx hb dL_law_416 (by decide) ?_
      exact (hw : False).elim
  replace hw := Eq.mp (if_neg c2_4) hw
  by_cases c2_5 : x1 = 5
  · replace hw := Eq.mp (if_pos c2_5) hw
    refine lv_tableIn (off := 379) (tgt := 418) hx hb dL_law_39 (by rw [c2_5]; decide) (by rw [c2_5]; decide) (by rw [c2_5]; rfl) (by decide) ?_
    refine lv_aload_n hx hb dL_law_418 rfl (lv_at hl 2 rfl) ?_
    refine gVi (As := []) (rest := []) (cs' := wX kI kC kG x ag at_ as_ hh hst a0 a1 a2 a3 tx tch u) ⟨hx, hb, hml, hown, hts⟩ (kX5_textError l D kI kC kG kJ x ag at_ as_ hh hst a0 a1 a2 a3 tx tch u _ hw) (cwV 0 hts gL_law_X5_textError rfl rfl rfl hdX5_textError ⟨Nat.le_of_ble_eq_true rfl, Nat.le_of_ble_eq_true rfl⟩) hK hP hE hS [0, 1, 2, 3, 4, 5, 6, 7, 8, 9, 10, 11, 12, 13, 14, 15, 16, 17, 18, 19, 20, 21, 22, 23, 24, 25, 26, 27, 28, 29, 30, 31, 32] rfl (ci := 4) (q0 := 0) rfl rfl rfl rfl hl.1 rfl (Nat.le_of_ble_eq_true rfl) dL_law_419 (gr1 (by omega)) (fun r42 hw => ?_)
    refine lv_aload_n hx hb dL_law_422 rfl (lv_at hl 3 rfl) ?_
    refine gWVi (S := SM) (As := []) (rest := [.int r42]) (wc := wM kI mo m0 m1 m2 m3 m4 m5 m6 m7 v) (wr := [(x, .inr (4, [.ref ag.1, .ref at_.1, .ref as_.1, .int u.1, .ref hh, .ref tx]))] ++ wG kI ag u.2.1 ++ wG kI at_ u.2.2.1 ++ wG kI as_ u.2.2.2.1 ++ [(hh, .inr (2, [.ref hst, .int u.2.2.2.2.1.1, .int u.2.2.2.2.1.2.1])), (hst, .inl (kG, 4, .inr (.inr (.inr (.inr (fH a0 a1 a2 a3))))))] ++ wG kI a0 u.2.2.2.2.1.2.2.1 ++ wG kI a1 u.2.2.2.2.1.2.2.2.1 ++ wG kI a2 u.2.2.2.2.1.2.2.2.2.1 ++ wG kI a3 u.2.2.2.2.1.2.2.2.2.2 ++ wT kC tx tch u.2.2.2.2.2 ++ [(oo, .inl (kJ, 1, .inr (.inl f)))]) (cs1 := (fun zz : SM => wM kI mo m0 m1 m2 m3 m4 m5 m6 m7 zz)) (ws2 := (fun zz : SM => wX kI kC kG x ag at_ as_ hh hst a0 a1 a2 a3 tx tch u ++ wM kI mo m0 m1 m2 m3 m4 m5 m6 m7 zz ++ [(oo, .inl (kJ, 1, .inr (.inl f)))])) ⟨hx, hb, hml, hown, hts⟩ (fun sz => kX6_textError l D kI kC kG kJ mo m0 m1 m2 m3 m4 m5 m6 m7 sz v _ hw) (cwV 0 hts gL_law_X6_textError rfl rfl rfl hdX6_textError ⟨Nat.le_of_ble_eq_true rfl, Nat.le_of_ble_eq_true rfl⟩) hK hP hD hE hS hA [33, 34, 35, 36, 37, 38, 39, 40, 41] [0, 1, 2, 3, 4, 5, 6, 7, 8, 9, 10, 11, 12, 13, 14, 15, 16, 17, 18, 19, 20, 21, 22, 23, 24, 25, 26, 27, 28, 29, 30, 31, 32, 42] rfl rfl rfl rfl (by decide) [0, 1, 2, 3, 4, 5, 6, 7, 8, 9, 10, 11, 12, 13, 14, 15, 16, 17, 18, 19, 20, 21, 22, 23, 24, 25, 26, 27, 28, 29, 30, 31, 32, 34, 35, 36, 37, 38, 39, 40, 41, 42, 33] rfl (fun _ => rfl) (ci := 5) (q0 := 0) rfl rfl rfl rfl hl.1 rfl (Nat.le_of_ble_eq_true rfl) dL_law_423 (gr1 (by omega)) (fun r43 w43 H locs hw hP hD hS => ?_)
    have hP : va_P D vwCl (wX kI kC kG x ag at_ as_ hh hst a0 a1 a2 a3 tx tch u ++ wM kI mo m0 m1 m2 m3 m4 m5 m6 m7 w43 ++ [(oo, .inl (kJ, 1, .inr (.inl f)))]) H := hP
    have hD : va_D (fun q : Nat => s.heap.size ≤ q) (wX kI kC kG x ag at_ as_ hh hst a0 a1 a2 a3 tx tch u ++ wM kI mo m0 m1 m2 m3 m4 m5 m6 m7 w43 ++ [(oo, .inl (kJ, 1, .inr (.inl f)))]) := hD
    refine lv_icmp_eq (tgt := 1187) hx hb dL_law_426 (by decide) (fun c44 => ?_) (fun c44 => ?_)
    · replace hw := Eq.mp (if_pos c44) hw
      obtain ⟨x45, ex45⟩ : ∃ y : Int32, y = (v4 + 2) := ⟨_, rfl⟩
      replace hw := hw x45 ex45
      refine lv_iinc (v := x45) (lv' := [(4, .int x45), (0, .ref b), (1, .ref x), (2, .ref mo), (3, .ref oo)]) hx hb dL_law_1187 hl (k := 0) rfl (by rw [ex45]; rfl) (by decide) rfl (fun ls hl => ?_)
      refine lv_goto (tgt := 23) hx hb dL_law_1190 (by decide) ?_
      refine W.widen (k := 60 + 2 * (j + 2)) (n := 600 + 12 * (j + 2)) (by omega) (by omega) ?_
      exact hback x45 u w43 f H locs ls hP hD hS (lv_sub hl [0, 1, 2, 3, 4] rfl) (by rw [ex45, ev4]; exact nI_add j 2) hw
    · replace hw := Eq.mp (if_neg c44) hw
      refine lv_iconst (v := 0) hx hb dL_law_429 (by decide) ?_
      exact (hw : False).elim
  replace hw := Eq.mp (if_neg c2_5) hw
  by_cases c2_6 : x1 = 6
  · replace hw := Eq.mp (if_pos c2_6) hw
    refine lv_tableIn (off := 392) (tgt := 431) hx hb dL_law_39 (by rw [c2_6]; decide) (by rw [c2_6]; decide) (by rw [c2_6]; rfl) (by decide) ?_
    refine lv_aload_n hx hb dL_law_431 rfl (lv_at hl 2 rfl) ?_
    refine lv_aload_n hx hb dL_law_432 rfl (lv_at hl 4 rfl) ?_
    refine gLSi (S := SX × (Nat → Int64)) (As := [.ref x, .ref oo]) (rest := []) (wc := wX kI kC kG x ag at_ as_ hh hst a0 a1 a2 a3 tx tch u ++ [(oo, .inl (kJ, 1, .inr (.inl f)))]) (wr := wM kI mo m0 m1 m2 m3 m4 m5 m6 m7 v) (cs1 := (fun zz : SX × (Nat → Int64) => wX kI kC kG x ag at_ as_ hh hst a0 a1 a2 a3 tx tch zz.1 ++ [(oo, .inl (kJ, 1, .inr (.inl zz.2)))])) (ws2 := (fun zz : SX × (Nat → Int64) => wX kI kC kG x ag at_ as_ hh hst a0 a1 a2 a3 tx tch zz.1 ++ wM kI mo m0 m1 m2 m3 m4 m5 m6 m7 v ++ [(oo, .inl (kJ, 1, .inr (.inl zz.2)))])) ⟨hx, hb, hml, hown, hts⟩ (fun sz => kL_impossibleMove l D kI kC kG kJ hlt x ag at_ as_ hh hst a0 a1 a2 a3 tx tch oo sz u f _ hw) (vx_cwSW 2 hts gL_law_L_impossibleMove rfl rfl rfl hdL_impossibleMove ⟨Nat.le_of_ble_eq_true rfl, Nat.le_of_ble_eq_true rfl⟩) hK hP hD hE hS hA [0, 1, 2, 3, 4, 5, 6, 7, 8, 9, 10, 11, 12, 13, 14, 15, 16, 17, 18, 19, 20, 21, 22, 23, 24, 25, 26, 27, 28, 29, 30, 31, 32, 42] [33, 34, 35, 36, 37, 38, 39, 40, 41] rfl rfl rfl rfl (by decide) [9, 10, 11, 12, 13, 14, 15, 16, 17, 18, 19, 20, 21, 22, 23, 24, 25, 26, 27, 28, 29, 30, 31, 32, 33, 34, 35, 36, 37, 38, 39, 40, 41, 0, 1, 2, 3, 4, 5, 6, 7, 8, 42] rfl (fun _ => rfl) rfl hl.1 rfl (Nat.le_of_ble_eq_true rfl) dL_law_433 (gr1 (by omega)) (fun r46 w46 H locs hw hP hD hS => ?_)
    have hP : va_P D vwCl (wX kI kC kG x ag at_ as_ hh hst a0 a1 a2 a3 tx tch w46.1 ++ wM kI mo m0 m1 m2 m3 m4 m5 m6 m7 v ++ [(oo, .inl (kJ, 1, .inr (.inl w46.2)))]) H := hP
    have hD : va_D (fun q : Nat => s.heap.size ≤ q) (wX kI kC kG x ag at_ as_ hh hst a0 a1 a2 a3 tx tch w46.1 ++ wM kI mo m0 m1 m2 m3 m4 m5 m6 m7 v ++ [(oo, .inl (kJ, 1, .inr (.inl w46.2)))]) := hD
    refine lv_istore (lv' := [(5, .int r46), (4, .int v4), (0, .ref b), (1, .ref x), (2, .ref mo), (3, .ref oo)]) hx hb dL_law_436 hl (by decide) rfl (fun ls hl => ?_)
    refine lv_aload_n hx hb dL_law_438 rfl (lv_at hl 4 rfl) ?_
    refine gWVi (S := SM) (As := []) (rest := []) (wc := wM kI mo m0 m1 m2 m3 m4 m5 m6 m7 v) (wr := [(x, .inr (4, [.ref ag.1, .ref at_.1, .ref as_.1, .int w46.1.1, .ref hh, .ref tx]))] ++ wG kI ag w46.1.2.1 ++ wG kI at_ w46.1.2.2.1 ++ wG kI as_ w46.1.2.2.2.1 ++ [(hh, .inr (2, [.ref hst, .int w46.1.2.2.2.2.1.1, .int w46.1.2.2.2.2.1.2.1])), (hst, .inl (kG, 4, .inr (.inr (.inr (.inr (fH a0 a1 a2 a3))))))] ++ wG kI a0 w46.1.2.2.2.2.1.2.2.1 ++ wG kI a1 w46.1.2.2.2.2.1.2.2.2.1 ++ wG kI a2 w46.1.2.2.2.2.1.2.2.2.2.1 ++ wG kI a3 w46.1.2.2.2.2.1.2.2.2.2.2 ++ wT kC tx tch w46.1.2.2.2.2.2 ++ [(oo, .inl (kJ, 1, .inr (.inl w46.2)))]) (cs1 := (fun zz : SM => wM kI mo m0 m1 m2 m3 m4 m5 m6 m7 zz)) (ws2 := (fun zz : SM => wX kI kC kG x ag at_ as_ hh hst a0 a1 a2 a3 tx tch w46.1 ++ wM kI mo m0 m1 m2 m3 m4 m5 m6 m7 zz ++ [(oo, .inl (kJ, 1, .inr (.inl w46.2)))])) ⟨hx, hb, hml, hown, hts⟩ (fun sz => kX6_impossibleMove l D kI kC kG kJ mo m0 m1 m2 m3 m4 m5 m6 m7 sz v _ hw) (cwV 0 hts gL_law_X6_impossibleMove rfl rfl rfl hdX6_impossibleMove ⟨Nat.le_of_ble_eq_true rfl, Nat.le_of_ble_eq_true rfl⟩) hK hP hD hE hS hA [33, 34, 35, 36, 37, 38, 39, 40, 41] [0, 1, 2, 3, 4, 5, 6, 7, 8, 9, 10, 11, 12, 13, 14, 15, 16, 17, 18, 19, 20, 21, 22, 23, 24, 25, 26, 27, 28, 29, 30, 31, 32, 42] rfl rfl rfl rfl (by decide) [0, 1, 2, 3, 4, 5, 6, 7, 8, 9, 10, 11, 12, 13, 14, 15, 16, 17, 18, 19, 20, 21, 22, 23, 24, 25, 26, 27, 28, 29, 30, 31, 32, 34, 35, 36, 37, 38, 39, 40, 41, 42, 33] rfl (fun _ => rfl) (ci := 5) (q0 := 0) rfl rfl rfl rfl hl.1 rfl (Nat.le_of_ble_eq_true rfl) dL_law_439 (gr1 (by omega)) (fun r47 w47 H locs hw hP hD hS => ?_)
    have hP : va_P D vwCl (wX kI kC kG x ag at_ as_ hh hst a0 a1 a2 a3 tx tch w46.1 ++ wM kI mo m0 m1 m2 m3 m4 m5 m6 m7 w47 ++ [(oo, .inl (kJ, 1, .inr (.inl w46.2)))]) H := hP
    have hD : va_D (fun q : Nat => s.heap.size ≤ q) (wX kI kC kG x ag at_ as_ hh hst a0 a1 a2 a3 tx tch w46.1 ++ wM kI mo m0 m1 m2 m3 m4 m5 m6 m7 w47 ++ [(oo, .inl (kJ, 1, .inr (.inl w46.2)))]) := hD
    refine lv_istore (lv' := [(6, .int r47), (5, .int r46), (4, .int v4), (0, .ref b), (1, .ref x), (2, .ref mo), (3, .ref oo)]) hx hb dL_law_442 hl (by decide) rfl (fun ls hl => ?_)
    refine lv_aload_n hx hb dL_law_444 rfl (lv_at hl 5 rfl) ?_
    refine gVi (As := []) (rest := []) (cs' := wM kI mo m0 m1 m2 m3 m4 m5 m6 m7 w47) ⟨hx, hb, hml, hown, hts⟩ (kX6_thrown l D kI kC kG kJ mo m0 m1 m2 m3 m4 m5 m6 m7 w47 _ hw) (cwV 0 hts gL_law_X6_thrown rfl rfl rfl hdX6_thrown ⟨Nat.le_of_ble_eq_true rfl, Nat.le_of_ble_eq_true rfl⟩) hK hP hE hS [33, 34, 35, 36, 37, 38, 39, 40, 41] rfl (ci := 5) (q0 := 0) rfl rfl rfl rfl hl.1 rfl (Nat.le_of_ble_eq_true rfl) dL_law_445 (gr1 (by omega)) (fun r48 hw => ?_)
    refine lv_iload hx hb dL_law_448 (lv_at hl 1 rfl) ?_
    refine lv_icmp_eq (tgt := 455) hx hb dL_law_450 (by decide) (fun c49 => ?_) (fun c49 => ?_)
    · replace hw := Eq.mp (if_pos c49) hw
      refine lv_iload hx hb dL_law_455 (lv_at hl 1 rfl) ?_
      refine lv_if_ne (tgt := 472) hx hb dL_law_457 (by decide) (fun c50 => ?_) (fun c50 => ?_)
      · replace hw := Eq.mp (if_neg c50) hw
        refine lv_goto (tgt := 1187) hx hb dL_law_472 (by decide) ?_
        obtain ⟨x51, ex51⟩ : ∃ y : Int32, y = (v4 + 2) := ⟨_, rfl⟩
        replace hw := hw x51 ex51
        refine lv_iinc (v := x51) (lv' := [(4, .int x51), (6, .int r47), (5, .int r46), (0, .ref b), (1, .ref x), (2, .ref mo), (3, .ref oo)]) hx hb dL_law_1187 hl (k := 2) rfl (by rw [ex51]; rfl) (by decide) rfl (fun ls hl => ?_)
        refine lv_goto (tgt := 23) hx hb dL_law_1190 (by decide) ?_
        refine W.widen (k := 60 + 2 * (j + 2)) (n := 600 + 12 * (j + 2)) (by omega) (by omega) ?_
        exact hback x51 w46.1 w47 w46.2 H locs ls hP hD hS (lv_sub hl [0, 3, 4, 5, 6] rfl) (by rw [ex51, ev4]; exact nI_add j 2) hw
      · replace hw := Eq.mp (if_pos c50) hw
        refine lv_aload_n hx hb dL_law_460 rfl (lv_at hl 6 rfl) ?_
        refine lv_iconst (v := 0) hx hb dL_law_461 (by decide) ?_
        refine gLald (k := 0) hx hb hK hP 42 3 rfl rfl (gin (by decide)) (by decide) dL_law_462 ?_
        refine lv_iload hx hb dL_law_463 (lv_at hl 0 rfl) ?_
        refine lv_i2l (v := r47.toInt64) hx hb dL_law_465 rfl ?_
        refine W.lcmp hx hb dL_law_466 ?_
        refine lv_if_eq (tgt := 472) hx hb dL_law_467 (by decide) (fun c52 => ?_) (fun c52 => ?_)
        · replace hw := Eq.mp (if_pos c52) hw
          refine lv_goto (tgt := 1187) hx hb dL_law_472 (by decide) ?_
          obtain ⟨x53, ex53⟩ : ∃ y : Int32, y = (v4 + 2) := ⟨_, rfl⟩
          replace hw := hw x53 ex53
          refine lv_iinc (v := x53) (lv' := [(4, .int x53), (6, .int r47), (5, .int r46), (0, .ref b), (1, .ref x), (2, .ref mo), (3, .ref oo)]) hx hb dL_law_1187 hl (k := 2) rfl (by rw [ex53]; rfl) (by decide) rfl (fun ls hl => ?_)
          refine lv_goto (tgt := 23) hx hb dL_law_1190 (by decide) ?_
          refine W.widen (k := 60 + 2 * (j + 2)) (n := 600 + 12 * (j + 2)) (by omega) (by omega) ?_
          exact hback x53 w46.1 w47 w46.2 H locs ls hP hD hS (lv_sub hl [0, 3, 4, 5, 6] rfl) (by rw [ex53, ev4]; exact nI_add j 2) hw
        · replace hw := Eq.mp (if_neg c52) hw
          refine lv_iconst (v := 0) hx hb dL_law_470 (by decide) ?_
          exact (hw : False).elim
    · replace hw := Eq.mp (if_neg c49) hw
      refine lv_iconst (v := 0) hx hb dL_law_453 (by decide) ?_
      exact (hw : False).elim
  replace hw := Eq.mp (if_neg c2_6) hw
  by_cases c2_7 : x1 = 7
  · replace hw := Eq.mp (if_pos c2_7) hw
    refine lv_tableIn (off := 436) (tgt := 475) hx hb dL_law_39 (by rw [c2_7]; decide) (by rw [c2_7]; decide) (by rw [c2_7]; rfl) (by decide) ?_
    refine lv_aload_n hx hb dL_law_475 rfl (lv_at hl 2 rfl) ?_
    refine lv_aload_n hx hb dL_law_476 rfl (lv_at hl 4 rfl) ?_
    refine gLSi (S := SX × (Nat → Int64)) (As := [.ref x, .ref oo]) (rest := []) (wc := wX kI kC kG x ag at_ as_ hh hst a0 a1 a2 a3 tx tch u ++ [(oo, .inl (kJ, 1, .inr (.inl f)))]) (wr := wM kI mo m0 m1 m2 m3 m4 m5 m6 m7 v) (cs1 := (fun zz : SX × (Nat → Int64) => wX kI kC kG x ag at_ as_ hh hst a0 a1 a2 a3 tx tch zz.1 ++ [(oo, .inl (kJ, 1, .inr (.inl zz.2)))])) (ws2 := (fun zz : SX × (Nat → Int64) => wX kI kC kG x ag at_ as_ hh hst a0 a1 a2 a3 tx tch zz.1 ++ wM kI mo m0 m1 m2 m3 m4 m5 m6 m7 v ++ [(oo, .inl (kJ, 1, .inr (.inl zz.2)))])) ⟨hx, hb, hml, hown, hts⟩ (fun sz => kL_carryOut l D kI kC kG kJ hlt x ag at_ as_ hh hst a0 a1 a2 a3 tx tch oo sz u f _ hw) (vx_cwSW 2 hts gL_law_L_carryOut rfl rfl rfl hdL_carryOut ⟨Nat.le_of_ble_eq_true rfl, Nat.le_of_ble_eq_true rfl⟩) hK hP hD hE hS hA [0, 1, 2, 3, 4, 5, 6, 7, 8, 9, 10, 11, 12, 13, 14, 15, 16, 17, 18, 19, 20, 21, 22, 23, 24, 25, 26, 27, 28, 29, 30, 31, 32, 42] [33, 34, 35, 36, 37, 38, 39, 40, 41] rfl rfl rfl rfl (by decide) [9, 10, 11, 12, 13, 14, 15, 16, 17, 18, 19, 20, 21, 22, 23, 24, 25, 26, 27, 28, 29, 30, 31, 32, 33, 34, 35, 36, 37, 38, 39, 40, 41, 0, 1, 2, 3, 4, 5, 6, 7, 8, 42] rfl (fun _ => rfl) rfl hl.1 rfl (Nat.le_of_ble_eq_true rfl) dL_law_477 (gr1 (by omega)) (fun r54 w54 H locs hw hP hD hS => ?_)
    have hP : va_P D vwCl (wX kI kC kG x ag at_ as_ hh hst a0 a1 a2 a3 tx tch w54.1 ++ wM kI mo m0 m1 m2 m3 m4 m5 m6 m7 v ++ [(oo, .inl (kJ, 1, .inr (.inl w54.2)))]) H := hP
    have hD : va_D (fun q : Nat => s.heap.size ≤ q) (wX kI kC kG x ag at_ as_ hh hst a0 a1 a2 a3 tx tch w54.1 ++ wM kI mo m0 m1 m2 m3 m4 m5 m6 m7 v ++ [(oo, .inl (kJ, 1, .inr (.inl w54.2)))]) := hD
    refine lv_istore (lv' := [(5, .int r54), (4, .int v4), (0, .ref b), (1, .ref x), (2, .ref mo), (3, .ref oo)]) hx hb dL_law_480 hl (by decide) rfl (fun ls hl => ?_)
    refine lv_aload_n hx hb dL_law_482 rfl (lv_at hl 4 rfl) ?_
    refine gWVi (S := SM) (As := []) (rest := []) (wc := wM kI mo m0 m1 m2 m3 m4 m5 m6 m7 v) (wr := [(x, .inr (4, [.ref ag.1, .ref at_.1, .ref as_.1, .int w54.1.1, .ref hh, .ref tx]))] ++ wG kI ag w54.1.2.1 ++ wG kI at_ w54.1.2.2.1 ++ wG kI as_ w54.1.2.2.2.1 ++ [(hh, .inr (2, [.ref hst, .int w54.1.2.2.2.2.1.1, .int w54.1.2.2.2.2.1.2.1])), (hst, .inl (kG, 4, .inr (.inr (.inr (.inr (fH a0 a1 a2 a3))))))] ++ wG kI a0 w54.1.2.2.2.2.1.2.2.1 ++ wG kI a1 w54.1.2.2.2.2.1.2.2.2.1 ++ wG kI a2 w54.1.2.2.2.2.1.2.2.2.2.1 ++ wG kI a3 w54.1.2.2.2.2.1.2.2.2.2.2 ++ wT kC tx tch w54.1.2.2.2.2.2 ++ [(oo, .inl (kJ, 1, .inr (.inl w54.2)))]) (cs1 := (fun zz : SM => wM kI mo m0 m1 m2 m3 m4 m5 m6 m7 zz)) (ws2 := (fun zz : SM => wX kI kC kG x ag at_ as_ hh hst a0 a1 a2 a3 tx tch w54.1 ++ wM kI mo m0 m1 m2 m3 m4 m5 m6 m7 zz ++ [(oo, .inl (kJ, 1, .inr (.inl w54.2)))])) ⟨hx, hb, hml, hown, hts⟩ (fun sz => kX6_carryOut l D kI kC kG kJ mo m0 m1 m2 m3 m4 m5 m6 m7 sz v _ hw) (cwV 0 hts gL_law_X6_carryOut rfl rfl rfl hdX6_carryOut ⟨Nat.le_of_ble_eq_true rfl, Nat.le_of_ble_eq_true rfl⟩) hK hP hD hE hS hA [33, 34, 35, 36, 37, 38, 39, 40, 41] [0, 1, 2, 3, 4, 5, 6, 7, 8, 9, 10, 11, 12, 13, 14, 15, 16, 17, 18, 19, 20, 21, 22, 23, 24, 25, 26, 27, 28, 29, 30, 31, 32, 42] rfl rfl rfl rfl (by decide) [0, 1, 2, 3, 4, 5, 6, 7, 8, 9, 10, 11, 12, 13, 14, 15, 16, 17, 18, 19, 20, 21, 22, 23, 24, 25, 26, 27, 28, 29, 30, 31, 32, 34, 35, 36, 37, 38, 39, 40, 41, 42, 33] rfl (fun _ => rfl) (ci := 5) (q0 := 0) rfl rfl rfl rfl hl.1 rfl (Nat.le_of_ble_eq_true rfl) dL_law_483 (gr1 (by omega)) (fun r55 w55 H locs hw hP hD hS => ?_)
    have hP : va_P D vwCl (wX kI kC kG x ag at_ as_ hh hst a0 a1 a2 a3 tx tch w54.1 ++ wM kI mo m0 m1 m2 m3 m4 m5 m6 m7 w55 ++ [(oo, .inl (kJ, 1, .inr (.inl w54.2)))]) H := hP
    have hD : va_D (fun q : Nat => s.heap.size ≤ q) (wX kI kC kG x ag at_ as_ hh hst a0 a1 a2 a3 tx tch w54.1 ++ wM kI mo m0 m1 m2 m3 m4 m5 m6 m7 w55 ++ [(oo, .inl (kJ, 1, .inr (.inl w54.2)))]) := hD
    refine lv_istore (lv' := [(6, .int r55), (5, .int r54), (4, .int v4), (0, .ref b), (1, .ref x), (2, .ref mo), (3, .ref oo)]) hx hb dL_law_486 hl (by decide) rfl (fun ls hl => ?_)
    refine lv_aload_n hx hb dL_law_488 rfl (lv_at hl 5 rfl) ?_
    refine gVi (As := []) (rest := []) (cs' := wM kI mo m0 m1 m2 m3 m4 m5 m6 m7 w55) ⟨hx, hb, hml, hown, hts⟩ (kX6_thrown l D kI kC kG kJ mo m0 m1 m2 m3 m4 m5 m6 m7 w55 _ hw) (cwV 0 hts gL_law_X6_thrown rfl rfl rfl hdX6_thrown ⟨Nat.le_of_ble_eq_true rfl, Nat.le_of_ble_eq_true rfl⟩) hK hP hE hS [33, 34, 35, 36, 37, 38, 39, 40, 41] rfl (ci := 5) (q0 := 0) rfl rfl rfl rfl hl.1 rfl (Nat.le_of_ble_eq_true rfl) dL_law_489 (gr1 (by omega)) (fun r56 hw => ?_)
    refine lv_iload hx hb dL_law_492 (lv_at hl 1 rfl) ?_
    refine lv_icmp_eq (tgt := 499) hx hb dL_law_494 (by decide) (fun c57 => ?_) (fun c57 => ?_)
    · replace hw := Eq.mp (if_pos c57) hw
      refine lv_iload hx hb dL_law_499 (lv_at hl 1 rfl) ?_
      refine lv_if_ne (tgt := 516) hx hb dL_law_501 (by decide) (fun c58 => ?_) (fun c58 => ?_)
      · replace hw := Eq.mp (if_neg c58) hw
        refine lv_goto (tgt := 1187) hx hb dL_law_516 (by decide) ?_
        obtain ⟨x59, ex59⟩ : ∃ y : Int32, y = (v4 + 2) := ⟨_, rfl⟩
        replace hw := hw x59 ex59
        refine lv_iinc (v := x59) (lv' := [(4, .int x59), (6, .int r55), (5, .int r54), (0, .ref b), (1, .ref x), (2, .ref mo), (3, .ref oo)]) hx hb dL_law_1187 hl (k := 2) rfl (by rw [ex59]; rfl) (by decide) rfl (fun ls hl => ?_)
        refine lv_goto (tgt := 23) hx hb dL_law_1190 (by decide) ?_
        refine W.widen (k := 60 + 2 * (j + 2)) (n := 600 + 12 * (j + 2)) (by omega) (by omega) ?_
        exact hback x59 w54.1 w55 w54.2 H locs ls hP hD hS (lv_sub hl [0, 3, 4, 5, 6] rfl) (by rw [ex59, ev4]; exact nI_add j 2) hw
      · replace hw := Eq.mp (if_pos c58) hw
        refine lv_aload_n hx hb dL_law_504 rfl (lv_at hl 6 rfl) ?_
        refine lv_iconst (v := 0) hx hb dL_law_505 (by decide) ?_
        refine gLald (k := 0) hx hb hK hP 42 3 rfl rfl (gin (by decide)) (by decide) dL_law_506 ?_
        refine lv_iload hx hb dL_law_507 (lv_at hl 0 rfl) ?_
        refine lv_i2l (v := r55.toInt64) hx hb dL_law_509 rfl ?_
        refine W.lcmp hx hb dL_law_510 ?_
        refine lv_if_eq (tgt := 516) hx hb dL_law_511 (by decide) (fun c60 => ?_) (fun c60 => ?_)
        · replace hw := Eq.mp (if_pos c60) hw
          refine lv_goto (tgt := 1187) hx hb dL_law_516 (by decide) ?_
          obtain ⟨x61, ex61⟩ : ∃ y : Int32, y = (v4 + 2) := ⟨_, rfl⟩
          replace hw := hw x61 ex61
          refine lv_iinc (v := x61) (lv' := [(4, .int x61), (6, .int r55), (5, .int r54), (0, .ref b), (1, .ref x), (2, .ref mo), (3, .ref oo)]) hx hb dL_law_1187 hl (k := 2) rfl (by rw [ex61]; rfl) (by decide) rfl (fun ls hl => ?_)
          refine lv_goto (tgt := 23) hx hb dL_law_1190 (by decide) ?_
          refine W.widen (k := 60 + 2 * (j + 2)) (n := 600 + 12 * (j + 2)) (by omega) (by omega) ?_
          exact hback x61 w54.1 w55 w54.2 H locs ls hP hD hS (lv_sub hl [0, 3, 4, 5, 6] rfl) (by rw [ex61, ev4]; exact nI_add j 2) hw
        · replace hw := Eq.mp (if_neg c60) hw
          refine lv_iconst (v := 0) hx hb dL_law_514 (by decide) ?_
          exact (hw : False).elim
    · replace hw := Eq.mp (if_neg c57) hw
      refine lv_iconst (v := 0) hx hb dL_law_497 (by decide) ?_
      exact (hw : False).elim
  replace hw := Eq.mp (if_neg c2_7) hw
  by_cases c2_8 : x1 = 8
  · replace hw := Eq.mp (if_pos c2_8) hw
    refine lv_tableIn (off := 480) (tgt := 519) hx hb dL_law_39 (by rw [c2_8]; decide) (by rw [c2_8]; decide) (by rw [c2_8]; rfl) (by decide) ?_
    refine lv_aload_n hx hb dL_law_519 rfl (lv_at hl 2 rfl) ?_
    refine lv_aload_n hx hb dL_law_520 rfl (lv_at hl 4 rfl) ?_
    refine gLSi (S := SX × (Nat → Int64)) (As := [.ref x, .ref oo]) (rest := []) (wc := wX kI kC kG x ag at_ as_ hh hst a0 a1 a2 a3 tx tch u ++ [(oo, .inl (kJ, 1, .inr (.inl f)))]) (wr := wM kI mo m0 m1 m2 m3 m4 m5 m6 m7 v) (cs1 := (fun zz : SX × (Nat → Int64) => wX kI kC kG x ag at_ as_ hh hst a0 a1 a2 a3 tx tch zz.1 ++ [(oo, .inl (kJ, 1, .inr (.inl zz.2)))])) (ws2 := (fun zz : SX × (Nat → Int64) => wX kI kC kG x ag at_ as_ hh hst a0 a1 a2 a3 tx tch zz.1 ++ wM kI mo m0 m1 m2 m3 m4 m5 m6 m7 v ++ [(oo, .inl (kJ, 1, .inr (.inl zz.2)))])) ⟨hx, hb, hml, hown, hts⟩ (fun sz => kL_undo l D kI kC kG kJ hlt x ag at_ as_ hh hst a0 a1 a2 a3 tx tch oo sz u f _ hw) (vx_cwSW 2 hts gL_law_L_undo rfl rfl rfl hdL_undo ⟨Nat.le_of_ble_eq_true rfl, Nat.le_of_ble_eq_true rfl⟩) hK hP hD hE hS hA [0, 1, 2, 3, 4, 5, 6, 7, 8, 9, 10, 11, 12, 13, 14, 15, 16, 17, 18, 19, 20, 21, 22, 23, 24, 25, 26, 27, 28, 29, 30, 31, 32, 42] [33, 34, 35, 36, 37, 38, 39, 40, 41] rfl rfl rfl rfl (by decide) [9, 10, 11, 12, 13, 14, 15, 16, 17, 18, 19, 20, 21, 22, 23, 24, 25, 26, 27, 28, 29, 30, 31, 32, 33, 34, 35, 36, 37, 38, 39, 40, 41, 0, 1, 2, 3, 4, 5, 6, 7, 8, 42] rfl (fun _ => rfl) rfl hl.1 rfl (Nat.le_of_ble_eq_true rfl) dL_law_521 (gr1 (by omega)) (fun r62 w62 H locs hw hP hD hS => ?_)
    have hP : va_P D vwCl (wX kI kC kG x ag at_ as_ hh hst a0 a1 a2 a3 tx tch w62.1 ++ wM kI mo m0 m1 m2 m3 m4 m5 m6 m7 v ++ [(oo, .inl (kJ, 1, .inr (.inl w62.2)))]) H := hP
    have hD : va_D (fun q : Nat => s.heap.size ≤ q) (wX kI kC kG x ag at_ as_ hh hst a0 a1 a2 a3 tx tch w62.1 ++ wM kI mo m0 m1 m2 m3 m4 m5 m6 m7 v ++ [(oo, .inl (kJ, 1, .inr (.inl w62.2)))]) := hD
    refine lv_istore (lv' := [(5, .int r62), (4, .int v4), (0, .ref b), (1, .ref x), (2, .ref mo), (3, .ref oo)]) hx hb dL_law_524 hl (by decide) rfl (fun ls hl => ?_)
    refine lv_aload_n hx hb dL_law_526 rfl (lv_at hl 4 rfl) ?_
    refine gWVi (S := SM) (As := []) (rest := []) (wc := wM kI mo m0 m1 m2 m3 m4 m5 m6 m7 v) (wr := [(x, .inr (4, [.ref ag.1, .ref at_.1, .ref as_.1, .int w62.1.1, .ref hh, .ref tx]))] ++ wG kI ag w62.1.2.1 ++ wG kI at_ w62.1.2.2.1 ++ wG kI as_ w62.1.2.2.2.1 ++ [(hh, .inr (2, [.ref hst, .int w62.1.2.2.2.2.1.1, .int w62.1.2.2.2.2.1.2.1])), (hst, .inl (kG, 4, .inr (.inr (.inr (.inr (fH a0 a1 a2 a3))))))] ++ wG kI a0 w62.1.2.2.2.2.1.2.2.1 ++ wG kI a1 w62.1.2.2.2.2.1.2.2.2.1 ++ wG kI a2 w62.1.2.2.2.2.1.2.2.2.2.1 ++ wG kI a3 w62.1.2.2.2.2.1.2.2.2.2.2 ++ wT kC tx tch w62.1.2.2.2.2.2 ++ [(oo, .inl (kJ, 1, .inr (.inl w62.2)))]) (cs1 := (fun zz : SM => wM kI mo m0 m1 m2 m3 m4 m5 m6 m7 zz)) (ws2 := (fun zz : SM => wX kI kC kG x ag at_ as_ hh hst a0 a1 a2 a3 tx tch w62.1 ++ wM kI mo m0 m1 m2 m3 m4 m5 m6 m7 zz ++ [(oo, .inl (kJ, 1, .inr (.inl w62.2)))])) ⟨hx, hb, hml, hown, hts⟩ (fun sz => kX6_undo l D kI kC kG kJ mo m0 m1 m2 m3 m4 m5 m6 m7 sz v _ hw) (cwV 0 hts gL_law_X6_undo rfl rfl rfl hdX6_undo ⟨Nat.le_of_ble_eq_true rfl, Nat.le_of_ble_eq_true rfl⟩) hK hP hD hE hS hA [33, 34, 35, 36, 37, 38, 39, 40, 41] [0, 1, 2, 3, 4, 5, 6, 7, 8, 9, 10, 11, 12, 13, 14, 15, 16, 17, 18, 19, 20, 21, 22, 23, 24, 25, 26, 27, 28, 29, 30, 31, 32, 42] rfl rfl rfl rfl (by decide) [0, 1, 2, 3, 4, 5, 6, 7, 8, 9, 10, 11, 12, 13, 14, 15, 16, 17, 18, 19, 20, 21, 22, 23, 24, 25, 26, 27, 28, 29, 30, 31, 32, 34, 35, 36, 37, 38, 39, 40, 41, 42, 33] rfl (fun _ => rfl) (ci := 5) (q0 := 0) rfl rfl rfl rfl hl.1 rfl (Nat.le_of_ble_eq_true rfl) dL_law_527 (gr1 (by omega)) (fun r63 w63 H locs hw hP hD hS => ?_)
    have hP : va_P D vwCl (wX kI kC kG x ag at_ as_ hh hst a0 a1 a2 a3 tx tch w62.1 ++ wM kI mo m0 m1 m2 m3 m4 m5 m6 m7 w63 ++ [(oo, .inl (kJ, 1, .inr (.inl w62.2)))]) H := hP
    have hD : va_D (fun q : Nat => s.heap.size ≤ q) (wX kI kC kG x ag at_ as_ hh hst a0 a1 a2 a3 tx tch w62.1 ++ wM kI mo m0 m1 m2 m3 m4 m5 m6 m7 w63 ++ [(oo, .inl (kJ, 1, .inr (.inl w62.2)))]) := hD
    refine lv_istore (lv' := [(6, .int r63), (5, .int r62), (4, .int v4), (0, .ref b), (1, .ref x), (2, .ref mo), (3, .ref oo)]) hx hb dL_law_530 hl (by decide) rfl (fun ls hl => ?_)
    refine lv_aload_n hx hb dL_law_532 rfl (lv_at hl 5 rfl) ?_
    refine gVi (As := []) (rest := []) (cs' := wM kI mo m0 m1 m2 m3 m4 m5 m6 m7 w63) ⟨hx, hb, hml, hown, hts⟩ (kX6_thrown l D kI kC kG kJ mo m0 m1 m2 m3 m4 m5 m6 m7 w63 _ hw) (cwV 0 hts gL_law_X6_thrown rfl rfl rfl hdX6_thrown ⟨Nat.le_of_ble_eq_true rfl, Nat.le_of_ble_eq_true rfl⟩) hK hP hE hS [33, 34, 35, 36, 37, 38, 39, 40, 41] rfl (ci := 5) (q0 := 0) rfl rfl rfl rfl hl.1 rfl (Nat.le_of_ble_eq_true rfl) dL_law_533 (gr1 (by omega)) (fun r64 hw => ?_)
    refine lv_iload hx hb dL_law_536 (lv_at hl 1 rfl) ?_
    refine lv_icmp_eq (tgt := 543) hx hb dL_law_538 (by decide) (fun c65 => ?_) (fun c65 => ?_)
    · replace hw := Eq.mp (if_pos c65) hw
      refine lv_iload hx hb dL_law_543 (lv_at hl 1 rfl) ?_
      refine lv_if_ne (tgt := 560) hx hb dL_law_545 (by decide) (fun c66 => ?_) (fun c66 => ?_)
      · replace hw := Eq.mp (if_neg c66) hw
        refine lv_goto (tgt := 1187) hx hb dL_law_560 (by decide) ?_
        obtain ⟨x67, ex67⟩ : ∃ y : Int32, y = (v4 + 2) := ⟨_, rfl⟩
        replace hw := hw x67 ex67
        refine lv_iinc (v := x67) (lv' := [(4, .int x67), (6, .int r63), (5, .int r62), (0, .ref b), (1, .ref x), (2, .ref mo), (3, .ref oo)]) hx hb dL_law_1187 hl (k := 2) rfl (by rw [ex67]; rfl) (by decide) rfl (fun ls hl => ?_)
        refine lv_goto (tgt := 23) hx hb dL_law_1190 (by decide) ?_
        refine W.widen (k := 60 + 2 * (j + 2)) (n := 600 + 12 * (j + 2)) (by omega) (by omega) ?_
        exact hback x67 w62.1 w63 w62.2 H locs ls hP hD hS (lv_sub hl [0, 3, 4, 5, 6] rfl) (by rw [ex67, ev4]; exact nI_add j 2) hw
      · replace hw := Eq.mp (if_pos c66) hw
        refine lv_aload_n hx hb dL_law_548 rfl (lv_at hl 6 rfl) ?_
        refine lv_iconst (v := 0) hx hb dL_law_549 (by decide) ?_
        refine gLald (k := 0) hx hb hK hP 42 3 rfl rfl (gin (by decide)) (by decide) dL_law_550 ?_
        refine lv_iload hx hb dL_law_551 (lv_at hl 0 rfl) ?_
        refine lv_i2l (v := r63.toInt64) hx hb dL_law_553 rfl ?_
        refine W.lcmp hx hb dL_law_554 ?_
        refine lv_if_eq (tgt := 560) hx hb dL_law_555 (by decide) (fun c68 => ?_) (fun c68 => ?_)
        · replace hw := Eq.mp (if_pos c68) hw
          refine lv_goto (tgt := 1187) hx hb dL_law_560 (by decide) ?_
          obtain ⟨x69, ex69⟩ : ∃ y : Int32, y = (v4 + 2) := ⟨_, rfl⟩
          replace hw := hw x69 ex69
          refine lv_iinc (v := x69) (lv' := [(4, .int x69), (6, .int r63), (5, .int r62), (0, .ref b), (1, .ref x), (2, .ref mo), (3, .ref oo)]) hx hb dL_law_1187 hl (k := 2) rfl (by rw [ex69]; rfl) (by decide) rfl (fun ls hl => ?_)
          refine lv_goto (tgt := 23) hx hb dL_law_1190 (by decide) ?_
          refine W.widen (k := 60 + 2 * (j + 2)) (n := 600 + 12 * (j + 2)) (by omega) (by omega) ?_
          exact hback x69 w62.1 w63 w62.2 H locs ls hP hD hS (lv_sub hl [0, 3, 4, 5, 6] rfl) (by rw [ex69, ev4]; exact nI_add j 2) hw
        · replace hw := Eq.mp (if_neg c68) hw
          refine lv_iconst (v := 0) hx hb dL_law_558 (by decide) ?_
          exact (hw : False).elim
    · replace hw := Eq.mp (if_neg c65) hw
      refine lv_iconst (v := 0) hx hb dL_law_541 (by decide) ?_
      exact (hw : False).elim
  replace hw := Eq.mp (if_neg c2_8) hw
  by_cases c2_9 : x1 = 9
  · replace hw := Eq.mp (if_pos c2_9) hw
    refine lv_tableIn (off := 524) (tgt := 563) hx hb dL_law_39 (by rw [c2_9]; decide) (by rw [c2_9]; decide) (by rw [c2_9]; rfl) (by decide) ?_
    refine lv_aload_n hx hb dL_law_563 rfl (lv_at hl 2 rfl) ?_
    refine gWVi (S := SX) (As := []) (rest := []) (wc := wX kI kC kG x ag at_ as_ hh hst a0 a1 a2 a3 tx tch u) (wr := wM kI mo m0 m1 m2 m3 m4 m5 m6 m7 v ++ [(oo, .inl (kJ, 1, .inr (.inl f)))]) (cs1 := (fun zz : SX => wX kI kC kG x ag at_ as_ hh hst a0 a1 a2 a3 tx tch zz)) (ws2 := (fun zz : SX => wX kI kC kG x ag at_ as_ hh hst a0 a1 a2 a3 tx tch zz ++ wM kI mo m0 m1 m2 m3 m4 m5 m6 m7 v ++ [(oo, .inl (kJ, 1, .inr (.inl f)))])) ⟨hx, hb, hml, hown, hts⟩ (fun sz => kX5_takeSnapshot l D kI kC kG kJ x ag at_ as_ hh hst a0 a1 a2 a3 tx tch sz u _ hw) (cwV 0 hts gL_law_X5_takeSnapshot rfl rfl rfl hdX5_takeSnapshot ⟨Nat.le_of_ble_eq_true rfl, Nat.le_of_ble_eq_true rfl⟩) hK hP hD hE hS hA [0, 1, 2, 3, 4, 5, 6, 7, 8, 9, 10, 11, 12, 13, 14, 15, 16, 17, 18, 19, 20, 21, 22, 23, 24, 25, 26, 27, 28, 29, 30, 31, 32] [33, 34, 35, 36, 37, 38, 39, 40, 41, 42] rfl rfl rfl rfl (by decide) [10, 11, 12, 13, 14, 15, 16, 17, 18, 19, 20, 21, 22, 23, 24, 25, 26, 27, 28, 29, 30, 31, 32, 33, 34, 35, 36, 37, 38, 39, 40, 41, 42, 0, 1, 2, 3, 4, 5, 6, 7, 8, 9] rfl (fun _ => rfl) (ci := 4) (q0 := 0) rfl rfl rfl rfl hl.1 rfl (Nat.le_of_ble_eq_true rfl) dL_law_564 (gr1 (by omega)) (fun r70 w70 H locs hw hP hD hS => ?_)
    have hP : va_P D vwCl (wX kI kC kG x ag at_ as_ hh hst a0 a1 a2 a3 tx tch w70 ++ wM kI mo m0 m1 m2 m3 m4 m5 m6 m7 v ++ [(oo, .inl (kJ, 1, .inr (.inl f)))]) H := hP
    have hD : va_D (fun q : Nat => s.heap.size ≤ q) (wX kI kC kG x ag at_ as_ hh hst a0 a1 a2 a3 tx tch w70 ++ wM kI mo m0 m1 m2 m3 m4 m5 m6 m7 v ++ [(oo, .inl (kJ, 1, .inr (.inl f)))]) := hD
    refine lv_aload_n hx hb dL_law_567 rfl (lv_at hl 3 rfl) ?_
    refine gWVi (S := SM) (As := []) (rest := [.int r70]) (wc := wM kI mo m0 m1 m2 m3 m4 m5 m6 m7 v) (wr := [(x, .inr (4, [.ref ag.1, .ref at_.1, .ref as_.1, .int w70.1, .ref hh, .ref tx]))] ++ wG kI ag w70.2.1 ++ wG kI at_ w70.2.2.1 ++ wG kI as_ w70.2.2.2.1 ++ [(hh, .inr (2, [.ref hst, .int w70.2.2.2.2.1.1, .int w70.2.2.2.2.1.2.1])), (hst, .inl (kG, 4, .inr (.inr (.inr (.inr (fH a0 a1 a2 a3))))))] ++ wG kI a0 w70.2.2.2.2.1.2.2.1 ++ wG kI a1 w70.2.2.2.2.1.2.2.2.1 ++ wG kI a2 w70.2.2.2.2.1.2.2.2.2.1 ++ wG kI a3 w70.2.2.2.2.1.2.2.2.2.2 ++ wT kC tx tch w70.2.2.2.2.2 ++ [(oo, .inl (kJ, 1, .inr (.inl f)))]) (cs1 := (fun zz : SM => wM kI mo m0 m1 m2 m3 m4 m5 m6 m7 zz)) (ws2 := (fun zz : SM => wX kI kC kG x ag at_ as_ hh hst a0 a1 a2 a3 tx tch w70 ++ wM kI mo m0 m1 m2 m3 m4 m5 m6 m7 zz ++ [(oo, .inl (kJ, 1, .inr (.inl f)))])) ⟨hx, hb, hml, hown, hts⟩ (fun sz => kX6_takeSnapshot l D kI kC kG kJ mo m0 m1 m2 m3 m4 m5 m6 m7 sz v _ hw) (cwV 0 hts gL_law_X6_takeSnapshot rfl rfl rfl hdX6_takeSnapshot ⟨Nat.le_of_ble_eq_true rfl, Nat.le_of_ble_eq_true rfl⟩) hK hP hD hE hS hA [33, 34, 35, 36, 37, 38, 39, 40, 41] [0, 1, 2, 3, 4, 5, 6, 7, 8, 9, 10, 11, 12, 13, 14, 15, 16, 17, 18, 19, 20, 21, 22, 23, 24, 25, 26, 27, 28, 29, 30, 31, 32, 42] rfl rfl rfl rfl (by decide) [0, 1, 2, 3, 4, 5, 6, 7, 8, 9, 10, 11, 12, 13, 14, 15, 16, 17, 18, 19, 20, 21, 22, 23, 24, 25, 26, 27, 28, 29, 30, 31, 32, 34, 35, 36, 37, 38, 39, 40, 41, 42, 33] rfl (fun _ => rfl) (ci := 5) (q0 := 0) rfl rfl rfl rfl hl.1 rfl (Nat.le_of_ble_eq_true rfl) dL_law_568 (gr1 (by omega)) (fun r71 w71 H locs hw hP hD hS => ?_)
    have hP : va_P D vwCl (wX kI kC kG x ag at_ as_ hh hst a0 a1 a2 a3 tx tch w70 ++ wM kI mo m0 m1 m2 m3 m4 m5 m6 m7 w71 ++ [(oo, .inl (kJ, 1, .inr (.inl f)))]) H := hP
    have hD : va_D (fun q : Nat => s.heap.size ≤ q) (wX kI kC kG x ag at_ as_ hh hst a0 a1 a2 a3 tx tch w70 ++ wM kI mo m0 m1 m2 m3 m4 m5 m6 m7 w71 ++ [(oo, .inl (kJ, 1, .inr (.inl f)))]) := hD
    refine lv_icmp_eq (tgt := 1187) hx hb dL_law_571 (by decide) (fun c72 => ?_) (fun c72 => ?_)
    · replace hw := Eq.mp (if_pos c72) hw
      obtain ⟨x73, ex73⟩ : ∃ y : Int32, y = (v4 + 2) := ⟨_, rfl⟩
      replace hw := hw x73 ex73
      refine lv_iinc (v := x73) (lv' := [(4, .int x73), (0, .ref b), (1, .ref x), (2, .ref mo), (3, .ref oo)]) hx hb dL_law_1187 hl (k := 0) rfl (by rw [ex73]; rfl) (by decide) rfl (fun ls hl => ?_)
      refine lv_goto (tgt := 23) hx hb dL_law_1190 (by decide) ?_
      refine W.widen (k := 60 + 2 * (j + 2)) (n := 600 + 12 * (j + 2)) (by omega) (by omega) ?_
      exact hback x73 w70 w71 f H locs ls hP hD hS (lv_sub hl [0, 1, 2, 3, 4] rfl) (by rw [ex73, ev4]; exact nI_add j 2) hw
    · replace hw := Eq.mp (if_neg c72) hw
      refine lv_iconst (v := 0) hx hb dL_law_574 (by decide) ?_
      exact (hw : False).elim
  replace hw := Eq.mp (if_neg c2_9) hw
  by_cases c2_10 : x1 = 10
  · replace hw := Eq.mp (if_pos c2_10) hw
    refine lv_tableIn (off := 537) (tgt := 576) hx hb dL_law_39 (by rw [c2_10]; decide) (by rw [c2_10]; decide) (by rw [c2_10]; rfl) (by decide) ?_
    refine lv_aload_n hx hb dL_law_576 rfl (lv_at hl 2 rfl) ?_
    refine lv_aload_n hx hb dL_law_577 rfl (lv_at hl 4 rfl) ?_
    refine gLSi (S := SX × (Nat → Int64)) (As := [.ref x, .ref oo]) (rest := []) (wc := wX kI kC kG x ag at_ as_ hh hst a0 a1 a2 a3 tx tch u ++ [(oo, .inl (kJ, 1, .inr (.inl f)))]) (wr := wM kI mo m0 m1 m2 m3 m4 m5 m6 m7 v) (cs1 := (fun zz : SX × (Nat → Int64) => wX kI kC kG x ag at_ as_ hh hst a0 a1 a2 a3 tx tch zz.1 ++ [(oo, .inl (kJ, 1, .inr (.inl zz.2)))])) (ws2 := (fun zz : SX × (Nat → Int64) => wX kI kC kG x ag at_ as_ hh hst a0 a1 a2 a3 tx tch zz.1 ++ wM kI mo m0 m1 m2 m3 m4 m5 m6 m7 v ++ [(oo, .inl (kJ, 1, .inr (.inl zz.2)))])) ⟨hx, hb, hml, hown, hts⟩ (fun sz => kL_restoreSnapshot l D kI kC kG kJ hlt x ag at_ as_ hh hst a0 a1 a2 a3 tx tch oo sz u f _ hw) (vx_cwSW 2 hts gL_law_L_restoreSnapshot rfl rfl rfl hdL_restoreSnapshot ⟨Nat.le_of_ble_eq_true rfl, Nat.le_of_ble_eq_true rfl⟩) hK hP hD hE hS hA [0, 1, 2, 3, 4, 5, 6, 7, 8, 9, 10, 11, 12, 13, 14, 15, 16, 17, 18, 19, 20, 21, 22, 23, 24, 25, 26, 27, 28, 29, 30, 31, 32, 42] [33, 34, 35, 36, 37, 38, 39, 40, 41] rfl rfl rfl rfl (by decide) [9, 10, 11, 12, 13, 14, 15, 16, 17, 18, 19, 20, 21, 22, 23, 24, 25, 26, 27, 28, 29, 30, 31, 32, 33, 34, 35, 36, 37, 38, 39, 40, 41, 0, 1, 2, 3, 4, 5, 6, 7, 8, 42] rfl (fun _ => rfl) rfl hl.1 rfl (Nat.le_of_ble_eq_true rfl) dL_law_578 (gr1 (by omega)) (fun r74 w74 H locs hw hP hD hS => ?_)
    have hP : va_P D vwCl (wX kI kC kG x ag at_ as_ hh hst a0 a1 a2 a3 tx tch w74.1 ++ wM kI mo m0 m1 m2 m3 m4 m5 m6 m7 v ++ [(oo, .inl (kJ, 1, .inr (.inl w74.2)))]) H := hP
    have hD : va_D (fun q : Nat => s.heap.size ≤ q) (wX kI kC kG x ag at_ as_ hh hst a0 a1 a2 a3 tx tch w74.1 ++ wM kI mo m0 m1 m2 m3 m4 m5 m6 m7 v ++ [(oo, .inl (kJ, 1, .inr (.inl w74.2)))]) := hD
    refine lv_istore (lv' := [(5, .int r74), (4, .int v4), (0, .ref b), (1, .ref x), (2, .ref mo), (3, .ref oo)]) hx hb dL_law_581 hl (by decide) rfl (fun ls hl => ?_)
    refine lv_aload_n hx hb dL_law_583 rfl (lv_at hl 4 rfl) ?_
    refine gWVi (S := SM) (As := []) (rest := []) (wc := wM kI mo m0 m1 m2 m3 m4 m5 m6 m7 v) (wr := [(x, .inr (4, [.ref ag.1, .ref at_.1, .ref as_.1, .int w74.1.1, .ref hh, .ref tx]))] ++ wG kI ag w74.1.2.1 ++ wG kI at_ w74.1.2.2.1 ++ wG kI as_ w74.1.2.2.2.1 ++ [(hh, .inr (2, [.ref hst, .int w74.1.2.2.2.2.1.1, .int w74.1.2.2.2.2.1.2.1])), (hst, .inl (kG, 4, .inr (.inr (.inr (.inr (fH a0 a1 a2 a3))))))] ++ wG kI a0 w74.1.2.2.2.2.1.2.2.1 ++ wG kI a1 w74.1.2.2.2.2.1.2.2.2.1 ++ wG kI a2 w74.1.2.2.2.2.1.2.2.2.2.1 ++ wG kI a3 w74.1.2.2.2.2.1.2.2.2.2.2 ++ wT kC tx tch w74.1.2.2.2.2.2 ++ [(oo, .inl (kJ, 1, .inr (.inl w74.2)))]) (cs1 := (fun zz : SM => wM kI mo m0 m1 m2 m3 m4 m5 m6 m7 zz)) (ws2 := (fun zz : SM => wX kI kC kG x ag at_ as_ hh hst a0 a1 a2 a3 tx tch w74.1 ++ wM kI mo m0 m1 m2 m3 m4 m5 m6 m7 zz ++ [(oo, .inl (kJ, 1, .inr (.inl w74.2)))])) ⟨hx, hb, hml, hown, hts⟩ (fun sz => kX6_restoreSnapshot l D kI kC kG kJ mo m0 m1 m2 m3 m4 m5 m6 m7 sz v _ hw) (cwV 0 hts gL_law_X6_restoreSnapshot rfl rfl rfl hdX6_restoreSnapshot ⟨Nat.le_of_ble_eq_true rfl, Nat.le_of_ble_eq_true rfl⟩) hK hP hD hE hS hA [33, 34, 35, 36, 37, 38, 39, 40, 41] [0, 1, 2, 3, 4, 5, 6, 7, 8, 9, 10, 11, 12, 13, 14, 15, 16, 17, 18, 19, 20, 21, 22, 23, 24, 25, 26, 27, 28, 29, 30, 31, 32, 42] rfl rfl rfl rfl (by decide) [0, 1, 2, 3, 4, 5, 6, 7, 8, 9, 10, 11, 12, 13, 14, 15, 16, 17, 18, 19, 20, 21, 22, 23, 24, 25, 26, 27, 28, 29, 30, 31, 32, 34, 35, 36, 37, 38, 39, 40, 41, 42, 33] rfl (fun _ => rfl) (ci := 5) (q0 := 0) rfl rfl rfl rfl hl.1 rfl (Nat.le_of_ble_eq_true rfl) dL_law_584 (gr1 (by omega)) (fun r75 w75 H locs hw hP hD hS => ?_)
    have hP : va_P D vwCl (wX kI kC kG x ag at_ as_ hh hst a0 a1 a2 a3 tx tch w74.1 ++ wM kI mo m0 m1 m2 m3 m4 m5 m6 m7 w75 ++ [(oo, .inl (kJ, 1, .inr (.inl w74.2)))]) H := hP
    have hD : va_D (fun q : Nat => s.heap.size ≤ q) (wX kI kC kG x ag at_ as_ hh hst a0 a1 a2 a3 tx tch w74.1 ++ wM kI mo m0 m1 m2 m3 m4 m5 m6 m7 w75 ++ [(oo, .inl (kJ, 1, .inr (.inl w74.2)))]) := hD
    refine lv_istore (lv' := [(6, .int r75), (5, .int r74), (4, .int v4), (0, .ref b), (1, .ref x), (2, .ref mo), (3, .ref oo)]) hx hb dL_law_587 hl (by decide) rfl (fun ls hl => ?_)
    refine lv_aload_n hx hb dL_law_589 rfl (lv_at hl 5 rfl) ?_
    refine gVi (As := []) (rest := []) (cs' := wM kI mo m0 m1 m2 m3 m4 m5 m6 m7 w75) ⟨hx, hb, hml, hown, hts⟩ (kX6_thrown l D kI kC kG kJ mo m0 m1 m2 m3 m4 m5 m6 m7 w75 _ hw) (cwV 0 hts gL_law_X6_thrown rfl rfl rfl hdX6_thrown ⟨Nat.le_of_ble_eq_true rfl, Nat.le_of_ble_eq_true rfl⟩) hK hP hE hS [33, 34, 35, 36, 37, 38, 39, 40, 41] rfl (ci := 5) (q0 := 0) rfl rfl rfl rfl hl.1 rfl (Nat.le_of_ble_eq_true rfl) dL_law_590 (gr1 (by omega)) (fun r76 hw => ?_)
    refine lv_iload hx hb dL_law_593 (lv_at hl 1 rfl) ?_
    refine lv_icmp_eq (tgt := 600) hx hb dL_law_595 (by decide) (fun c77 => ?_) (fun c77 => ?_)
    · replace hw := Eq.mp (if_pos c77) hw
      refine lv_iload hx hb dL_law_600 (lv_at hl 1 rfl) ?_
      refine lv_if_ne (tgt := 617) hx hb dL_law_602 (by decide) (fun c78 => ?_) (fun c78 => ?_)
      · replace hw := Eq.mp (if_neg c78) hw
        refine lv_goto (tgt := 1187) hx hb dL_law_617 (by decide) ?_
        obtain ⟨x79, ex79⟩ : ∃ y : Int32, y = (v4 + 2) := ⟨_, rfl⟩
        replace hw := hw x79 ex79
        refine lv_iinc (v := x79) (lv' := [(4, .int x79), (6, .int r75), (5, .int r74), (0, .ref b), (1, .ref x), (2, .ref mo), (3, .ref oo)]) hx hb dL_law_1187 hl (k := 2) rfl (by rw [ex79]; rfl) (by decide) rfl (fun ls hl => ?_)
        refine lv_goto (tgt := 23) hx hb dL_law_1190 (by decide) ?_
        refine W.widen (k := 60 + 2 * (j + 2)) (n := 600 + 12 * (j + 2)) (by omega) (by omega) ?_
        exact hback x79 w74.1 w75 w74.2 H locs ls hP hD hS (lv_sub hl [0, 3, 4, 5, 6] rfl) (by rw [ex79, ev4]; exact nI_add j 2) hw
      · replace hw := Eq.mp (if_pos c78) hw
        refine lv_aload_n hx hb dL_law_605 rfl (lv_at hl 6 rfl) ?_
        refine lv_iconst (v := 0) hx hb dL_law_606 (by decide) ?_
        refine gLald (k := 0) hx hb hK hP 42 3 rfl rfl (gin (by decide)) (by decide) dL_law_607 ?_
        refine lv_iload hx hb dL_law_608 (lv_at hl 0 rfl) ?_
        refine lv_i2l (v := r75.toInt64) hx hb dL_law_610 rfl ?_
        refine W.lcmp hx hb dL_law_611 ?_
        refine lv_if_eq (tgt := 617) hx hb dL_law_612 (by decide) (fun c80 => ?_) (fun c80 => ?_)
        · replace hw := Eq.mp (if_pos c80) hw
          refine lv_goto (tgt := 1187) hx hb dL_law_617 (by decide) ?_
          obtain ⟨x81, ex81⟩ : ∃ y : Int32, y = (v4 + 2) := ⟨_, rfl⟩
          replace hw := hw x81 ex81
          refine lv_iinc (v := x81) (lv' := [(4, .int x81), (6, .int r75), (5, .int r74), (0, .ref b), (1, .ref x), (2, .ref mo), (3, .ref oo)]) hx hb dL_law_1187 hl (k := 2) rfl (by rw [ex81]; rfl) (by decide) rfl (fun ls hl => ?_)
          refine lv_goto (tgt := 23) hx hb dL_law_1190 (by decide) ?_
          refine W.widen (k := 60 + 2 * (j + 2)) (n := 600 + 12 * (j + 2)) (by omega) (by omega) ?_
          exact hback x81 w74.1 w75 w74.2 H locs ls hP hD hS (lv_sub hl [0, 3, 4, 5, 6] rfl) (by rw [ex81, ev4]; exact nI_add j 2) hw
        · replace hw := Eq.mp (if_neg c80) hw
          refine lv_iconst (v := 0) hx hb dL_law_615 (by decide) ?_
          exact (hw : False).elim
    · replace hw := Eq.mp (if_neg c77) hw
      refine lv_iconst (v := 0) hx hb dL_law_598 (by decide) ?_
      exact (hw : False).elim
  replace hw := Eq.mp (if_neg c2_10) hw
  by_cases c2_11 : x1 = 11
  · replace hw := Eq.mp (if_pos c2_11) hw
    refine lv_tableIn (off := 581) (tgt := 620) hx hb dL_law_39 (by rw [c2_11]; decide) (by rw [c2_11]; decide) (by rw [c2_11]; rfl) (by decide) ?_
    refine lv_aload_n hx hb dL_law_620 rfl (lv_at hl 2 rfl) ?_
    refine gVi (As := []) (rest := []) (cs' := wX kI kC kG x ag at_ as_ hh hst a0 a1 a2 a3 tx tch u) ⟨hx, hb, hml, hown, hts⟩ (kX5_playerToMove l D kI kC kG kJ x ag at_ as_ hh hst a0 a1 a2 a3 tx tch u _ hw) (cwV 0 hts gL_law_X5_playerToMove rfl rfl rfl hdX5_playerToMove ⟨Nat.le_of_ble_eq_true rfl, Nat.le_of_ble_eq_true rfl⟩) hK hP hE hS [0, 1, 2, 3, 4, 5, 6, 7, 8, 9, 10, 11, 12, 13, 14, 15, 16, 17, 18, 19, 20, 21, 22, 23, 24, 25, 26, 27, 28, 29, 30, 31, 32] rfl (ci := 4) (q0 := 0) rfl rfl rfl rfl hl.1 rfl (Nat.le_of_ble_eq_true rfl) dL_law_621 (gr1 (by omega)) (fun r82 hw => ?_)
    refine lv_aload_n hx hb dL_law_624 rfl (lv_at hl 3 rfl) ?_
    refine gWVi (S := SM) (As := []) (rest := [.int r82]) (wc := wM kI mo m0 m1 m2 m3 m4 m5 m6 m7 v) (wr := [(x, .inr (4, [.ref ag.1, .ref at_.1, .ref as_.1, .int u.1, .ref hh, .ref tx]))] ++ wG kI ag u.2.1 ++ wG kI at_ u.2.2.1 ++ wG kI as_ u.2.2.2.1 ++ [(hh, .inr (2, [.ref hst, .int u.2.2.2.2.1.1, .int u.2.2.2.2.1.2.1])), (hst, .inl (kG, 4, .inr (.inr (.inr (.inr (fH a0 a1 a2 a3))))))] ++ wG kI a0 u.2.2.2.2.1.2.2.1 ++ wG kI a1 u.2.2.2.2.1.2.2.2.1 ++ wG kI a2 u.2.2.2.2.1.2.2.2.2.1 ++ wG kI a3 u.2.2.2.2.1.2.2.2.2.2 ++ wT kC tx tch u.2.2.2.2.2 ++ [(oo, .inl (kJ, 1, .inr (.inl f)))]) (cs1 := (fun zz : SM => wM kI mo m0 m1 m2 m3 m4 m5 m6 m7 zz)) (ws2 := (fun zz : SM => wX kI kC kG x ag at_ as_ hh hst a0 a1 a2 a3 tx tch u ++ wM kI mo m0 m1 m2 m3 m4 m5 m6 m7 zz ++ [(oo, .inl (kJ, 1, .inr (.inl f)))])) ⟨hx, hb, hml, hown, hts⟩ (fun sz => kX6_playerToMove l D kI kC kG kJ mo m0 m1 m2 m3 m4 m5 m6 m7 sz v _ hw) (cwV 0 hts gL_law_X6_playerToMove rfl rfl rfl hdX6_playerToMove ⟨Nat.le_of_ble_eq_true rfl, Nat.le_of_ble_eq_true rfl⟩) hK hP hD hE hS hA [33, 34, 35, 36, 37, 38, 39, 40, 41] [0, 1, 2, 3, 4, 5, 6, 7, 8, 9, 10, 11, 12, 13, 14, 15, 16, 17, 18, 19, 20, 21, 22, 23, 24, 25, 26, 27, 28, 29, 30, 31, 32, 42] rfl rfl rfl rfl (by decide) [0, 1, 2, 3, 4, 5, 6, 7, 8, 9, 10, 11, 12, 13, 14, 15, 16, 17, 18, 19, 20, 21, 22, 23, 24, 25, 26, 27, 28, 29, 30, 31, 32, 34, 35, 36, 37, 38, 39, 40, 41, 42, 33] rfl (fun _ => rfl) (ci := 5) (q0 := 0) rfl rfl rfl rfl hl.1 rfl (Nat.le_of_ble_eq_true rfl) dL_law_625 (gr1 (by omega)) (fun r83 w83 H locs hw hP hD hS => ?_)
    have hP : va_P D vwCl (wX kI kC kG x ag at_ as_ hh hst a0 a1 a2 a3 tx tch u ++ wM kI mo m0 m1 m2 m3 m4 m5 m6 m7 w83 ++ [(oo, .inl (kJ, 1, .inr (.inl f)))]) H := hP
    have hD : va_D (fun q : Nat => s.heap.size ≤ q) (wX kI kC kG x ag at_ as_ hh hst a0 a1 a2 a3 tx tch u ++ wM kI mo m0 m1 m2 m3 m4 m5 m6 m7 w83 ++ [(oo, .inl (kJ, 1, .inr (.inl f)))]) := hD
    refine lv_icmp_eq (tgt := 1187) hx hb dL_law_628 (by decide) (fun c84 => ?_) (fun c84 => ?_)
    · replace hw := Eq.mp (if_pos c84) hw
      obtain ⟨x85, ex85⟩ : ∃ y : Int32, y = (v4 + 2) := ⟨_, rfl⟩
      replace hw := hw x85 ex85
      refine lv_iinc (v := x85) (lv' := [(4, .int x85), (0, .ref b), (1, .ref x), (2, .ref mo), (3, .ref oo)]) hx hb dL_law_1187 hl (k := 0) rfl (by rw [ex85]; rfl) (by decide) rfl (fun ls hl => ?_)
      refine lv_goto (tgt := 23) hx hb dL_law_1190 (by decide) ?_
      refine W.widen (k := 60 + 2 * (j + 2)) (n := 600 + 12 * (j + 2)) (by omega) (by omega) ?_
      exact hback x85 u w83 f H locs ls hP hD hS (lv_sub hl [0, 1, 2, 3, 4] rfl) (by rw [ex85, ev4]; exact nI_add j 2) hw
    · replace hw := Eq.mp (if_neg c84) hw
      refine lv_iconst (v := 0) hx hb dL_law_631 (by decide) ?_
      exact (hw : False).elim
  replace hw := Eq.mp (if_neg c2_11) hw
  by_cases c2_12 : x1 = 12
  · replace hw := Eq.mp (if_pos c2_12) hw
    refine lv_tableIn (off := 594) (tgt := 633) hx hb dL_law_39 (by rw [c2_12]; decide) (by rw [c2_12]; decide) (by rw [c2_12]; rfl) (by decide) ?_
    refine lv_aload_n hx hb dL_law_633 rfl (lv_at hl 2 rfl) ?_
    refine gVi (As := []) (rest := []) (cs' := wX kI kC kG x ag at_ as_ hh hst a0 a1 a2 a3 tx tch u) ⟨hx, hb, hml, hown, hts⟩ (kX5_gift l D kI kC kG kJ x ag at_ as_ hh hst a0 a1 a2 a3 tx tch u _ hw) (cwV 0 hts gL_law_X5_gift rfl rfl rfl hdX5_gift ⟨Nat.le_of_ble_eq_true rfl, Nat.le_of_ble_eq_true rfl⟩) hK hP hE hS [0, 1, 2, 3, 4, 5, 6, 7, 8, 9, 10, 11, 12, 13, 14, 15, 16, 17, 18, 19, 20, 21, 22, 23, 24, 25, 26, 27, 28, 29, 30, 31, 32] rfl (ci := 4) (q0 := 0) rfl rfl rfl rfl hl.1 rfl (Nat.le_of_ble_eq_true rfl) dL_law_634 (gr1 (by omega)) (fun r86 hw => ?_)
    refine lv_aload_n hx hb dL_law_637 rfl (lv_at hl 3 rfl) ?_
    refine gWVi (S := SM) (As := []) (rest := [.int r86]) (wc := wM kI mo m0 m1 m2 m3 m4 m5 m6 m7 v) (wr := [(x, .inr (4, [.ref ag.1, .ref at_.1, .ref as_.1, .int u.1, .ref hh, .ref tx]))] ++ wG kI ag u.2.1 ++ wG kI at_ u.2.2.1 ++ wG kI as_ u.2.2.2.1 ++ [(hh, .inr (2, [.ref hst, .int u.2.2.2.2.1.1, .int u.2.2.2.2.1.2.1])), (hst, .inl (kG, 4, .inr (.inr (.inr (.inr (fH a0 a1 a2 a3))))))] ++ wG kI a0 u.2.2.2.2.1.2.2.1 ++ wG kI a1 u.2.2.2.2.1.2.2.2.1 ++ wG kI a2 u.2.2.2.2.1.2.2.2.2.1 ++ wG kI a3 u.2.2.2.2.1.2.2.2.2.2 ++ wT kC tx tch u.2.2.2.2.2 ++ [(oo, .inl (kJ, 1, .inr (.inl f)))]) (cs1 := (fun zz : SM => wM kI mo m0 m1 m2 m3 m4 m5 m6 m7 zz)) (ws2 := (fun zz : SM => wX kI kC kG x ag at_ as_ hh hst a0 a1 a2 a3 tx tch u ++ wM kI mo m0 m1 m2 m3 m4 m5 m6 m7 zz ++ [(oo, .inl (kJ, 1, .inr (.inl f)))])) ⟨hx, hb, hml, hown, hts⟩ (fun sz => kX6_gift l D kI kC kG kJ mo m0 m1 m2 m3 m4 m5 m6 m7 sz v _ hw) (cwV 0 hts gL_law_X6_gift rfl rfl rfl hdX6_gift ⟨Nat.le_of_ble_eq_true rfl, Nat.le_of_ble_eq_true rfl⟩) hK hP hD hE hS hA [33, 34, 35, 36, 37, 38, 39, 40, 41] [0, 1, 2, 3, 4, 5, 6, 7, 8, 9, 10, 11, 12, 13, 14, 15, 16, 17, 18, 19, 20, 21, 22, 23, 24, 25, 26, 27, 28, 29, 30, 31, 32, 42] rfl rfl rfl rfl (by decide) [0, 1, 2, 3, 4, 5, 6, 7, 8, 9, 10, 11, 12, 13, 14, 15, 16, 17, 18, 19, 20, 21, 22, 23, 24, 25, 26, 27, 28, 29, 30, 31, 32, 34, 35, 36, 37, 38, 39, 40, 41, 42, 33] rfl (fun _ => rfl) (ci := 5) (q0 := 0) rfl rfl rfl rfl hl.1 rfl (Nat.le_of_ble_eq_true rfl) dL_law_638 (gr1 (by omega)) (fun r87 w87 H locs hw hP hD hS => ?_)
    have hP : va_P D vwCl (wX kI kC kG x ag at_ as_ hh hst a0 a1 a2 a3 tx tch u ++ wM kI mo m0 m1 m2 m3 m4 m5 m6 m7 w87 ++ [(oo, .inl (kJ, 1, .inr (.inl f)))]) H := hP
    have hD : va_D (fun q : Nat => s.heap.size ≤ q) (wX kI kC kG x ag at_ as_ hh hst a0 a1 a2 a3 tx tch u ++ wM kI mo m0 m1 m2 m3 m4 m5 m6 m7 w87 ++ [(oo, .inl (kJ, 1, .inr (.inl f)))]) := hD
    refine lv_icmp_eq (tgt := 1187) hx hb dL_law_641 (by decide) (fun c88 => ?_) (fun c88 => ?_)
    · replace hw := Eq.mp (if_pos c88) hw
      obtain ⟨x89, ex89⟩ : ∃ y : Int32, y = (v4 + 2) := ⟨_, rfl⟩
      replace hw := hw x89 ex89
      refine lv_iinc (v := x89) (lv' := [(4, .int x89), (0, .ref b), (1, .ref x), (2, .ref mo), (3, .ref oo)]) hx hb dL_law_1187 hl (k := 0) rfl (by rw [ex89]; rfl) (by decide) rfl (fun ls hl => ?_)
      refine lv_goto (tgt := 23) hx hb dL_law_1190 (by decide) ?_
      refine W.widen (k := 60 + 2 * (j + 2)) (n := 600 + 12 * (j + 2)) (by omega) (by omega) ?_
      exact hback x89 u w87 f H locs ls hP hD hS (lv_sub hl [0, 1, 2, 3, 4] rfl) (by rw [ex89, ev4]; exact nI_add j 2) hw
    · replace hw := Eq.mp (if_neg c88) hw
      refine lv_iconst (v := 0) hx hb dL_law_644 (by decide) ?_
      exact (hw : False).elim
  replace hw := Eq.mp (if_neg c2_12) hw
  by_cases c2_13 : x1 = 13
  · replace hw := Eq.mp (if_pos c2_13) hw
    refine lv_tableIn (off := 607) (tgt := 646) hx hb dL_law_39 (by rw [c2_13]; decide) (by rw [c2_13]; decide) (by rw [c2_13]; rfl) (by decide) ?_
    refine lv_aload_n hx hb dL_law_646 rfl (lv_at hl 2 rfl) ?_
    refine lv_aload_n hx hb dL_law_647 rfl (lv_at hl 1 rfl) ?_
    refine lv_iload hx hb dL_law_648 (lv_at hl 0 rfl) ?_
    refine lv_iconst (v := 1) hx hb dL_law_650 (by decide) ?_
    refine lv_iadd hx hb dL_law_651 ?_
    refine va_sld hx hb hX hbl hbA hS hi1 dL_law_652 ?_
    refine lv_aload_n hx hb dL_law_653 rfl (lv_at hl 4 rfl) ?_
    refine gLSi (S := SX × (Nat → Int64)) (As := [.ref x, .int (xs ((v4 + 1)).toNatClampNeg), .ref oo]) (rest := []) (wc := wX kI kC kG x ag at_ as_ hh hst a0 a1 a2 a3 tx tch u ++ [(oo, .inl (kJ, 1, .inr (.inl f)))]) (wr := wM kI mo m0 m1 m2 m3 m4 m5 m6 m7 v) (cs1 := (fun zz : SX × (Nat → Int64) => wX kI kC kG x ag at_ as_ hh hst a0 a1 a2 a3 tx tch zz.1 ++ [(oo, .inl (kJ, 1, .inr (.inl zz.2)))])) (ws2 := (fun zz : SX × (Nat → Int64) => wX kI kC kG x ag at_ as_ hh hst a0 a1 a2 a3 tx tch zz.1 ++ wM kI mo m0 m1 m2 m3 m4 m5 m6 m7 v ++ [(oo, .inl (kJ, 1, .inr (.inl zz.2)))])) ⟨hx, hb, hml, hown, hts⟩ (fun sz => kL_pieceOn l D kI kC kG kJ hlt x ag at_ as_ hh hst a0 a1 a2 a3 tx tch oo sz u f (xs ((v4 + 1)).toNatClampNeg) _ hw) (vx_cwSW 3 hts gL_law_L_pieceOn rfl rfl rfl hdL_pieceOn ⟨Nat.le_of_ble_eq_true rfl, Nat.le_of_ble_eq_true rfl⟩) hK hP hD hE hS hA [0, 1, 2, 3, 4, 5, 6, 7, 8, 9, 10, 11, 12, 13, 14, 15, 16, 17, 18, 19, 20, 21, 22, 23, 24, 25, 26, 27, 28, 29, 30, 31, 32, 42] [33, 34, 35, 36, 37, 38, 39, 40, 41] rfl rfl rfl rfl (by decide) [9, 10, 11, 12, 13, 14, 15, 16, 17, 18, 19, 20, 21, 22, 23, 24, 25, 26, 27, 28, 29, 30, 31, 32, 33, 34, 35, 36, 37, 38, 39, 40, 41, 0, 1, 2, 3, 4, 5, 6, 7, 8, 42] rfl (fun _ => rfl) rfl hl.1 rfl (Nat.le_of_ble_eq_true rfl) dL_law_654 (gr1 (by omega)) (fun r90 w90 H locs hw hP hD hS => ?_)
    have hP : va_P D vwCl (wX kI kC kG x ag at_ as_ hh hst a0 a1 a2 a3 tx tch w90.1 ++ wM kI mo m0 m1 m2 m3 m4 m5 m6 m7 v ++ [(oo, .inl (kJ, 1, .inr (.inl w90.2)))]) H := hP
    have hD : va_D (fun q : Nat => s.heap.size ≤ q) (wX kI kC kG x ag at_ as_ hh hst a0 a1 a2 a3 tx tch w90.1 ++ wM kI mo m0 m1 m2 m3 m4 m5 m6 m7 v ++ [(oo, .inl (kJ, 1, .inr (.inl w90.2)))]) := hD
    refine lv_istore (lv' := [(5, .int r90), (4, .int v4), (0, .ref b), (1, .ref x), (2, .ref mo), (3, .ref oo)]) hx hb dL_law_657 hl (by decide) rfl (fun ls hl => ?_)
    refine lv_aload_n hx hb dL_law_659 rfl (lv_at hl 4 rfl) ?_
    refine lv_aload_n hx hb dL_law_660 rfl (lv_at hl 2 rfl) ?_
    refine lv_iload hx hb dL_law_661 (lv_at hl 1 rfl) ?_
    refine lv_iconst (v := 1) hx hb dL_law_663 (by decide) ?_
    refine lv_iadd hx hb dL_law_664 ?_
    refine va_sld hx hb hX hbl hbA hS hi1 dL_law_665 ?_
    refine gWVi (S := SM) (As := [.int (xs ((v4 + 1)).toNatClampNeg)]) (rest := []) (wc := wM kI mo m0 m1 m2 m3 m4 m5 m6 m7 v) (wr := [(x, .inr (4, [.ref ag.1, .ref at_.1, .ref as_.1, .int w90.1.1, .ref hh, .ref tx]))] ++ wG kI ag w90.1.2.1 ++ wG kI at_ w90.1.2.2.1 ++ wG kI as_ w90.1.2.2.2.1 ++ [(hh, .inr (2, [.ref hst, .int w90.1.2.2.2.2.1.1, .int w90.1.2.2.2.2.1.2.1])), (hst, .inl (kG, 4, .inr (.inr (.inr (.inr (fH a0 a1 a2 a3))))))] ++ wG kI a0 w90.1.2.2.2.2.1.2.2.1 ++ wG kI a1 w90.1.2.2.2.2.1.2.2.2.1 ++ wG kI a2 w90.1.2.2.2.2.1.2.2.2.2.1 ++ wG kI a3 w90.1.2.2.2.2.1.2.2.2.2.2 ++ wT kC tx tch w90.1.2.2.2.2.2 ++ [(oo, .inl (kJ, 1, .inr (.inl w90.2)))]) (cs1 := (fun zz : SM => wM kI mo m0 m1 m2 m3 m4 m5 m6 m7 zz)) (ws2 := (fun zz : SM => wX kI kC kG x ag at_ as_ hh hst a0 a1 a2 a3 tx tch w90.1 ++ wM kI mo m0 m1 m2 m3 m4 m5 m6 m7 zz ++ [(oo, .inl (kJ, 1, .inr (.inl w90.2)))])) ⟨hx, hb, hml, hown, hts⟩ (fun sz => kX6_pieceOn l D kI kC kG kJ mo m0 m1 m2 m3 m4 m5 m6 m7 sz v (xs ((v4 + 1)).toNatClampNeg) _ hw) (cwV 1 hts gL_law_X6_pieceOn rfl rfl rfl hdX6_pieceOn ⟨Nat.le_of_ble_eq_true rfl, Nat.le_of_ble_eq_true rfl⟩) hK hP hD hE hS hA [33, 34, 35, 36, 37, 38, 39, 40, 41] [0, 1, 2, 3, 4, 5, 6, 7, 8, 9, 10, 11, 12, 13, 14, 15, 16, 17, 18, 19, 20, 21, 22, 23, 24, 25, 26, 27, 28, 29, 30, 31, 32, 42] rfl rfl rfl rfl (by decide) [0, 1, 2, 3, 4, 5, 6, 7, 8, 9, 10, 11, 12, 13, 14, 15, 16, 17, 18, 19, 20, 21, 22, 23, 24, 25, 26, 27, 28, 29, 30, 31, 32, 34, 35, 36, 37, 38, 39, 40, 41, 42, 33] rfl (fun _ => rfl) (ci := 5) (q0 := 0) rfl rfl rfl rfl hl.1 rfl (Nat.le_of_ble_eq_true rfl) dL_law_666 (gr1 (by omega)) (fun r91 w91 H locs hw hP hD hS => ?_)
    have hP : va_P D vwCl (wX kI kC kG x ag at_ as_ hh hst a0 a1 a2 a3 tx tch w90.1 ++ wM kI mo m0 m1 m2 m3 m4 m5 m6 m7 w91 ++ [(oo, .inl (kJ, 1, .inr (.inl w90.2)))]) H := hP
    have hD : va_D (fun q : Nat => s.heap.size ≤ q) (wX kI kC kG x ag at_ as_ hh hst a0 a1 a2 a3 tx tch w90.1 ++ wM kI mo m0 m1 m2 m3 m4 m5 m6 m7 w91 ++ [(oo, .inl (kJ, 1, .inr (.inl w90.2)))]) := hD
    refine lv_istore (lv' := [(6, .int r91), (5, .int r90), (4, .int v4), (0, .ref b), (1, .ref x), (2, .ref mo), (3, .ref oo)]) hx hb dL_law_669 hl (by decide) rfl (fun ls hl => ?_)
    refine lv_aload_n hx hb dL_law_671 rfl (lv_at hl 5 rfl) ?_
    refine gVi (As := []) (rest := []) (cs' := wM kI mo m0 m1 m2 m3 m4 m5 m6 m7 w91) ⟨hx, hb, hml, hown, hts⟩ (kX6_thrown l D kI kC kG kJ mo m0 m1 m2 m3 m4 m5 m6 m7 w91 _ hw) (cwV 0 hts gL_law_X6_thrown rfl rfl rfl hdX6_thrown ⟨Nat.le_of_ble_eq_true rfl, Nat.le_of_ble_eq_true rfl⟩) hK hP hE hS [33, 34, 35, 36, 37, 38, 39, 40, 41] rfl (ci := 5) (q0 := 0) rfl rfl rfl rfl hl.1 rfl (Nat.le_of_ble_eq_true rfl) dL_law_672 (gr1 (by omega)) (fun r92 hw => ?_)
    refine lv_iload hx hb dL_law_675 (lv_at hl 1 rfl) ?_
    refine lv_icmp_eq (tgt := 682) hx hb dL_law_677 (by decide) (fun c93 => ?_) (fun c93 => ?_)
    · replace hw := Eq.mp (if_pos c93) hw
      refine lv_iload hx hb dL_law_682 (lv_at hl 1 rfl) ?_
      refine lv_if_ne (tgt := 699) hx hb dL_law_684 (by decide) (fun c94 => ?_) (fun c94 => ?_)
      · replace hw := Eq.mp (if_neg c94) hw
        refine lv_goto (tgt := 1187) hx hb dL_law_699 (by decide) ?_
        obtain ⟨x95, ex95⟩ : ∃ y : Int32, y = (v4 + 2) := ⟨_, rfl⟩
        replace hw := hw x95 ex95
        refine lv_iinc (v := x95) (lv' := [(4, .int x95), (6, .int r91), (5, .int r90), (0, .ref b), (1, .ref x), (2, .ref mo), (3, .ref oo)]) hx hb dL_law_1187 hl (k := 2) rfl (by rw [ex95]; rfl) (by decide) rfl (fun ls hl => ?_)
        refine lv_goto (tgt := 23) hx hb dL_law_1190 (by decide) ?_
        refine W.widen (k := 60 + 2 * (j + 2)) (n := 600 + 12 * (j + 2)) (by omega) (by omega) ?_
        exact hback x95 w90.1 w91 w90.2 H locs ls hP hD hS (lv_sub hl [0, 3, 4, 5, 6] rfl) (by rw [ex95, ev4]; exact nI_add j 2) hw
      · replace hw := Eq.mp (if_pos c94) hw
        refine lv_aload_n hx hb dL_law_687 rfl (lv_at hl 6 rfl) ?_
        refine lv_iconst (v := 0) hx hb dL_law_688 (by decide) ?_
        refine gLald (k := 0) hx hb hK hP 42 3 rfl rfl (gin (by decide)) (by decide) dL_law_689 ?_
        refine lv_iload hx hb dL_law_690 (lv_at hl 0 rfl) ?_
        refine lv_i2l (v := r91.toInt64) hx hb dL_law_692 rfl ?_
        refine W.lcmp hx hb dL_law_693 ?_
        refine lv_if_eq (tgt := 699) hx hb dL_law_694 (by decide) (fun c96 => ?_) (fun c96 => ?_)
        · replace hw := Eq.mp (if_pos c96) hw
          refine lv_goto (tgt := 1187) hx hb dL_law_699 (by decide) ?_
          obtain ⟨x97, ex97⟩ : ∃ y : Int32, y = (v4 + 2) := ⟨_, rfl⟩
          replace hw := hw x97 ex97
          refine lv_iinc (v := x97) (lv' := [(4, .int x97), (6, .int r91), (5, .int r90), (0, .ref b), (1, .ref x), (2, .ref mo), (3, .ref oo)]) hx hb dL_law_1187 hl (k := 2) rfl (by rw [ex97]; rfl) (by decide) rfl (fun ls hl => ?_)
          refine lv_goto (tgt := 23) hx hb dL_law_1190 (by decide) ?_
          refine W.widen (k := 60 + 2 * (j + 2)) (n := 600 + 12 * (j + 2)) (by omega) (by omega) ?_
          exact hback x97 w90.1 w91 w90.2 H locs ls hP hD hS (lv_sub hl [0, 3, 4, 5, 6] rfl) (by rw [ex97, ev4]; exact nI_add j 2) hw
        · replace hw := Eq.mp (if_neg c96) hw
          refine lv_iconst (v := 0) hx hb dL_law_697 (by decide) ?_
          exact (hw : False).elim
    · replace hw := Eq.mp (if_neg c93) hw
      refine lv_iconst (v := 0) hx hb dL_law_680 (by decide) ?_
      exact (hw : False).elim
  replace hw := Eq.mp (if_neg c2_13) hw
  by_cases c2_14 : x1 = 14
  · replace hw := Eq.mp (if_pos c2_14) hw
    refine lv_tableIn (off := 663) (tgt := 702) hx hb dL_law_39 (by rw [c2_14]; decide) (by rw [c2_14]; decide) (by rw [c2_14]; rfl) (by decide) ?_
    refine lv_aload_n hx hb dL_law_702 rfl (lv_at hl 2 rfl) ?_
    refine lv_aload_n hx hb dL_law_703 rfl (lv_at hl 1 rfl) ?_
    refine lv_iload hx hb dL_law_704 (lv_at hl 0 rfl) ?_
    refine lv_iconst (v := 1) hx hb dL_law_706 (by decide) ?_
    refine lv_iadd hx hb dL_law_707 ?_
    refine va_sld hx hb hX hbl hbA hS hi1 dL_law_708 ?_
    refine lv_aload_n hx hb dL_law_709 rfl (lv_at hl 4 rfl) ?_
    refine gLSi (S := SX × (Nat → Int64)) (As := [.ref x, .int (xs ((v4 + 1)).toNatClampNeg), .ref oo]) (rest := []) (wc := wX kI kC kG x ag at_ as_ hh hst a0 a1 a2 a3 tx tch u ++ [(oo, .inl (kJ, 1, .inr (.inl f)))]) (wr := wM kI mo m0 m1 m2 m3 m4 m5 m6 m7 v) (cs1 := (fun zz : SX × (Nat → Int64) => wX kI kC kG x ag at_ as_ hh hst a0 a1 a2 a3 tx tch zz.1 ++ [(oo, .inl (kJ, 1, .inr (.inl zz.2)))])) (ws2 := (fun zz : SX × (Nat → Int64) => wX kI kC kG x ag at_ as_ hh hst a0 a1 a2 a3 tx tch zz.1 ++ wM kI mo m0 m1 m2 m3 m4 m5 m6 m7 v ++ [(oo, .inl (kJ, 1, .inr (.inl zz.2)))])) ⟨hx, hb, hml, hown, hts⟩ (fun sz => kL_cellOf l D kI kC kG kJ hlt x ag at_ as_ hh hst a0 a1 a2 a3 tx tch oo sz u f (xs ((v4 + 1)).toNatClampNeg) _ hw) (vx_cwSW 3 hts gL_law_L_cellOf rfl rfl rfl hdL_cellOf ⟨Nat.le_of_ble_eq_true rfl, Nat.le_of_ble_eq_true rfl⟩) hK hP hD hE hS hA [0, 1, 2, 3, 4, 5, 6, 7, 8, 9, 10, 11, 12, 13, 14, 15, 16, 17, 18, 19, 20, 21, 22, 23, 24, 25, 26, 27, 28, 29, 30, 31, 32, 42] [33, 34, 35, 36, 37, 38, 39, 40, 41] rfl rfl rfl rfl (by decide) [9, 10, 11, 12, 13, 14, 15, 16, 17, 18, 19, 20, 21, 22, 23, 24, 25, 26, 27, 28, 29, 30, 31, 32, 33, 34, 35, 36, 37, 38, 39, 40, 41, 0, 1, 2, 3, 4, 5, 6, 7, 8, 42] rfl (fun _ => rfl) rfl hl.1 rfl (Nat.le_of_ble_eq_true rfl) dL_law_710 (gr1 (by omega)) (fun r98 w98 H locs hw hP hD hS => ?_)
    have hP : va_P D vwCl (wX kI kC kG x ag at_ as_ hh hst a0 a1 a2 a3 tx tch w98.1 ++ wM kI mo m0 m1 m2 m3 m4 m5 m6 m7 v ++ [(oo, .inl (kJ, 1, .inr (.inl w98.2)))]) H := hP
    have hD : va_D (fun q : Nat => s.heap.size ≤ q) (wX kI kC kG x ag at_ as_ hh hst a0 a1 a2 a3 tx tch w98.1 ++ wM kI mo m0 m1 m2 m3 m4 m5 m6 m7 v ++ [(oo, .inl (kJ, 1, .inr (.inl w98.2)))]) := hD
    refine lv_istore (lv' := [(5, .int r98), (4, .int v4), (0, .ref b), (1, .ref x), (2, .ref mo), (3, .ref oo)]) hx hb dL_law_713 hl (by decide) rfl (fun ls hl => ?_)
    refine lv_aload_n hx hb dL_law_715 rfl (lv_at hl 4 rfl) ?_
    refine lv_aload_n hx hb dL_law_716 rfl (lv_at hl 2 rfl) ?_
    refine lv_iload hx hb dL_law_717 (lv_at hl 1 rfl) ?_
    refine lv_iconst (v := 1) hx hb dL_law_719 (by decide) ?_
    refine lv_iadd hx hb dL_law_720 ?_
    refine va_sld hx hb hX hbl hbA hS hi1 dL_law_721 ?_
    refine gWVi (S := SM) (As := [.int (xs ((v4 + 1)).toNatClampNeg)]) (rest := []) (wc := wM kI mo m0 m1 m2 m3 m4 m5 m6 m7 v) (wr := [(x, .inr (4, [.ref ag.1, .ref at_.1, .ref as_.1, .int w98.1.1, .ref hh, .ref tx]))] ++ wG kI ag w98.1.2.1 ++ wG kI at_ w98.1.2.2.1 ++ wG kI as_ w98.1.2.2.2.1 ++ [(hh, .inr (2, [.ref hst, .int w98.1.2.2.2.2.1.1, .int w98.1.2.2.2.2.1.2.1])), (hst, .inl (kG, 4, .inr (.inr (.inr (.inr (fH a0 a1 a2 a3))))))] ++ wG kI a0 w98.1.2.2.2.2.1.2.2.1 ++ wG kI a1 w98.1.2.2.2.2.1.2.2.2.1 ++ wG kI a2 w98.1.2.2.2.2.1.2.2.2.2.1 ++ wG kI a3 w98.1.2.2.2.2.1.2.2.2.2.2 ++ wT kC tx tch w98.1.2.2.2.2.2 ++ [(oo, .inl (kJ, 1, .inr (.inl w98.2)))]) (cs1 := (fun zz : SM => wM kI mo m0 m1 m2 m3 m4 m5 m6 m7 zz)) (ws2 := (fun zz : SM => wX kI kC kG x ag at_ as_ hh hst a0 a1 a2 a3 tx tch w98.1 ++ wM kI mo m0 m1 m2 m3 m4 m5 m6 m7 zz ++ [(oo, .inl (kJ, 1, .inr (.inl w98.2)))])) ⟨hx, hb, hml, hown, hts⟩ (fun sz => kX6_cellOf l D kI kC kG kJ mo m0 m1 m2 m3 m4 m5 m6 m7 sz v (xs ((v4 + 1)).toNatClampNeg) _ hw) (cwV 1 hts gL_law_X6_cellOf rfl rfl rfl hdX6_cellOf ⟨Nat.le_of_ble_eq_true rfl, Nat.le_of_ble_eq_true rfl⟩) hK hP hD hE hS hA [33, 34, 35, 36, 37, 38, 39, 40, 41] [0, 1, 2, 3, 4, 5, 6, 7, 8, 9, 10, 11, 12, 13, 14, 15, 16, 17, 18, 19, 20, 21, 22, 23, 24, 25, 26, 27, 28, 29, 30, 31, 32, 42] rfl rfl rfl rfl (by decide) [0, 1, 2, 3, 4, 5, 6, 7, 8, 9, 10, 11, 12, 13, 14, 15, 16, 17, 18, 19, 20, 21, 22, 23, 24, 25, 26, 27, 28, 29, 30, 31, 32, 34, 35, 36, 37, 38, 39, 40, 41, 42, 33] rfl (fun _ => rfl) (ci := 5) (q0 := 0) rfl rfl rfl rfl hl.1 rfl (Nat.le_of_ble_eq_true rfl) dL_law_722 (gr1 (by omega)) (fun r99 w99 H locs hw hP hD hS => ?_)
    have hP : va_P D vwCl (wX kI kC kG x ag at_ as_ hh hst a0 a1 a2 a3 tx tch w98.1 ++ wM kI mo m0 m1 m2 m3 m4 m5 m6 m7 w99 ++ [(oo, .inl (kJ, 1, .inr (.inl w98.2)))]) H := hP
    have hD : va_D (fun q : Nat => s.heap.size ≤ q) (wX kI kC kG x ag at_ as_ hh hst a0 a1 a2 a3 tx tch w98.1 ++ wM kI mo m0 m1 m2 m3 m4 m5 m6 m7 w99 ++ [(oo, .inl (kJ, 1, .inr (.inl w98.2)))]) := hD
    refine lv_istore (lv' := [(6, .int r99), (5, .int r98), (4, .int v4), (0, .ref b), (1, .ref x), (2, .ref mo), (3, .ref oo)]) hx hb dL_law_725 hl (by decide) rfl (fun ls hl => ?_)
    refine lv_aload_n hx hb dL_law_727 rfl (lv_at hl 5 rfl) ?_
    refine gVi (As := []) (rest := []) (cs' := wM kI mo m0 m1 m2 m3 m4 m5 m6 m7 w99) ⟨hx, hb, hml, hown, hts⟩ (kX6_thrown l D kI kC kG kJ mo m0 m1 m2 m3 m4 m5 m6 m7 w99 _ hw) (cwV 0 hts gL_law_X6_thrown rfl rfl rfl hdX6_thrown ⟨Nat.le_of_ble_eq_true rfl, Nat.le_of_ble_eq_true rfl⟩) hK hP hE hS [33, 34, 35, 36, 37, 38, 39, 40, 41] rfl (ci := 5) (q0 := 0) rfl rfl rfl rfl hl.1 rfl (Nat.le_of_ble_eq_true rfl) dL_law_728 (gr1 (by omega)) (fun r100 hw => ?_)
    refine lv_iload hx hb dL_law_731 (lv_at hl 1 rfl) ?_
    refine lv_icmp_eq (tgt := 738) hx hb dL_law_733 (by decide) (fun c101 => ?_) (fun c101 => ?_)
    · replace hw := Eq.mp (if_pos c101) hw
      refine lv_iload hx hb dL_law_738 (lv_at hl 1 rfl) ?_
      refine lv_if_ne (tgt := 755) hx hb dL_law_740 (by decide) (fun c102 => ?_) (fun c102 => ?_)
      · replace hw := Eq.mp (if_neg c102) hw
        refine lv_goto (tgt := 1187) hx hb dL_law_755 (by decide) ?_
        obtain ⟨x103, ex103⟩ : ∃ y : Int32, y = (v4 + 2) := ⟨_, rfl⟩
        replace hw := hw x103 ex103
        refine lv_iinc (v := x103) (lv' := [(4, .int x103), (6, .int r99), (5, .int r98), (0, .ref b), (1, .ref x), (2, .ref mo), (3, .ref oo)]) hx hb dL_law_1187 hl (k := 2) rfl (by rw [ex103]; rfl) (by decide) rfl (fun ls hl => ?_)
        refine lv_goto (tgt := 23) hx hb dL_law_1190 (by decide) ?_
        refine W.widen (k := 60 + 2 * (j + 2)) (n := 600 + 12 * (j + 2)) (by omega) (by omega) ?_
        exact hback x103 w98.1 w99 w98.2 H locs ls hP hD hS (lv_sub hl [0, 3, 4, 5, 6] rfl) (by rw [ex103, ev4]; exact nI_add j 2) hw
      · replace hw := Eq.mp (if_pos c102) hw
        refine lv_aload_n hx hb dL_law_743 rfl (lv_at hl 6 rfl) ?_
        refine lv_iconst (v := 0) hx hb dL_law_744 (by decide) ?_
        refine gLald (k := 0) hx hb hK hP 42 3 rfl rfl (gin (by decide)) (by decide) dL_law_745 ?_
        refine lv_iload hx hb dL_law_746 (lv_at hl 0 rfl) ?_
        refine lv_i2l (v := r99.toInt64) hx hb dL_law_748 rfl ?_
        refine W.lcmp hx hb dL_law_749 ?_
        refine lv_if_eq (tgt := 755) hx hb dL_law_750 (by decide) (fun c104 => ?_) (fun c104 => ?_)
        · replace hw := Eq.mp (if_pos c104) hw
          refine lv_goto (tgt := 1187) hx hb dL_law_755 (by decide) ?_
          obtain ⟨x105, ex105⟩ : ∃ y : Int32, y = (v4 + 2) := ⟨_, rfl⟩
          replace hw := hw x105 ex105
          refine lv_iinc (v := x105) (lv' := [(4, .int x105), (6, .int r99), (5, .int r98), (0, .ref b), (1, .ref x), (2, .ref mo), (3, .ref oo)]) hx hb dL_law_1187 hl (k := 2) rfl (by rw [ex105]; rfl) (by decide) rfl (fun ls hl => ?_)
          refine lv_goto (tgt := 23) hx hb dL_law_1190 (by decide) ?_
          refine W.widen (k := 60 + 2 * (j + 2)) (n := 600 + 12 * (j + 2)) (by omega) (by omega) ?_
          exact hback x105 w98.1 w99 w98.2 H locs ls hP hD hS (lv_sub hl [0, 3, 4, 5, 6] rfl) (by rw [ex105, ev4]; exact nI_add j 2) hw
        · replace hw := Eq.mp (if_neg c104) hw
          refine lv_iconst (v := 0) hx hb dL_law_753 (by decide) ?_
          exact (hw : False).elim
    · replace hw := Eq.mp (if_neg c101) hw
      refine lv_iconst (v := 0) hx hb dL_law_736 (by decide) ?_
      exact (hw : False).elim
  replace hw := Eq.mp (if_neg c2_14) hw
  by_cases c2_15 : x1 = 15
  · replace hw := Eq.mp (if_pos c2_15) hw
    refine lv_tableIn (off := 719) (tgt := 758) hx hb dL_law_39 (by rw [c2_15]; decide) (by rw [c2_15]; decide) (by rw [c2_15]; rfl) (by decide) ?_
    refine lv_aload_n hx hb dL_law_758 rfl (lv_at hl 2 rfl) ?_
    refine gVi (As := []) (rest := []) (cs' := wX kI kC kG x ag at_ as_ hh hst a0 a1 a2 a3 tx tch u) ⟨hx, hb, hml, hown, hts⟩ (kX5_placed l D kI kC kG kJ x ag at_ as_ hh hst a0 a1 a2 a3 tx tch u _ hw) (cwV 0 hts gL_law_X5_placed rfl rfl rfl hdX5_placed ⟨Nat.le_of_ble_eq_true rfl, Nat.le_of_ble_eq_true rfl⟩) hK hP hE hS [0, 1, 2, 3, 4, 5, 6, 7, 8, 9, 10, 11, 12, 13, 14, 15, 16, 17, 18, 19, 20, 21, 22, 23, 24, 25, 26, 27, 28, 29, 30, 31, 32] rfl (ci := 4) (q0 := 0) rfl rfl rfl rfl hl.1 rfl (Nat.le_of_ble_eq_true rfl) dL_law_759 (gr1 (by omega)) (fun r106 hw => ?_)
    refine lv_aload_n hx hb dL_law_762 rfl (lv_at hl 3 rfl) ?_
    refine gWVi (S := SM) (As := []) (rest := [.int r106]) (wc := wM kI mo m0 m1 m2 m3 m4 m5 m6 m7 v) (wr := [(x, .inr (4, [.ref ag.1, .ref at_.1, .ref as_.1, .int u.1, .ref hh, .ref tx]))] ++ wG kI ag u.2.1 ++ wG kI at_ u.2.2.1 ++ wG kI as_ u.2.2.2.1 ++ [(hh, .inr (2, [.ref hst, .int u.2.2.2.2.1.1, .int u.2.2.2.2.1.2.1])), (hst, .inl (kG, 4, .inr (.inr (.inr (.inr (fH a0 a1 a2 a3))))))] ++ wG kI a0 u.2.2.2.2.1.2.2.1 ++ wG kI a1 u.2.2.2.2.1.2.2.2.1 ++ wG kI a2 u.2.2.2.2.1.2.2.2.2.1 ++ wG kI a3 u.2.2.2.2.1.2.2.2.2.2 ++ wT kC tx tch u.2.2.2.2.2 ++ [(oo, .inl (kJ, 1, .inr (.inl f)))]) (cs1 := (fun zz : SM => wM kI mo m0 m1 m2 m3 m4 m5 m6 m7 zz)) (ws2 := (fun zz : SM => wX kI kC kG x ag at_ as_ hh hst a0 a1 a2 a3 tx tch u ++ wM kI mo m0 m1 m2 m3 m4 m5 m6 m7 zz ++ [(oo, .inl (kJ, 1, .inr (.inl f)))])) ⟨hx, hb, hml, hown, hts⟩ (fun sz => kX6_placed l D kI kC kG kJ mo m0 m1 m2 m3 m4 m5 m6 m7 sz v _ hw) (cwV 0 hts gL_law_X6_placed rfl rfl rfl hdX6_placed ⟨Nat.le_of_ble_eq_true rfl, Nat.le_of_ble_eq_true rfl⟩) hK hP hD hE hS hA [33, 34, 35, 36, 37, 38, 39, 40, 41] [0, 1, 2, 3, 4, 5, 6, 7, 8, 9, 10, 11, 12, 13, 14, 15, 16, 17, 18, 19, 20, 21, 22, 23, 24, 25, 26, 27, 28, 29, 30, 31, 32, 42] rfl rfl rfl rfl (by decide) [0, 1, 2, 3, 4, 5, 6, 7, 8, 9, 10, 11, 12, 13, 14, 15, 16, 17, 18, 19, 20, 21, 22, 23, 24, 25, 26, 27, 28, 29, 30, 31, 32, 34, 35, 36, 37, 38, 39, 40, 41, 42, 33] rfl (fun _ => rfl) (ci := 5) (q0 := 0) rfl rfl rfl rfl hl.1 rfl (Nat.le_of_ble_eq_true rfl) dL_law_763 (gr1 (by omega)) (fun r107 w107 H locs hw hP hD hS => ?_)
    have hP : va_P D vwCl (wX kI kC kG x ag at_ as_ hh hst a0 a1 a2 a3 tx tch u ++ wM kI mo m0 m1 m2 m3 m4 m5 m6 m7 w107 ++ [(oo, .inl (kJ, 1, .inr (.inl f)))]) H := hP
    have hD : va_D (fun q : Nat => s.heap.size ≤ q) (wX kI kC kG x ag at_ as_ hh hst a0 a1 a2 a3 tx tch u ++ wM kI mo m0 m1 m2 m3 m4 m5 m6 m7 w107 ++ [(oo, .inl (kJ, 1, .inr (.inl f)))]) := hD
    refine lv_icmp_eq (tgt := 1187) hx hb dL_law_766 (by decide) (fun c108 => ?_) (fun c108 => ?_)
    · replace hw := Eq.mp (if_pos c108) hw
      obtain ⟨x109, ex109⟩ : ∃ y : Int32, y = (v4 + 2) := ⟨_, rfl⟩
      replace hw := hw x109 ex109
      refine lv_iinc (v := x109) (lv' := [(4, .int x109), (0, .ref b), (1, .ref x), (2, .ref mo), (3, .ref oo)]) hx hb dL_law_1187 hl (k := 0) rfl (by rw [ex109]; rfl) (by decide) rfl (fun ls hl => ?_)
      refine lv_goto (tgt := 23) hx hb dL_law_1190 (by decide) ?_
      refine W.widen (k := 60 + 2 * (j + 2)) (n := 600 + 12 * (j + 2)) (by omega) (by omega) ?_
      exact hback x109 u w107 f H locs ls hP hD hS (lv_sub hl [0, 1, 2, 3, 4] rfl) (by rw [ex109, ev4]; exact nI_add j 2) hw
    · replace hw := Eq.mp (if_neg c108) hw
      refine lv_iconst (v := 0) hx hb dL_law_769 (by decide) ?_
      exact (hw : False).elim
  replace hw := Eq.mp (if_neg c2_15) hw
  by_cases c2_16 : x1 = 16
  · replace hw := Eq.mp (if_pos c2_16) hw
    refine lv_tableIn (off := 732) (tgt := 771) hx hb dL_law_39 (by rw [c2_16]; decide) (by rw [c2_16]; decide) (by rw [c2_16]; rfl) (by decide) ?_
    refine lv_aload_n hx hb dL_law_771 rfl (lv_at hl 2 rfl) ?_
    refine gVi (As := []) (rest := []) (cs' := wX kI kC kG x ag at_ as_ hh hst a0 a1 a2 a3 tx tch u) ⟨hx, hb, hml, hown, hts⟩ (kX5_winner l D kI kC kG kJ x ag at_ as_ hh hst a0 a1 a2 a3 tx tch u _ hw) (cwV 0 hts gL_law_X5_winner rfl rfl rfl hdX5_winner ⟨Nat.le_of_ble_eq_true rfl, Nat.le_of_ble_eq_true rfl⟩) hK hP hE hS [0, 1, 2, 3, 4, 5, 6, 7, 8, 9, 10, 11, 12, 13, 14, 15, 16, 17, 18, 19, 20, 21, 22, 23, 24, 25, 26, 27, 28, 29, 30, 31, 32] rfl (ci := 4) (q0 := 0) rfl rfl rfl rfl hl.1 rfl (Nat.le_of_ble_eq_true rfl) dL_law_772 (gr1 (by omega)) (fun r110 hw => ?_)
    refine lv_aload_n hx hb dL_law_775 rfl (lv_at hl 3 rfl) ?_
    refine gWVi (S := SM) (As := []) (rest := [.int r110]) (wc := wM kI mo m0 m1 m2 m3 m4 m5 m6 m7 v) (wr := [(x, .inr (4, [.ref ag.1, .ref at_.1, .ref as_.1, .int u.1, .ref hh, .ref tx]))] ++ wG kI ag u.2.1 ++ wG kI at_ u.2.2.1 ++ wG kI as_ u.2.2.2.1 ++ [(hh, .inr (2, [.ref hst, .int u.2.2.2.2.1.1, .int u.2.2.2.2.1.2.1])), (hst, .inl (kG, 4, .inr (.inr (.inr (.inr (fH a0 a1 a2 a3))))))] ++ wG kI a0 u.2.2.2.2.1.2.2.1 ++ wG kI a1 u.2.2.2.2.1.2.2.2.1 ++ wG kI a2 u.2.2.2.2.1.2.2.2.2.1 ++ wG kI a3 u.2.2.2.2.1.2.2.2.2.2 ++ wT kC tx tch u.2.2.2.2.2 ++ [(oo, .inl (kJ, 1, .inr (.inl f)))]) (cs1 := (fun zz : SM => wM kI mo m0 m1 m2 m3 m4 m5 m6 m7 zz)) (ws2 := (fun zz : SM => wX kI kC kG x ag at_ as_ hh hst a0 a1 a2 a3 tx tch u ++ wM kI mo m0 m1 m2 m3 m4 m5 m6 m7 zz ++ [(oo, .inl (kJ, 1, .inr (.inl f)))])) ⟨hx, hb, hml, hown, hts⟩ (fun sz => kX6_winner l D kI kC kG kJ mo m0 m1 m2 m3 m4 m5 m6 m7 sz v _ hw) (cwV 0 hts gL_law_X6_winner rfl rfl rfl hdX6_winner ⟨Nat.le_of_ble_eq_true rfl, Nat.le_of_ble_eq_true rfl⟩) hK hP hD hE hS hA [33, 34, 35, 36, 37, 38, 39, 40, 41] [0, 1, 2, 3, 4, 5, 6, 7, 8, 9, 10, 11, 12, 13, 14, 15, 16, 17, 18, 19, 20, 21, 22, 23, 24, 25, 26, 27, 28, 29, 30, 31, 32, 42] rfl rfl rfl rfl (by decide) [0, 1, 2, 3, 4, 5, 6, 7, 8, 9, 10, 11, 12, 13, 14, 15, 16, 17, 18, 19, 20, 21, 22, 23, 24, 25, 26, 27, 28, 29, 30, 31, 32, 34, 35, 36, 37, 38, 39, 40, 41, 42, 33] rfl (fun _ => rfl) (ci := 5) (q0 := 0) rfl rfl rfl rfl hl.1 rfl (Nat.le_of_ble_eq_true rfl) dL_law_776 (gr1 (by omega)) (fun r111 w111 H locs hw hP hD hS => ?_)
    have hP : va_P D vwCl (wX kI kC kG x ag at_ as_ hh hst a0 a1 a2 a3 tx tch u ++ wM kI mo m0 m1 m2 m3 m4 m5 m6 m7 w111 ++ [(oo, .inl (kJ, 1, .inr (.inl f)))]) H := hP
    have hD : va_D (fun q : Nat => s.heap.size ≤ q) (wX kI kC kG x ag at_ as_ hh hst a0 a1 a2 a3 tx tch u ++ wM kI mo m0 m1 m2 m3 m4 m5 m6 m7 w111 ++ [(oo, .inl (kJ, 1, .inr (.inl f)))]) := hD
    refine lv_icmp_eq (tgt := 1187) hx hb dL_law_779 (by decide) (fun c112 => ?_) (fun c112 => ?_)
    · replace hw := Eq.mp (if_pos c112) hw
      obtain ⟨x113, ex113⟩ : ∃ y : Int32, y = (v4 + 2) := ⟨_, rfl⟩
      replace hw := hw x113 ex113
      refine lv_iinc (v := x113) (lv' := [(4, .int x113), (0, .ref b), (1, .ref x), (2, .ref mo), (3, .ref oo)]) hx hb dL_law_1187 hl (k := 0) rfl (by rw [ex113]; rfl) (by decide) rfl (fun ls hl => ?_)
      refine lv_goto (tgt := 23) hx hb dL_law_1190 (by decide) ?_
      refine W.widen (k := 60 + 2 * (j + 2)) (n := 600 + 12 * (j + 2)) (by omega) (by omega) ?_
      exact hback x113 u w111 f H locs ls hP hD hS (lv_sub hl [0, 1, 2, 3, 4] rfl) (by rw [ex113, ev4]; exact nI_add j 2) hw
    · replace hw := Eq.mp (if_neg c112) hw
      refine lv_iconst (v := 0) hx hb dL_law_782 (by decide) ?_
      exact (hw : False).elim
  replace hw := Eq.mp (if_neg c2_16) hw
  by_cases c2_17 : x1 = 17
  · replace hw := Eq.mp (if_pos c2_17) hw
    refine lv_tableIn (off := 745) (tgt := 784) hx hb dL_law_39 (by rw [c2_17]; decide) (by rw [c2_17]; decide) (by rw [c2_17]; rfl) (by decide) ?_
    refine lv_aload_n hx hb dL_law_784 rfl (lv_at hl 2 rfl) ?_
    refine gVi (As := []) (rest := []) (cs' := wX kI kC kG x ag at_ as_ hh hst a0 a1 a2 a3 tx tch u) ⟨hx, hb, hml, hown, hts⟩ (kX5_isOver l D kI kC kG kJ x ag at_ as_ hh hst a0 a1 a2 a3 tx tch u _ hw) (cwV 0 hts gL_law_X5_isOver rfl rfl rfl hdX5_isOver ⟨Nat.le_of_ble_eq_true rfl, Nat.le_of_ble_eq_true rfl⟩) hK hP hE hS [0, 1, 2, 3, 4, 5, 6, 7, 8, 9, 10, 11, 12, 13, 14, 15, 16, 17, 18, 19, 20, 21, 22, 23, 24, 25, 26, 27, 28, 29, 30, 31, 32] rfl (ci := 4) (q0 := 0) rfl rfl rfl rfl hl.1 rfl (Nat.le_of_ble_eq_true rfl) dL_law_785 (gr1 (by omega)) (fun r114 hw => ?_)
    refine lv_aload_n hx hb dL_law_788 rfl (lv_at hl 3 rfl) ?_
    refine gWVi (S := SM) (As := []) (rest := [.int r114]) (wc := wM kI mo m0 m1 m2 m3 m4 m5 m6 m7 v) (wr := [(x, .inr (4, [.ref ag.1, .ref at_.1, .ref as_.1, .int u.1, .ref hh, .ref tx]))] ++ wG kI ag u.2.1 ++ wG kI at_ u.2.2.1 ++ wG kI as_ u.2.2.2.1 ++ [(hh, .inr (2, [.ref hst, .int u.2.2.2.2.1.1, .int u.2.2.2.2.1.2.1])), (hst, .inl (kG, 4, .inr (.inr (.inr (.inr (fH a0 a1 a2 a3))))))] ++ wG kI a0 u.2.2.2.2.1.2.2.1 ++ wG kI a1 u.2.2.2.2.1.2.2.2.1 ++ wG kI a2 u.2.2.2.2.1.2.2.2.2.1 ++ wG kI a3 u.2.2.2.2.1.2.2.2.2.2 ++ wT kC tx tch u.2.2.2.2.2 ++ [(oo, .inl (kJ, 1, .inr (.inl f)))]) (cs1 := (fun zz : SM => wM kI mo m0 m1 m2 m3 m4 m5 m6 m7 zz)) (ws2 := (fun zz : SM => wX kI kC kG x ag at_ as_ hh hst a0 a1 a2 a3 tx tch u ++ wM kI mo m0 m1 m2 m3 m4 m5 m6 m7 zz ++ [(oo, .inl (kJ, 1, .inr (.inl f)))])) ⟨hx, hb, hml, hown, hts⟩ (fun sz => kX6_isOver l D kI kC kG kJ mo m0 m1 m2 m3 m4 m5 m6 m7 sz v _ hw) (cwV 0 hts gL_law_X6_isOver rfl rfl rfl hdX6_isOver ⟨Nat.le_of_ble_eq_true rfl, Nat.le_of_ble_eq_true rfl⟩) hK hP hD hE hS hA [33, 34, 35, 36, 37, 38, 39, 40, 41] [0, 1, 2, 3, 4, 5, 6, 7, 8, 9, 10, 11, 12, 13, 14, 15, 16, 17, 18, 19, 20, 21, 22, 23, 24, 25, 26, 27, 28, 29, 30, 31, 32, 42] rfl rfl rfl rfl (by decide) [0, 1, 2, 3, 4, 5, 6, 7, 8, 9, 10, 11, 12, 13, 14, 15, 16, 17, 18, 19, 20, 21, 22, 23, 24, 25, 26, 27, 28, 29, 30, 31, 32, 34, 35, 36, 37, 38, 39, 40, 41, 42, 33] rfl (fun _ => rfl) (ci := 5) (q0 := 0) rfl rfl rfl rfl hl.1 rfl (Nat.le_of_ble_eq_true rfl) dL_law_789 (gr1 (by omega)) (fun r115 w115 H locs hw hP hD hS => ?_)
    have hP : va_P D vwCl (wX kI kC kG x ag at_ as_ hh hst a0 a1 a2 a3 tx tch u ++ wM kI mo m0 m1 m2 m3 m4 m5 m6 m7 w115 ++ [(oo, .inl (kJ, 1, .inr (.inl f)))]) H := hP
    have hD : va_D (fun q : Nat => s.heap.size ≤ q) (wX kI kC kG x ag at_ as_ hh hst a0 a1 a2 a3 tx tch u ++ wM kI mo m0 m1 m2 m3 m4 m5 m6 m7 w115 ++ [(oo, .inl (kJ, 1, .inr (.inl f)))]) := hD
    refine lv_icmp_eq (tgt := 1187) hx hb dL_law_792 (by decide) (fun c116 => ?_) (fun c116 => ?_)
    · replace hw := Eq.mp (if_pos c116) hw
      obtain ⟨x117, ex117⟩ : ∃ y : Int32, y = (v4 + 2) := ⟨_, rfl⟩
      replace hw := hw x117 ex117
      refine lv_iinc (v := x117) (lv' := [(4, .int x117), (0, .ref b), (1, .ref x), (2, .ref mo), (3, .ref oo)]) hx hb dL_law_1187 hl (k := 0) rfl (by rw [ex117]; rfl) (by decide) rfl (fun ls hl => ?_)
      refine lv_goto (tgt := 23) hx hb dL_law_1190 (by decide) ?_
      refine W.widen (k := 60 + 2 * (j + 2)) (n := 600 + 12 * (j + 2)) (by omega) (by omega) ?_
      exact hback x117 u w115 f H locs ls hP hD hS (lv_sub hl [0, 1, 2, 3, 4] rfl) (by rw [ex117, ev4]; exact nI_add j 2) hw
    · replace hw := Eq.mp (if_neg c116) hw
      refine lv_iconst (v := 0) hx hb dL_law_795 (by decide) ?_
      exact (hw : False).elim
  replace hw := Eq.mp (if_neg c2_17) hw
  by_cases c2_18 : x1 = 18
  · replace hw := Eq.mp (if_pos c2_18) hw
    refine lv_tableIn (off := 758) (tgt := 797) hx hb dL_law_39 (by rw [c2_18]; decide) (by rw [c2_18]; decide) (by rw [c2_18]; rfl) (by decide) ?_
    refine lv_aload_n hx hb dL_law_797 rfl (lv_at hl 2 rfl) ?_
    refine gVi (As := []) (rest := []) (cs' := wX kI kC kG x ag at_ as_ hh hst a0 a1 a2 a3 tx tch u) ⟨hx, hb, hml, hown, hts⟩ (kX5_lines l D kI kC kG kJ x ag at_ as_ hh hst a0 a1 a2 a3 tx tch u _ hw) (cwV 0 hts gL_law_X5_lines rfl rfl rfl hdX5_lines ⟨Nat.le_of_ble_eq_true rfl, Nat.le_of_ble_eq_true rfl⟩) hK hP hE hS [0, 1, 2, 3, 4, 5, 6, 7, 8, 9, 10, 11, 12, 13, 14, 15, 16, 17, 18, 19, 20, 21, 22, 23, 24, 25, 26, 27, 28, 29, 30, 31, 32] rfl (ci := 4) (q0 := 0) rfl rfl rfl rfl hl.1 rfl (Nat.le_of_ble_eq_true rfl) dL_law_798 (gr1 (by omega)) (fun r118 hw => ?_)
    refine lv_aload_n hx hb dL_law_801 rfl (lv_at hl 3 rfl) ?_
    refine gWVi (S := SM) (As := []) (rest := [.int r118]) (wc := wM kI mo m0 m1 m2 m3 m4 m5 m6 m7 v) (wr := [(x, .inr (4, [.ref ag.1, .ref at_.1, .ref as_.1, .int u.1, .ref hh, .ref tx]))] ++ wG kI ag u.2.1 ++ wG kI at_ u.2.2.1 ++ wG kI as_ u.2.2.2.1 ++ [(hh, .inr (2, [.ref hst, .int u.2.2.2.2.1.1, .int u.2.2.2.2.1.2.1])), (hst, .inl (kG, 4, .inr (.inr (.inr (.inr (fH a0 a1 a2 a3))))))] ++ wG kI a0 u.2.2.2.2.1.2.2.1 ++ wG kI a1 u.2.2.2.2.1.2.2.2.1 ++ wG kI a2 u.2.2.2.2.1.2.2.2.2.1 ++ wG kI a3 u.2.2.2.2.1.2.2.2.2.2 ++ wT kC tx tch u.2.2.2.2.2 ++ [(oo, .inl (kJ, 1, .inr (.inl f)))]) (cs1 := (fun zz : SM => wM kI mo m0 m1 m2 m3 m4 m5 m6 m7 zz)) (ws2 := (fun zz : SM => wX kI kC kG x ag at_ as_ hh hst a0 a1 a2 a3 tx tch u ++ wM kI mo m0 m1 m2 m3 m4 m5 m6 m7 zz ++ [(oo, .inl (kJ, 1, .inr (.inl f)))])) ⟨hx, hb, hml, hown, hts⟩ (fun sz => kX6_lines l D kI kC kG kJ mo m0 m1 m2 m3 m4 m5 m6 m7 sz v _ hw) (cwV 0 hts gL_law_X6_lines rfl rfl rfl hdX6_lines ⟨Nat.le_of_ble_eq_true rfl, Nat.le_of_ble_eq_true rfl⟩) hK hP hD hE hS hA [33, 34, 35, 36, 37, 38, 39, 40, 41] [0, 1, 2, 3, 4, 5, 6, 7, 8, 9, 10, 11, 12, 13, 14, 15, 16, 17, 18, 19, 20, 21, 22, 23, 24, 25, 26, 27, 28, 29, 30, 31, 32, 42] rfl rfl rfl rfl (by decide) [0, 1, 2, 3, 4, 5, 6, 7, 8, 9, 10, 11, 12, 13, 14, 15, 16, 17, 18, 19, 20, 21, 22, 23, 24, 25, 26, 27, 28, 29, 30, 31, 32, 34, 35, 36, 37, 38, 39, 40, 41, 42, 33] rfl (fun _ => rfl) (ci := 5) (q0 := 0) rfl rfl rfl rfl hl.1 rfl (Nat.le_of_ble_eq_true rfl) dL_law_802 (gr1 (by omega)) (fun r119 w119 H locs hw hP hD hS => ?_)
    have hP : va_P D vwCl (wX kI kC kG x ag at_ as_ hh hst a0 a1 a2 a3 tx tch u ++ wM kI mo m0 m1 m2 m3 m4 m5 m6 m7 w119 ++ [(oo, .inl (kJ, 1, .inr (.inl f)))]) H := hP
    have hD : va_D (fun q : Nat => s.heap.size ≤ q) (wX kI kC kG x ag at_ as_ hh hst a0 a1 a2 a3 tx tch u ++ wM kI mo m0 m1 m2 m3 m4 m5 m6 m7 w119 ++ [(oo, .inl (kJ, 1, .inr (.inl f)))]) := hD
    refine lv_icmp_eq (tgt := 1187) hx hb dL_law_805 (by decide) (fun c120 => ?_) (fun c120 => ?_)
    · replace hw := Eq.mp (if_pos c120) hw
      obtain ⟨x121, ex121⟩ : ∃ y : Int32, y = (v4 + 2) := ⟨_, rfl⟩
      replace hw := hw x121 ex121
      refine lv_iinc (v := x121) (lv' := [(4, .int x121), (0, .ref b), (1, .ref x), (2, .ref mo), (3, .ref oo)]) hx hb dL_law_1187 hl (k := 0) rfl (by rw [ex121]; rfl) (by decide) rfl (fun ls hl => ?_)
      refine lv_goto (tgt := 23) hx hb dL_law_1190 (by decide) ?_
      refine W.widen (k := 60 + 2 * (j + 2)) (n := 600 + 12 * (j + 2)) (by omega) (by omega) ?_
      exact hback x121 u w119 f H locs ls hP hD hS (lv_sub hl [0, 1, 2, 3, 4] rfl) (by rw [ex121, ev4]; exact nI_add j 2) hw
    · replace hw := Eq.mp (if_neg c120) hw
      refine lv_iconst (v := 0) hx hb dL_law_808 (by decide) ?_
      exact (hw : False).elim
  replace hw := Eq.mp (if_neg c2_18) hw
  by_cases c2_19 : x1 = 19
  · replace hw := Eq.mp (if_pos c2_19) hw
    refine lv_tableIn (off := 771) (tgt := 810) hx hb dL_law_39 (by rw [c2_19]; decide) (by rw [c2_19]; decide) (by rw [c2_19]; rfl) (by decide) ?_
    refine lv_aload_n hx hb dL_law_810 rfl (lv_at hl 2 rfl) ?_
    refine lv_aload_n hx hb dL_law_811 rfl (lv_at hl 1 rfl) ?_
    refine lv_iload hx hb dL_law_812 (lv_at hl 0 rfl) ?_
    refine lv_iconst (v := 1) hx hb dL_law_814 (by decide) ?_
    refine lv_iadd hx hb dL_law_815 ?_
    refine va_sld hx hb hX hbl hbA hS hi1 dL_law_816 ?_
    refine lv_aload_n hx hb dL_law_817 rfl (lv_at hl 4 rfl) ?_
    refine gLSi (S := SX × (Nat → Int64)) (As := [.ref x, .int (xs ((v4 + 1)).toNatClampNeg), .ref oo]) (rest := []) (wc := wX kI kC kG x ag at_ as_ hh hst a0 a1 a2 a3 tx tch u ++ [(oo, .inl (kJ, 1, .inr (.inl f)))]) (wr := wM kI mo m0 m1 m2 m3 m4 m5 m6 m7 v) (cs1 := (fun zz : SX × (Nat → Int64) => wX kI kC kG x ag at_ as_ hh hst a0 a1 a2 a3 tx tch zz.1 ++ [(oo, .inl (kJ, 1, .inr (.inl zz.2)))])) (ws2 := (fun zz : SX × (Nat → Int64) => wX kI kC kG x ag at_ as_ hh hst a0 a1 a2 a3 tx tch zz.1 ++ wM kI mo m0 m1 m2 m3 m4 m5 m6 m7 v ++ [(oo, .inl (kJ, 1, .inr (.inl zz.2)))])) ⟨hx, hb, hml, hown, hts⟩ (fun sz => kL_piecesOn l D kI kC kG kJ hlt x ag at_ as_ hh hst a0 a1 a2 a3 tx tch oo sz u f (xs ((v4 + 1)).toNatClampNeg) _ hw) (vx_cwSW 3 hts gL_law_L_piecesOn rfl rfl rfl hdL_piecesOn ⟨Nat.le_of_ble_eq_true rfl, Nat.le_of_ble_eq_true rfl⟩) hK hP hD hE hS hA [0, 1, 2, 3, 4, 5, 6, 7, 8, 9, 10, 11, 12, 13, 14, 15, 16, 17, 18, 19, 20, 21, 22, 23, 24, 25, 26, 27, 28, 29, 30, 31, 32, 42] [33, 34, 35, 36, 37, 38, 39, 40, 41] rfl rfl rfl rfl (by decide) [9, 10, 11, 12, 13, 14, 15, 16, 17, 18, 19, 20, 21, 22, 23, 24, 25, 26, 27, 28, 29, 30, 31, 32, 33, 34, 35, 36, 37, 38, 39, 40, 41, 0, 1, 2, 3, 4, 5, 6, 7, 8, 42] rfl (fun _ => rfl) rfl hl.1 rfl (Nat.le_of_ble_eq_true rfl) dL_law_818 (gr1 (by omega)) (fun r122 w122 H locs hw hP hD hS => ?_)
    have hP : va_P D vwCl (wX kI kC kG x ag at_ as_ hh hst a0 a1 a2 a3 tx tch w122.1 ++ wM kI mo m0 m1 m2 m3 m4 m5 m6 m7 v ++ [(oo, .inl (kJ, 1, .inr (.inl w122.2)))]) H := hP
    have hD : va_D (fun q : Nat => s.heap.size ≤ q) (wX kI kC kG x ag at_ as_ hh hst a0 a1 a2 a3 tx tch w122.1 ++ wM kI mo m0 m1 m2 m3 m4 m5 m6 m7 v ++ [(oo, .inl (kJ, 1, .inr (.inl w122.2)))]) := hD
    refine lv_istore (lv' := [(5, .int r122), (4, .int v4), (0, .ref b), (1, .ref x), (2, .ref mo), (3, .ref oo)]) hx hb dL_law_821 hl (by decide) rfl (fun ls hl => ?_)
    refine lv_aload_n hx hb dL_law_823 rfl (lv_at hl 4 rfl) ?_
    refine lv_aload_n hx hb dL_law_824 rfl (lv_at hl 2 rfl) ?_
    refine lv_iload hx hb dL_law_825 (lv_at hl 1 rfl) ?_
    refine lv_iconst (v := 1) hx hb dL_law_827 (by decide) ?_
    refine lv_iadd hx hb dL_law_828 ?_
    refine va_sld hx hb hX hbl hbA hS hi1 dL_law_829 ?_
    refine gWVi (S := SM) (As := [.int (xs ((v4 + 1)).toNatClampNeg)]) (rest := []) (wc := wM kI mo m0 m1 m2 m3 m4 m5 m6 m7 v) (wr := [(x, .inr (4, [.ref ag.1, .ref at_.1, .ref as_.1, .int w122.1.1, .ref hh, .ref tx]))] ++ wG kI ag w122.1.2.1 ++ wG kI at_ w122.1.2.2.1 ++ wG kI as_ w122.1.2.2.2.1 ++ [(hh, .inr (2, [.ref hst, .int w122.1.2.2.2.2.1.1, .int w122.1.2.2.2.2.1.2.1])), (hst, .inl (kG, 4, .inr (.inr (.inr (.inr (fH a0 a1 a2 a3))))))] ++ wG kI a0 w122.1.2.2.2.2.1.2.2.1 ++ wG kI a1 w122.1.2.2.2.2.1.2.2.2.1 ++ wG kI a2 w122.1.2.2.2.2.1.2.2.2.2.1 ++ wG kI a3 w122.1.2.2.2.2.1.2.2.2.2.2 ++ wT kC tx tch w122.1.2.2.2.2.2 ++ [(oo, .inl (kJ, 1, .inr (.inl w122.2)))]) (cs1 := (fun zz : SM => wM kI mo m0 m1 m2 m3 m4 m5 m6 m7 zz)) (ws2 := (fun zz : SM => wX kI kC kG x ag at_ as_ hh hst a0 a1 a2 a3 tx tch w122.1 ++ wM kI mo m0 m1 m2 m3 m4 m5 m6 m7 zz ++ [(oo, .inl (kJ, 1, .inr (.inl w122.2)))])) ⟨hx, hb, hml, hown, hts⟩ (fun sz => kX6_piecesOn l D kI kC kG kJ mo m0 m1 m2 m3 m4 m5 m6 m7 sz v (xs ((v4 + 1)).toNatClampNeg) _ hw) (cwV 1 hts gL_law_X6_piecesOn rfl rfl rfl hdX6_piecesOn ⟨Nat.le_of_ble_eq_true rfl, Nat.le_of_ble_eq_true rfl⟩) hK hP hD hE hS hA [33, 34, 35, 36, 37, 38, 39, 40, 41] [0, 1, 2, 3, 4, 5, 6, 7, 8, 9, 10, 11, 12, 13, 14, 15, 16, 17, 18, 19, 20, 21, 22, 23, 24, 25, 26, 27, 28, 29, 30, 31, 32, 42] rfl rfl rfl rfl (by decide) [0, 1, 2, 3, 4, 5, 6, 7, 8, 9, 10, 11, 12, 13, 14, 15, 16, 17, 18, 19, 20, 21, 22, 23, 24, 25, 26, 27, 28, 29, 30, 31, 32, 34, 35, 36, 37, 38, 39, 40, 41, 42, 33] rfl (fun _ => rfl) (ci := 5) (q0 := 0) rfl rfl rfl rfl hl.1 rfl (Nat.le_of_ble_eq_true rfl) dL_law_830 (gr1 (by omega)) (fun r123 w123 H locs hw hP hD hS => ?_)
    have hP : va_P D vwCl (wX kI kC kG x ag at_ as_ hh hst a0 a1 a2 a3 tx tch w122.1 ++ wM kI mo m0 m1 m2 m3 m4 m5 m6 m7 w123 ++ [(oo, .inl (kJ, 1, .inr (.inl w122.2)))]) H := hP
    have hD : va_D (fun q : Nat => s.heap.size ≤ q) (wX kI kC kG x ag at_ as_ hh hst a0 a1 a2 a3 tx tch w122.1 ++ wM kI mo m0 m1 m2 m3 m4 m5 m6 m7 w123 ++ [(oo, .inl (kJ, 1, .inr (.inl w122.2)))]) := hD
    refine lv_istore (lv' := [(6, .int r123), (5, .int r122), (4, .int v4), (0, .ref b), (1, .ref x), (2, .ref mo), (3, .ref oo)]) hx hb dL_law_833 hl (by decide) rfl (fun ls hl => ?_)
    refine lv_aload_n hx hb dL_law_835 rfl (lv_at hl 5 rfl) ?_
    refine gVi (As := []) (rest := []) (cs' := wM kI mo m0 m1 m2 m3 m4 m5 m6 m7 w123) ⟨hx, hb, hml, hown, hts⟩ (kX6_thrown l D kI kC kG kJ mo m0 m1 m2 m3 m4 m5 m6 m7 w123 _ hw) (cwV 0 hts gL_law_X6_thrown rfl rfl rfl hdX6_thrown ⟨Nat.le_of_ble_eq_true rfl, Nat.le_of_ble_eq_true rfl⟩) hK hP hE hS [33, 34, 35, 36, 37, 38, 39, 40, 41] rfl (ci := 5) (q0 := 0) rfl rfl rfl rfl hl.1 rfl (Nat.le_of_ble_eq_true rfl) dL_law_836 (gr1 (by omega)) (fun r124 hw => ?_)
    refine lv_iload hx hb dL_law_839 (lv_at hl 1 rfl) ?_
    refine lv_icmp_eq (tgt := 846) hx hb dL_law_841 (by decide) (fun c125 => ?_) (fun c125 => ?_)
    · replace hw := Eq.mp (if_pos c125) hw
      refine lv_iload hx hb dL_law_846 (lv_at hl 1 rfl) ?_
      refine lv_if_ne (tgt := 863) hx hb dL_law_848 (by decide) (fun c126 => ?_) (fun c126 => ?_)
      · replace hw := Eq.mp (if_neg c126) hw
        refine lv_goto (tgt := 1187) hx hb dL_law_863 (by decide) ?_
        obtain ⟨x127, ex127⟩ : ∃ y : Int32, y = (v4 + 2) := ⟨_, rfl⟩
        replace hw := hw x127 ex127
        refine lv_iinc (v := x127) (lv' := [(4, .int x127), (6, .int r123), (5, .int r122), (0, .ref b), (1, .ref x), (2, .ref mo), (3, .ref oo)]) hx hb dL_law_1187 hl (k := 2) rfl (by rw [ex127]; rfl) (by decide) rfl (fun ls hl => ?_)
        refine lv_goto (tgt := 23) hx hb dL_law_1190 (by decide) ?_
        refine W.widen (k := 60 + 2 * (j + 2)) (n := 600 + 12 * (j + 2)) (by omega) (by omega) ?_
        exact hback x127 w122.1 w123 w122.2 H locs ls hP hD hS (lv_sub hl [0, 3, 4, 5, 6] rfl) (by rw [ex127, ev4]; exact nI_add j 2) hw
      · replace hw := Eq.mp (if_pos c126) hw
        refine lv_aload_n hx hb dL_law_851 rfl (lv_at hl 6 rfl) ?_
        refine lv_iconst (v := 0) hx hb dL_law_852 (by decide) ?_
        refine gLald (k := 0) hx hb hK hP 42 3 rfl rfl (gin (by decide)) (by decide) dL_law_853 ?_
        refine lv_iload hx hb dL_law_854 (lv_at hl 0 rfl) ?_
        refine lv_i2l (v := r123.toInt64) hx hb dL_law_856 rfl ?_
        refine W.lcmp hx hb dL_law_857 ?_
        refine lv_if_eq (tgt := 863) hx hb dL_law_858 (by decide) (fun c128 => ?_) (fun c128 => ?_)
        · replace hw := Eq.mp (if_pos c128) hw
          refine lv_goto (tgt := 1187) hx hb dL_law_863 (by decide) ?_
          obtain ⟨x129, ex129⟩ : ∃ y : Int32, y = (v4 + 2) := ⟨_, rfl⟩
          replace hw := hw x129 ex129
          refine lv_iinc (v := x129) (lv' := [(4, .int x129), (6, .int r123), (5, .int r122), (0, .ref b), (1, .ref x), (2, .ref mo), (3, .ref oo)]) hx hb dL_law_1187 hl (k := 2) rfl (by rw [ex129]; rfl) (by decide) rfl (fun ls hl => ?_)
          refine lv_goto (tgt := 23) hx hb dL_law_1190 (by decide) ?_
          refine W.widen (k := 60 + 2 * (j + 2)) (n := 600 + 12 * (j + 2)) (by omega) (by omega) ?_
          exact hback x129 w122.1 w123 w122.2 H locs ls hP hD hS (lv_sub hl [0, 3, 4, 5, 6] rfl) (by rw [ex129, ev4]; exact nI_add j 2) hw
        · replace hw := Eq.mp (if_neg c128) hw
          refine lv_iconst (v := 0) hx hb dL_law_861 (by decide) ?_
          exact (hw : False).elim
    · replace hw := Eq.mp (if_neg c125) hw
      refine lv_iconst (v := 0) hx hb dL_law_844 (by decide) ?_
      exact (hw : False).elim
  replace hw := Eq.mp (if_neg c2_19) hw
  by_cases c2_20 : x1 = 20
  · replace hw := Eq.mp (if_pos c2_20) hw
    refine lv_tableIn (off := 827) (tgt := 866) hx hb dL_law_39 (by rw [c2_20]; decide) (by rw [c2_20]; decide) (by rw [c2_20]; rfl) (by decide) ?_
    refine lv_aload_n hx hb dL_law_866 rfl (lv_at hl 2 rfl) ?_
    refine lv_aload_n hx hb dL_law_867 rfl (lv_at hl 1 rfl) ?_
    refine lv_iload hx hb dL_law_868 (lv_at hl 0 rfl) ?_
    refine lv_iconst (v := 1) hx hb dL_law_870 (by decide) ?_
    refine lv_iadd hx hb dL_law_871 ?_
    refine va_sld hx hb hX hbl hbA hS hi1 dL_law_872 ?_
    refine lv_aload_n hx hb dL_law_873 rfl (lv_at hl 4 rfl) ?_
    refine gLSi (S := SX × (Nat → Int64)) (As := [.ref x, .int (xs ((v4 + 1)).toNatClampNeg), .ref oo]) (rest := []) (wc := wX kI kC kG x ag at_ as_ hh hst a0 a1 a2 a3 tx tch u ++ [(oo, .inl (kJ, 1, .inr (.inl f)))]) (wr := wM kI mo m0 m1 m2 m3 m4 m5 m6 m7 v) (cs1 := (fun zz : SX × (Nat → Int64) => wX kI kC kG x ag at_ as_ hh hst a0 a1 a2 a3 tx tch zz.1 ++ [(oo, .inl (kJ, 1, .inr (.inl zz.2)))])) (ws2 := (fun zz : SX × (Nat → Int64) => wX kI kC kG x ag at_ as_ hh hst a0 a1 a2 a3 tx tch zz.1 ++ wM kI mo m0 m1 m2 m3 m4 m5 m6 m7 v ++ [(oo, .inl (kJ, 1, .inr (.inl zz.2)))])) ⟨hx, hb, hml, hown, hts⟩ (fun sz => kL_sharedOn l D kI kC kG kJ hlt x ag at_ as_ hh hst a0 a1 a2 a3 tx tch oo sz u f (xs ((v4 + 1)).toNatClampNeg) _ hw) (vx_cwSW 3 hts gL_law_L_sharedOn rfl rfl rfl hdL_sharedOn ⟨Nat.le_of_ble_eq_true rfl, Nat.le_of_ble_eq_true rfl⟩) hK hP hD hE hS hA [0, 1, 2, 3, 4, 5, 6, 7, 8, 9, 10, 11, 12, 13, 14, 15, 16, 17, 18, 19, 20, 21, 22, 23, 24, 25, 26, 27, 28, 29, 30, 31, 32, 42] [33, 34, 35, 36, 37, 38, 39, 40, 41] rfl rfl rfl rfl (by decide) [9, 10, 11, 12, 13, 14, 15, 16, 17, 18, 19, 20, 21, 22, 23, 24, 25, 26, 27, 28, 29, 30, 31, 32, 33, 34, 35, 36, 37, 38, 39, 40, 41, 0, 1, 2, 3, 4, 5, 6, 7, 8, 42] rfl (fun _ => rfl) rfl hl.1 rfl (Nat.le_of_ble_eq_true rfl) dL_law_874 (gr1 (by omega)) (fun r130 w130 H locs hw hP hD hS => ?_)
    have hP : va_P D vwCl (wX kI kC kG x ag at_ as_ hh hst a0 a1 a2 a3 tx tch w130.1 ++ wM kI mo m0 m1 m2 m3 m4 m5 m6 m7 v ++ [(oo, .inl (kJ, 1, .inr (.inl w130.2)))]) H := hP
    have hD : va_D (fun q : Nat => s.heap.size ≤ q) (wX kI kC kG x ag at_ as_ hh hst a0 a1 a2 a3 tx tch w130.1 ++ wM kI mo m0 m1 m2 m3 m4 m5 m6 m7 v ++ [(oo, .inl (kJ, 1, .inr (.inl w130.2)))]) := hD
    refine lv_istore (lv' := [(5, .int r130), (4, .int v4), (0, .ref b), (1, .ref x), (2, .ref mo), (3, .ref oo)]) hx hb dL_law_877 hl (by decide) rfl (fun ls hl => ?_)
    refine lv_aload_n hx hb dL_law_879 rfl (lv_at hl 4 rfl) ?_
    refine lv_aload_n hx hb dL_law_880 rfl (lv_at hl 2 rfl) ?_
    refine lv_iload hx hb dL_law_881 (lv_at hl 1 rfl) ?_
    refine lv_iconst (v := 1) hx hb dL_law_883 (by decide) ?_
    refine lv_iadd hx hb dL_law_884 ?_
    refine va_sld hx hb hX hbl hbA hS hi1 dL_law_885 ?_
    refine gWVi (S := SM) (As := [.int (xs ((v4 + 1)).toNatClampNeg)]) (rest := []) (wc := wM kI mo m0 m1 m2 m3 m4 m5 m6 m7 v) (wr := [(x, .inr (4, [.ref ag.1, .ref at_.1, .ref as_.1, .int w130.1.1, .ref hh, .ref tx]))] ++ wG kI ag w130.1.2.1 ++ wG kI at_ w130.1.2.2.1 ++ wG kI as_ w130.1.2.2.2.1 ++ [(hh, .inr (2, [.ref hst, .int w130.1.2.2.2.2.1.1, .int w130.1.2.2.2.2.1.2.1])), (hst, .inl (kG, 4, .inr (.inr (.inr (.inr (fH a0 a1 a2 a3))))))] ++ wG kI a0 w130.1.2.2.2.2.1.2.2.1 ++ wG kI a1 w130.1.2.2.2.2.1.2.2.2.1 ++ wG kI a2 w130.1.2.2.2.2.1.2.2.2.2.1 ++ wG kI a3 w130.1.2.2.2.2.1.2.2.2.2.2 ++ wT kC tx tch w130.1.2.2.2.2.2 ++ [(oo, .inl (kJ, 1, .inr (.inl w130.2)))]) (cs1 := (fun zz : SM => wM kI mo m0 m1 m2 m3 m4 m5 m6 m7 zz)) (ws2 := (fun zz : SM => wX kI kC kG x ag at_ as_ hh hst a0 a1 a2 a3 tx tch w130.1 ++ wM kI mo m0 m1 m2 m3 m4 m5 m6 m7 zz ++ [(oo, .inl (kJ, 1, .inr (.inl w130.2)))])) ⟨hx, hb, hml, hown, hts⟩ (fun sz => kX6_sharedOn l D kI kC kG kJ mo m0 m1 m2 m3 m4 m5 m6 m7 sz v (xs ((v4 + 1)).toNatClampNeg) _ hw) (cwV 1 hts gL_law_X6_sharedOn rfl rfl rfl hdX6_sharedOn ⟨Nat.le_of_ble_eq_true rfl, Nat.le_of_ble_eq_true rfl⟩) hK hP hD hE hS hA [33, 34, 35, 36, 37, 38, 39, 40, 41] [0, 1, 2, 3, 4, 5, 6, 7, 8, 9, 10, 11, 12, 13, 14, 15, 16, 17, 18, 19, 20, 21, 22, 23, 24, 25, 26, 27, 28, 29, 30, 31, 32, 42] rfl rfl rfl rfl (by decide) [0, 1, 2, 3, 4, 5, 6, 7, 8, 9, 10, 11, 12, 13, 14, 15, 16, 17, 18, 19, 20, 21, 22, 23, 24, 25, 26, 27, 28, 29, 30, 31, 32, 34, 35, 36, 37, 38, 39, 40, 41, 42, 33] rfl (fun _ => rfl) (ci := 5) (q0 := 0) rfl rfl rfl rfl hl.1 rfl (Nat.le_of_ble_eq_true rfl) dL_law_886 (gr1 (by omega)) (fun r131 w131 H locs hw hP hD hS => ?_)
    have hP : va_P D vwCl (wX kI kC kG x ag at_ as_ hh hst a0 a1 a2 a3 tx tch w130.1 ++ wM kI mo m0 m1 m2 m3 m4 m5 m6 m7 w131 ++ [(oo, .inl (kJ, 1, .inr (.inl w130.2)))]) H := hP
    have hD : va_D (fun q : Nat => s.heap.size ≤ q) (wX kI kC kG x ag at_ as_ hh hst a0 a1 a2 a3 tx tch w130.1 ++ wM kI mo m0 m1 m2 m3 m4 m5 m6 m7 w131 ++ [(oo, .inl (kJ, 1, .inr (.inl w130.2)))]) := hD
    refine lv_istore (lv' := [(6, .int r131), (5, .int r130), (4, .int v4), (0, .ref b), (1, .ref x), (2, .ref mo), (3, .ref oo)]) hx hb dL_law_889 hl (by decide) rfl (fun ls hl => ?_)
    refine lv_aload_n hx hb dL_law_891 rfl (lv_at hl 5 rfl) ?_
    refine gVi (As := []) (rest := []) (cs' := wM kI mo m0 m1 m2 m3 m4 m5 m6 m7 w131) ⟨hx, hb, hml, hown, hts⟩ (kX6_thrown l D kI kC kG kJ mo m0 m1 m2 m3 m4 m5 m6 m7 w131 _ hw) (cwV 0 hts gL_law_X6_thrown rfl rfl rfl hdX6_thrown ⟨Nat.le_of_ble_eq_true rfl, Nat.le_of_ble_eq_true rfl⟩) hK hP hE hS [33, 34, 35, 36, 37, 38, 39, 40, 41] rfl (ci := 5) (q0 := 0) rfl rfl rfl rfl hl.1 rfl (Nat.le_of_ble_eq_true rfl) dL_law_892 (gr1 (by omega)) (fun r132 hw => ?_)
    refine lv_iload hx hb dL_law_895 (lv_at hl 1 rfl) ?_
    refine lv_icmp_eq (tgt := 902) hx hb dL_law_897 (by decide) (fun c133 => ?_) (fun c133 => ?_)
    · replace hw := Eq.mp (if_pos c133) hw
      refine lv_iload hx hb dL_law_902 (lv_at hl 1 rfl) ?_
      refine lv_if_ne (tgt := 919) hx hb dL_law_904 (by decide) (fun c134 => ?_) (fun c134 => ?_)
      · replace hw := Eq.mp (if_neg c134) hw
        refine lv_goto (tgt := 1187) hx hb dL_law_919 (by decide) ?_
        obtain ⟨x135, ex135⟩ : ∃ y : Int32, y = (v4 + 2) := ⟨_, rfl⟩
        replace hw := hw x135 ex135
        refine lv_iinc (v := x135) (lv' := [(4, .int x135), (6, .int r131), (5, .int r130), (0, .ref b), (1, .ref x), (2, .ref mo), (3, .ref oo)]) hx hb dL_law_1187 hl (k := 2) rfl (by rw [ex135]; rfl) (by decide) rfl (fun ls hl => ?_)
        refine lv_goto (tgt := 23) hx hb dL_law_1190 (by decide) ?_
        refine W.widen (k := 60 + 2 * (j + 2)) (n := 600 + 12 * (j + 2)) (by omega) (by omega) ?_
        exact hback x135 w130.1 w131 w130.2 H locs ls hP hD hS (lv_sub hl [0, 3, 4, 5, 6] rfl) (by rw [ex135, ev4]; exact nI_add j 2) hw
      · replace hw := Eq.mp (if_pos c134) hw
        refine lv_aload_n hx hb dL_law_907 rfl (lv_at hl 6 rfl) ?_
        refine lv_iconst (v := 0) hx hb dL_law_908 (by decide) ?_
        refine gLald (k := 0) hx hb hK hP 42 3 rfl rfl (gin (by decide)) (by decide) dL_law_909 ?_
        refine lv_iload hx hb dL_law_910 (lv_at hl 0 rfl) ?_
        refine lv_i2l (v := r131.toInt64) hx hb dL_law_912 rfl ?_
        refine W.lcmp hx hb dL_law_913 ?_
        refine lv_if_eq (tgt := 919) hx hb dL_law_914 (by decide) (fun c136 => ?_) (fun c136 => ?_)
        · replace hw := Eq.mp (if_pos c136) hw
          refine lv_goto (tgt := 1187) hx hb dL_law_919 (by decide) ?_
          obtain ⟨x137, ex137⟩ : ∃ y : Int32, y = (v4 + 2) := ⟨_, rfl⟩
          replace hw := hw x137 ex137
          refine lv_iinc (v := x137) (lv' := [(4, .int x137), (6, .int r131), (5, .int r130), (0, .ref b), (1, .ref x), (2, .ref mo), (3, .ref oo)]) hx hb dL_law_1187 hl (k := 2) rfl (by rw [ex137]; rfl) (by decide) rfl (fun ls hl => ?_)
          refine lv_goto (tgt := 23) hx hb dL_law_1190 (by decide) ?_
          refine W.widen (k := 60 + 2 * (j + 2)) (n := 600 + 12 * (j + 2)) (by omega) (by omega) ?_
          exact hback x137 w130.1 w131 w130.2 H locs ls hP hD hS (lv_sub hl [0, 3, 4, 5, 6] rfl) (by rw [ex137, ev4]; exact nI_add j 2) hw
        · replace hw := Eq.mp (if_neg c136) hw
          refine lv_iconst (v := 0) hx hb dL_law_917 (by decide) ?_
          exact (hw : False).elim
    · replace hw := Eq.mp (if_neg c133) hw
      refine lv_iconst (v := 0) hx hb dL_law_900 (by decide) ?_
      exact (hw : False).elim
  replace hw := Eq.mp (if_neg c2_20) hw
  by_cases c2_21 : x1 = 21
  · replace hw := Eq.mp (if_pos c2_21) hw
    refine lv_tableIn (off := 883) (tgt := 922) hx hb dL_law_39 (by rw [c2_21]; decide) (by rw [c2_21]; decide) (by rw [c2_21]; rfl) (by decide) ?_
    refine lv_aload_n hx hb dL_law_922 rfl (lv_at hl 2 rfl) ?_
    refine gVi (As := []) (rest := []) (cs' := wX kI kC kG x ag at_ as_ hh hst a0 a1 a2 a3 tx tch u) ⟨hx, hb, hml, hown, hts⟩ (kX5_wonLines l D kI kC kG kJ x ag at_ as_ hh hst a0 a1 a2 a3 tx tch u _ hw) (cwV 0 hts gL_law_X5_wonLines rfl rfl rfl hdX5_wonLines ⟨Nat.le_of_ble_eq_true rfl, Nat.le_of_ble_eq_true rfl⟩) hK hP hE hS [0, 1, 2, 3, 4, 5, 6, 7, 8, 9, 10, 11, 12, 13, 14, 15, 16, 17, 18, 19, 20, 21, 22, 23, 24, 25, 26, 27, 28, 29, 30, 31, 32] rfl (ci := 4) (q0 := 0) rfl rfl rfl rfl hl.1 rfl (Nat.le_of_ble_eq_true rfl) dL_law_923 (gr1 (by omega)) (fun r138 hw => ?_)
    refine lv_aload_n hx hb dL_law_926 rfl (lv_at hl 3 rfl) ?_
    refine gWVi (S := SM) (As := []) (rest := [.int r138]) (wc := wM kI mo m0 m1 m2 m3 m4 m5 m6 m7 v) (wr := [(x, .inr (4, [.ref ag.1, .ref at_.1, .ref as_.1, .int u.1, .ref hh, .ref tx]))] ++ wG kI ag u.2.1 ++ wG kI at_ u.2.2.1 ++ wG kI as_ u.2.2.2.1 ++ [(hh, .inr (2, [.ref hst, .int u.2.2.2.2.1.1, .int u.2.2.2.2.1.2.1])), (hst, .inl (kG, 4, .inr (.inr (.inr (.inr (fH a0 a1 a2 a3))))))] ++ wG kI a0 u.2.2.2.2.1.2.2.1 ++ wG kI a1 u.2.2.2.2.1.2.2.2.1 ++ wG kI a2 u.2.2.2.2.1.2.2.2.2.1 ++ wG kI a3 u.2.2.2.2.1.2.2.2.2.2 ++ wT kC tx tch u.2.2.2.2.2 ++ [(oo, .inl (kJ, 1, .inr (.inl f)))]) (cs1 := (fun zz : SM => wM kI mo m0 m1 m2 m3 m4 m5 m6 m7 zz)) (ws2 := (fun zz : SM => wX kI kC kG x ag at_ as_ hh hst a0 a1 a2 a3 tx tch u ++ wM kI mo m0 m1 m2 m3 m4 m5 m6 m7 zz ++ [(oo, .inl (kJ, 1, .inr (.inl f)))])) ⟨hx, hb, hml, hown, hts⟩ (fun sz => kX6_wonLines l D kI kC kG kJ mo m0 m1 m2 m3 m4 m5 m6 m7 sz v _ hw) (cwV 0 hts gL_law_X6_wonLines rfl rfl rfl hdX6_wonLines ⟨Nat.le_of_ble_eq_true rfl, Nat.le_of_ble_eq_true rfl⟩) hK hP hD hE hS hA [33, 34, 35, 36, 37, 38, 39, 40, 41] [0, 1, 2, 3, 4, 5, 6, 7, 8, 9, 10, 11, 12, 13, 14, 15, 16, 17, 18, 19, 20, 21, 22, 23, 24, 25, 26, 27, 28, 29, 30, 31, 32, 42] rfl rfl rfl rfl (by decide) [0, 1, 2, 3, 4, 5, 6, 7, 8, 9, 10, 11, 12, 13, 14, 15, 16, 17, 18, 19, 20, 21, 22, 23, 24, 25, 26, 27, 28, 29, 30, 31, 32, 34, 35, 36, 37, 38, 39, 40, 41, 42, 33] rfl (fun _ => rfl) (ci := 5) (q0 := 0) rfl rfl rfl rfl hl.1 rfl (Nat.le_of_ble_eq_true rfl) dL_law_927 (gr1 (by omega)) (fun r139 w139 H locs hw hP hD hS => ?_)
    have hP : va_P D vwCl (wX kI kC kG x ag at_ as_ hh hst a0 a1 a2 a3 tx tch u ++ wM kI mo m0 m1 m2 m3 m4 m5 m6 m7 w139 ++ [(oo, .inl (kJ, 1, .inr (.inl f)))]) H := hP
    have hD : va_D (fun q : Nat => s.heap.size ≤ q) (wX kI kC kG x ag at_ as_ hh hst a0 a1 a2 a3 tx tch u ++ wM kI mo m0 m1 m2 m3 m4 m5 m6 m7 w139 ++ [(oo, .inl (kJ, 1, .inr (.inl f)))]) := hD
    refine lv_icmp_eq (tgt := 1187) hx hb dL_law_930 (by decide) (fun c140 => ?_) (fun c140 => ?_)
    · replace hw := Eq.mp (if_pos c140) hw
      obtain ⟨x141, ex141⟩ : ∃ y : Int32, y = (v4 + 2) := ⟨_, rfl⟩
      replace hw := hw x141 ex141
      refine lv_iinc (v := x141) (lv' := [(4, .int x141), (0, .ref b), (1, .ref x), (2, .ref mo), (3, .ref oo)]) hx hb dL_law_1187 hl (k := 0) rfl (by rw [ex141]; rfl) (by decide) rfl (fun ls hl => ?_)
      refine lv_goto (tgt := 23) hx hb dL_law_1190 (by decide) ?_
      refine W.widen (k := 60 + 2 * (j + 2)) (n := 600 + 12 * (j + 2)) (by omega) (by omega) ?_
      exact hback x141 u w139 f H locs ls hP hD hS (lv_sub hl [0, 1, 2, 3, 4] rfl) (by rw [ex141, ev4]; exact nI_add j 2) hw
    · replace hw := Eq.mp (if_neg c140) hw
      refine lv_iconst (v := 0) hx hb dL_law_933 (by decide) ?_
      exact (hw : False).elim
  replace hw := Eq.mp (if_neg c2_21) hw
  by_cases c2_22 : x1 = 22
  · replace hw := Eq.mp (if_pos c2_22) hw
    refine lv_tableIn (off := 896) (tgt := 935) hx hb dL_law_39 (by rw [c2_22]; decide) (by rw [c2_22]; decide) (by rw [c2_22]; rfl) (by decide) ?_
    refine lv_aload_n hx hb dL_law_935 rfl (lv_at hl 2 rfl) ?_
    refine lv_aload_n hx hb dL_law_936 rfl (lv_at hl 1 rfl) ?_
    refine lv_iload hx hb dL_law_937 (lv_at hl 0 rfl) ?_
    refine lv_iconst (v := 1) hx hb dL_law_939 (by decide) ?_
    refine lv_iadd hx hb dL_law_940 ?_
    refine va_sld hx hb hX hbl hbA hS hi1 dL_law_941 ?_
    refine lv_aload_n hx hb dL_law_942 rfl (lv_at hl 4 rfl) ?_
    refine gLSi (S := SX × (Nat → Int64)) (As := [.ref x, .int (xs ((v4 + 1)).toNatClampNeg), .ref oo]) (rest := []) (wc := wX kI kC kG x ag at_ as_ hh hst a0 a1 a2 a3 tx tch u ++ [(oo, .inl (kJ, 1, .inr (.inl f)))]) (wr := wM kI mo m0 m1 m2 m3 m4 m5 m6 m7 v) (cs1 := (fun zz : SX × (Nat → Int64) => wX kI kC kG x ag at_ as_ hh hst a0 a1 a2 a3 tx tch zz.1 ++ [(oo, .inl (kJ, 1, .inr (.inl zz.2)))])) (ws2 := (fun zz : SX × (Nat → Int64) => wX kI kC kG x ag at_ as_ hh hst a0 a1 a2 a3 tx tch zz.1 ++ wM kI mo m0 m1 m2 m3 m4 m5 m6 m7 v ++ [(oo, .inl (kJ, 1, .inr (.inl zz.2)))])) ⟨hx, hb, hml, hown, hts⟩ (fun sz => kL_winsOf l D kI kC kG kJ hlt x ag at_ as_ hh hst a0 a1 a2 a3 tx tch oo sz u f (xs ((v4 + 1)).toNatClampNeg) _ hw) (vx_cwSW 3 hts gL_law_L_winsOf rfl rfl rfl hdL_winsOf ⟨Nat.le_of_ble_eq_true rfl, Nat.le_of_ble_eq_true rfl⟩) hK hP hD hE hS hA [0, 1, 2, 3, 4, 5, 6, 7, 8, 9, 10, 11, 12, 13, 14, 15, 16, 17, 18, 19, 20, 21, 22, 23, 24, 25, 26, 27, 28, 29, 30, 31, 32, 42] [33, 34, 35, 36, 37, 38, 39, 40, 41] rfl rfl rfl rfl (by decide) [9, 10, 11, 12, 13, 14, 15, 16, 17, 18, 19, 20, 21, 22, 23, 24, 25, 26, 27, 28, 29, 30, 31, 32, 33, 34, 35, 36, 37, 38, 39, 40, 41, 0, 1, 2, 3, 4, 5, 6, 7, 8, 42] rfl (fun _ => rfl) rfl hl.1 rfl (Nat.le_of_ble_eq_true rfl) dL_law_943 (gr1 (by omega)) (fun r142 w142 H locs hw hP hD hS => ?_)
    have hP : va_P D vwCl (wX kI kC kG x ag at_ as_ hh hst a0 a1 a2 a3 tx tch w142.1 ++ wM kI mo m0 m1 m2 m3 m4 m5 m6 m7 v ++ [(oo, .inl (kJ, 1, .inr (.inl w142.2)))]) H := hP
    have hD : va_D (fun q : Nat => s.heap.size ≤ q) (wX kI kC kG x ag at_ as_ hh hst a0 a1 a2 a3 tx tch w142.1 ++ wM kI mo m0 m1 m2 m3 m4 m5 m6 m7 v ++ [(oo, .inl (kJ, 1, .inr (.inl w142.2)))]) := hD
    refine lv_istore (lv' := [(5, .int r142), (4, .int v4), (0, .ref b), (1, .ref x), (2, .ref mo), (3, .ref oo)]) hx hb dL_law_946 hl (by decide) rfl (fun ls hl => ?_)
    refine lv_aload_n hx hb dL_law_948 rfl (lv_at hl 4 rfl) ?_
    refine lv_aload_n hx hb dL_law_949 rfl (lv_at hl 2 rfl) ?_
    refine lv_iload hx hb dL_law_950 (lv_at hl 1 rfl) ?_
    refine lv_iconst (v := 1) hx hb dL_law_952 (by decide) ?_
    refine lv_iadd hx hb dL_law_953 ?_
    refine va_sld hx hb hX hbl hbA hS hi1 dL_law_954 ?_
    refine gWVi (S := SM) (As := [.int (xs ((v4 + 1)).toNatClampNeg)]) (rest := []) (wc := wM kI mo m0 m1 m2 m3 m4 m5 m6 m7 v) (wr := [(x, .inr (4, [.ref ag.1, .ref at_.1, .ref as_.1, .int w142.1.1, .ref hh, .ref tx]))] ++ wG kI ag w142.1.2.1 ++ wG kI at_ w142.1.2.2.1 ++ wG kI as_ w142.1.2.2.2.1 ++ [(hh, .inr (2, [.ref hst, .int w142.1.2.2.2.2.1.1, .int w142.1.2.2.2.2.1.2.1])), (hst, .inl (kG, 4, .inr (.inr (.inr (.inr (fH a0 a1 a2 a3))))))] ++ wG kI a0 w142.1.2.2.2.2.1.2.2.1 ++ wG kI a1 w142.1.2.2.2.2.1.2.2.2.1 ++ wG kI a2 w142.1.2.2.2.2.1.2.2.2.2.1 ++ wG kI a3 w142.1.2.2.2.2.1.2.2.2.2.2 ++ wT kC tx tch w142.1.2.2.2.2.2 ++ [(oo, .inl (kJ, 1, .inr (.inl w142.2)))]) (cs1 := (fun zz : SM => wM kI mo m0 m1 m2 m3 m4 m5 m6 m7 zz)) (ws2 := (fun zz : SM => wX kI kC kG x ag at_ as_ hh hst a0 a1 a2 a3 tx tch w142.1 ++ wM kI mo m0 m1 m2 m3 m4 m5 m6 m7 zz ++ [(oo, .inl (kJ, 1, .inr (.inl w142.2)))])) ⟨hx, hb, hml, hown, hts⟩ (fun sz => kX6_winsOf l D kI kC kG kJ mo m0 m1 m2 m3 m4 m5 m6 m7 sz v (xs ((v4 + 1)).toNatClampNeg) _ hw) (cwV 1 hts gL_law_X6_winsOf rfl rfl rfl hdX6_winsOf ⟨Nat.le_of_ble_eq_true rfl, Nat.le_of_ble_eq_true rfl⟩) hK hP hD hE hS hA [33, 34, 35, 36, 37, 38, 39, 40, 41] [0, 1, 2, 3, 4, 5, 6, 7, 8, 9, 10, 11, 12, 13, 14, 15, 16, 17, 18, 19, 20, 21, 22, 23, 24, 25, 26, 27, 28, 29, 30, 31, 32, 42] rfl rfl rfl rfl (by decide) [0, 1, 2, 3, 4, 5, 6, 7, 8, 9, 10, 11, 12, 13, 14, 15, 16, 17, 18, 19, 20, 21, 22, 23, 24, 25, 26, 27, 28, 29, 30, 31, 32, 34, 35, 36, 37, 38, 39, 40, 41, 42, 33] rfl (fun _ => rfl) (ci := 5) (q0 := 0) rfl rfl rfl rfl hl.1 rfl (Nat.le_of_ble_eq_true rfl) dL_law_955 (gr1 (by omega)) (fun r143 w143 H locs hw hP hD hS => ?_)
    have hP : va_P D vwCl (wX kI kC kG x ag at_ as_ hh hst a0 a1 a2 a3 tx tch w142.1 ++ wM kI mo m0 m1 m2 m3 m4 m5 m6 m7 w143 ++ [(oo, .inl (kJ, 1, .inr (.inl w142.2)))]) H := hP
    have hD : va_D (fun q : Nat => s.heap.size ≤ q) (wX kI kC kG x ag at_ as_ hh hst a0 a1 a2 a3 tx tch w142.1 ++ wM kI mo m0 m1 m2 m3 m4 m5 m6 m7 w143 ++ [(oo, .inl (kJ, 1, .inr (.inl w142.2)))]) := hD
    refine lv_istore (lv' := [(6, .int r143), (5, .int r142), (4, .int v4), (0, .ref b), (1, .ref x), (2, .ref mo), (3, .ref oo)]) hx hb dL_law_958 hl (by decide) rfl (fun ls hl => ?_)
    refine lv_aload_n hx hb dL_law_960 rfl (lv_at hl 5 rfl) ?_
    refine gVi (As := []) (rest := []) (cs' := wM kI mo m0 m1 m2 m3 m4 m5 m6 m7 w143) ⟨hx, hb, hml, hown, hts⟩ (kX6_thrown l D kI kC kG kJ mo m0 m1 m2 m3 m4 m5 m6 m7 w143 _ hw) (cwV 0 hts gL_law_X6_thrown rfl rfl rfl hdX6_thrown ⟨Nat.le_of_ble_eq_true rfl, Nat.le_of_ble_eq_true rfl⟩) hK hP hE hS [33, 34, 35, 36, 37, 38, 39, 40, 41] rfl (ci := 5) (q0 := 0) rfl rfl rfl rfl hl.1 rfl (Nat.le_of_ble_eq_true rfl) dL_law_961 (gr1 (by omega)) (fun r144 hw => ?_)
    refine lv_iload hx hb dL_law_964 (lv_at hl 1 rfl) ?_
    refine lv_icmp_eq (tgt := 971) hx hb dL_law_966 (by decide) (fun c145 => ?_) (fun c145 => ?_)
    · replace hw := Eq.mp (if_pos c145) hw
      refine lv_iload hx hb dL_law_971 (lv_at hl 1 rfl) ?_
      refine lv_if_ne (tgt := 988) hx hb dL_law_973 (by decide) (fun c146 => ?_) (fun c146 => ?_)
      · replace hw := Eq.mp (if_neg c146) hw
        refine lv_goto (tgt := 1187) hx hb dL_law_988 (by decide) ?_
        obtain ⟨x147, ex147⟩ : ∃ y : Int32, y = (v4 + 2) := ⟨_, rfl⟩
        replace hw := hw x147 ex147
        refine lv_iinc (v := x147) (lv' := [(4, .int x147), (6, .int r143), (5, .int r142), (0, .ref b), (1, .ref x), (2, .ref mo), (3, .ref oo)]) hx hb dL_law_1187 hl (k := 2) rfl (by rw [ex147]; rfl) (by decide) rfl (fun ls hl => ?_)
        refine lv_goto (tgt := 23) hx hb dL_law_1190 (by decide) ?_
        refine W.widen (k := 60 + 2 * (j + 2)) (n := 600 + 12 * (j + 2)) (by omega) (by omega) ?_
        exact hback x147 w142.1 w143 w142.2 H locs ls hP hD hS (lv_sub hl [0, 3, 4, 5, 6] rfl) (by rw [ex147, ev4]; exact nI_add j 2) hw
      · replace hw := Eq.mp (if_pos c146) hw
        refine lv_aload_n hx hb dL_law_976 rfl (lv_at hl 6 rfl) ?_
        refine lv_iconst (v := 0) hx hb dL_law_977 (by decide) ?_
        refine gLald (k := 0) hx hb hK hP 42 3 rfl rfl (gin (by decide)) (by decide) dL_law_978 ?_
        refine lv_iload hx hb dL_law_979 (lv_at hl 0 rfl) ?_
        refine lv_i2l (v := r143.toInt64) hx hb dL_law_981 rfl ?_
        refine W.lcmp hx hb dL_law_982 ?_
        refine lv_if_eq (tgt := 988) hx hb dL_law_983 (by decide) (fun c148 => ?_) (fun c148 => ?_)
        · replace hw := Eq.mp (if_pos c148) hw
          refine lv_goto (tgt := 1187) hx hb dL_law_988 (by decide) ?_
          obtain ⟨x149, ex149⟩ : ∃ y : Int32, y = (v4 + 2) := ⟨_, rfl⟩
          replace hw := hw x149 ex149
          refine lv_iinc (v := x149) (lv' := [(4, .int x149), (6, .int r143), (5, .int r142), (0, .ref b), (1, .ref x), (2, .ref mo), (3, .ref oo)]) hx hb dL_law_1187 hl (k := 2) rfl (by rw [ex149]; rfl) (by decide) rfl (fun ls hl => ?_)
          refine lv_goto (tgt := 23) hx hb dL_law_1190 (by decide) ?_
          refine W.widen (k := 60 + 2 * (j + 2)) (n := 600 + 12 * (j + 2)) (by omega) (by omega) ?_
          exact hback x149 w142.1 w143 w142.2 H locs ls hP hD hS (lv_sub hl [0, 3, 4, 5, 6] rfl) (by rw [ex149, ev4]; exact nI_add j 2) hw
        · replace hw := Eq.mp (if_neg c148) hw
          refine lv_iconst (v := 0) hx hb dL_law_986 (by decide) ?_
          exact (hw : False).elim
    · replace hw := Eq.mp (if_neg c145) hw
      refine lv_iconst (v := 0) hx hb dL_law_969 (by decide) ?_
      exact (hw : False).elim
  replace hw := Eq.mp (if_neg c2_22) hw
  by_cases c2_23 : x1 = 23
  · replace hw := Eq.mp (if_pos c2_23) hw
    refine lv_tableIn (off := 952) (tgt := 991) hx hb dL_law_39 (by rw [c2_23]; decide) (by rw [c2_23]; decide) (by rw [c2_23]; rfl) (by decide) ?_
    refine lv_aload_n hx hb dL_law_991 rfl (lv_at hl 2 rfl) ?_
    refine lv_aload_n hx hb dL_law_992 rfl (lv_at hl 1 rfl) ?_
    refine lv_iload hx hb dL_law_993 (lv_at hl 0 rfl) ?_
    refine lv_iconst (v := 1) hx hb dL_law_995 (by decide) ?_
    refine lv_iadd hx hb dL_law_996 ?_
    refine va_sld hx hb hX hbl hbA hS hi1 dL_law_997 ?_
    refine lv_aload_n hx hb dL_law_998 rfl (lv_at hl 4 rfl) ?_
    refine gLSi (S := SX × (Nat → Int64)) (As := [.ref x, .int (xs ((v4 + 1)).toNatClampNeg), .ref oo]) (rest := []) (wc := wX kI kC kG x ag at_ as_ hh hst a0 a1 a2 a3 tx tch u ++ [(oo, .inl (kJ, 1, .inr (.inl f)))]) (wr := wM kI mo m0 m1 m2 m3 m4 m5 m6 m7 v) (cs1 := (fun zz : SX × (Nat → Int64) => wX kI kC kG x ag at_ as_ hh hst a0 a1 a2 a3 tx tch zz.1 ++ [(oo, .inl (kJ, 1, .inr (.inl zz.2)))])) (ws2 := (fun zz : SX × (Nat → Int64) => wX kI kC kG x ag at_ as_ hh hst a0 a1 a2 a3 tx tch zz.1 ++ wM kI mo m0 m1 m2 m3 m4 m5 m6 m7 v ++ [(oo, .inl (kJ, 1, .inr (.inl zz.2)))])) ⟨hx, hb, hml, hown, hts⟩ (fun sz => kL_winningCell l D kI kC kG kJ hlt x ag at_ as_ hh hst a0 a1 a2 a3 tx tch oo sz u f (xs ((v4 + 1)).toNatClampNeg) _ hw) (vx_cwSW 3 hts gL_law_L_winningCell rfl rfl rfl hdL_winningCell ⟨Nat.le_of_ble_eq_true rfl, Nat.le_of_ble_eq_true rfl⟩) hK hP hD hE hS hA [0, 1, 2, 3, 4, 5, 6, 7, 8, 9, 10, 11, 12, 13, 14, 15, 16, 17, 18, 19, 20, 21, 22, 23, 24, 25, 26, 27, 28, 29, 30, 31, 32, 42] [33, 34, 35, 36, 37, 38, 39, 40, 41] rfl rfl rfl rfl (by decide) [9, 10, 11, 12, 13, 14, 15, 16, 17, 18, 19, 20, 21, 22, 23, 24, 25, 26, 27, 28, 29, 30, 31, 32, 33, 34, 35, 36, 37, 38, 39, 40, 41, 0, 1, 2, 3, 4, 5, 6, 7, 8, 42] rfl (fun _ => rfl) rfl hl.1 rfl (Nat.le_of_ble_eq_true rfl) dL_law_999 (gr1 (by omega)) (fun r150 w150 H locs hw hP hD hS => ?_)
    have hP : va_P D vwCl (wX kI kC kG x ag at_ as_ hh hst a0 a1 a2 a3 tx tch w150.1 ++ wM kI mo m0 m1 m2 m3 m4 m5 m6 m7 v ++ [(oo, .inl (kJ, 1, .inr (.inl w150.2)))]) H := hP
    have hD : va_D (fun q : Nat => s.heap.size ≤ q) (wX kI kC kG x ag at_ as_ hh hst a0 a1 a2 a3 tx tch w150.1 ++ wM kI mo m0 m1 m2 m3 m4 m5 m6 m7 v ++ [(oo, .inl (kJ, 1, .inr (.inl w150.2)))]) := hD
    refine lv_istore (lv' := [(5, .int r150), (4, .int v4), (0, .ref b), (1, .ref x), (2, .ref mo), (3, .ref oo)]) hx hb dL_law_1002 hl (by decide) rfl (fun ls hl => ?_)
    refine lv_aload_n hx hb dL_law_1004 rfl (lv_at hl 4 rfl) ?_
    refine lv_aload_n hx hb dL_law_1005 rfl (lv_at hl 2 rfl) ?_
    refine lv_iload hx hb dL_law_1006 (lv_at hl 1 rfl) ?_
    refine lv_iconst (v := 1) hx hb dL_law_1008 (by decide) ?_
    refine lv_iadd hx hb dL_law_1009 ?_
    refine va_sld hx hb hX hbl hbA hS hi1 dL_law_1010 ?_
    refine gWVi (S := SM) (As := [.int (xs ((v4 + 1)).toNatClampNeg)]) (rest := []) (wc := wM kI mo m0 m1 m2 m3 m4 m5 m6 m7 v) (wr := [(x, .inr (4, [.ref ag.1, .ref at_.1, .ref as_.1, .int w150.1.1, .ref hh, .ref tx]))] ++ wG kI ag w150.1.2.1 ++ wG kI at_ w150.1.2.2.1 ++ wG kI as_ w150.1.2.2.2.1 ++ [(hh, .inr (2, [.ref hst, .int w150.1.2.2.2.2.1.1, .int w150.1.2.2.2.2.1.2.1])), (hst, .inl (kG, 4, .inr (.inr (.inr (.inr (fH a0 a1 a2 a3))))))] ++ wG kI a0 w150.1.2.2.2.2.1.2.2.1 ++ wG kI a1 w150.1.2.2.2.2.1.2.2.2.1 ++ wG kI a2 w150.1.2.2.2.2.1.2.2.2.2.1 ++ wG kI a3 w150.1.2.2.2.2.1.2.2.2.2.2 ++ wT kC tx tch w150.1.2.2.2.2.2 ++ [(oo, .inl (kJ, 1, .inr (.inl w150.2)))]) (cs1 := (fun zz : SM => wM kI mo m0 m1 m2 m3 m4 m5 m6 m7 zz)) (ws2 := (fun zz : SM => wX kI kC kG x ag at_ as_ hh hst a0 a1 a2 a3 tx tch w150.1 ++ wM kI mo m0 m1 m2 m3 m4 m5 m6 m7 zz ++ [(oo, .inl (kJ, 1, .inr (.inl w150.2)))])) ⟨hx, hb, hml, hown, hts⟩ (fun sz => kX6_winningCell l D kI kC kG kJ mo m0 m1 m2 m3 m4 m5 m6 m7 sz v (xs ((v4 + 1)).toNatClampNeg) _ hw) (cwV 1 hts gL_law_X6_winningCell rfl rfl rfl hdX6_winningCell ⟨Nat.le_of_ble_eq_true rfl, Nat.le_of_ble_eq_true rfl⟩) hK hP hD hE hS hA [33, 34, 35, 36, 37, 38, 39, 40, 41] [0, 1, 2, 3, 4, 5, 6, 7, 8, 9, 10, 11, 12, 13, 14, 15, 16, 17, 18, 19, 20, 21, 22, 23, 24, 25, 26, 27, 28, 29, 30, 31, 32, 42] rfl rfl rfl rfl (by decide) [0, 1, 2, 3, 4, 5, 6, 7, 8, 9, 10, 11, 12, 13, 14, 15, 16, 17, 18, 19, 20, 21, 22, 23, 24, 25, 26, 27, 28, 29, 30, 31, 32, 34, 35, 36, 37, 38, 39, 40, 41, 42, 33] rfl (fun _ => rfl) (ci := 5) (q0 := 0) rfl rfl rfl rfl hl.1 rfl (Nat.le_of_ble_eq_true rfl) dL_law_1011 (gr1 (by omega)) (fun r151 w151 H locs hw hP hD hS => ?_)
    have hP : va_P D vwCl (wX kI kC kG x ag at_ as_ hh hst a0 a1 a2 a3 tx tch w150.1 ++ wM kI mo m0 m1 m2 m3 m4 m5 m6 m7 w151 ++ [(oo, .inl (kJ, 1, .inr (.inl w150.2)))]) H := hP
    have hD : va_D (fun q : Nat => s.heap.size ≤ q) (wX kI kC kG x ag at_ as_ hh hst a0 a1 a2 a3 tx tch w150.1 ++ wM kI mo m0 m1 m2 m3 m4 m5 m6 m7 w151 ++ [(oo, .inl (kJ, 1, .inr (.inl w150.2)))]) := hD
    refine lv_istore (lv' := [(6, .int r151), (5, .int r150), (4, .int v4), (0, .ref b), (1, .ref x), (2, .ref mo), (3, .ref oo)]) hx hb dL_law_1014 hl (by decide) rfl (fun ls hl => ?_)
    refine lv_aload_n hx hb dL_law_1016 rfl (lv_at hl 5 rfl) ?_
    refine gVi (As := []) (rest := []) (cs' := wM kI mo m0 m1 m2 m3 m4 m5 m6 m7 w151) ⟨hx, hb, hml, hown, hts⟩ (kX6_thrown l D kI kC kG kJ mo m0 m1 m2 m3 m4 m5 m6 m7 w151 _ hw) (cwV 0 hts gL_law_X6_thrown rfl rfl rfl hdX6_thrown ⟨Nat.le_of_ble_eq_true rfl, Nat.le_of_ble_eq_true rfl⟩) hK hP hE hS [33, 34, 35, 36, 37, 38, 39, 40, 41] rfl (ci := 5) (q0 := 0) rfl rfl rfl rfl hl.1 rfl (Nat.le_of_ble_eq_true rfl) dL_law_1017 (gr1 (by omega)) (fun r152 hw => ?_)
    refine lv_iload hx hb dL_law_1020 (lv_at hl 1 rfl) ?_
    refine lv_icmp_eq (tgt := 1027) hx hb dL_law_1022 (by decide) (fun c153 => ?_) (fun c153 => ?_)
    · replace hw := Eq.mp (if_pos c153) hw
      refine lv_iload hx hb dL_law_1027 (lv_at hl 1 rfl) ?_
      refine lv_if_ne (tgt := 1044) hx hb dL_law_1029 (by decide) (fun c154 => ?_) (fun c154 => ?_)
      · replace hw := Eq.mp (if_neg c154) hw
        refine lv_goto (tgt := 1187) hx hb dL_law_1044 (by decide) ?_
        obtain ⟨x155, ex155⟩ : ∃ y : Int32, y = (v4 + 2) := ⟨_, rfl⟩
        replace hw := hw x155 ex155
        refine lv_iinc (v := x155) (lv' := [(4, .int x155), (6, .int r151), (5, .int r150), (0, .ref b), (1, .ref x), (2, .ref mo), (3, .ref oo)]) hx hb dL_law_1187 hl (k := 2) rfl (by rw [ex155]; rfl) (by decide) rfl (fun ls hl => ?_)
        refine lv_goto (tgt := 23) hx hb dL_law_1190 (by decide) ?_
        refine W.widen (k := 60 + 2 * (j + 2)) (n := 600 + 12 * (j + 2)) (by omega) (by omega) ?_
        exact hback x155 w150.1 w151 w150.2 H locs ls hP hD hS (lv_sub hl [0, 3, 4, 5, 6] rfl) (by rw [ex155, ev4]; exact nI_add j 2) hw
      · replace hw := Eq.mp (if_pos c154) hw
        refine lv_aload_n hx hb dL_law_1032 rfl (lv_at hl 6 rfl) ?_
        refine lv_iconst (v := 0) hx hb dL_law_1033 (by decide) ?_
        refine gLald (k := 0) hx hb hK hP 42 3 rfl rfl (gin (by decide)) (by decide) dL_law_1034 ?_
        refine lv_iload hx hb dL_law_1035 (lv_at hl 0 rfl) ?_
        refine lv_i2l (v := r151.toInt64) hx hb dL_law_1037 rfl ?_
        refine W.lcmp hx hb dL_law_1038 ?_
        refine lv_if_eq (tgt := 1044) hx hb dL_law_1039 (by decide) (fun c156 => ?_) (fun c156 => ?_)
        · replace hw := Eq.mp (if_pos c156) hw
          refine lv_goto (tgt := 1187) hx hb dL_law_1044 (by decide) ?_
          obtain ⟨x157, ex157⟩ : ∃ y : Int32, y = (v4 + 2) := ⟨_, rfl⟩
          replace hw := hw x157 ex157
          refine lv_iinc (v := x157) (lv' := [(4, .int x157), (6, .int r151), (5, .int r150), (0, .ref b), (1, .ref x), (2, .ref mo), (3, .ref oo)]) hx hb dL_law_1187 hl (k := 2) rfl (by rw [ex157]; rfl) (by decide) rfl (fun ls hl => ?_)
          refine lv_goto (tgt := 23) hx hb dL_law_1190 (by decide) ?_
          refine W.widen (k := 60 + 2 * (j + 2)) (n := 600 + 12 * (j + 2)) (by omega) (by omega) ?_
          exact hback x157 w150.1 w151 w150.2 H locs ls hP hD hS (lv_sub hl [0, 3, 4, 5, 6] rfl) (by rw [ex157, ev4]; exact nI_add j 2) hw
        · replace hw := Eq.mp (if_neg c156) hw
          refine lv_iconst (v := 0) hx hb dL_law_1042 (by decide) ?_
          exact (hw : False).elim
    · replace hw := Eq.mp (if_neg c153) hw
      refine lv_iconst (v := 0) hx hb dL_law_1025 (by decide) ?_
      exact (hw : False).elim
  replace hw := Eq.mp (if_neg c2_23) hw
  by_cases c2_24 : x1 = 24
  · replace hw := Eq.mp (if_pos c2_24) hw
    refine lv_tableIn (off := 1008) (tgt := 1047) hx hb dL_law_39 (by rw [c2_24]; decide) (by rw [c2_24]; decide) (by rw [c2_24]; rfl) (by decide) ?_
    refine lv_aload_n hx hb dL_law_1047 rfl (lv_at hl 2 rfl) ?_
    refine gWVi (S := SX) (As := []) (rest := []) (wc := wX kI kC kG x ag at_ as_ hh hst a0 a1 a2 a3 tx tch u) (wr := wM kI mo m0 m1 m2 m3 m4 m5 m6 m7 v ++ [(oo, .inl (kJ, 1, .inr (.inl f)))]) (cs1 := (fun zz : SX => wX kI kC kG x ag at_ as_ hh hst a0 a1 a2 a3 tx tch zz)) (ws2 := (fun zz : SX => wX kI kC kG x ag at_ as_ hh hst a0 a1 a2 a3 tx tch zz ++ wM kI mo m0 m1 m2 m3 m4 m5 m6 m7 v ++ [(oo, .inl (kJ, 1, .inr (.inl f)))])) ⟨hx, hb, hml, hown, hts⟩ (fun sz => kX5_safeByTrying l D kI kC kG kJ x ag at_ as_ hh hst a0 a1 a2 a3 tx tch sz u _ hw) (cwV 0 hts gL_law_X5_safeByTrying rfl rfl rfl hdX5_safeByTrying ⟨Nat.le_of_ble_eq_true rfl, Nat.le_of_ble_eq_true rfl⟩) hK hP hD hE hS hA [0, 1, 2, 3, 4, 5, 6, 7, 8, 9, 10, 11, 12, 13, 14, 15, 16, 17, 18, 19, 20, 21, 22, 23, 24, 25, 26, 27, 28, 29, 30, 31, 32] [33, 34, 35, 36, 37, 38, 39, 40, 41, 42] rfl rfl rfl rfl (by decide) [10, 11, 12, 13, 14, 15, 16, 17, 18, 19, 20, 21, 22, 23, 24, 25, 26, 27, 28, 29, 30, 31, 32, 33, 34, 35, 36, 37, 38, 39, 40, 41, 42, 0, 1, 2, 3, 4, 5, 6, 7, 8, 9] rfl (fun _ => rfl) (ci := 4) (q0 := 0) rfl rfl rfl rfl hl.1 rfl (Nat.le_of_ble_eq_true rfl) dL_law_1048 (gr1 (by omega)) (fun r158 w158 H locs hw hP hD hS => ?_)
    have hP : va_P D vwCl (wX kI kC kG x ag at_ as_ hh hst a0 a1 a2 a3 tx tch w158 ++ wM kI mo m0 m1 m2 m3 m4 m5 m6 m7 v ++ [(oo, .inl (kJ, 1, .inr (.inl f)))]) H := hP
    have hD : va_D (fun q : Nat => s.heap.size ≤ q) (wX kI kC kG x ag at_ as_ hh hst a0 a1 a2 a3 tx tch w158 ++ wM kI mo m0 m1 m2 m3 m4 m5 m6 m7 v ++ [(oo, .inl (kJ, 1, .inr (.inl f)))]) := hD
    refine lv_aload_n hx hb dL_law_1051 rfl (lv_at hl 3 rfl) ?_
    refine gWVi (S := SM) (As := []) (rest := [.int r158]) (wc := wM kI mo m0 m1 m2 m3 m4 m5 m6 m7 v) (wr := [(x, .inr (4, [.ref ag.1, .ref at_.1, .ref as_.1, .int w158.1, .ref hh, .ref tx]))] ++ wG kI ag w158.2.1 ++ wG kI at_ w158.2.2.1 ++ wG kI as_ w158.2.2.2.1 ++ [(hh, .inr (2, [.ref hst, .int w158.2.2.2.2.1.1, .int w158.2.2.2.2.1.2.1])), (hst, .inl (kG, 4, .inr (.inr (.inr (.inr (fH a0 a1 a2 a3))))))] ++ wG kI a0 w158.2.2.2.2.1.2.2.1 ++ wG kI a1 w158.2.2.2.2.1.2.2.2.1 ++ wG kI a2 w158.2.2.2.2.1.2.2.2.2.1 ++ wG kI a3 w158.2.2.2.2.1.2.2.2.2.2 ++ wT kC tx tch w158.2.2.2.2.2 ++ [(oo, .inl (kJ, 1, .inr (.inl f)))]) (cs1 := (fun zz : SM => wM kI mo m0 m1 m2 m3 m4 m5 m6 m7 zz)) (ws2 := (fun zz : SM => wX kI kC kG x ag at_ as_ hh hst a0 a1 a2 a3 tx tch w158 ++ wM kI mo m0 m1 m2 m3 m4 m5 m6 m7 zz ++ [(oo, .inl (kJ, 1, .inr (.inl f)))])) ⟨hx, hb, hml, hown, hts⟩ (fun sz => kX6_safeByTrying l D kI kC kG kJ mo m0 m1 m2 m3 m4 m5 m6 m7 sz v _ hw) (cwV 0 hts gL_law_X6_safeByTrying rfl rfl rfl hdX6_safeByTrying ⟨Nat.le_of_ble_eq_true rfl, Nat.le_of_ble_eq_true rfl⟩) hK hP hD hE hS hA [33, 34, 35, 36, 37, 38, 39, 40, 41] [0, 1, 2, 3, 4, 5, 6, 7, 8, 9, 10, 11, 12, 13, 14, 15, 16, 17, 18, 19, 20, 21, 22, 23, 24, 25, 26, 27, 28, 29, 30, 31, 32, 42] rfl rfl rfl rfl (by decide) [0, 1, 2, 3, 4, 5, 6, 7, 8, 9, 10, 11, 12, 13, 14, 15, 16, 17, 18, 19, 20, 21, 22, 23, 24, 25, 26, 27, 28, 29, 30, 31, 32, 34, 35, 36, 37, 38, 39, 40, 41, 42, 33] rfl (fun _ => rfl) (ci := 5) (q0 := 0) rfl rfl rfl rfl hl.1 rfl (Nat.le_of_ble_eq_true rfl) dL_law_1052 (gr1 (by omega)) (fun r159 w159 H locs hw hP hD hS => ?_)
    have hP : va_P D vwCl (wX kI kC kG x ag at_ as_ hh hst a0 a1 a2 a3 tx tch w158 ++ wM kI mo m0 m1 m2 m3 m4 m5 m6 m7 w159 ++ [(oo, .inl (kJ, 1, .inr (.inl f)))]) H := hP
    have hD : va_D (fun q : Nat => s.heap.size ≤ q) (wX kI kC kG x ag at_ as_ hh hst a0 a1 a2 a3 tx tch w158 ++ wM kI mo m0 m1 m2 m3 m4 m5 m6 m7 w159 ++ [(oo, .inl (kJ, 1, .inr (.inl f)))]) := hD
    refine lv_icmp_eq (tgt := 1187) hx hb dL_law_1055 (by decide) (fun c160 => ?_) (fun c160 => ?_)
    · replace hw := Eq.mp (if_pos c160) hw
      obtain ⟨x161, ex161⟩ : ∃ y : Int32, y = (v4 + 2) := ⟨_, rfl⟩
      replace hw := hw x161 ex161
      refine lv_iinc (v := x161) (lv' := [(4, .int x161), (0, .ref b), (1, .ref x), (2, .ref mo), (3, .ref oo)]) hx hb dL_law_1187 hl (k := 0) rfl (by rw [ex161]; rfl) (by decide) rfl (fun ls hl => ?_)
      refine lv_goto (tgt := 23) hx hb dL_law_1190 (by decide) ?_
      refine W.widen (k := 60 + 2 * (j + 2)) (n := 600 + 12 * (j + 2)) (by omega) (by omega) ?_
      exact hback x161 w158 w159 f H locs ls hP hD hS (lv_sub hl [0, 1, 2, 3, 4] rfl) (by rw [ex161, ev4]; exact nI_add j 2) hw
    · replace hw := Eq.mp (if_neg c160) hw
      refine lv_iconst (v := 0) hx hb dL_law_1058 (by decide) ?_
      exact (hw : False).elim
  replace hw := Eq.mp (if_neg c2_24) hw
  by_cases c2_25 : x1 = 25
  · replace hw := Eq.mp (if_pos c2_25) hw
    refine lv_tableIn (off := 1021) (tgt := 1060) hx hb dL_law_39 (by rw [c2_25]; decide) (by rw [c2_25]; decide) (by rw [c2_25]; rfl) (by decide) ?_
    refine lv_aload_n hx hb dL_law_1060 rfl (lv_at hl 2 rfl) ?_
    refine gVi (As := []) (rest := []) (cs' := wX kI kC kG x ag at_ as_ hh hst a0 a1 a2 a3 tx tch u) ⟨hx, hb, hml, hown, hts⟩ (kX5_safeByLines l D kI kC kG kJ x ag at_ as_ hh hst a0 a1 a2 a3 tx tch u _ hw) (cwV 0 hts gL_law_X5_safeByLines rfl rfl rfl hdX5_safeByLines ⟨Nat.le_of_ble_eq_true rfl, Nat.le_of_ble_eq_true rfl⟩) hK hP hE hS [0, 1, 2, 3, 4, 5, 6, 7, 8, 9, 10, 11, 12, 13, 14, 15, 16, 17, 18, 19, 20, 21, 22, 23, 24, 25, 26, 27, 28, 29, 30, 31, 32] rfl (ci := 4) (q0 := 0) rfl rfl rfl rfl hl.1 rfl (Nat.le_of_ble_eq_true rfl) dL_law_1061 (gr1 (by omega)) (fun r162 hw => ?_)
    refine lv_aload_n hx hb dL_law_1064 rfl (lv_at hl 3 rfl) ?_
    refine gWVi (S := SM) (As := []) (rest := [.int r162]) (wc := wM kI mo m0 m1 m2 m3 m4 m5 m6 m7 v) (wr := [(x, .inr (4, [.ref ag.1, .ref at_.1, .ref as_.1, .int u.1, .ref hh, .ref tx]))] ++ wG kI ag u.2.1 ++ wG kI at_ u.2.2.1 ++ wG kI as_ u.2.2.2.1 ++ [(hh, .inr (2, [.ref hst, .int u.2.2.2.2.1.1, .int u.2.2.2.2.1.2.1])), (hst, .inl (kG, 4, .inr (.inr (.inr (.inr (fH a0 a1 a2 a3))))))] ++ wG kI a0 u.2.2.2.2.1.2.2.1 ++ wG kI a1 u.2.2.2.2.1.2.2.2.1 ++ wG kI a2 u.2.2.2.2.1.2.2.2.2.1 ++ wG kI a3 u.2.2.2.2.1.2.2.2.2.2 ++ wT kC tx tch u.2.2.2.2.2 ++ [(oo, .inl (kJ, 1, .inr (.inl f)))]) (cs1 := (fun zz : SM => wM kI mo m0 m1 m2 m3 m4 m5 m6 m7 zz)) (ws2 := (fun zz : SM => wX kI kC kG x ag at_ as_ hh hst a0 a1 a2 a3 tx tch u ++ wM kI mo m0 m1 m2 m3 m4 m5 m6 m7 zz ++ [(oo, .inl (kJ, 1, .inr (.inl f)))])) ⟨hx, hb, hml, hown, hts⟩ (fun sz => kX6_safeByLines l D kI kC kG kJ mo m0 m1 m2 m3 m4 m5 m6 m7 sz v _ hw) (cwV 0 hts gL_law_X6_safeByLines rfl rfl rfl hdX6_safeByLines ⟨Nat.le_of_ble_eq_true rfl, Nat.le_of_ble_eq_true rfl⟩) hK hP hD hE hS hA [33, 34, 35, 36, 37, 38, 39, 40, 41] [0, 1, 2, 3, 4, 5, 6, 7, 8, 9, 10, 11, 12, 13, 14, 15, 16, 17, 18, 19, 20, 21, 22, 23, 24, 25, 26, 27, 28, 29, 30, 31, 32, 42] rfl rfl rfl rfl (by decide) [0, 1, 2, 3, 4, 5, 6, 7, 8, 9, 10, 11, 12, 13, 14, 15, 16, 17, 18, 19, 20, 21, 22, 23, 24, 25, 26, 27, 28, 29, 30, 31, 32, 34, 35, 36, 37, 38, 39, 40, 41, 42, 33] rfl (fun _ => rfl) (ci := 5) (q0 := 0) rfl rfl rfl rfl hl.1 rfl (Nat.le_of_ble_eq_true rfl) dL_law_1065 (gr1 (by omega)) (fun r163 w163 H locs hw hP hD hS => ?_)
    have hP : va_P D vwCl (wX kI kC kG x ag at_ as_ hh hst a0 a1 a2 a3 tx tch u ++ wM kI mo m0 m1 m2 m3 m4 m5 m6 m7 w163 ++ [(oo, .inl (kJ, 1, .inr (.inl f)))]) H := hP
    have hD : va_D (fun q : Nat => s.heap.size ≤ q) (wX kI kC kG x ag at_ as_ hh hst a0 a1 a2 a3 tx tch u ++ wM kI mo m0 m1 m2 m3 m4 m5 m6 m7 w163 ++ [(oo, .inl (kJ, 1, .inr (.inl f)))]) := hD
    refine lv_icmp_eq (tgt := 1187) hx hb dL_law_1068 (by decide) (fun c164 => ?_) (fun c164 => ?_)
    · replace hw := Eq.mp (if_pos c164) hw
      obtain ⟨x165, ex165⟩ : ∃ y : Int32, y = (v4 + 2) := ⟨_, rfl⟩
      replace hw := hw x165 ex165
      refine lv_iinc (v := x165) (lv' := [(4, .int x165), (0, .ref b), (1, .ref x), (2, .ref mo), (3, .ref oo)]) hx hb dL_law_1187 hl (k := 0) rfl (by rw [ex165]; rfl) (by decide) rfl (fun ls hl => ?_)
      refine lv_goto (tgt := 23) hx hb dL_law_1190 (by decide) ?_
      refine W.widen (k := 60 + 2 * (j + 2)) (n := 600 + 12 * (j + 2)) (by omega) (by omega) ?_
      exact hback x165 u w163 f H locs ls hP hD hS (lv_sub hl [0, 1, 2, 3, 4] rfl) (by rw [ex165, ev4]; exact nI_add j 2) hw
    · replace hw := Eq.mp (if_neg c164) hw
      refine lv_iconst (v := 0) hx hb dL_law_1071 (by decide) ?_
      exact (hw : False).elim
  replace hw := Eq.mp (if_neg c2_25) hw
  by_cases c2_26 : x1 = 26
  · replace hw := Eq.mp (if_pos c2_26) hw
    refine lv_tableIn (off := 1034) (tgt := 1073) hx hb dL_law_39 (by rw [c2_26]; decide) (by rw [c2_26]; decide) (by rw [c2_26]; rfl) (by decide) ?_
    refine lv_aload_n hx hb dL_law_1073 rfl (lv_at hl 2 rfl) ?_
    refine lv_aload_n hx hb dL_law_1074 rfl (lv_at hl 4 rfl) ?_
    refine gLSi (S := SX × (Nat → Int64)) (As := [.ref x, .ref oo]) (rest := []) (wc := wX kI kC kG x ag at_ as_ hh hst a0 a1 a2 a3 tx tch u ++ [(oo, .inl (kJ, 1, .inr (.inl f)))]) (wr := wM kI mo m0 m1 m2 m3 m4 m5 m6 m7 v) (cs1 := (fun zz : SX × (Nat → Int64) => wX kI kC kG x ag at_ as_ hh hst a0 a1 a2 a3 tx tch zz.1 ++ [(oo, .inl (kJ, 1, .inr (.inl zz.2)))])) (ws2 := (fun zz : SX × (Nat → Int64) => wX kI kC kG x ag at_ as_ hh hst a0 a1 a2 a3 tx tch zz.1 ++ wM kI mo m0 m1 m2 m3 m4 m5 m6 m7 v ++ [(oo, .inl (kJ, 1, .inr (.inl zz.2)))])) ⟨hx, hb, hml, hown, hts⟩ (fun sz => kL_outcome l D kI kC kG kJ hlt x ag at_ as_ hh hst a0 a1 a2 a3 tx tch oo sz u f _ hw) (vx_cwSW 2 hts gL_law_L_outcome rfl rfl rfl hdL_outcome ⟨Nat.le_of_ble_eq_true rfl, Nat.le_of_ble_eq_true rfl⟩) hK hP hD hE hS hA [0, 1, 2, 3, 4, 5, 6, 7, 8, 9, 10, 11, 12, 13, 14, 15, 16, 17, 18, 19, 20, 21, 22, 23, 24, 25, 26, 27, 28, 29, 30, 31, 32, 42] [33, 34, 35, 36, 37, 38, 39, 40, 41] rfl rfl rfl rfl (by decide) [9, 10, 11, 12, 13, 14, 15, 16, 17, 18, 19, 20, 21, 22, 23, 24, 25, 26, 27, 28, 29, 30, 31, 32, 33, 34, 35, 36, 37, 38, 39, 40, 41, 0, 1, 2, 3, 4, 5, 6, 7, 8, 42] rfl (fun _ => rfl) rfl hl.1 rfl (Nat.le_of_ble_eq_true rfl) dL_law_1075 (gr1 (by omega)) (fun r166 w166 H locs hw hP hD hS => ?_)
    have hP : va_P D vwCl (wX kI kC kG x ag at_ as_ hh hst a0 a1 a2 a3 tx tch w166.1 ++ wM kI mo m0 m1 m2 m3 m4 m5 m6 m7 v ++ [(oo, .inl (kJ, 1, .inr (.inl w166.2)))]) H := hP
    have hD : va_D (fun q : Nat => s.heap.size ≤ q) (wX kI kC kG x ag at_ as_ hh hst a0 a1 a2 a3 tx tch w166.1 ++ wM kI mo m0 m1 m2 m3 m4 m5 m6 m7 v ++ [(oo, .inl (kJ, 1, .inr (.inl w166.2)))]) := hD
    refine lv_istore (lv' := [(5, .int r166), (4, .int v4), (0, .ref b), (1, .ref x), (2, .ref mo), (3, .ref oo)]) hx hb dL_law_1078 hl (by decide) rfl (fun ls hl => ?_)
    refine lv_aload_n hx hb dL_law_1080 rfl (lv_at hl 4 rfl) ?_
    refine gWVi (S := SM) (As := []) (rest := []) (wc := wM kI mo m0 m1 m2 m3 m4 m5 m6 m7 v) (wr := [(x, .inr (4, [.ref ag.1, .ref at_.1, .ref as_.1, .int w166.1.1, .ref hh, .ref tx]))] ++ wG kI ag w166.1.2.1 ++ wG kI at_ w166.1.2.2.1 ++ wG kI as_ w166.1.2.2.2.1 ++ [(hh, .inr (2, [.ref hst, .int w166.1.2.2.2.2.1.1, .int w166.1.2.2.2.2.1.2.1])), (hst, .inl (kG, 4, .inr (.inr (.inr (.inr (fH a0 a1 a2 a3))))))] ++ wG kI a0 w166.1.2.2.2.2.1.2.2.1 ++ wG kI a1 w166.1.2.2.2.2.1.2.2.2.1 ++ wG kI a2 w166.1.2.2.2.2.1.2.2.2.2.1 ++ wG kI a3 w166.1.2.2.2.2.1.2.2.2.2.2 ++ wT kC tx tch w166.1.2.2.2.2.2 ++ [(oo, .inl (kJ, 1, .inr (.inl w166.2)))]) (cs1 := (fun zz : SM => wM kI mo m0 m1 m2 m3 m4 m5 m6 m7 zz)) (ws2 := (fun zz : SM => wX kI kC kG x ag at_ as_ hh hst a0 a1 a2 a3 tx tch w166.1 ++ wM kI mo m0 m1 m2 m3 m4 m5 m6 m7 zz ++ [(oo, .inl (kJ, 1, .inr (.inl w166.2)))])) ⟨hx, hb, hml, hown, hts⟩ (fun sz => kX6_outcome l D kI kC kG kJ mo m0 m1 m2 m3 m4 m5 m6 m7 sz v _ hw) (cwV 0 hts gL_law_X6_outcome rfl rfl rfl hdX6_outcome ⟨Nat.le_of_ble_eq_true rfl, Nat.le_of_ble_eq_true rfl⟩) hK hP hD hE hS hA [33, 34, 35, 36, 37, 38, 39, 40, 41] [0, 1, 2, 3, 4, 5, 6, 7, 8, 9, 10, 11, 12, 13, 14, 15, 16, 17, 18, 19, 20, 21, 22, 23, 24, 25, 26, 27, 28, 29, 30, 31, 32, 42] rfl rfl rfl rfl (by decide) [0, 1, 2, 3, 4, 5, 6, 7, 8, 9, 10, 11, 12, 13, 14, 15, 16, 17, 18, 19, 20, 21, 22, 23, 24, 25, 26, 27, 28, 29, 30, 31, 32, 34, 35, 36, 37, 38, 39, 40, 41, 42, 33] rfl (fun _ => rfl) (ci := 5) (q0 := 0) rfl rfl rfl rfl hl.1 rfl (Nat.le_of_ble_eq_true rfl) dL_law_1081 (gr1 (by omega)) (fun r167 w167 H locs hw hP hD hS => ?_)
    have hP : va_P D vwCl (wX kI kC kG x ag at_ as_ hh hst a0 a1 a2 a3 tx tch w166.1 ++ wM kI mo m0 m1 m2 m3 m4 m5 m6 m7 w167 ++ [(oo, .inl (kJ, 1, .inr (.inl w166.2)))]) H := hP
    have hD : va_D (fun q : Nat => s.heap.size ≤ q) (wX kI kC kG x ag at_ as_ hh hst a0 a1 a2 a3 tx tch w166.1 ++ wM kI mo m0 m1 m2 m3 m4 m5 m6 m7 w167 ++ [(oo, .inl (kJ, 1, .inr (.inl w166.2)))]) := hD
    refine lv_istore (lv' := [(6, .int r167), (5, .int r166), (4, .int v4), (0, .ref b), (1, .ref x), (2, .ref mo), (3, .ref oo)]) hx hb dL_law_1084 hl (by decide) rfl (fun ls hl => ?_)
    refine lv_aload_n hx hb dL_law_1086 rfl (lv_at hl 5 rfl) ?_
    refine gVi (As := []) (rest := []) (cs' := wM kI mo m0 m1 m2 m3 m4 m5 m6 m7 w167) ⟨hx, hb, hml, hown, hts⟩ (kX6_thrown l D kI kC kG kJ mo m0 m1 m2 m3 m4 m5 m6 m7 w167 _ hw) (cwV 0 hts gL_law_X6_thrown rfl rfl rfl hdX6_thrown ⟨Nat.le_of_ble_eq_true rfl, Nat.le_of_ble_eq_true rfl⟩) hK hP hE hS [33, 34, 35, 36, 37, 38, 39, 40, 41] rfl (ci := 5) (q0 := 0) rfl rfl rfl rfl hl.1 rfl (Nat.le_of_ble_eq_true rfl) dL_law_1087 (gr1 (by omega)) (fun r168 hw => ?_)
    refine lv_iload hx hb dL_law_1090 (lv_at hl 1 rfl) ?_
    refine lv_icmp_eq (tgt := 1097) hx hb dL_law_1092 (by decide) (fun c169 => ?_) (fun c169 => ?_)
    · replace hw := Eq.mp (if_pos c169) hw
      refine lv_iload hx hb dL_law_1097 (lv_at hl 1 rfl) ?_
      refine lv_if_ne (tgt := 1114) hx hb dL_law_1099 (by decide) (fun c170 => ?_) (fun c170 => ?_)
      · replace hw := Eq.mp (if_neg c170) hw
        refine lv_goto (tgt := 1187) hx hb dL_law_1114 (by decide) ?_
        obtain ⟨x171, ex171⟩ : ∃ y : Int32, y = (v4 + 2) := ⟨_, rfl⟩
        replace hw := hw x171 ex171
        refine lv_iinc (v := x171) (lv' := [(4, .int x171), (6, .int r167), (5, .int r166), (0, .ref b), (1, .ref x), (2, .ref mo), (3, .ref oo)]) hx hb dL_law_1187 hl (k := 2) rfl (by rw [ex171]; rfl) (by decide) rfl (fun ls hl => ?_)
        refine lv_goto (tgt := 23) hx hb dL_law_1190 (by decide) ?_
        refine W.widen (k := 60 + 2 * (j + 2)) (n := 600 + 12 * (j + 2)) (by omega) (by omega) ?_
        exact hback x171 w166.1 w167 w166.2 H locs ls hP hD hS (lv_sub hl [0, 3, 4, 5, 6] rfl) (by rw [ex171, ev4]; exact nI_add j 2) hw
      · replace hw := Eq.mp (if_pos c170) hw
        refine lv_aload_n hx hb dL_law_1102 rfl (lv_at hl 6 rfl) ?_
        refine lv_iconst (v := 0) hx hb dL_law_1103 (by decide) ?_
        refine gLald (k := 0) hx hb hK hP 42 3 rfl rfl (gin (by decide)) (by decide) dL_law_1104 ?_
        refine lv_iload hx hb dL_law_1105 (lv_at hl 0 rfl) ?_
        refine lv_i2l (v := r167.toInt64) hx hb dL_law_1107 rfl ?_
        refine W.lcmp hx hb dL_law_1108 ?_
        refine lv_if_eq (tgt := 1114) hx hb dL_law_1109 (by decide) (fun c172 => ?_) (fun c172 => ?_)
        · replace hw := Eq.mp (if_pos c172) hw
          refine lv_goto (tgt := 1187) hx hb dL_law_1114 (by decide) ?_
          obtain ⟨x173, ex173⟩ : ∃ y : Int32, y = (v4 + 2) := ⟨_, rfl⟩
          replace hw := hw x173 ex173
          refine lv_iinc (v := x173) (lv' := [(4, .int x173), (6, .int r167), (5, .int r166), (0, .ref b), (1, .ref x), (2, .ref mo), (3, .ref oo)]) hx hb dL_law_1187 hl (k := 2) rfl (by rw [ex173]; rfl) (by decide) rfl (fun ls hl => ?_)
          refine lv_goto (tgt := 23) hx hb dL_law_1190 (by decide) ?_
          refine W.widen (k := 60 + 2 * (j + 2)) (n := 600 + 12 * (j + 2)) (by omega) (by omega) ?_
          exact hback x173 w166.1 w167 w166.2 H locs ls hP hD hS (lv_sub hl [0, 3, 4, 5, 6] rfl) (by rw [ex173, ev4]; exact nI_add j 2) hw
        · replace hw := Eq.mp (if_neg c172) hw
          refine lv_iconst (v := 0) hx hb dL_law_1112 (by decide) ?_
          exact (hw : False).elim
    · replace hw := Eq.mp (if_neg c169) hw
      refine lv_iconst (v := 0) hx hb dL_law_1095 (by decide) ?_
      exact (hw : False).elim
  replace hw := Eq.mp (if_neg c2_26) hw
  by_cases c2_27 : x1 = 27
  · replace hw := Eq.mp (if_pos c2_27) hw
    refine lv_tableIn (off := 1078) (tgt := 1117) hx hb dL_law_39 (by rw [c2_27]; decide) (by rw [c2_27]; decide) (by rw [c2_27]; rfl) (by decide) ?_
    refine lv_aload_n hx hb dL_law_1117 rfl (lv_at hl 2 rfl) ?_
    refine lv_aload_n hx hb dL_law_1118 rfl (lv_at hl 4 rfl) ?_
    refine gLSi (S := SX × (Nat → Int64)) (As := [.ref x, .ref oo]) (rest := []) (wc := wX kI kC kG x ag at_ as_ hh hst a0 a1 a2 a3 tx tch u ++ [(oo, .inl (kJ, 1, .inr (.inl f)))]) (wr := wM kI mo m0 m1 m2 m3 m4 m5 m6 m7 v) (cs1 := (fun zz : SX × (Nat → Int64) => wX kI kC kG x ag at_ as_ hh hst a0 a1 a2 a3 tx tch zz.1 ++ [(oo, .inl (kJ, 1, .inr (.inl zz.2)))])) (ws2 := (fun zz : SX × (Nat → Int64) => wX kI kC kG x ag at_ as_ hh hst a0 a1 a2 a3 tx tch zz.1 ++ wM kI mo m0 m1 m2 m3 m4 m5 m6 m7 v ++ [(oo, .inl (kJ, 1, .inr (.inl zz.2)))])) ⟨hx, hb, hml, hown, hts⟩ (fun sz => kL_bestMove l D kI kC kG kJ hlt x ag at_ as_ hh hst a0 a1 a2 a3 tx tch oo sz u f _ hw) (vx_cwSW 2 hts gL_law_L_bestMove rfl rfl rfl hdL_bestMove ⟨Nat.le_of_ble_eq_true rfl, Nat.le_of_ble_eq_true rfl⟩) hK hP hD hE hS hA [0, 1, 2, 3, 4, 5, 6, 7, 8, 9, 10, 11, 12, 13, 14, 15, 16, 17, 18, 19, 20, 21, 22, 23, 24, 25, 26, 27, 28, 29, 30, 31, 32, 42] [33, 34, 35, 36, 37, 38, 39, 40, 41] rfl rfl rfl rfl (by decide) [9, 10, 11, 12, 13, 14, 15, 16, 17, 18, 19, 20, 21, 22, 23, 24, 25, 26, 27, 28, 29, 30, 31, 32, 33, 34, 35, 36, 37, 38, 39, 40, 41, 0, 1, 2, 3, 4, 5, 6, 7, 8, 42] rfl (fun _ => rfl) rfl hl.1 rfl (Nat.le_of_ble_eq_true rfl) dL_law_1119 (gr1 (by omega)) (fun r174 w174 H locs hw hP hD hS => ?_)
    have hP : va_P D vwCl (wX kI kC kG x ag at_ as_ hh hst a0 a1 a2 a3 tx tch w174.1 ++ wM kI mo m0 m1 m2 m3 m4 m5 m6 m7 v ++ [(oo, .inl (kJ, 1, .inr (.inl w174.2)))]) H := hP
    have hD : va_D (fun q : Nat => s.heap.size ≤ q) (wX kI kC kG x ag at_ as_ hh hst a0 a1 a2 a3 tx tch w174.1 ++ wM kI mo m0 m1 m2 m3 m4 m5 m6 m7 v ++ [(oo, .inl (kJ, 1, .inr (.inl w174.2)))]) := hD
    refine lv_istore (lv' := [(5, .int r174), (4, .int v4), (0, .ref b), (1, .ref x), (2, .ref mo), (3, .ref oo)]) hx hb dL_law_1122 hl (by decide) rfl (fun ls hl => ?_)
    refine lv_aload_n hx hb dL_law_1124 rfl (lv_at hl 4 rfl) ?_
    refine gWVi (S := SM) (As := []) (rest := []) (wc := wM kI mo m0 m1 m2 m3 m4 m5 m6 m7 v) (wr := [(x, .inr (4, [.ref ag.1, .ref at_.1, .ref as_.1, .int w174.1.1, .ref hh, .ref tx]))] ++ wG kI ag w174.1.2.1 ++ wG kI at_ w174.1.2.2.1 ++ wG kI as_ w174.1.2.2.2.1 ++ [(hh, .inr (2, [.ref hst, .int w174.1.2.2.2.2.1.1, .int w174.1.2.2.2.2.1.2.1])), (hst, .inl (kG, 4, .inr (.inr (.inr (.inr (fH a0 a1 a2 a3))))))] ++ wG kI a0 w174.1.2.2.2.2.1.2.2.1 ++ wG kI a1 w174.1.2.2.2.2.1.2.2.2.1 ++ wG kI a2 w174.1.2.2.2.2.1.2.2.2.2.1 ++ wG kI a3 w174.1.2.2.2.2.1.2.2.2.2.2 ++ wT kC tx tch w174.1.2.2.2.2.2 ++ [(oo, .inl (kJ, 1, .inr (.inl w174.2)))]) (cs1 := (fun zz : SM => wM kI mo m0 m1 m2 m3 m4 m5 m6 m7 zz)) (ws2 := (fun zz : SM => wX kI kC kG x ag at_ as_ hh hst a0 a1 a2 a3 tx tch w174.1 ++ wM kI mo m0 m1 m2 m3 m4 m5 m6 m7 zz ++ [(oo, .inl (kJ, 1, .inr (.inl w174.2)))])) ⟨hx, hb, hml, hown, hts⟩ (fun sz => kX6_bestMove l D kI kC kG kJ mo m0 m1 m2 m3 m4 m5 m6 m7 sz v _ hw) (cwV 0 hts gL_law_X6_bestMove rfl rfl rfl hdX6_bestMove ⟨Nat.le_of_ble_eq_true rfl, Nat.le_of_ble_eq_true rfl⟩) hK hP hD hE hS hA [33, 34, 35, 36, 37, 38, 39, 40, 41] [0, 1, 2, 3, 4, 5, 6, 7, 8, 9, 10, 11, 12, 13, 14, 15, 16, 17, 18, 19, 20, 21, 22, 23, 24, 25, 26, 27, 28, 29, 30, 31, 32, 42] rfl rfl rfl rfl (by decide) [0, 1, 2, 3, 4, 5, 6, 7, 8, 9, 10, 11, 12, 13, 14, 15, 16, 17, 18, 19, 20, 21, 22, 23, 24, 25, 26, 27, 28, 29, 30, 31, 32, 34, 35, 36, 37, 38, 39, 40, 41, 42, 33] rfl (fun _ => rfl) (ci := 5) (q0 := 0) rfl rfl rfl rfl hl.1 rfl (Nat.le_of_ble_eq_true rfl) dL_law_1125 (gr1 (by omega)) (fun r175 w175 H locs hw hP hD hS => ?_)
    have hP : va_P D vwCl (wX kI kC kG x ag at_ as_ hh hst a0 a1 a2 a3 tx tch w174.1 ++ wM kI mo m0 m1 m2 m3 m4 m5 m6 m7 w175 ++ [(oo, .inl (kJ, 1, .inr (.inl w174.2)))]) H := hP
    have hD : va_D (fun q : Nat => s.heap.size ≤ q) (wX kI kC kG x ag at_ as_ hh hst a0 a1 a2 a3 tx tch w174.1 ++ wM kI mo m0 m1 m2 m3 m4 m5 m6 m7 w175 ++ [(oo, .inl (kJ, 1, .inr (.inl w174.2)))]) := hD
    refine lv_istore (lv' := [(6, .int r175), (5, .int r174), (4, .int v4), (0, .ref b), (1, .ref x), (2, .ref mo), (3, .ref oo)]) hx hb dL_law_1128 hl (by decide) rfl (fun ls hl => ?_)
    refine lv_aload_n hx hb dL_law_1130 rfl (lv_at hl 5 rfl) ?_
    refine gVi (As := []) (rest := []) (cs' := wM kI mo m0 m1 m2 m3 m4 m5 m6 m7 w175) ⟨hx, hb, hml, hown, hts⟩ (kX6_thrown l D kI kC kG kJ mo m0 m1 m2 m3 m4 m5 m6 m7 w175 _ hw) (cwV 0 hts gL_law_X6_thrown rfl rfl rfl hdX6_thrown ⟨Nat.le_of_ble_eq_true rfl, Nat.le_of_ble_eq_true rfl⟩) hK hP hE hS [33, 34, 35, 36, 37, 38, 39, 40, 41] rfl (ci := 5) (q0 := 0) rfl rfl rfl rfl hl.1 rfl (Nat.le_of_ble_eq_true rfl) dL_law_1131 (gr1 (by omega)) (fun r176 hw => ?_)
    refine lv_iload hx hb dL_law_1134 (lv_at hl 1 rfl) ?_
    refine lv_icmp_eq (tgt := 1141) hx hb dL_law_1136 (by decide) (fun c177 => ?_) (fun c177 => ?_)
    · replace hw := Eq.mp (if_pos c177) hw
      refine lv_iload hx hb dL_law_1141 (lv_at hl 1 rfl) ?_
      refine lv_if_ne (tgt := 1158) hx hb dL_law_1143 (by decide) (fun c178 => ?_) (fun c178 => ?_)
      · replace hw := Eq.mp (if_neg c178) hw
        refine lv_goto (tgt := 1187) hx hb dL_law_1158 (by decide) ?_
        obtain ⟨x179, ex179⟩ : ∃ y : Int32, y = (v4 + 2) := ⟨_, rfl⟩
        replace hw := hw x179 ex179
        refine lv_iinc (v := x179) (lv' := [(4, .int x179), (6, .int r175), (5, .int r174), (0, .ref b), (1, .ref x), (2, .ref mo), (3, .ref oo)]) hx hb dL_law_1187 hl (k := 2) rfl (by rw [ex179]; rfl) (by decide) rfl (fun ls hl => ?_)
        refine lv_goto (tgt := 23) hx hb dL_law_1190 (by decide) ?_
        refine W.widen (k := 60 + 2 * (j + 2)) (n := 600 + 12 * (j + 2)) (by omega) (by omega) ?_
        exact hback x179 w174.1 w175 w174.2 H locs ls hP hD hS (lv_sub hl [0, 3, 4, 5, 6] rfl) (by rw [ex179, ev4]; exact nI_add j 2) hw
      · replace hw := Eq.mp (if_pos c178) hw
        refine lv_aload_n hx hb dL_law_1146 rfl (lv_at hl 6 rfl) ?_
        refine lv_iconst (v := 0) hx hb dL_law_1147 (by decide) ?_
        refine gLald (k := 0) hx hb hK hP 42 3 rfl rfl (gin (by decide)) (by decide) dL_law_1148 ?_
        refine lv_iload hx hb dL_law_1149 (lv_at hl 0 rfl) ?_
        refine lv_i2l (v := r175.toInt64) hx hb dL_law_1151 rfl ?_
        refine W.lcmp hx hb dL_law_1152 ?_
        refine lv_if_eq (tgt := 1158) hx hb dL_law_1153 (by decide) (fun c180 => ?_) (fun c180 => ?_)
        · replace hw := Eq.mp (if_pos c180) hw
          refine lv_goto (tgt := 1187) hx hb dL_law_1158 (by decide) ?_
          obtain ⟨x181, ex181⟩ : ∃ y : Int32, y = (v4 + 2) := ⟨_, rfl⟩
          replace hw := hw x181 ex181
          refine lv_iinc (v := x181) (lv' := [(4, .int x181), (6, .int r175), (5, .int r174), (0, .ref b), (1, .ref x), (2, .ref mo), (3, .ref oo)]) hx hb dL_law_1187 hl (k := 2) rfl (by rw [ex181]; rfl) (by decide) rfl (fun ls hl => ?_)
          refine lv_goto (tgt := 23) hx hb dL_law_1190 (by decide) ?_
          refine W.widen (k := 60 + 2 * (j + 2)) (n := 600 + 12 * (j + 2)) (by omega) (by omega) ?_
          exact hback x181 w174.1 w175 w174.2 H locs ls hP hD hS (lv_sub hl [0, 3, 4, 5, 6] rfl) (by rw [ex181, ev4]; exact nI_add j 2) hw
        · replace hw := Eq.mp (if_neg c180) hw
          refine lv_iconst (v := 0) hx hb dL_law_1156 (by decide) ?_
          exact (hw : False).elim
    · replace hw := Eq.mp (if_neg c177) hw
      refine lv_iconst (v := 0) hx hb dL_law_1139 (by decide) ?_
      exact (hw : False).elim
  replace hw := Eq.mp (if_neg c2_27) hw
  by_cases c2_28 : x1 = 28
  · replace hw := Eq.mp (if_pos c2_28) hw
    refine lv_tableIn (off := 1122) (tgt := 1161) hx hb dL_law_39 (by rw [c2_28]; decide) (by rw [c2_28]; decide) (by rw [c2_28]; rfl) (by decide) ?_
    refine lv_aload_n hx hb dL_law_1161 rfl (lv_at hl 2 rfl) ?_
    refine gVi (As := []) (rest := []) (cs' := wX kI kC kG x ag at_ as_ hh hst a0 a1 a2 a3 tx tch u) ⟨hx, hb, hml, hown, hts⟩ (kX5_rule l D kI kC kG kJ x ag at_ as_ hh hst a0 a1 a2 a3 tx tch u _ hw) (cwV 0 hts gL_law_X5_rule rfl rfl rfl hdX5_rule ⟨Nat.le_of_ble_eq_true rfl, Nat.le_of_ble_eq_true rfl⟩) hK hP hE hS [0, 1, 2, 3, 4, 5, 6, 7, 8, 9, 10, 11, 12, 13, 14, 15, 16, 17, 18, 19, 20, 21, 22, 23, 24, 25, 26, 27, 28, 29, 30, 31, 32] rfl (ci := 4) (q0 := 0) rfl rfl rfl rfl hl.1 rfl (Nat.le_of_ble_eq_true rfl) dL_law_1162 (gr1 (by omega)) (fun r182 hw => ?_)
    refine lv_aload_n hx hb dL_law_1165 rfl (lv_at hl 3 rfl) ?_
    refine gWVi (S := SM) (As := []) (rest := [.int r182]) (wc := wM kI mo m0 m1 m2 m3 m4 m5 m6 m7 v) (wr := [(x, .inr (4, [.ref ag.1, .ref at_.1, .ref as_.1, .int u.1, .ref hh, .ref tx]))] ++ wG kI ag u.2.1 ++ wG kI at_ u.2.2.1 ++ wG kI as_ u.2.2.2.1 ++ [(hh, .inr (2, [.ref hst, .int u.2.2.2.2.1.1, .int u.2.2.2.2.1.2.1])), (hst, .inl (kG, 4, .inr (.inr (.inr (.inr (fH a0 a1 a2 a3))))))] ++ wG kI a0 u.2.2.2.2.1.2.2.1 ++ wG kI a1 u.2.2.2.2.1.2.2.2.1 ++ wG kI a2 u.2.2.2.2.1.2.2.2.2.1 ++ wG kI a3 u.2.2.2.2.1.2.2.2.2.2 ++ wT kC tx tch u.2.2.2.2.2 ++ [(oo, .inl (kJ, 1, .inr (.inl f)))]) (cs1 := (fun zz : SM => wM kI mo m0 m1 m2 m3 m4 m5 m6 m7 zz)) (ws2 := (fun zz : SM => wX kI kC kG x ag at_ as_ hh hst a0 a1 a2 a3 tx tch u ++ wM kI mo m0 m1 m2 m3 m4 m5 m6 m7 zz ++ [(oo, .inl (kJ, 1, .inr (.inl f)))])) ⟨hx, hb, hml, hown, hts⟩ (fun sz => kX6_rule l D kI kC kG kJ mo m0 m1 m2 m3 m4 m5 m6 m7 sz v _ hw) (cwV 0 hts gL_law_X6_rule rfl rfl rfl hdX6_rule ⟨Nat.le_of_ble_eq_true rfl, Nat.le_of_ble_eq_true rfl⟩) hK hP hD hE hS hA [33, 34, 35, 36, 37, 38, 39, 40, 41] [0, 1, 2, 3, 4, 5, 6, 7, 8, 9, 10, 11, 12, 13, 14, 15, 16, 17, 18, 19, 20, 21, 22, 23, 24, 25, 26, 27, 28, 29, 30, 31, 32, 42] rfl rfl rfl rfl (by decide) [0, 1, 2, 3, 4, 5, 6, 7, 8, 9, 10, 11, 12, 13, 14, 15, 16, 17, 18, 19, 20, 21, 22, 23, 24, 25, 26, 27, 28, 29, 30, 31, 32, 34, 35, 36, 37, 38, 39, 40, 41, 42, 33] rfl (fun _ => rfl) (ci := 5) (q0 := 0) rfl rfl rfl rfl hl.1 rfl (Nat.le_of_ble_eq_true rfl) dL_law_1166 (gr1 (by omega)) (fun r183 w183 H locs hw hP hD hS => ?_)
    have hP : va_P D vwCl (wX kI kC kG x ag at_ as_ hh hst a0 a1 a2 a3 tx tch u ++ wM kI mo m0 m1 m2 m3 m4 m5 m6 m7 w183 ++ [(oo, .inl (kJ, 1, .inr (.inl f)))]) H := hP
    have hD : va_D (fun q : Nat => s.heap.size ≤ q) (wX kI kC kG x ag at_ as_ hh hst a0 a1 a2 a3 tx tch u ++ wM kI mo m0 m1 m2 m3 m4 m5 m6 m7 w183 ++ [(oo, .inl (kJ, 1, .inr (.inl f)))]) := hD
    refine lv_icmp_eq (tgt := 1187) hx hb dL_law_1169 (by decide) (fun c184 => ?_) (fun c184 => ?_)
    · replace hw := Eq.mp (if_pos c184) hw
      obtain ⟨x185, ex185⟩ : ∃ y : Int32, y = (v4 + 2) := ⟨_, rfl⟩
      replace hw := hw x185 ex185
      refine lv_iinc (v := x185) (lv' := [(4, .int x185), (0, .ref b), (1, .ref x), (2, .ref mo), (3, .ref oo)]) hx hb dL_law_1187 hl (k := 0) rfl (by rw [ex185]; rfl) (by decide) rfl (fun ls hl => ?_)
      refine lv_goto (tgt := 23) hx hb dL_law_1190 (by decide) ?_
      refine W.widen (k := 60 + 2 * (j + 2)) (n := 600 + 12 * (j + 2)) (by omega) (by omega) ?_
      exact hback x185 u w183 f H locs ls hP hD hS (lv_sub hl [0, 1, 2, 3, 4] rfl) (by rw [ex185, ev4]; exact nI_add j 2) hw
    · replace hw := Eq.mp (if_neg c184) hw
      refine lv_iconst (v := 0) hx hb dL_law_1172 (by decide) ?_
      exact (hw : False).elim
  replace hw := Eq.mp (if_neg c2_28) hw
  by_cases c2_29 : x1 = 29
  · replace hw := Eq.mp (if_pos c2_29) hw
    refine lv_tableIn (off := 1135) (tgt := 1174) hx hb dL_law_39 (by rw [c2_29]; decide) (by rw [c2_29]; decide) (by rw [c2_29]; rfl) (by decide) ?_
    refine lv_aload_n hx hb dL_law_1174 rfl (lv_at hl 2 rfl) ?_
    refine gVi (As := []) (rest := []) (cs' := wX kI kC kG x ag at_ as_ hh hst a0 a1 a2 a3 tx tch u) ⟨hx, hb, hml, hown, hts⟩ (kX5_recordedStates l D kI kC kG kJ x ag at_ as_ hh hst a0 a1 a2 a3 tx tch u _ hw) (cwV 0 hts gL_law_X5_recordedStates rfl rfl rfl hdX5_recordedStates ⟨Nat.le_of_ble_eq_true rfl, Nat.le_of_ble_eq_true rfl⟩) hK hP hE hS [0, 1, 2, 3, 4, 5, 6, 7, 8, 9, 10, 11, 12, 13, 14, 15, 16, 17, 18, 19, 20, 21, 22, 23, 24, 25, 26, 27, 28, 29, 30, 31, 32] rfl (ci := 4) (q0 := 0) rfl rfl rfl rfl hl.1 rfl (Nat.le_of_ble_eq_true rfl) dL_law_1175 (gr1 (by omega)) (fun r186 hw => ?_)
    refine lv_aload_n hx hb dL_law_1178 rfl (lv_at hl 3 rfl) ?_
    refine gWVi (S := SM) (As := []) (rest := [.int r186]) (wc := wM kI mo m0 m1 m2 m3 m4 m5 m6 m7 v) (wr := [(x, .inr (4, [.ref ag.1, .ref at_.1, .ref as_.1, .int u.1, .ref hh, .ref tx]))] ++ wG kI ag u.2.1 ++ wG kI at_ u.2.2.1 ++ wG kI as_ u.2.2.2.1 ++ [(hh, .inr (2, [.ref hst, .int u.2.2.2.2.1.1, .int u.2.2.2.2.1.2.1])), (hst, .inl (kG, 4, .inr (.inr (.inr (.inr (fH a0 a1 a2 a3))))))] ++ wG kI a0 u.2.2.2.2.1.2.2.1 ++ wG kI a1 u.2.2.2.2.1.2.2.2.1 ++ wG kI a2 u.2.2.2.2.1.2.2.2.2.1 ++ wG kI a3 u.2.2.2.2.1.2.2.2.2.2 ++ wT kC tx tch u.2.2.2.2.2 ++ [(oo, .inl (kJ, 1, .inr (.inl f)))]) (cs1 := (fun zz : SM => wM kI mo m0 m1 m2 m3 m4 m5 m6 m7 zz)) (ws2 := (fun zz : SM => wX kI kC kG x ag at_ as_ hh hst a0 a1 a2 a3 tx tch u ++ wM kI mo m0 m1 m2 m3 m4 m5 m6 m7 zz ++ [(oo, .inl (kJ, 1, .inr (.inl f)))])) ⟨hx, hb, hml, hown, hts⟩ (fun sz => kX6_recordedStates l D kI kC kG kJ mo m0 m1 m2 m3 m4 m5 m6 m7 sz v _ hw) (cwV 0 hts gL_law_X6_recordedStates rfl rfl rfl hdX6_recordedStates ⟨Nat.le_of_ble_eq_true rfl, Nat.le_of_ble_eq_true rfl⟩) hK hP hD hE hS hA [33, 34, 35, 36, 37, 38, 39, 40, 41] [0, 1, 2, 3, 4, 5, 6, 7, 8, 9, 10, 11, 12, 13, 14, 15, 16, 17, 18, 19, 20, 21, 22, 23, 24, 25, 26, 27, 28, 29, 30, 31, 32, 42] rfl rfl rfl rfl (by decide) [0, 1, 2, 3, 4, 5, 6, 7, 8, 9, 10, 11, 12, 13, 14, 15, 16, 17, 18, 19, 20, 21, 22, 23, 24, 25, 26, 27, 28, 29, 30, 31, 32, 34, 35, 36, 37, 38, 39, 40, 41, 42, 33] rfl (fun _ => rfl) (ci := 5) (q0 := 0) rfl rfl rfl rfl hl.1 rfl (Nat.le_of_ble_eq_true rfl) dL_law_1179 (gr1 (by omega)) (fun r187 w187 H locs hw hP hD hS => ?_)
    have hP : va_P D vwCl (wX kI kC kG x ag at_ as_ hh hst a0 a1 a2 a3 tx tch u ++ wM kI mo m0 m1 m2 m3 m4 m5 m6 m7 w187 ++ [(oo, .inl (kJ, 1, .inr (.inl f)))]) H := hP
    have hD : va_D (fun q : Nat => s.heap.size ≤ q) (wX kI kC kG x ag at_ as_ hh hst a0 a1 a2 a3 tx tch u ++ wM kI mo m0 m1 m2 m3 m4 m5 m6 m7 w187 ++ [(oo, .inl (kJ, 1, .inr (.inl f)))]) := hD
    refine lv_icmp_eq (tgt := 1187) hx hb dL_law_1182 (by decide) (fun c188 => ?_) (fun c188 => ?_)
    · replace hw := Eq.mp (if_pos c188) hw
      obtain ⟨x189, ex189⟩ : ∃ y : Int32, y = (v4 + 2) := ⟨_, rfl⟩
      replace hw := hw x189 ex189
      refine lv_iinc (v := x189) (lv' := [(4, .int x189), (0, .ref b), (1, .ref x), (2, .ref mo), (3, .ref oo)]) hx hb dL_law_1187 hl (k := 0) rfl (by rw [ex189]; rfl) (by decide) rfl (fun ls hl => ?_)
      refine lv_goto (tgt := 23) hx hb dL_law_1190 (by decide) ?_
      refine W.widen (k := 60 + 2 * (j + 2)) (n := 600 + 12 * (j + 2)) (by omega) (by omega) ?_
      exact hback x189 u w187 f H locs ls hP hD hS (lv_sub hl [0, 1, 2, 3, 4] rfl) (by rw [ex189, ev4]; exact nI_add j 2) hw
    · replace hw := Eq.mp (if_neg c188) hw
      refine lv_iconst (v := 0) hx hb dL_law_1185 (by decide) ?_
      exact (hw : False).elim
  replace hw := Eq.mp (if_neg c2_29) hw
  refine lv_tableOut (tgt := 1187) hx hb dL_law_39 (goutN 30 (by decide) (lt_s (lt_s (lt_s (lt_s (lt_s (lt_s (lt_s (lt_s (lt_s (lt_s (lt_s (lt_s (lt_s (lt_s (lt_s (lt_s (lt_s (lt_s (lt_s (lt_s (lt_s (lt_s (lt_s (lt_s (lt_s (lt_s (lt_s (lt_s (lt_s (lt_s lt_0 c2_0) c2_1) c2_2) c2_3) c2_4) c2_5) c2_6) c2_7) c2_8) c2_9) c2_10) c2_11) c2_12) c2_13) c2_14) c2_15) c2_16) c2_17) c2_18) c2_19) c2_20) c2_21) c2_22) c2_23) c2_24) c2_25) c2_26) c2_27) c2_28) c2_29)) (by decide) ?_
  obtain ⟨x190, ex190⟩ : ∃ y : Int32, y = (v4 + 2) := ⟨_, rfl⟩
  replace hw := hw x190 ex190
  refine lv_iinc (v := x190) (lv' := [(4, .int x190), (0, .ref b), (1, .ref x), (2, .ref mo), (3, .ref oo)]) hx hb dL_law_1187 hl (k := 0) rfl (by rw [ex190]; rfl) (by decide) rfl (fun ls hl => ?_)
  refine lv_goto (tgt := 23) hx hb dL_law_1190 (by decide) ?_
  refine W.widen (k := 60 + 2 * (j + 2)) (n := 600 + 12 * (j + 2)) (by omega) (by omega) ?_
  exact hback x190 u v f H locs ls hP hD hS (lv_sub hl [0, 1, 2, 3, 4] rfl) (by rw [ex190, ev4]; exact nI_add j 2) hw
