def pL_c0 (v4 k1 : Int32) (u : SX) (v : SM) (f : Nat → Int64) (K : SX → SM → (Nat → Int64) → Prop) : Prop :=
  pL_give k1 u f (fun r3 w3 => (pX6_give k1 v (fun r4 w4 => (pX6_thrown w4 (fun r5 => (if r5 = r3 then (if r3 = 0 then (if (lg_cmp (w3.2 0) r4.toInt64) = 0 then (∀ x10 : Int32, x10 = (v4 + 2) → (K w3.1 w4 w3.2)) else False) else (∀ x8 : Int32, x8 = (v4 + 2) → (K w3.1 w4 w3.2))) else False))))))
def pL_c1 (v4 k1 : Int32) (u : SX) (v : SM) (f : Nat → Int64) (K : SX → SM → (Nat → Int64) → Prop) : Prop :=
  pL_place k1 u f (fun r11 w11 => (pX6_place k1 v (fun r12 w12 => (pX6_thrown w12 (fun r13 => (if r13 = r11 then (if r11 = 0 then (if r12 = 0 then (if (lg_cmp (w11.2 0) 0) = 0 then (∀ x19 : Int32, x19 = (v4 + 2) → (K w11.1 w12 w11.2)) else False) else (if (lg_cmp (w11.2 0) 1) = 0 then (∀ x21 : Int32, x21 = (v4 + 2) → (K w11.1 w12 w11.2)) else False)) else (∀ x16 : Int32, x16 = (v4 + 2) → (K w11.1 w12 w11.2))) else False))))))
def pL_c2 (v4 k1 : Int32) (u : SX) (v : SM) (f : Nat → Int64) (K : SX → SM → (Nat → Int64) → Prop) : Prop :=
  pL_restart k1 u f (fun r22 w22 => (pX6_restart k1 v (fun r23 w23 => (pX6_thrown w23 (fun r24 => (if r24 = r22 then (if r22 = 0 then (if (lg_cmp (w22.2 0) r23.toInt64) = 0 then (∀ x29 : Int32, x29 = (v4 + 2) → (K w22.1 w23 w22.2)) else False) else (∀ x27 : Int32, x27 = (v4 + 2) → (K w22.1 w23 w22.2))) else False))))))
def pL_c3 (v4 k1 : Int32) (u : SX) (v : SM) (f : Nat → Int64) (K : SX → SM → (Nat → Int64) → Prop) : Prop :=
  pL_type ((k1).toUInt32 % 65536).toInt32 u f (fun r30 w30 => (pX6_type ((k1).toUInt32 % 65536).toInt32 v (fun r31 w31 => (pX6_thrown w31 (fun r32 => (if r32 = r30 then (if r30 = 0 then (if (lg_cmp (w30.2 0) r31.toInt64) = 0 then (∀ x37 : Int32, x37 = (v4 + 2) → (K w30.1 w31 w30.2)) else False) else (∀ x35 : Int32, x35 = (v4 + 2) → (K w30.1 w31 w30.2))) else False))))))
set_option maxHeartbeats 4000000 in
set_option maxRecDepth 100000 in
theorem law_c0 {p : Program} {l : Launch} {e : Env} {s : State} {m : MethodId} {below : List Frame} {meth : Method} {c : Code} {D : va_G} {kI kC kG kJ : ClassId} {b L : Nat} {xs : Nat → Int32} (hlt : l.stackTraces = false) (hL : L ≤ 1024) (C0 : lw_At p s m meth c b L xs) (hK : va_K D vwCl (gT kI kC kG kJ) s) (hE : gE (fun q : Nat => s.heap.size ≤ q) s s.heap) {x : Nat} {ag at_ as_ : AG} {hh hst : Nat} {a0 a1 a2 a3 : AG} {tx tch : Nat} {mo m0 m1 m2 m3 m4 m5 m6 m7 : Nat} {oo : Nat} (K : SX → SM → (Nat → Int64) → Prop) (j : Nat) (hback : ∀ (v4 : Int32) (u : SX) (v : SM) (f : Nat → Int64) (H : Heap) (locs : List Loc) (ls : Array Slot), va_P D vwCl (wX kI kC kG x ag at_ as_ hh hst a0 a1 a2 a3 tx tch u ++ wM kI mo m0 m1 m2 m3 m4 m5 m6 m7 v ++ [(oo, .inl (kJ, 1, .inr (.inl f)))]) H → va_D (fun q : Nat => s.heap.size ≤ q) (wX kI kC kG x ag at_ as_ hh hst a0 a1 a2 a3 tx tch u ++ wM kI mo m0 m1 m2 m3 m4 m5 m6 m7 v ++ [(oo, .inl (kJ, 1, .inr (.inl f)))]) → va_S (fun q : Nat => s.heap.size ≤ q) s.heap H locs → lv_has ls 7 [(4, .int v4), (0, .ref b), (1, .ref x), (2, .ref mo), (3, .ref oo)] → v4 = nI (j + 2) → K u v f → W p l e room_1 s m #[Value.ref b] below meth c H locs (60 + 2 * (j + 2)) (600 + 12 * (j + 2)) (lw_Z below #[Value.ref b] s) (F0 m 23 ls [])) (v4 : Int32) (ev4 : v4 = nI j) (hj : j + 2 ≤ L) (u : SX) (v : SM) (f : Nat → Int64) (H : Heap) (locs : List Loc) (ls : Array Slot) : va_P D vwCl (wX kI kC kG x ag at_ as_ hh hst a0 a1 a2 a3 tx tch u ++ wM kI mo m0 m1 m2 m3 m4 m5 m6 m7 v ++ [(oo, .inl (kJ, 1, .inr (.inl f)))]) H → va_D (fun q : Nat => s.heap.size ≤ q) (wX kI kC kG x ag at_ as_ hh hst a0 a1 a2 a3 tx tch u ++ wM kI mo m0 m1 m2 m3 m4 m5 m6 m7 v ++ [(oo, .inl (kJ, 1, .inr (.inl f)))]) → va_S (fun q : Nat => s.heap.size ≤ q) s.heap H locs → lv_has ls 7 [(4, .int v4), (0, .ref b), (1, .ref x), (2, .ref mo), (3, .ref oo)] → pL_c0 v4 (xs ((v4 + 1)).toNatClampNeg) u v f K → W p l e room_1 s m #[Value.ref b] below meth c H locs (60 + 2 * j) (600 + 12 * j) (lw_Z below #[Value.ref b] s) (F0 m 172 ls []) := by
  intro hP hD hS hl hw
  obtain ⟨hx, hb, hr, hml, hown, hts0, hX, hbl, hlocks, hgv⟩ := id C0
  have hown : s.vm.findClass RL = some m.cls := hown
  have hts : ∀ w ∈ wsL_law, w.before #[Value.ref b] s = true := fun w h => hts0 w (wsL_law_in w h)
  have hA : ∀ q : Nat, s.heap.size ≤ q → (fun q : Nat => s.heap.size ≤ q) q := fun _ h => h
  have hbA : ¬ (fun q : Nat => s.heap.size ≤ q) b := Nat.not_le.mpr hbl
  have hi0 : vp_in v4 L := by rw [ev4]; exact vp_in_nI (by omega) (by omega)
  have hi1 : vp_in (v4 + 1) L := by rw [ev4, nI_1]; exact vp_in_nI (by omega) (by omega)
  unfold pL_c0 at hw
  refine lv_aload_n hx hb dL_law_172 rfl (lv_at hl 2 rfl) ?_
  refine lv_aload_n hx hb dL_law_173 rfl (lv_at hl 1 rfl) ?_
  refine lv_iload hx hb dL_law_174 (lv_at hl 0 rfl) ?_
  refine lv_iconst (v := 1) hx hb dL_law_176 (by decide) ?_
  refine lv_iadd hx hb dL_law_177 ?_
  refine va_sld hx hb hX hbl hbA hS hi1 dL_law_178 ?_
  refine lv_aload_n hx hb dL_law_179 rfl (lv_at hl 4 rfl) ?_
  refine gLSi (mc := 2) (ms := 12) (S := SX × (Nat → Int64)) (As := [.ref x, .int (xs ((v4 + 1)).toNatClampNeg), .ref oo]) (rest := []) (wc := wX kI kC kG x ag at_ as_ hh hst a0 a1 a2 a3 tx tch u ++ [(oo, .inl (kJ, 1, .inr (.inl f)))]) (wr := wM kI mo m0 m1 m2 m3 m4 m5 m6 m7 v) (cs1 := (fun zz : SX × (Nat → Int64) => wX kI kC kG x ag at_ as_ hh hst a0 a1 a2 a3 tx tch zz.1 ++ [(oo, .inl (kJ, 1, .inr (.inl zz.2)))])) (ws2 := (fun zz : SX × (Nat → Int64) => wX kI kC kG x ag at_ as_ hh hst a0 a1 a2 a3 tx tch zz.1 ++ wM kI mo m0 m1 m2 m3 m4 m5 m6 m7 v ++ [(oo, .inl (kJ, 1, .inr (.inl zz.2)))])) ⟨hx, hb, hml, hown, hts⟩ (fun sz => kL_give l D kI kC kG kJ hlt x ag at_ as_ hh hst a0 a1 a2 a3 tx tch oo sz u f (xs ((v4 + 1)).toNatClampNeg) _ hw) (vx_cwSW 3 hts gL_law_L_give rfl rfl rfl hdL_give ⟨Nat.le_of_ble_eq_true rfl, Nat.le_of_ble_eq_true rfl⟩) hK hP hD hE hS hA [0, 1, 2, 3, 4, 5, 6, 7, 8, 9, 10, 11, 12, 13, 14, 15, 16, 17, 18, 19, 20, 21, 22, 23, 24, 25, 26, 27, 28, 29, 30, 31, 32, 42] [33, 34, 35, 36, 37, 38, 39, 40, 41] rfl rfl rfl rfl (by decide) [9, 10, 11, 12, 13, 14, 15, 16, 17, 18, 19, 20, 21, 22, 23, 24, 25, 26, 27, 28, 29, 30, 31, 32, 33, 34, 35, 36, 37, 38, 39, 40, 41, 0, 1, 2, 3, 4, 5, 6, 7, 8, 42] rfl (fun _ => rfl) rfl hl.1 rfl (Nat.le_of_ble_eq_true rfl) dL_law_180 (gr1 (by omega)) (fun r3 w3 H locs hw hP hD hS => ?_)
  have hP : va_P D vwCl (wX kI kC kG x ag at_ as_ hh hst a0 a1 a2 a3 tx tch w3.1 ++ wM kI mo m0 m1 m2 m3 m4 m5 m6 m7 v ++ [(oo, .inl (kJ, 1, .inr (.inl w3.2)))]) H := hP
  have hD : va_D (fun q : Nat => s.heap.size ≤ q) (wX kI kC kG x ag at_ as_ hh hst a0 a1 a2 a3 tx tch w3.1 ++ wM kI mo m0 m1 m2 m3 m4 m5 m6 m7 v ++ [(oo, .inl (kJ, 1, .inr (.inl w3.2)))]) := hD
  refine lv_istore (lv' := [(5, .int r3), (4, .int v4), (0, .ref b), (1, .ref x), (2, .ref mo), (3, .ref oo)]) hx hb dL_law_183 hl (by decide) rfl (fun ls hl => ?_)
  refine lv_aload_n hx hb dL_law_185 rfl (lv_at hl 4 rfl) ?_
  refine lv_aload_n hx hb dL_law_186 rfl (lv_at hl 2 rfl) ?_
  refine lv_iload hx hb dL_law_187 (lv_at hl 1 rfl) ?_
  refine lv_iconst (v := 1) hx hb dL_law_189 (by decide) ?_
  refine lv_iadd hx hb dL_law_190 ?_
  refine va_sld hx hb hX hbl hbA hS hi1 dL_law_191 ?_
  refine gWVi (S := SM) (As := [.int (xs ((v4 + 1)).toNatClampNeg)]) (rest := []) (wc := wM kI mo m0 m1 m2 m3 m4 m5 m6 m7 v) (wr := [(x, .inr (4, [.ref ag.1, .ref at_.1, .ref as_.1, .int w3.1.1, .ref hh, .ref tx]))] ++ wG kI ag w3.1.2.1 ++ wG kI at_ w3.1.2.2.1 ++ wG kI as_ w3.1.2.2.2.1 ++ [(hh, .inr (2, [.ref hst, .int w3.1.2.2.2.2.1.1, .int w3.1.2.2.2.2.1.2.1])), (hst, .inl (kG, 4, .inr (.inr (.inr (.inr (fH a0 a1 a2 a3))))))] ++ wG kI a0 w3.1.2.2.2.2.1.2.2.1 ++ wG kI a1 w3.1.2.2.2.2.1.2.2.2.1 ++ wG kI a2 w3.1.2.2.2.2.1.2.2.2.2.1 ++ wG kI a3 w3.1.2.2.2.2.1.2.2.2.2.2 ++ wT kC tx tch w3.1.2.2.2.2.2 ++ [(oo, .inl (kJ, 1, .inr (.inl w3.2)))]) (cs1 := (fun zz : SM => wM kI mo m0 m1 m2 m3 m4 m5 m6 m7 zz)) (ws2 := (fun zz : SM => wX kI kC kG x ag at_ as_ hh hst a0 a1 a2 a3 tx tch w3.1 ++ wM kI mo m0 m1 m2 m3 m4 m5 m6 m7 zz ++ [(oo, .inl (kJ, 1, .inr (.inl w3.2)))])) ⟨hx, hb, hml, hown, hts⟩ (fun sz => kX6_give l D kI kC kG kJ mo m0 m1 m2 m3 m4 m5 m6 m7 sz v (xs ((v4 + 1)).toNatClampNeg) _ hw) (cwV 1 hts gL_law_X6_give rfl rfl rfl hdX6_give ⟨Nat.le_of_ble_eq_true rfl, Nat.le_of_ble_eq_true rfl⟩) hK hP hD hE hS hA [33, 34, 35, 36, 37, 38, 39, 40, 41] [0, 1, 2, 3, 4, 5, 6, 7, 8, 9, 10, 11, 12, 13, 14, 15, 16, 17, 18, 19, 20, 21, 22, 23, 24, 25, 26, 27, 28, 29, 30, 31, 32, 42] rfl rfl rfl rfl (by decide) [0, 1, 2, 3, 4, 5, 6, 7, 8, 9, 10, 11, 12, 13, 14, 15, 16, 17, 18, 19, 20, 21, 22, 23, 24, 25, 26, 27, 28, 29, 30, 31, 32, 34, 35, 36, 37, 38, 39, 40, 41, 42, 33] rfl (fun _ => rfl) (ci := 5) (q0 := 0) rfl rfl rfl rfl hl.1 rfl (Nat.le_of_ble_eq_true rfl) dL_law_192 (gr1 (by omega)) (fun r4 w4 H locs hw hP hD hS => ?_)
  have hP : va_P D vwCl (wX kI kC kG x ag at_ as_ hh hst a0 a1 a2 a3 tx tch w3.1 ++ wM kI mo m0 m1 m2 m3 m4 m5 m6 m7 w4 ++ [(oo, .inl (kJ, 1, .inr (.inl w3.2)))]) H := hP
  have hD : va_D (fun q : Nat => s.heap.size ≤ q) (wX kI kC kG x ag at_ as_ hh hst a0 a1 a2 a3 tx tch w3.1 ++ wM kI mo m0 m1 m2 m3 m4 m5 m6 m7 w4 ++ [(oo, .inl (kJ, 1, .inr (.inl w3.2)))]) := hD
  refine lv_istore (lv' := [(6, .int r4), (5, .int r3), (4, .int v4), (0, .ref b), (1, .ref x), (2, .ref mo), (3, .ref oo)]) hx hb dL_law_195 hl (by decide) rfl (fun ls hl => ?_)
  refine lv_aload_n hx hb dL_law_197 rfl (lv_at hl 5 rfl) ?_
  refine gVi (As := []) (rest := []) (cs' := wM kI mo m0 m1 m2 m3 m4 m5 m6 m7 w4) ⟨hx, hb, hml, hown, hts⟩ (kX6_thrown l D kI kC kG kJ mo m0 m1 m2 m3 m4 m5 m6 m7 w4 _ hw) (cwV 0 hts gL_law_X6_thrown rfl rfl rfl hdX6_thrown ⟨Nat.le_of_ble_eq_true rfl, Nat.le_of_ble_eq_true rfl⟩) hK hP hE hS [33, 34, 35, 36, 37, 38, 39, 40, 41] rfl (ci := 5) (q0 := 0) rfl rfl rfl rfl hl.1 rfl (Nat.le_of_ble_eq_true rfl) dL_law_198 (gr1 (by omega)) (fun r5 hw => ?_)
  refine lv_iload hx hb dL_law_201 (lv_at hl 1 rfl) ?_
  refine lv_icmp_eq (tgt := 208) hx hb dL_law_203 (by decide) (fun c6 => ?_) (fun c6 => ?_)
  · replace hw := Eq.mp (if_pos c6) hw
    refine lv_iload hx hb dL_law_208 (lv_at hl 1 rfl) ?_
    refine lv_if_ne (tgt := 225) hx hb dL_law_210 (by decide) (fun c7 => ?_) (fun c7 => ?_)
    · replace hw := Eq.mp (if_neg c7) hw
      refine lv_goto (tgt := 1187) hx hb dL_law_225 (by decide) ?_
      obtain ⟨x8, ex8⟩ : ∃ y : Int32, y = (v4 + 2) := ⟨_, rfl⟩
      replace hw := hw x8 ex8
      refine lv_iinc (v := x8) (lv' := [(4, .int x8), (6, .int r4), (5, .int r3), (0, .ref b), (1, .ref x), (2, .ref mo), (3, .ref oo)]) hx hb dL_law_1187 hl (k := 2) rfl (by rw [ex8]; rfl) (by decide) rfl (fun ls hl => ?_)
      refine lv_goto (tgt := 23) hx hb dL_law_1190 (by decide) ?_
      refine W.widen (k := 60 + 2 * (j + 2)) (n := 600 + 12 * (j + 2)) (by omega) (by omega) ?_
      exact hback x8 w3.1 w4 w3.2 H locs ls hP hD hS (lv_sub hl [0, 3, 4, 5, 6] rfl) (by rw [ex8, ev4]; exact nI_add j 2) hw
    · replace hw := Eq.mp (if_pos c7) hw
      refine lv_aload_n hx hb dL_law_213 rfl (lv_at hl 6 rfl) ?_
      refine lv_iconst (v := 0) hx hb dL_law_214 (by decide) ?_
      refine gLald (k := 0) hx hb hK hP 42 3 rfl rfl (gin (by decide)) (by decide) dL_law_215 ?_
      refine lv_iload hx hb dL_law_216 (lv_at hl 0 rfl) ?_
      refine lv_i2l (v := r4.toInt64) hx hb dL_law_218 rfl ?_
      refine W.lcmp hx hb dL_law_219 ?_
      refine lv_if_eq (tgt := 225) hx hb dL_law_220 (by decide) (fun c9 => ?_) (fun c9 => ?_)
      · replace hw := Eq.mp (if_pos c9) hw
        refine lv_goto (tgt := 1187) hx hb dL_law_225 (by decide) ?_
        obtain ⟨x10, ex10⟩ : ∃ y : Int32, y = (v4 + 2) := ⟨_, rfl⟩
        replace hw := hw x10 ex10
        refine lv_iinc (v := x10) (lv' := [(4, .int x10), (6, .int r4), (5, .int r3), (0, .ref b), (1, .ref x), (2, .ref mo), (3, .ref oo)]) hx hb dL_law_1187 hl (k := 2) rfl (by rw [ex10]; rfl) (by decide) rfl (fun ls hl => ?_)
        refine lv_goto (tgt := 23) hx hb dL_law_1190 (by decide) ?_
        refine W.widen (k := 60 + 2 * (j + 2)) (n := 600 + 12 * (j + 2)) (by omega) (by omega) ?_
        exact hback x10 w3.1 w4 w3.2 H locs ls hP hD hS (lv_sub hl [0, 3, 4, 5, 6] rfl) (by rw [ex10, ev4]; exact nI_add j 2) hw
      · replace hw := Eq.mp (if_neg c9) hw
        refine lv_iconst (v := 0) hx hb dL_law_223 (by decide) ?_
        exact (hw : False).elim
  · replace hw := Eq.mp (if_neg c6) hw
    refine lv_iconst (v := 0) hx hb dL_law_206 (by decide) ?_
    exact (hw : False).elim
set_option maxHeartbeats 4000000 in
set_option maxRecDepth 100000 in
theorem law_c1 {p : Program} {l : Launch} {e : Env} {s : State} {m : MethodId} {below : List Frame} {meth : Method} {c : Code} {D : va_G} {kI kC kG kJ : ClassId} {b L : Nat} {xs : Nat → Int32} (hlt : l.stackTraces = false) (hL : L ≤ 1024) (C0 : lw_At p s m meth c b L xs) (hK : va_K D vwCl (gT kI kC kG kJ) s) (hE : gE (fun q : Nat => s.heap.size ≤ q) s s.heap) {x : Nat} {ag at_ as_ : AG} {hh hst : Nat} {a0 a1 a2 a3 : AG} {tx tch : Nat} {mo m0 m1 m2 m3 m4 m5 m6 m7 : Nat} {oo : Nat} (K : SX → SM → (Nat → Int64) → Prop) (j : Nat) (hback : ∀ (v4 : Int32) (u : SX) (v : SM) (f : Nat → Int64) (H : Heap) (locs : List Loc) (ls : Array Slot), va_P D vwCl (wX kI kC kG x ag at_ as_ hh hst a0 a1 a2 a3 tx tch u ++ wM kI mo m0 m1 m2 m3 m4 m5 m6 m7 v ++ [(oo, .inl (kJ, 1, .inr (.inl f)))]) H → va_D (fun q : Nat => s.heap.size ≤ q) (wX kI kC kG x ag at_ as_ hh hst a0 a1 a2 a3 tx tch u ++ wM kI mo m0 m1 m2 m3 m4 m5 m6 m7 v ++ [(oo, .inl (kJ, 1, .inr (.inl f)))]) → va_S (fun q : Nat => s.heap.size ≤ q) s.heap H locs → lv_has ls 7 [(4, .int v4), (0, .ref b), (1, .ref x), (2, .ref mo), (3, .ref oo)] → v4 = nI (j + 2) → K u v f → W p l e room_1 s m #[Value.ref b] below meth c H locs (60 + 2 * (j + 2)) (600 + 12 * (j + 2)) (lw_Z below #[Value.ref b] s) (F0 m 23 ls [])) (v4 : Int32) (ev4 : v4 = nI j) (hj : j + 2 ≤ L) (u : SX) (v : SM) (f : Nat → Int64) (H : Heap) (locs : List Loc) (ls : Array Slot) : va_P D vwCl (wX kI kC kG x ag at_ as_ hh hst a0 a1 a2 a3 tx tch u ++ wM kI mo m0 m1 m2 m3 m4 m5 m6 m7 v ++ [(oo, .inl (kJ, 1, .inr (.inl f)))]) H → va_D (fun q : Nat => s.heap.size ≤ q) (wX kI kC kG x ag at_ as_ hh hst a0 a1 a2 a3 tx tch u ++ wM kI mo m0 m1 m2 m3 m4 m5 m6 m7 v ++ [(oo, .inl (kJ, 1, .inr (.inl f)))]) → va_S (fun q : Nat => s.heap.size ≤ q) s.heap H locs → lv_has ls 7 [(4, .int v4), (0, .ref b), (1, .ref x), (2, .ref mo), (3, .ref oo)] → pL_c1 v4 (xs ((v4 + 1)).toNatClampNeg) u v f K → W p l e room_1 s m #[Value.ref b] below meth c H locs (60 + 2 * j) (600 + 12 * j) (lw_Z below #[Value.ref b] s) (F0 m 228 ls []) := by
  intro hP hD hS hl hw
  obtain ⟨hx, hb, hr, hml, hown, hts0, hX, hbl, hlocks, hgv⟩ := id C0
  have hown : s.vm.findClass RL = some m.cls := hown
  have hts : ∀ w ∈ wsL_law, w.before #[Value.ref b] s = true := fun w h => hts0 w (wsL_law_in w h)
  have hA : ∀ q : Nat, s.heap.size ≤ q → (fun q : Nat => s.heap.size ≤ q) q := fun _ h => h
  have hbA : ¬ (fun q : Nat => s.heap.size ≤ q) b := Nat.not_le.mpr hbl
  have hi0 : vp_in v4 L := by rw [ev4]; exact vp_in_nI (by omega) (by omega)
  have hi1 : vp_in (v4 + 1) L := by rw [ev4, nI_1]; exact vp_in_nI (by omega) (by omega)
  unfold pL_c1 at hw
  refine lv_aload_n hx hb dL_law_228 rfl (lv_at hl 2 rfl) ?_
  refine lv_aload_n hx hb dL_law_229 rfl (lv_at hl 1 rfl) ?_
  refine lv_iload hx hb dL_law_230 (lv_at hl 0 rfl) ?_
  refine lv_iconst (v := 1) hx hb dL_law_232 (by decide) ?_
  refine lv_iadd hx hb dL_law_233 ?_
  refine va_sld hx hb hX hbl hbA hS hi1 dL_law_234 ?_
  refine lv_aload_n hx hb dL_law_235 rfl (lv_at hl 4 rfl) ?_
  refine gLSi (mc := 2) (ms := 12) (S := SX × (Nat → Int64)) (As := [.ref x, .int (xs ((v4 + 1)).toNatClampNeg), .ref oo]) (rest := []) (wc := wX kI kC kG x ag at_ as_ hh hst a0 a1 a2 a3 tx tch u ++ [(oo, .inl (kJ, 1, .inr (.inl f)))]) (wr := wM kI mo m0 m1 m2 m3 m4 m5 m6 m7 v) (cs1 := (fun zz : SX × (Nat → Int64) => wX kI kC kG x ag at_ as_ hh hst a0 a1 a2 a3 tx tch zz.1 ++ [(oo, .inl (kJ, 1, .inr (.inl zz.2)))])) (ws2 := (fun zz : SX × (Nat → Int64) => wX kI kC kG x ag at_ as_ hh hst a0 a1 a2 a3 tx tch zz.1 ++ wM kI mo m0 m1 m2 m3 m4 m5 m6 m7 v ++ [(oo, .inl (kJ, 1, .inr (.inl zz.2)))])) ⟨hx, hb, hml, hown, hts⟩ (fun sz => kL_place l D kI kC kG kJ hlt x ag at_ as_ hh hst a0 a1 a2 a3 tx tch oo sz u f (xs ((v4 + 1)).toNatClampNeg) _ hw) (vx_cwSW 3 hts gL_law_L_place rfl rfl rfl hdL_place ⟨Nat.le_of_ble_eq_true rfl, Nat.le_of_ble_eq_true rfl⟩) hK hP hD hE hS hA [0, 1, 2, 3, 4, 5, 6, 7, 8, 9, 10, 11, 12, 13, 14, 15, 16, 17, 18, 19, 20, 21, 22, 23, 24, 25, 26, 27, 28, 29, 30, 31, 32, 42] [33, 34, 35, 36, 37, 38, 39, 40, 41] rfl rfl rfl rfl (by decide) [9, 10, 11, 12, 13, 14, 15, 16, 17, 18, 19, 20, 21, 22, 23, 24, 25, 26, 27, 28, 29, 30, 31, 32, 33, 34, 35, 36, 37, 38, 39, 40, 41, 0, 1, 2, 3, 4, 5, 6, 7, 8, 42] rfl (fun _ => rfl) rfl hl.1 rfl (Nat.le_of_ble_eq_true rfl) dL_law_236 (gr1 (by omega)) (fun r11 w11 H locs hw hP hD hS => ?_)
  have hP : va_P D vwCl (wX kI kC kG x ag at_ as_ hh hst a0 a1 a2 a3 tx tch w11.1 ++ wM kI mo m0 m1 m2 m3 m4 m5 m6 m7 v ++ [(oo, .inl (kJ, 1, .inr (.inl w11.2)))]) H := hP
  have hD : va_D (fun q : Nat => s.heap.size ≤ q) (wX kI kC kG x ag at_ as_ hh hst a0 a1 a2 a3 tx tch w11.1 ++ wM kI mo m0 m1 m2 m3 m4 m5 m6 m7 v ++ [(oo, .inl (kJ, 1, .inr (.inl w11.2)))]) := hD
  refine lv_istore (lv' := [(5, .int r11), (4, .int v4), (0, .ref b), (1, .ref x), (2, .ref mo), (3, .ref oo)]) hx hb dL_law_239 hl (by decide) rfl (fun ls hl => ?_)
  refine lv_aload_n hx hb dL_law_241 rfl (lv_at hl 4 rfl) ?_
  refine lv_aload_n hx hb dL_law_242 rfl (lv_at hl 2 rfl) ?_
  refine lv_iload hx hb dL_law_243 (lv_at hl 1 rfl) ?_
  refine lv_iconst (v := 1) hx hb dL_law_245 (by decide) ?_
  refine lv_iadd hx hb dL_law_246 ?_
  refine va_sld hx hb hX hbl hbA hS hi1 dL_law_247 ?_
  refine gWVi (S := SM) (As := [.int (xs ((v4 + 1)).toNatClampNeg)]) (rest := []) (wc := wM kI mo m0 m1 m2 m3 m4 m5 m6 m7 v) (wr := [(x, .inr (4, [.ref ag.1, .ref at_.1, .ref as_.1, .int w11.1.1, .ref hh, .ref tx]))] ++ wG kI ag w11.1.2.1 ++ wG kI at_ w11.1.2.2.1 ++ wG kI as_ w11.1.2.2.2.1 ++ [(hh, .inr (2, [.ref hst, .int w11.1.2.2.2.2.1.1, .int w11.1.2.2.2.2.1.2.1])), (hst, .inl (kG, 4, .inr (.inr (.inr (.inr (fH a0 a1 a2 a3))))))] ++ wG kI a0 w11.1.2.2.2.2.1.2.2.1 ++ wG kI a1 w11.1.2.2.2.2.1.2.2.2.1 ++ wG kI a2 w11.1.2.2.2.2.1.2.2.2.2.1 ++ wG kI a3 w11.1.2.2.2.2.1.2.2.2.2.2 ++ wT kC tx tch w11.1.2.2.2.2.2 ++ [(oo, .inl (kJ, 1, .inr (.inl w11.2)))]) (cs1 := (fun zz : SM => wM kI mo m0 m1 m2 m3 m4 m5 m6 m7 zz)) (ws2 := (fun zz : SM => wX kI kC kG x ag at_ as_ hh hst a0 a1 a2 a3 tx tch w11.1 ++ wM kI mo m0 m1 m2 m3 m4 m5 m6 m7 zz ++ [(oo, .inl (kJ, 1, .inr (.inl w11.2)))])) ⟨hx, hb, hml, hown, hts⟩ (fun sz => kX6_place l D kI kC kG kJ mo m0 m1 m2 m3 m4 m5 m6 m7 sz v (xs ((v4 + 1)).toNatClampNeg) _ hw) (cwV 1 hts gL_law_X6_place rfl rfl rfl hdX6_place ⟨Nat.le_of_ble_eq_true rfl, Nat.le_of_ble_eq_true rfl⟩) hK hP hD hE hS hA [33, 34, 35, 36, 37, 38, 39, 40, 41] [0, 1, 2, 3, 4, 5, 6, 7, 8, 9, 10, 11, 12, 13, 14, 15, 16, 17, 18, 19, 20, 21, 22, 23, 24, 25, 26, 27, 28, 29, 30, 31, 32, 42] rfl rfl rfl rfl (by decide) [0, 1, 2, 3, 4, 5, 6, 7, 8, 9, 10, 11, 12, 13, 14, 15, 16, 17, 18, 19, 20, 21, 22, 23, 24, 25, 26, 27, 28, 29, 30, 31, 32, 34, 35, 36, 37, 38, 39, 40, 41, 42, 33] rfl (fun _ => rfl) (ci := 5) (q0 := 0) rfl rfl rfl rfl hl.1 rfl (Nat.le_of_ble_eq_true rfl) dL_law_248 (gr1 (by omega)) (fun r12 w12 H locs hw hP hD hS => ?_)
  have hP : va_P D vwCl (wX kI kC kG x ag at_ as_ hh hst a0 a1 a2 a3 tx tch w11.1 ++ wM kI mo m0 m1 m2 m3 m4 m5 m6 m7 w12 ++ [(oo, .inl (kJ, 1, .inr (.inl w11.2)))]) H := hP
  have hD : va_D (fun q : Nat => s.heap.size ≤ q) (wX kI kC kG x ag at_ as_ hh hst a0 a1 a2 a3 tx tch w11.1 ++ wM kI mo m0 m1 m2 m3 m4 m5 m6 m7 w12 ++ [(oo, .inl (kJ, 1, .inr (.inl w11.2)))]) := hD
  refine lv_istore (lv' := [(6, .int r12), (5, .int r11), (4, .int v4), (0, .ref b), (1, .ref x), (2, .ref mo), (3, .ref oo)]) hx hb dL_law_251 hl (by decide) rfl (fun ls hl => ?_)
  refine lv_aload_n hx hb dL_law_253 rfl (lv_at hl 5 rfl) ?_
  refine gVi (As := []) (rest := []) (cs' := wM kI mo m0 m1 m2 m3 m4 m5 m6 m7 w12) ⟨hx, hb, hml, hown, hts⟩ (kX6_thrown l D kI kC kG kJ mo m0 m1 m2 m3 m4 m5 m6 m7 w12 _ hw) (cwV 0 hts gL_law_X6_thrown rfl rfl rfl hdX6_thrown ⟨Nat.le_of_ble_eq_true rfl, Nat.le_of_ble_eq_true rfl⟩) hK hP hE hS [33, 34, 35, 36, 37, 38, 39, 40, 41] rfl (ci := 5) (q0 := 0) rfl rfl rfl rfl hl.1 rfl (Nat.le_of_ble_eq_true rfl) dL_law_254 (gr1 (by omega)) (fun r13 hw => ?_)
  refine lv_iload hx hb dL_law_257 (lv_at hl 1 rfl) ?_
  refine lv_icmp_eq (tgt := 264) hx hb dL_law_259 (by decide) (fun c14 => ?_) (fun c14 => ?_)
  · replace hw := Eq.mp (if_pos c14) hw
    refine lv_iload hx hb dL_law_264 (lv_at hl 1 rfl) ?_
    refine lv_if_ne (tgt := 288) hx hb dL_law_266 (by decide) (fun c15 => ?_) (fun c15 => ?_)
    · replace hw := Eq.mp (if_neg c15) hw
      refine lv_goto (tgt := 1187) hx hb dL_law_288 (by decide) ?_
      obtain ⟨x16, ex16⟩ : ∃ y : Int32, y = (v4 + 2) := ⟨_, rfl⟩
      replace hw := hw x16 ex16
      refine lv_iinc (v := x16) (lv' := [(4, .int x16), (6, .int r12), (5, .int r11), (0, .ref b), (1, .ref x), (2, .ref mo), (3, .ref oo)]) hx hb dL_law_1187 hl (k := 2) rfl (by rw [ex16]; rfl) (by decide) rfl (fun ls hl => ?_)
      refine lv_goto (tgt := 23) hx hb dL_law_1190 (by decide) ?_
      refine W.widen (k := 60 + 2 * (j + 2)) (n := 600 + 12 * (j + 2)) (by omega) (by omega) ?_
      exact hback x16 w11.1 w12 w11.2 H locs ls hP hD hS (lv_sub hl [0, 3, 4, 5, 6] rfl) (by rw [ex16, ev4]; exact nI_add j 2) hw
    · replace hw := Eq.mp (if_pos c15) hw
      refine lv_aload_n hx hb dL_law_269 rfl (lv_at hl 6 rfl) ?_
      refine lv_iconst (v := 0) hx hb dL_law_270 (by decide) ?_
      refine gLald (k := 0) hx hb hK hP 42 3 rfl rfl (gin (by decide)) (by decide) dL_law_271 ?_
      refine lv_iload hx hb dL_law_272 (lv_at hl 0 rfl) ?_
      refine lv_if_eq (tgt := 281) hx hb dL_law_274 (by decide) (fun c17 => ?_) (fun c17 => ?_)
      · replace hw := Eq.mp (if_pos c17) hw
        refine lv_lconst (v := 0) hx hb dL_law_281 (by decide) ?_
        refine W.lcmp hx hb dL_law_282 ?_
        refine lv_if_eq (tgt := 288) hx hb dL_law_283 (by decide) (fun c18 => ?_) (fun c18 => ?_)
        · replace hw := Eq.mp (if_pos c18) hw
          refine lv_goto (tgt := 1187) hx hb dL_law_288 (by decide) ?_
          obtain ⟨x19, ex19⟩ : ∃ y : Int32, y = (v4 + 2) := ⟨_, rfl⟩
          replace hw := hw x19 ex19
          refine lv_iinc (v := x19) (lv' := [(4, .int x19), (6, .int r12), (5, .int r11), (0, .ref b), (1, .ref x), (2, .ref mo), (3, .ref oo)]) hx hb dL_law_1187 hl (k := 2) rfl (by rw [ex19]; rfl) (by decide) rfl (fun ls hl => ?_)
          refine lv_goto (tgt := 23) hx hb dL_law_1190 (by decide) ?_
          refine W.widen (k := 60 + 2 * (j + 2)) (n := 600 + 12 * (j + 2)) (by omega) (by omega) ?_
          exact hback x19 w11.1 w12 w11.2 H locs ls hP hD hS (lv_sub hl [0, 3, 4, 5, 6] rfl) (by rw [ex19, ev4]; exact nI_add j 2) hw
        · replace hw := Eq.mp (if_neg c18) hw
          refine lv_iconst (v := 0) hx hb dL_law_286 (by decide) ?_
          exact (hw : False).elim
      · replace hw := Eq.mp (if_neg c17) hw
        refine lv_lconst (v := 1) hx hb dL_law_277 (by decide) ?_
        refine lv_goto (tgt := 282) hx hb dL_law_278 (by decide) ?_
        refine W.lcmp hx hb dL_law_282 ?_
        refine lv_if_eq (tgt := 288) hx hb dL_law_283 (by decide) (fun c20 => ?_) (fun c20 => ?_)
        · replace hw := Eq.mp (if_pos c20) hw
          refine lv_goto (tgt := 1187) hx hb dL_law_288 (by decide) ?_
          obtain ⟨x21, ex21⟩ : ∃ y : Int32, y = (v4 + 2) := ⟨_, rfl⟩
          replace hw := hw x21 ex21
          refine lv_iinc (v := x21) (lv' := [(4, .int x21), (6, .int r12), (5, .int r11), (0, .ref b), (1, .ref x), (2, .ref mo), (3, .ref oo)]) hx hb dL_law_1187 hl (k := 2) rfl (by rw [ex21]; rfl) (by decide) rfl (fun ls hl => ?_)
          refine lv_goto (tgt := 23) hx hb dL_law_1190 (by decide) ?_
          refine W.widen (k := 60 + 2 * (j + 2)) (n := 600 + 12 * (j + 2)) (by omega) (by omega) ?_
          exact hback x21 w11.1 w12 w11.2 H locs ls hP hD hS (lv_sub hl [0, 3, 4, 5, 6] rfl) (by rw [ex21, ev4]; exact nI_add j 2) hw
        · replace hw := Eq.mp (if_neg c20) hw
          refine lv_iconst (v := 0) hx hb dL_law_286 (by decide) ?_
          exact (hw : False).elim
  · replace hw := Eq.mp (if_neg c14) hw
    refine lv_iconst (v := 0) hx hb dL_law_262 (by decide) ?_
    exact (hw : False).elim
set_option maxHeartbeats 4000000 in
set_option maxRecDepth 100000 in
theorem law_c2 {p : Program} {l : Launch} {e : Env} {s : State} {m : MethodId} {below : List Frame} {meth : Method} {c : Code} {D : va_G} {kI kC kG kJ : ClassId} {b L : Nat} {xs : Nat → Int32} (hlt : l.stackTraces = false) (hL : L ≤ 1024) (C0 : lw_At p s m meth c b L xs) (hK : va_K D vwCl (gT kI kC kG kJ) s) (hE : gE (fun q : Nat => s.heap.size ≤ q) s s.heap) {x : Nat} {ag at_ as_ : AG} {hh hst : Nat} {a0 a1 a2 a3 : AG} {tx tch : Nat} {mo m0 m1 m2 m3 m4 m5 m6 m7 : Nat} {oo : Nat} (K : SX → SM → (Nat → Int64) → Prop) (j : Nat) (hback : ∀ (v4 : Int32) (u : SX) (v : SM) (f : Nat → Int64) (H : Heap) (locs : List Loc) (ls : Array Slot), va_P D vwCl (wX kI kC kG x ag at_ as_ hh hst a0 a1 a2 a3 tx tch u ++ wM kI mo m0 m1 m2 m3 m4 m5 m6 m7 v ++ [(oo, .inl (kJ, 1, .inr (.inl f)))]) H → va_D (fun q : Nat => s.heap.size ≤ q) (wX kI kC kG x ag at_ as_ hh hst a0 a1 a2 a3 tx tch u ++ wM kI mo m0 m1 m2 m3 m4 m5 m6 m7 v ++ [(oo, .inl (kJ, 1, .inr (.inl f)))]) → va_S (fun q : Nat => s.heap.size ≤ q) s.heap H locs → lv_has ls 7 [(4, .int v4), (0, .ref b), (1, .ref x), (2, .ref mo), (3, .ref oo)] → v4 = nI (j + 2) → K u v f → W p l e room_1 s m #[Value.ref b] below meth c H locs (60 + 2 * (j + 2)) (600 + 12 * (j + 2)) (lw_Z below #[Value.ref b] s) (F0 m 23 ls [])) (v4 : Int32) (ev4 : v4 = nI j) (hj : j + 2 ≤ L) (u : SX) (v : SM) (f : Nat → Int64) (H : Heap) (locs : List Loc) (ls : Array Slot) : va_P D vwCl (wX kI kC kG x ag at_ as_ hh hst a0 a1 a2 a3 tx tch u ++ wM kI mo m0 m1 m2 m3 m4 m5 m6 m7 v ++ [(oo, .inl (kJ, 1, .inr (.inl f)))]) H → va_D (fun q : Nat => s.heap.size ≤ q) (wX kI kC kG x ag at_ as_ hh hst a0 a1 a2 a3 tx tch u ++ wM kI mo m0 m1 m2 m3 m4 m5 m6 m7 v ++ [(oo, .inl (kJ, 1, .inr (.inl f)))]) → va_S (fun q : Nat => s.heap.size ≤ q) s.heap H locs → lv_has ls 7 [(4, .int v4), (0, .ref b), (1, .ref x), (2, .ref mo), (3, .ref oo)] → pL_c2 v4 (xs ((v4 + 1)).toNatClampNeg) u v f K → W p l e room_1 s m #[Value.ref b] below meth c H locs (60 + 2 * j) (600 + 12 * j) (lw_Z below #[Value.ref b] s) (F0 m 291 ls []) := by
  intro hP hD hS hl hw
  obtain ⟨hx, hb, hr, hml, hown, hts0, hX, hbl, hlocks, hgv⟩ := id C0
  have hown : s.vm.findClass RL = some m.cls := hown
  have hts : ∀ w ∈ wsL_law, w.before #[Value.ref b] s = true := fun w h => hts0 w (wsL_law_in w h)
  have hA : ∀ q : Nat, s.heap.size ≤ q → (fun q : Nat => s.heap.size ≤ q) q := fun _ h => h
  have hbA : ¬ (fun q : Nat => s.heap.size ≤ q) b := Nat.not_le.mpr hbl
  have hi0 : vp_in v4 L := by rw [ev4]; exact vp_in_nI (by omega) (by omega)
  have hi1 : vp_in (v4 + 1) L := by rw [ev4, nI_1]; exact vp_in_nI (by omega) (by omega)
  unfold pL_c2 at hw
  refine lv_aload_n hx hb dL_law_291 rfl (lv_at hl 2 rfl) ?_
  refine lv_aload_n hx hb dL_law_292 rfl (lv_at hl 1 rfl) ?_
  refine lv_iload hx hb dL_law_293 (lv_at hl 0 rfl) ?_
  refine lv_iconst (v := 1) hx hb dL_law_295 (by decide) ?_
  refine lv_iadd hx hb dL_law_296 ?_
  refine va_sld hx hb hX hbl hbA hS hi1 dL_law_297 ?_
  refine lv_aload_n hx hb dL_law_298 rfl (lv_at hl 4 rfl) ?_
  refine gLSi (mc := 1) (ms := 6) (S := SX × (Nat → Int64)) (As := [.ref x, .int (xs ((v4 + 1)).toNatClampNeg), .ref oo]) (rest := []) (wc := wX kI kC kG x ag at_ as_ hh hst a0 a1 a2 a3 tx tch u ++ [(oo, .inl (kJ, 1, .inr (.inl f)))]) (wr := wM kI mo m0 m1 m2 m3 m4 m5 m6 m7 v) (cs1 := (fun zz : SX × (Nat → Int64) => wX kI kC kG x ag at_ as_ hh hst a0 a1 a2 a3 tx tch zz.1 ++ [(oo, .inl (kJ, 1, .inr (.inl zz.2)))])) (ws2 := (fun zz : SX × (Nat → Int64) => wX kI kC kG x ag at_ as_ hh hst a0 a1 a2 a3 tx tch zz.1 ++ wM kI mo m0 m1 m2 m3 m4 m5 m6 m7 v ++ [(oo, .inl (kJ, 1, .inr (.inl zz.2)))])) ⟨hx, hb, hml, hown, hts⟩ (fun sz => kL_restart l D kI kC kG kJ hlt x ag at_ as_ hh hst a0 a1 a2 a3 tx tch oo sz u f (xs ((v4 + 1)).toNatClampNeg) _ hw) (vx_cwSW 3 hts gL_law_L_restart rfl rfl rfl hdL_restart ⟨Nat.le_of_ble_eq_true rfl, Nat.le_of_ble_eq_true rfl⟩) hK hP hD hE hS hA [0, 1, 2, 3, 4, 5, 6, 7, 8, 9, 10, 11, 12, 13, 14, 15, 16, 17, 18, 19, 20, 21, 22, 23, 24, 25, 26, 27, 28, 29, 30, 31, 32, 42] [33, 34, 35, 36, 37, 38, 39, 40, 41] rfl rfl rfl rfl (by decide) [9, 10, 11, 12, 13, 14, 15, 16, 17, 18, 19, 20, 21, 22, 23, 24, 25, 26, 27, 28, 29, 30, 31, 32, 33, 34, 35, 36, 37, 38, 39, 40, 41, 0, 1, 2, 3, 4, 5, 6, 7, 8, 42] rfl (fun _ => rfl) rfl hl.1 rfl (Nat.le_of_ble_eq_true rfl) dL_law_299 (gr1 (by omega)) (fun r22 w22 H locs hw hP hD hS => ?_)
  have hP : va_P D vwCl (wX kI kC kG x ag at_ as_ hh hst a0 a1 a2 a3 tx tch w22.1 ++ wM kI mo m0 m1 m2 m3 m4 m5 m6 m7 v ++ [(oo, .inl (kJ, 1, .inr (.inl w22.2)))]) H := hP
  have hD : va_D (fun q : Nat => s.heap.size ≤ q) (wX kI kC kG x ag at_ as_ hh hst a0 a1 a2 a3 tx tch w22.1 ++ wM kI mo m0 m1 m2 m3 m4 m5 m6 m7 v ++ [(oo, .inl (kJ, 1, .inr (.inl w22.2)))]) := hD
  refine lv_istore (lv' := [(5, .int r22), (4, .int v4), (0, .ref b), (1, .ref x), (2, .ref mo), (3, .ref oo)]) hx hb dL_law_302 hl (by decide) rfl (fun ls hl => ?_)
  refine lv_aload_n hx hb dL_law_304 rfl (lv_at hl 4 rfl) ?_
  refine lv_aload_n hx hb dL_law_305 rfl (lv_at hl 2 rfl) ?_
  refine lv_iload hx hb dL_law_306 (lv_at hl 1 rfl) ?_
  refine lv_iconst (v := 1) hx hb dL_law_308 (by decide) ?_
  refine lv_iadd hx hb dL_law_309 ?_
  refine va_sld hx hb hX hbl hbA hS hi1 dL_law_310 ?_
  refine gWVi (S := SM) (As := [.int (xs ((v4 + 1)).toNatClampNeg)]) (rest := []) (wc := wM kI mo m0 m1 m2 m3 m4 m5 m6 m7 v) (wr := [(x, .inr (4, [.ref ag.1, .ref at_.1, .ref as_.1, .int w22.1.1, .ref hh, .ref tx]))] ++ wG kI ag w22.1.2.1 ++ wG kI at_ w22.1.2.2.1 ++ wG kI as_ w22.1.2.2.2.1 ++ [(hh, .inr (2, [.ref hst, .int w22.1.2.2.2.2.1.1, .int w22.1.2.2.2.2.1.2.1])), (hst, .inl (kG, 4, .inr (.inr (.inr (.inr (fH a0 a1 a2 a3))))))] ++ wG kI a0 w22.1.2.2.2.2.1.2.2.1 ++ wG kI a1 w22.1.2.2.2.2.1.2.2.2.1 ++ wG kI a2 w22.1.2.2.2.2.1.2.2.2.2.1 ++ wG kI a3 w22.1.2.2.2.2.1.2.2.2.2.2 ++ wT kC tx tch w22.1.2.2.2.2.2 ++ [(oo, .inl (kJ, 1, .inr (.inl w22.2)))]) (cs1 := (fun zz : SM => wM kI mo m0 m1 m2 m3 m4 m5 m6 m7 zz)) (ws2 := (fun zz : SM => wX kI kC kG x ag at_ as_ hh hst a0 a1 a2 a3 tx tch w22.1 ++ wM kI mo m0 m1 m2 m3 m4 m5 m6 m7 zz ++ [(oo, .inl (kJ, 1, .inr (.inl w22.2)))])) ⟨hx, hb, hml, hown, hts⟩ (fun sz => kX6_restart l D kI kC kG kJ mo m0 m1 m2 m3 m4 m5 m6 m7 sz v (xs ((v4 + 1)).toNatClampNeg) _ hw) (cwV 1 hts gL_law_X6_restart rfl rfl rfl hdX6_restart ⟨Nat.le_of_ble_eq_true rfl, Nat.le_of_ble_eq_true rfl⟩) hK hP hD hE hS hA [33, 34, 35, 36, 37, 38, 39, 40, 41] [0, 1, 2, 3, 4, 5, 6, 7, 8, 9, 10, 11, 12, 13, 14, 15, 16, 17, 18, 19, 20, 21, 22, 23, 24, 25, 26, 27, 28, 29, 30, 31, 32, 42] rfl rfl rfl rfl (by decide) [0, 1, 2, 3, 4, 5, 6, 7, 8, 9, 10, 11, 12, 13, 14, 15, 16, 17, 18, 19, 20, 21, 22, 23, 24, 25, 26, 27, 28, 29, 30, 31, 32, 34, 35, 36, 37, 38, 39, 40, 41, 42, 33] rfl (fun _ => rfl) (ci := 5) (q0 := 0) rfl rfl rfl rfl hl.1 rfl (Nat.le_of_ble_eq_true rfl) dL_law_311 (gr1 (by omega)) (fun r23 w23 H locs hw hP hD hS => ?_)
  have hP : va_P D vwCl (wX kI kC kG x ag at_ as_ hh hst a0 a1 a2 a3 tx tch w22.1 ++ wM kI mo m0 m1 m2 m3 m4 m5 m6 m7 w23 ++ [(oo, .inl (kJ, 1, .inr (.inl w22.2)))]) H := hP
  have hD : va_D (fun q : Nat => s.heap.size ≤ q) (wX kI kC kG x ag at_ as_ hh hst a0 a1 a2 a3 tx tch w22.1 ++ wM kI mo m0 m1 m2 m3 m4 m5 m6 m7 w23 ++ [(oo, .inl (kJ, 1, .inr (.inl w22.2)))]) := hD
  refine lv_istore (lv' := [(6, .int r23), (5, .int r22), (4, .int v4), (0, .ref b), (1, .ref x), (2, .ref mo), (3, .ref oo)]) hx hb dL_law_314 hl (by decide) rfl (fun ls hl => ?_)
  refine lv_aload_n hx hb dL_law_316 rfl (lv_at hl 5 rfl) ?_
  refine gVi (As := []) (rest := []) (cs' := wM kI mo m0 m1 m2 m3 m4 m5 m6 m7 w23) ⟨hx, hb, hml, hown, hts⟩ (kX6_thrown l D kI kC kG kJ mo m0 m1 m2 m3 m4 m5 m6 m7 w23 _ hw) (cwV 0 hts gL_law_X6_thrown rfl rfl rfl hdX6_thrown ⟨Nat.le_of_ble_eq_true rfl, Nat.le_of_ble_eq_true rfl⟩) hK hP hE hS [33, 34, 35, 36, 37, 38, 39, 40, 41] rfl (ci := 5) (q0 := 0) rfl rfl rfl rfl hl.1 rfl (Nat.le_of_ble_eq_true rfl) dL_law_317 (gr1 (by omega)) (fun r24 hw => ?_)
  refine lv_iload hx hb dL_law_320 (lv_at hl 1 rfl) ?_
  refine lv_icmp_eq (tgt := 327) hx hb dL_law_322 (by decide) (fun c25 => ?_) (fun c25 => ?_)
  · replace hw := Eq.mp (if_pos c25) hw
    refine lv_iload hx hb dL_law_327 (lv_at hl 1 rfl) ?_
    refine lv_if_ne (tgt := 344) hx hb dL_law_329 (by decide) (fun c26 => ?_) (fun c26 => ?_)
    · replace hw := Eq.mp (if_neg c26) hw
      refine lv_goto (tgt := 1187) hx hb dL_law_344 (by decide) ?_
      obtain ⟨x27, ex27⟩ : ∃ y : Int32, y = (v4 + 2) := ⟨_, rfl⟩
      replace hw := hw x27 ex27
      refine lv_iinc (v := x27) (lv' := [(4, .int x27), (6, .int r23), (5, .int r22), (0, .ref b), (1, .ref x), (2, .ref mo), (3, .ref oo)]) hx hb dL_law_1187 hl (k := 2) rfl (by rw [ex27]; rfl) (by decide) rfl (fun ls hl => ?_)
      refine lv_goto (tgt := 23) hx hb dL_law_1190 (by decide) ?_
      refine W.widen (k := 60 + 2 * (j + 2)) (n := 600 + 12 * (j + 2)) (by omega) (by omega) ?_
      exact hback x27 w22.1 w23 w22.2 H locs ls hP hD hS (lv_sub hl [0, 3, 4, 5, 6] rfl) (by rw [ex27, ev4]; exact nI_add j 2) hw
    · replace hw := Eq.mp (if_pos c26) hw
      refine lv_aload_n hx hb dL_law_332 rfl (lv_at hl 6 rfl) ?_
      refine lv_iconst (v := 0) hx hb dL_law_333 (by decide) ?_
      refine gLald (k := 0) hx hb hK hP 42 3 rfl rfl (gin (by decide)) (by decide) dL_law_334 ?_
      refine lv_iload hx hb dL_law_335 (lv_at hl 0 rfl) ?_
      refine lv_i2l (v := r23.toInt64) hx hb dL_law_337 rfl ?_
      refine W.lcmp hx hb dL_law_338 ?_
      refine lv_if_eq (tgt := 344) hx hb dL_law_339 (by decide) (fun c28 => ?_) (fun c28 => ?_)
      · replace hw := Eq.mp (if_pos c28) hw
        refine lv_goto (tgt := 1187) hx hb dL_law_344 (by decide) ?_
        obtain ⟨x29, ex29⟩ : ∃ y : Int32, y = (v4 + 2) := ⟨_, rfl⟩
        replace hw := hw x29 ex29
        refine lv_iinc (v := x29) (lv' := [(4, .int x29), (6, .int r23), (5, .int r22), (0, .ref b), (1, .ref x), (2, .ref mo), (3, .ref oo)]) hx hb dL_law_1187 hl (k := 2) rfl (by rw [ex29]; rfl) (by decide) rfl (fun ls hl => ?_)
        refine lv_goto (tgt := 23) hx hb dL_law_1190 (by decide) ?_
        refine W.widen (k := 60 + 2 * (j + 2)) (n := 600 + 12 * (j + 2)) (by omega) (by omega) ?_
        exact hback x29 w22.1 w23 w22.2 H locs ls hP hD hS (lv_sub hl [0, 3, 4, 5, 6] rfl) (by rw [ex29, ev4]; exact nI_add j 2) hw
      · replace hw := Eq.mp (if_neg c28) hw
        refine lv_iconst (v := 0) hx hb dL_law_342 (by decide) ?_
        exact (hw : False).elim
  · replace hw := Eq.mp (if_neg c25) hw
    refine lv_iconst (v := 0) hx hb dL_law_325 (by decide) ?_
    exact (hw : False).elim
set_option maxHeartbeats 4000000 in
set_option maxRecDepth 100000 in
theorem law_c3 {p : Program} {l : Launch} {e : Env} {s : State} {m : MethodId} {below : List Frame} {meth : Method} {c : Code} {D : va_G} {kI kC kG kJ : ClassId} {b L : Nat} {xs : Nat → Int32} (hlt : l.stackTraces = false) (hL : L ≤ 1024) (C0 : lw_At p s m meth c b L xs) (hK : va_K D vwCl (gT kI kC kG kJ) s) (hE : gE (fun q : Nat => s.heap.size ≤ q) s s.heap) {x : Nat} {ag at_ as_ : AG} {hh hst : Nat} {a0 a1 a2 a3 : AG} {tx tch : Nat} {mo m0 m1 m2 m3 m4 m5 m6 m7 : Nat} {oo : Nat} (K : SX → SM → (Nat → Int64) → Prop) (j : Nat) (hback : ∀ (v4 : Int32) (u : SX) (v : SM) (f : Nat → Int64) (H : Heap) (locs : List Loc) (ls : Array Slot), va_P D vwCl (wX kI kC kG x ag at_ as_ hh hst a0 a1 a2 a3 tx tch u ++ wM kI mo m0 m1 m2 m3 m4 m5 m6 m7 v ++ [(oo, .inl (kJ, 1, .inr (.inl f)))]) H → va_D (fun q : Nat => s.heap.size ≤ q) (wX kI kC kG x ag at_ as_ hh hst a0 a1 a2 a3 tx tch u ++ wM kI mo m0 m1 m2 m3 m4 m5 m6 m7 v ++ [(oo, .inl (kJ, 1, .inr (.inl f)))]) → va_S (fun q : Nat => s.heap.size ≤ q) s.heap H locs → lv_has ls 7 [(4, .int v4), (0, .ref b), (1, .ref x), (2, .ref mo), (3, .ref oo)] → v4 = nI (j + 2) → K u v f → W p l e room_1 s m #[Value.ref b] below meth c H locs (60 + 2 * (j + 2)) (600 + 12 * (j + 2)) (lw_Z below #[Value.ref b] s) (F0 m 23 ls [])) (v4 : Int32) (ev4 : v4 = nI j) (hj : j + 2 ≤ L) (u : SX) (v : SM) (f : Nat → Int64) (H : Heap) (locs : List Loc) (ls : Array Slot) : va_P D vwCl (wX kI kC kG x ag at_ as_ hh hst a0 a1 a2 a3 tx tch u ++ wM kI mo m0 m1 m2 m3 m4 m5 m6 m7 v ++ [(oo, .inl (kJ, 1, .inr (.inl f)))]) H → va_D (fun q : Nat => s.heap.size ≤ q) (wX kI kC kG x ag at_ as_ hh hst a0 a1 a2 a3 tx tch u ++ wM kI mo m0 m1 m2 m3 m4 m5 m6 m7 v ++ [(oo, .inl (kJ, 1, .inr (.inl f)))]) → va_S (fun q : Nat => s.heap.size ≤ q) s.heap H locs → lv_has ls 7 [(4, .int v4), (0, .ref b), (1, .ref x), (2, .ref mo), (3, .ref oo)] → pL_c3 v4 (xs ((v4 + 1)).toNatClampNeg) u v f K → W p l e room_1 s m #[Value.ref b] below meth c H locs (60 + 2 * j) (600 + 12 * j) (lw_Z below #[Value.ref b] s) (F0 m 347 ls []) := by
  intro hP hD hS hl hw
  obtain ⟨hx, hb, hr, hml, hown, hts0, hX, hbl, hlocks, hgv⟩ := id C0
  have hown : s.vm.findClass RL = some m.cls := hown
  have hts : ∀ w ∈ wsL_law, w.before #[Value.ref b] s = true := fun w h => hts0 w (wsL_law_in w h)
  have hA : ∀ q : Nat, s.heap.size ≤ q → (fun q : Nat => s.heap.size ≤ q) q := fun _ h => h
  have hbA : ¬ (fun q : Nat => s.heap.size ≤ q) b := Nat.not_le.mpr hbl
  have hi0 : vp_in v4 L := by rw [ev4]; exact vp_in_nI (by omega) (by omega)
  have hi1 : vp_in (v4 + 1) L := by rw [ev4, nI_1]; exact vp_in_nI (by omega) (by omega)
  unfold pL_c3 at hw
  refine lv_aload_n hx hb dL_law_347 rfl (lv_at hl 2 rfl) ?_
  refine lv_aload_n hx hb dL_law_348 rfl (lv_at hl 1 rfl) ?_
  refine lv_iload hx hb dL_law_349 (lv_at hl 0 rfl) ?_
  refine lv_iconst (v := 1) hx hb dL_law_351 (by decide) ?_
  refine lv_iadd hx hb dL_law_352 ?_
  refine va_sld hx hb hX hbl hbA hS hi1 dL_law_353 ?_
  refine lv_i2c (v := (((xs ((v4 + 1)).toNatClampNeg)).toUInt32 % 65536).toInt32) hx hb dL_law_354 rfl ?_
  refine lv_aload_n hx hb dL_law_355 rfl (lv_at hl 4 rfl) ?_
  refine gLSi (mc := 1) (ms := 6) (S := SX × (Nat → Int64)) (As := [.ref x, .int (((xs ((v4 + 1)).toNatClampNeg)).toUInt32 % 65536).toInt32, .ref oo]) (rest := []) (wc := wX kI kC kG x ag at_ as_ hh hst a0 a1 a2 a3 tx tch u ++ [(oo, .inl (kJ, 1, .inr (.inl f)))]) (wr := wM kI mo m0 m1 m2 m3 m4 m5 m6 m7 v) (cs1 := (fun zz : SX × (Nat → Int64) => wX kI kC kG x ag at_ as_ hh hst a0 a1 a2 a3 tx tch zz.1 ++ [(oo, .inl (kJ, 1, .inr (.inl zz.2)))])) (ws2 := (fun zz : SX × (Nat → Int64) => wX kI kC kG x ag at_ as_ hh hst a0 a1 a2 a3 tx tch zz.1 ++ wM kI mo m0 m1 m2 m3 m4 m5 m6 m7 v ++ [(oo, .inl (kJ, 1, .inr (.inl zz.2)))])) ⟨hx, hb, hml, hown, hts⟩ (fun sz => kL_type l D kI kC kG kJ hlt x ag at_ as_ hh hst a0 a1 a2 a3 tx tch oo sz u f (((xs ((v4 + 1)).toNatClampNeg)).toUInt32 % 65536).toInt32 _ hw) (vx_cwSW 3 hts gL_law_L_type rfl rfl rfl hdL_type ⟨Nat.le_of_ble_eq_true rfl, Nat.le_of_ble_eq_true rfl⟩) hK hP hD hE hS hA [0, 1, 2, 3, 4, 5, 6, 7, 8, 9, 10, 11, 12, 13, 14, 15, 16, 17, 18, 19, 20, 21, 22, 23, 24, 25, 26, 27, 28, 29, 30, 31, 32, 42] [33, 34, 35, 36, 37, 38, 39, 40, 41] rfl rfl rfl rfl (by decide) [9, 10, 11, 12, 13, 14, 15, 16, 17, 18, 19, 20, 21, 22, 23, 24, 25, 26, 27, 28, 29, 30, 31, 32, 33, 34, 35, 36, 37, 38, 39, 40, 41, 0, 1, 2, 3, 4, 5, 6, 7, 8, 42] rfl (fun _ => rfl) rfl hl.1 rfl (Nat.le_of_ble_eq_true rfl) dL_law_356 (gr1 (by omega)) (fun r30 w30 H locs hw hP hD hS => ?_)
  have hP : va_P D vwCl (wX kI kC kG x ag at_ as_ hh hst a0 a1 a2 a3 tx tch w30.1 ++ wM kI mo m0 m1 m2 m3 m4 m5 m6 m7 v ++ [(oo, .inl (kJ, 1, .inr (.inl w30.2)))]) H := hP
  have hD : va_D (fun q : Nat => s.heap.size ≤ q) (wX kI kC kG x ag at_ as_ hh hst a0 a1 a2 a3 tx tch w30.1 ++ wM kI mo m0 m1 m2 m3 m4 m5 m6 m7 v ++ [(oo, .inl (kJ, 1, .inr (.inl w30.2)))]) := hD
  refine lv_istore (lv' := [(5, .int r30), (4, .int v4), (0, .ref b), (1, .ref x), (2, .ref mo), (3, .ref oo)]) hx hb dL_law_359 hl (by decide) rfl (fun ls hl => ?_)
  refine lv_aload_n hx hb dL_law_361 rfl (lv_at hl 4 rfl) ?_
  refine lv_aload_n hx hb dL_law_362 rfl (lv_at hl 2 rfl) ?_
  refine lv_iload hx hb dL_law_363 (lv_at hl 1 rfl) ?_
  refine lv_iconst (v := 1) hx hb dL_law_365 (by decide) ?_
  refine lv_iadd hx hb dL_law_366 ?_
  refine va_sld hx hb hX hbl hbA hS hi1 dL_law_367 ?_
  refine lv_i2c (v := (((xs ((v4 + 1)).toNatClampNeg)).toUInt32 % 65536).toInt32) hx hb dL_law_368 rfl ?_
  refine gWVi (S := SM) (As := [.int (((xs ((v4 + 1)).toNatClampNeg)).toUInt32 % 65536).toInt32]) (rest := []) (wc := wM kI mo m0 m1 m2 m3 m4 m5 m6 m7 v) (wr := [(x, .inr (4, [.ref ag.1, .ref at_.1, .ref as_.1, .int w30.1.1, .ref hh, .ref tx]))] ++ wG kI ag w30.1.2.1 ++ wG kI at_ w30.1.2.2.1 ++ wG kI as_ w30.1.2.2.2.1 ++ [(hh, .inr (2, [.ref hst, .int w30.1.2.2.2.2.1.1, .int w30.1.2.2.2.2.1.2.1])), (hst, .inl (kG, 4, .inr (.inr (.inr (.inr (fH a0 a1 a2 a3))))))] ++ wG kI a0 w30.1.2.2.2.2.1.2.2.1 ++ wG kI a1 w30.1.2.2.2.2.1.2.2.2.1 ++ wG kI a2 w30.1.2.2.2.2.1.2.2.2.2.1 ++ wG kI a3 w30.1.2.2.2.2.1.2.2.2.2.2 ++ wT kC tx tch w30.1.2.2.2.2.2 ++ [(oo, .inl (kJ, 1, .inr (.inl w30.2)))]) (cs1 := (fun zz : SM => wM kI mo m0 m1 m2 m3 m4 m5 m6 m7 zz)) (ws2 := (fun zz : SM => wX kI kC kG x ag at_ as_ hh hst a0 a1 a2 a3 tx tch w30.1 ++ wM kI mo m0 m1 m2 m3 m4 m5 m6 m7 zz ++ [(oo, .inl (kJ, 1, .inr (.inl w30.2)))])) ⟨hx, hb, hml, hown, hts⟩ (fun sz => kX6_type l D kI kC kG kJ mo m0 m1 m2 m3 m4 m5 m6 m7 sz v (((xs ((v4 + 1)).toNatClampNeg)).toUInt32 % 65536).toInt32 _ hw) (cwV 1 hts gL_law_X6_type rfl rfl rfl hdX6_type ⟨Nat.le_of_ble_eq_true rfl, Nat.le_of_ble_eq_true rfl⟩) hK hP hD hE hS hA [33, 34, 35, 36, 37, 38, 39, 40, 41] [0, 1, 2, 3, 4, 5, 6, 7, 8, 9, 10, 11, 12, 13, 14, 15, 16, 17, 18, 19, 20, 21, 22, 23, 24, 25, 26, 27, 28, 29, 30, 31, 32, 42] rfl rfl rfl rfl (by decide) [0, 1, 2, 3, 4, 5, 6, 7, 8, 9, 10, 11, 12, 13, 14, 15, 16, 17, 18, 19, 20, 21, 22, 23, 24, 25, 26, 27, 28, 29, 30, 31, 32, 34, 35, 36, 37, 38, 39, 40, 41, 42, 33] rfl (fun _ => rfl) (ci := 5) (q0 := 0) rfl rfl rfl rfl hl.1 rfl (Nat.le_of_ble_eq_true rfl) dL_law_369 (gr1 (by omega)) (fun r31 w31 H locs hw hP hD hS => ?_)
  have hP : va_P D vwCl (wX kI kC kG x ag at_ as_ hh hst a0 a1 a2 a3 tx tch w30.1 ++ wM kI mo m0 m1 m2 m3 m4 m5 m6 m7 w31 ++ [(oo, .inl (kJ, 1, .inr (.inl w30.2)))]) H := hP
  have hD : va_D (fun q : Nat => s.heap.size ≤ q) (wX kI kC kG x ag at_ as_ hh hst a0 a1 a2 a3 tx tch w30.1 ++ wM kI mo m0 m1 m2 m3 m4 m5 m6 m7 w31 ++ [(oo, .inl (kJ, 1, .inr (.inl w30.2)))]) := hD
  refine lv_istore (lv' := [(6, .int r31), (5, .int r30), (4, .int v4), (0, .ref b), (1, .ref x), (2, .ref mo), (3, .ref oo)]) hx hb dL_law_372 hl (by decide) rfl (fun ls hl => ?_)
  refine lv_aload_n hx hb dL_law_374 rfl (lv_at hl 5 rfl) ?_
  refine gVi (As := []) (rest := []) (cs' := wM kI mo m0 m1 m2 m3 m4 m5 m6 m7 w31) ⟨hx, hb, hml, hown, hts⟩ (kX6_thrown l D kI kC kG kJ mo m0 m1 m2 m3 m4 m5 m6 m7 w31 _ hw) (cwV 0 hts gL_law_X6_thrown rfl rfl rfl hdX6_thrown ⟨Nat.le_of_ble_eq_true rfl, Nat.le_of_ble_eq_true rfl⟩) hK hP hE hS [33, 34, 35, 36, 37, 38, 39, 40, 41] rfl (ci := 5) (q0 := 0) rfl rfl rfl rfl hl.1 rfl (Nat.le_of_ble_eq_true rfl) dL_law_375 (gr1 (by omega)) (fun r32 hw => ?_)
  refine lv_iload hx hb dL_law_378 (lv_at hl 1 rfl) ?_
  refine lv_icmp_eq (tgt := 385) hx hb dL_law_380 (by decide) (fun c33 => ?_) (fun c33 => ?_)
  · replace hw := Eq.mp (if_pos c33) hw
    refine lv_iload hx hb dL_law_385 (lv_at hl 1 rfl) ?_
    refine lv_if_ne (tgt := 402) hx hb dL_law_387 (by decide) (fun c34 => ?_) (fun c34 => ?_)
    · replace hw := Eq.mp (if_neg c34) hw
      refine lv_goto (tgt := 1187) hx hb dL_law_402 (by decide) ?_
      obtain ⟨x35, ex35⟩ : ∃ y : Int32, y = (v4 + 2) := ⟨_, rfl⟩
      replace hw := hw x35 ex35
      refine lv_iinc (v := x35) (lv' := [(4, .int x35), (6, .int r31), (5, .int r30), (0, .ref b), (1, .ref x), (2, .ref mo), (3, .ref oo)]) hx hb dL_law_1187 hl (k := 2) rfl (by rw [ex35]; rfl) (by decide) rfl (fun ls hl => ?_)
      refine lv_goto (tgt := 23) hx hb dL_law_1190 (by decide) ?_
      refine W.widen (k := 60 + 2 * (j + 2)) (n := 600 + 12 * (j + 2)) (by omega) (by omega) ?_
      exact hback x35 w30.1 w31 w30.2 H locs ls hP hD hS (lv_sub hl [0, 3, 4, 5, 6] rfl) (by rw [ex35, ev4]; exact nI_add j 2) hw
    · replace hw := Eq.mp (if_pos c34) hw
      refine lv_aload_n hx hb dL_law_390 rfl (lv_at hl 6 rfl) ?_
      refine lv_iconst (v := 0) hx hb dL_law_391 (by decide) ?_
      refine gLald (k := 0) hx hb hK hP 42 3 rfl rfl (gin (by decide)) (by decide) dL_law_392 ?_
      refine lv_iload hx hb dL_law_393 (lv_at hl 0 rfl) ?_
      refine lv_i2l (v := r31.toInt64) hx hb dL_law_395 rfl ?_
      refine W.lcmp hx hb dL_law_396 ?_
      refine lv_if_eq (tgt := 402) hx hb dL_law_397 (by decide) (fun c36 => ?_) (fun c36 => ?_)
      · replace hw := Eq.mp (if_pos c36) hw
        refine lv_goto (tgt := 1187) hx hb dL_law_402 (by decide) ?_
        obtain ⟨x37, ex37⟩ : ∃ y : Int32, y = (v4 + 2) := ⟨_, rfl⟩
        replace hw := hw x37 ex37
        refine lv_iinc (v := x37) (lv' := [(4, .int x37), (6, .int r31), (5, .int r30), (0, .ref b), (1, .ref x), (2, .ref mo), (3, .ref oo)]) hx hb dL_law_1187 hl (k := 2) rfl (by rw [ex37]; rfl) (by decide) rfl (fun ls hl => ?_)
        refine lv_goto (tgt := 23) hx hb dL_law_1190 (by decide) ?_
        refine W.widen (k := 60 + 2 * (j + 2)) (n := 600 + 12 * (j + 2)) (by omega) (by omega) ?_
        exact hback x37 w30.1 w31 w30.2 H locs ls hP hD hS (lv_sub hl [0, 3, 4, 5, 6] rfl) (by rw [ex37, ev4]; exact nI_add j 2) hw
      · replace hw := Eq.mp (if_neg c36) hw
        refine lv_iconst (v := 0) hx hb dL_law_400 (by decide) ?_
        exact (hw : False).elim
  · replace hw := Eq.mp (if_neg c33) hw
    refine lv_iconst (v := 0) hx hb dL_law_383 (by decide) ?_
    exact (hw : False).elim
