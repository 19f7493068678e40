def pL_c4 (v4 k1 : Int32) (u : SX) (v : SM) (f : Nat → Int64) (K : SX → SM → (Nat → Int64) → Prop) : Prop :=
  pX5_clearText u (fun r38 w38 => (pX6_clearText v (fun r39 w39 => (if r38 = r39 then (∀ x41 : Int32, x41 = (v4 + 2) → (K w38 w39 f)) else False))))
def pL_c5 (v4 k1 : Int32) (u : SX) (v : SM) (f : Nat → Int64) (K : SX → SM → (Nat → Int64) → Prop) : Prop :=
  pX5_textError u (fun r42 => (pX6_textError v (fun r43 w43 => (if r42 = r43 then (∀ x45 : Int32, x45 = (v4 + 2) → (K u w43 f)) else False))))
def pL_c6 (v4 k1 : Int32) (u : SX) (v : SM) (f : Nat → Int64) (K : SX → SM → (Nat → Int64) → Prop) : Prop :=
  pL_impossibleMove u f (fun r46 w46 => (pX6_impossibleMove v (fun r47 w47 => (pX6_thrown w47 (fun r48 => (if r48 = r46 then (if r46 = 0 then (if (lg_cmp (w46.2 0) r47.toInt64) = 0 then (∀ x53 : Int32, x53 = (v4 + 2) → (K w46.1 w47 w46.2)) else False) else (∀ x51 : Int32, x51 = (v4 + 2) → (K w46.1 w47 w46.2))) else False))))))
def pL_c7 (v4 k1 : Int32) (u : SX) (v : SM) (f : Nat → Int64) (K : SX → SM → (Nat → Int64) → Prop) : Prop :=
  pL_carryOut u f (fun r54 w54 => (pX6_carryOut v (fun r55 w55 => (pX6_thrown w55 (fun r56 => (if r56 = r54 then (if r54 = 0 then (if (lg_cmp (w54.2 0) r55.toInt64) = 0 then (∀ x61 : Int32, x61 = (v4 + 2) → (K w54.1 w55 w54.2)) else False) else (∀ x59 : Int32, x59 = (v4 + 2) → (K w54.1 w55 w54.2))) else False))))))
def pL_c8 (v4 k1 : Int32) (u : SX) (v : SM) (f : Nat → Int64) (K : SX → SM → (Nat → Int64) → Prop) : Prop :=
  pL_undo u f (fun r62 w62 => (pX6_undo v (fun r63 w63 => (pX6_thrown w63 (fun r64 => (if r64 = r62 then (if r62 = 0 then (if (lg_cmp (w62.2 0) r63.toInt64) = 0 then (∀ x69 : Int32, x69 = (v4 + 2) → (K w62.1 w63 w62.2)) else False) else (∀ x67 : Int32, x67 = (v4 + 2) → (K w62.1 w63 w62.2))) else False))))))
def pL_c9 (v4 k1 : Int32) (u : SX) (v : SM) (f : Nat → Int64) (K : SX → SM → (Nat → Int64) → Prop) : Prop :=
  pX5_takeSnapshot u (fun r70 w70 => (pX6_takeSnapshot v (fun r71 w71 => (if r70 = r71 then (∀ x73 : Int32, x73 = (v4 + 2) → (K w70 w71 f)) else False))))
set_option maxHeartbeats 4000000 in
set_option maxRecDepth 100000 in
theorem law_c4 {p : Program} {l : Launch} {e : Env} {s : State} {m : MethodId} {below : List Frame} {meth : Method} {c : Code} {D : va_G} {kI kC kG kJ : ClassId} {b L : Nat} {xs : Nat → Int32} (hlt : l.stackTraces = false) (hL : L ≤ 1024) (C0 : lw_At p s m meth c b L xs) (hK : va_K D vwCl (gT kI kC kG kJ) s) (hE : gE (fun q : Nat => s.heap.size ≤ q) s s.heap) {x : Nat} {ag at_ as_ : AG} {hh hst : Nat} {a0 a1 a2 a3 : AG} {tx tch : Nat} {mo m0 m1 m2 m3 m4 m5 m6 m7 : Nat} {oo : Nat} (K : SX → SM → (Nat → Int64) → Prop) (j : Nat) (hback : ∀ (v4 : Int32) (u : SX) (v : SM) (f : Nat → Int64) (H : Heap) (locs : List Loc) (ls : Array Slot), va_P D vwCl (wX kI kC kG x ag at_ as_ hh hst a0 a1 a2 a3 tx tch u ++ wM kI mo m0 m1 m2 m3 m4 m5 m6 m7 v ++ [(oo, .inl (kJ, 1, .inr (.inl f)))]) H → va_D (fun q : Nat => s.heap.size ≤ q) (wX kI kC kG x ag at_ as_ hh hst a0 a1 a2 a3 tx tch u ++ wM kI mo m0 m1 m2 m3 m4 m5 m6 m7 v ++ [(oo, .inl (kJ, 1, .inr (.inl f)))]) → va_S (fun q : Nat => s.heap.size ≤ q) s.heap H locs → lv_has ls 7 [(4, .int v4), (0, .ref b), (1, .ref x), (2, .ref mo), (3, .ref oo)] → v4 = nI (j + 2) → K u v f → W p l e room_1 s m #[Value.ref b] below meth c H locs (60 + 2 * (j + 2)) (600 + 12 * (j + 2)) (lw_Z below #[Value.ref b] s) (F0 m 23 ls [])) (v4 : Int32) (ev4 : v4 = nI j) (hj : j + 2 ≤ L) (u : SX) (v : SM) (f : Nat → Int64) (H : Heap) (locs : List Loc) (ls : Array Slot) : va_P D vwCl (wX kI kC kG x ag at_ as_ hh hst a0 a1 a2 a3 tx tch u ++ wM kI mo m0 m1 m2 m3 m4 m5 m6 m7 v ++ [(oo, .inl (kJ, 1, .inr (.inl f)))]) H → va_D (fun q : Nat => s.heap.size ≤ q) (wX kI kC kG x ag at_ as_ hh hst a0 a1 a2 a3 tx tch u ++ wM kI mo m0 m1 m2 m3 m4 m5 m6 m7 v ++ [(oo, .inl (kJ, 1, .inr (.inl f)))]) → va_S (fun q : Nat => s.heap.size ≤ q) s.heap H locs → lv_has ls 7 [(4, .int v4), (0, .ref b), (1, .ref x), (2, .ref mo), (3, .ref oo)] → pL_c4 v4 (xs ((v4 + 1)).toNatClampNeg) u v f K → W p l e room_1 s m #[Value.ref b] below meth c H locs (60 + 2 * j) (600 + 12 * j) (lw_Z below #[Value.ref b] s) (F0 m 405 ls []) := by
  intro hP hD hS hl hw
  obtain ⟨hx, hb, hr, hml, hown, hts0, hX, hbl, hlocks, hgv⟩ := id C0
  have hown : s.vm.findClass RL = some m.cls := hown
  have hts : ∀ w ∈ wsL_law, w.before #[Value.ref b] s = true := fun w h => hts0 w (wsL_law_in w h)
  have hA : ∀ q : Nat, s.heap.size ≤ q → (fun q : Nat => s.heap.size ≤ q) q := fun _ h => h
  have hbA : ¬ (fun q : Nat => s.heap.size ≤ q) b := Nat.not_le.mpr hbl
  have hi0 : vp_in v4 L := by rw [ev4]; exact vp_in_nI (by omega) (by omega)
  have hi1 : vp_in (v4 + 1) L := by rw [ev4, nI_1]; exact vp_in_nI (by omega) (by omega)
  unfold pL_c4 at hw
  refine lv_aload_n hx hb dL_law_405 rfl (lv_at hl 2 rfl) ?_
  refine gWVi (S := SX) (As := []) (rest := []) (wc := wX kI kC kG x ag at_ as_ hh hst a0 a1 a2 a3 tx tch u) (wr := wM kI mo m0 m1 m2 m3 m4 m5 m6 m7 v ++ [(oo, .inl (kJ, 1, .inr (.inl f)))]) (cs1 := (fun zz : SX => wX kI kC kG x ag at_ as_ hh hst a0 a1 a2 a3 tx tch zz)) (ws2 := (fun zz : SX => wX kI kC kG x ag at_ as_ hh hst a0 a1 a2 a3 tx tch zz ++ wM kI mo m0 m1 m2 m3 m4 m5 m6 m7 v ++ [(oo, .inl (kJ, 1, .inr (.inl f)))])) ⟨hx, hb, hml, hown, hts⟩ (fun sz => kX5_clearText l D kI kC kG kJ x ag at_ as_ hh hst a0 a1 a2 a3 tx tch sz u _ hw) (cwV 0 hts gL_law_X5_clearText rfl rfl rfl hdX5_clearText ⟨Nat.le_of_ble_eq_true rfl, Nat.le_of_ble_eq_true rfl⟩) hK hP hD hE hS hA [0, 1, 2, 3, 4, 5, 6, 7, 8, 9, 10, 11, 12, 13, 14, 15, 16, 17, 18, 19, 20, 21, 22, 23, 24, 25, 26, 27, 28, 29, 30, 31, 32] [33, 34, 35, 36, 37, 38, 39, 40, 41, 42] rfl rfl rfl rfl (by decide) [10, 11, 12, 13, 14, 15, 16, 17, 18, 19, 20, 21, 22, 23, 24, 25, 26, 27, 28, 29, 30, 31, 32, 33, 34, 35, 36, 37, 38, 39, 40, 41, 42, 0, 1, 2, 3, 4, 5, 6, 7, 8, 9] rfl (fun _ => rfl) (ci := 4) (q0 := 0) rfl rfl rfl rfl hl.1 rfl (Nat.le_of_ble_eq_true rfl) dL_law_406 (gr1 (by omega)) (fun r38 w38 H locs hw hP hD hS => ?_)
  have hP : va_P D vwCl (wX kI kC kG x ag at_ as_ hh hst a0 a1 a2 a3 tx tch w38 ++ wM kI mo m0 m1 m2 m3 m4 m5 m6 m7 v ++ [(oo, .inl (kJ, 1, .inr (.inl f)))]) H := hP
  have hD : va_D (fun q : Nat => s.heap.size ≤ q) (wX kI kC kG x ag at_ as_ hh hst a0 a1 a2 a3 tx tch w38 ++ wM kI mo m0 m1 m2 m3 m4 m5 m6 m7 v ++ [(oo, .inl (kJ, 1, .inr (.inl f)))]) := hD
  refine lv_aload_n hx hb dL_law_409 rfl (lv_at hl 3 rfl) ?_
  refine gWVi (S := SM) (As := []) (rest := [.int r38]) (wc := wM kI mo m0 m1 m2 m3 m4 m5 m6 m7 v) (wr := [(x, .inr (4, [.ref ag.1, .ref at_.1, .ref as_.1, .int w38.1, .ref hh, .ref tx]))] ++ wG kI ag w38.2.1 ++ wG kI at_ w38.2.2.1 ++ wG kI as_ w38.2.2.2.1 ++ [(hh, .inr (2, [.ref hst, .int w38.2.2.2.2.1.1, .int w38.2.2.2.2.1.2.1])), (hst, .inl (kG, 4, .inr (.inr (.inr (.inr (fH a0 a1 a2 a3))))))] ++ wG kI a0 w38.2.2.2.2.1.2.2.1 ++ wG kI a1 w38.2.2.2.2.1.2.2.2.1 ++ wG kI a2 w38.2.2.2.2.1.2.2.2.2.1 ++ wG kI a3 w38.2.2.2.2.1.2.2.2.2.2 ++ wT kC tx tch w38.2.2.2.2.2 ++ [(oo, .inl (kJ, 1, .inr (.inl f)))]) (cs1 := (fun zz : SM => wM kI mo m0 m1 m2 m3 m4 m5 m6 m7 zz)) (ws2 := (fun zz : SM => wX kI kC kG x ag at_ as_ hh hst a0 a1 a2 a3 tx tch w38 ++ wM kI mo m0 m1 m2 m3 m4 m5 m6 m7 zz ++ [(oo, .inl (kJ, 1, .inr (.inl f)))])) ⟨hx, hb, hml, hown, hts⟩ (fun sz => kX6_clearText l D kI kC kG kJ mo m0 m1 m2 m3 m4 m5 m6 m7 sz v _ hw) (cwV 0 hts gL_law_X6_clearText rfl rfl rfl hdX6_clearText ⟨Nat.le_of_ble_eq_true rfl, Nat.le_of_ble_eq_true rfl⟩) hK hP hD hE hS hA [33, 34, 35, 36, 37, 38, 39, 40, 41] [0, 1, 2, 3, 4, 5, 6, 7, 8, 9, 10, 11, 12, 13, 14, 15, 16, 17, 18, 19, 20, 21, 22, 23, 24, 25, 26, 27, 28, 29, 30, 31, 32, 42] rfl rfl rfl rfl (by decide) [0, 1, 2, 3, 4, 5, 6, 7, 8, 9, 10, 11, 12, 13, 14, 15, 16, 17, 18, 19, 20, 21, 22, 23, 24, 25, 26, 27, 28, 29, 30, 31, 32, 34, 35, 36, 37, 38, 39, 40, 41, 42, 33] rfl (fun _ => rfl) (ci := 5) (q0 := 0) rfl rfl rfl rfl hl.1 rfl (Nat.le_of_ble_eq_true rfl) dL_law_410 (gr1 (by omega)) (fun r39 w39 H locs hw hP hD hS => ?_)
  have hP : va_P D vwCl (wX kI kC kG x ag at_ as_ hh hst a0 a1 a2 a3 tx tch w38 ++ wM kI mo m0 m1 m2 m3 m4 m5 m6 m7 w39 ++ [(oo, .inl (kJ, 1, .inr (.inl f)))]) H := hP
  have hD : va_D (fun q : Nat => s.heap.size ≤ q) (wX kI kC kG x ag at_ as_ hh hst a0 a1 a2 a3 tx tch w38 ++ wM kI mo m0 m1 m2 m3 m4 m5 m6 m7 w39 ++ [(oo, .inl (kJ, 1, .inr (.inl f)))]) := hD
  refine lv_icmp_eq (tgt := 1187) hx hb dL_law_413 (by decide) (fun c40 => ?_) (fun c40 => ?_)
  · replace hw := Eq.mp (if_pos c40) hw
    obtain ⟨x41, ex41⟩ : ∃ y : Int32, y = (v4 + 2) := ⟨_, rfl⟩
    replace hw := hw x41 ex41
    refine lv_iinc (v := x41) (lv' := [(4, .int x41), (0, .ref b), (1, .ref x), (2, .ref mo), (3, .ref oo)]) hx hb dL_law_1187 hl (k := 0) rfl (by rw [ex41]; rfl) (by decide) rfl (fun ls hl => ?_)
    refine lv_goto (tgt := 23) hx hb dL_law_1190 (by decide) ?_
    refine W.widen (k := 60 + 2 * (j + 2)) (n := 600 + 12 * (j + 2)) (by omega) (by omega) ?_
    exact hback x41 w38 w39 f H locs ls hP hD hS (lv_sub hl [0, 1, 2, 3, 4] rfl) (by rw [ex41, ev4]; exact nI_add j 2) hw
  · replace hw := Eq.mp (if_neg c40) hw
    refine lv_iconst (v := 0) hx hb dL_law_416 (by decide) ?_
    exact (hw : False).elim
set_option maxHeartbeats 4000000 in
set_option maxRecDepth 100000 in
theorem law_c5 {p : Program} {l : Launch} {e : Env} {s : State} {m : MethodId} {below : List Frame} {meth : Method} {c : Code} {D : va_G} {kI kC kG kJ : ClassId} {b L : Nat} {xs : Nat → Int32} (hlt : l.stackTraces = false) (hL : L ≤ 1024) (C0 : lw_At p s m meth c b L xs) (hK : va_K D vwCl (gT kI kC kG kJ) s) (hE : gE (fun q : Nat => s.heap.size ≤ q) s s.heap) {x : Nat} {ag at_ as_ : AG} {hh hst : Nat} {a0 a1 a2 a3 : AG} {tx tch : Nat} {mo m0 m1 m2 m3 m4 m5 m6 m7 : Nat} {oo : Nat} (K : SX → SM → (Nat → Int64) → Prop) (j : Nat) (hback : ∀ (v4 : Int32) (u : SX) (v : SM) (f : Nat → Int64) (H : Heap) (locs : List Loc) (ls : Array Slot), va_P D vwCl (wX kI kC kG x ag at_ as_ hh hst a0 a1 a2 a3 tx tch u ++ wM kI mo m0 m1 m2 m3 m4 m5 m6 m7 v ++ [(oo, .inl (kJ, 1, .inr (.inl f)))]) H → va_D (fun q : Nat => s.heap.size ≤ q) (wX kI kC kG x ag at_ as_ hh hst a0 a1 a2 a3 tx tch u ++ wM kI mo m0 m1 m2 m3 m4 m5 m6 m7 v ++ [(oo, .inl (kJ, 1, .inr (.inl f)))]) → va_S (fun q : Nat => s.heap.size ≤ q) s.heap H locs → lv_has ls 7 [(4, .int v4), (0, .ref b), (1, .ref x), (2, .ref mo), (3, .ref oo)] → v4 = nI (j + 2) → K u v f → W p l e room_1 s m #[Value.ref b] below meth c H locs (60 + 2 * (j + 2)) (600 + 12 * (j + 2)) (lw_Z below #[Value.ref b] s) (F0 m 23 ls [])) (v4 : Int32) (ev4 : v4 = nI j) (hj : j + 2 ≤ L) (u : SX) (v : SM) (f : Nat → Int64) (H : Heap) (locs : List Loc) (ls : Array Slot) : va_P D vwCl (wX kI kC kG x ag at_ as_ hh hst a0 a1 a2 a3 tx tch u ++ wM kI mo m0 m1 m2 m3 m4 m5 m6 m7 v ++ [(oo, .inl (kJ, 1, .inr (.inl f)))]) H → va_D (fun q : Nat => s.heap.size ≤ q) (wX kI kC kG x ag at_ as_ hh hst a0 a1 a2 a3 tx tch u ++ wM kI mo m0 m1 m2 m3 m4 m5 m6 m7 v ++ [(oo, .inl (kJ, 1, .inr (.inl f)))]) → va_S (fun q : Nat => s.heap.size ≤ q) s.heap H locs → lv_has ls 7 [(4, .int v4), (0, .ref b), (1, .ref x), (2, .ref mo), (3, .ref oo)] → pL_c5 v4 (xs ((v4 + 1)).toNatClampNeg) u v f K → W p l e room_1 s m #[Value.ref b] below meth c H locs (60 + 2 * j) (600 + 12 * j) (lw_Z below #[Value.ref b] s) (F0 m 418 ls []) := by
  intro hP hD hS hl hw
  obtain ⟨hx, hb, hr, hml, hown, hts0, hX, hbl, hlocks, hgv⟩ := id C0
  have hown : s.vm.findClass RL = some m.cls := hown
  have hts : ∀ w ∈ wsL_law, w.before #[Value.ref b] s = true := fun w h => hts0 w (wsL_law_in w h)
  have hA : ∀ q : Nat, s.heap.size ≤ q → (fun q : Nat => s.heap.size ≤ q) q := fun _ h => h
  have hbA : ¬ (fun q : Nat => s.heap.size ≤ q) b := Nat.not_le.mpr hbl
  have hi0 : vp_in v4 L := by rw [ev4]; exact vp_in_nI (by omega) (by omega)
  have hi1 : vp_in (v4 + 1) L := by rw [ev4, nI_1]; exact vp_in_nI (by omega) (by omega)
  unfold pL_c5 at hw
  refine lv_aload_n hx hb dL_law_418 rfl (lv_at hl 2 rfl) ?_
  refine gVi (As := []) (rest := []) (cs' := wX kI kC kG x ag at_ as_ hh hst a0 a1 a2 a3 tx tch u) ⟨hx, hb, hml, hown, hts⟩ (kX5_textError l D kI kC kG kJ x ag at_ as_ hh hst a0 a1 a2 a3 tx tch u _ hw) (cwV 0 hts gL_law_X5_textError rfl rfl rfl hdX5_textError ⟨Nat.le_of_ble_eq_true rfl, Nat.le_of_ble_eq_true rfl⟩) hK hP hE hS [0, 1, 2, 3, 4, 5, 6, 7, 8, 9, 10, 11, 12, 13, 14, 15, 16, 17, 18, 19, 20, 21, 22, 23, 24, 25, 26, 27, 28, 29, 30, 31, 32] rfl (ci := 4) (q0 := 0) rfl rfl rfl rfl hl.1 rfl (Nat.le_of_ble_eq_true rfl) dL_law_419 (gr1 (by omega)) (fun r42 hw => ?_)
  refine lv_aload_n hx hb dL_law_422 rfl (lv_at hl 3 rfl) ?_
  refine gWVi (S := SM) (As := []) (rest := [.int r42]) (wc := wM kI mo m0 m1 m2 m3 m4 m5 m6 m7 v) (wr := [(x, .inr (4, [.ref ag.1, .ref at_.1, .ref as_.1, .int u.1, .ref hh, .ref tx]))] ++ wG kI ag u.2.1 ++ wG kI at_ u.2.2.1 ++ wG kI as_ u.2.2.2.1 ++ [(hh, .inr (2, [.ref hst, .int u.2.2.2.2.1.1, .int u.2.2.2.2.1.2.1])), (hst, .inl (kG, 4, .inr (.inr (.inr (.inr (fH a0 a1 a2 a3))))))] ++ wG kI a0 u.2.2.2.2.1.2.2.1 ++ wG kI a1 u.2.2.2.2.1.2.2.2.1 ++ wG kI a2 u.2.2.2.2.1.2.2.2.2.1 ++ wG kI a3 u.2.2.2.2.1.2.2.2.2.2 ++ wT kC tx tch u.2.2.2.2.2 ++ [(oo, .inl (kJ, 1, .inr (.inl f)))]) (cs1 := (fun zz : SM => wM kI mo m0 m1 m2 m3 m4 m5 m6 m7 zz)) (ws2 := (fun zz : SM => wX kI kC kG x ag at_ as_ hh hst a0 a1 a2 a3 tx tch u ++ wM kI mo m0 m1 m2 m3 m4 m5 m6 m7 zz ++ [(oo, .inl (kJ, 1, .inr (.inl f)))])) ⟨hx, hb, hml, hown, hts⟩ (fun sz => kX6_textError l D kI kC kG kJ mo m0 m1 m2 m3 m4 m5 m6 m7 sz v _ hw) (cwV 0 hts gL_law_X6_textError rfl rfl rfl hdX6_textError ⟨Nat.le_of_ble_eq_true rfl, Nat.le_of_ble_eq_true rfl⟩) hK hP hD hE hS hA [33, 34, 35, 36, 37, 38, 39, 40, 41] [0, 1, 2, 3, 4, 5, 6, 7, 8, 9, 10, 11, 12, 13, 14, 15, 16, 17, 18, 19, 20, 21, 22, 23, 24, 25, 26, 27, 28, 29, 30, 31, 32, 42] rfl rfl rfl rfl (by decide) [0, 1, 2, 3, 4, 5, 6, 7, 8, 9, 10, 11, 12, 13, 14, 15, 16, 17, 18, 19, 20, 21, 22, 23, 24, 25, 26, 27, 28, 29, 30, 31, 32, 34, 35, 36, 37, 38, 39, 40, 41, 42, 33] rfl (fun _ => rfl) (ci := 5) (q0 := 0) rfl rfl rfl rfl hl.1 rfl (Nat.le_of_ble_eq_true rfl) dL_law_423 (gr1 (by omega)) (fun r43 w43 H locs hw hP hD hS => ?_)
  have hP : va_P D vwCl (wX kI kC kG x ag at_ as_ hh hst a0 a1 a2 a3 tx tch u ++ wM kI mo m0 m1 m2 m3 m4 m5 m6 m7 w43 ++ [(oo, .inl (kJ, 1, .inr (.inl f)))]) H := hP
  have hD : va_D (fun q : Nat => s.heap.size ≤ q) (wX kI kC kG x ag at_ as_ hh hst a0 a1 a2 a3 tx tch u ++ wM kI mo m0 m1 m2 m3 m4 m5 m6 m7 w43 ++ [(oo, .inl (kJ, 1, .inr (.inl f)))]) := hD
  refine lv_icmp_eq (tgt := 1187) hx hb dL_law_426 (by decide) (fun c44 => ?_) (fun c44 => ?_)
  · replace hw := Eq.mp (if_pos c44) hw
    obtain ⟨x45, ex45⟩ : ∃ y : Int32, y = (v4 + 2) := ⟨_, rfl⟩
    replace hw := hw x45 ex45
    refine lv_iinc (v := x45) (lv' := [(4, .int x45), (0, .ref b), (1, .ref x), (2, .ref mo), (3, .ref oo)]) hx hb dL_law_1187 hl (k := 0) rfl (by rw [ex45]; rfl) (by decide) rfl (fun ls hl => ?_)
    refine lv_goto (tgt := 23) hx hb dL_law_1190 (by decide) ?_
    refine W.widen (k := 60 + 2 * (j + 2)) (n := 600 + 12 * (j + 2)) (by omega) (by omega) ?_
    exact hback x45 u w43 f H locs ls hP hD hS (lv_sub hl [0, 1, 2, 3, 4] rfl) (by rw [ex45, ev4]; exact nI_add j 2) hw
  · replace hw := Eq.mp (if_neg c44) hw
    refine lv_iconst (v := 0) hx hb dL_law_429 (by decide) ?_
    exact (hw : False).elim
set_option maxHeartbeats 4000000 in
set_option maxRecDepth 100000 in
theorem law_c6 {p : Program} {l : Launch} {e : Env} {s : State} {m : MethodId} {below : List Frame} {meth : Method} {c : Code} {D : va_G} {kI kC kG kJ : ClassId} {b L : Nat} {xs : Nat → Int32} (hlt : l.stackTraces = false) (hL : L ≤ 1024) (C0 : lw_At p s m meth c b L xs) (hK : va_K D vwCl (gT kI kC kG kJ) s) (hE : gE (fun q : Nat => s.heap.size ≤ q) s s.heap) {x : Nat} {ag at_ as_ : AG} {hh hst : Nat} {a0 a1 a2 a3 : AG} {tx tch : Nat} {mo m0 m1 m2 m3 m4 m5 m6 m7 : Nat} {oo : Nat} (K : SX → SM → (Nat → Int64) → Prop) (j : Nat) (hback : ∀ (v4 : Int32) (u : SX) (v : SM) (f : Nat → Int64) (H : Heap) (locs : List Loc) (ls : Array Slot), va_P D vwCl (wX kI kC kG x ag at_ as_ hh hst a0 a1 a2 a3 tx tch u ++ wM kI mo m0 m1 m2 m3 m4 m5 m6 m7 v ++ [(oo, .inl (kJ, 1, .inr (.inl f)))]) H → va_D (fun q : Nat => s.heap.size ≤ q) (wX kI kC kG x ag at_ as_ hh hst a0 a1 a2 a3 tx tch u ++ wM kI mo m0 m1 m2 m3 m4 m5 m6 m7 v ++ [(oo, .inl (kJ, 1, .inr (.inl f)))]) → va_S (fun q : Nat => s.heap.size ≤ q) s.heap H locs → lv_has ls 7 [(4, .int v4), (0, .ref b), (1, .ref x), (2, .ref mo), (3, .ref oo)] → v4 = nI (j + 2) → K u v f → W p l e room_1 s m #[Value.ref b] below meth c H locs (60 + 2 * (j + 2)) (600 + 12 * (j + 2)) (lw_Z below #[Value.ref b] s) (F0 m 23 ls [])) (v4 : Int32) (ev4 : v4 = nI j) (hj : j + 2 ≤ L) (u : SX) (v : SM) (f : Nat → Int64) (H : Heap) (locs : List Loc) (ls : Array Slot) : va_P D vwCl (wX kI kC kG x ag at_ as_ hh hst a0 a1 a2 a3 tx tch u ++ wM kI mo m0 m1 m2 m3 m4 m5 m6 m7 v ++ [(oo, .inl (kJ, 1, .inr (.inl f)))]) H → va_D (fun q : Nat => s.heap.size ≤ q) (wX kI kC kG x ag at_ as_ hh hst a0 a1 a2 a3 tx tch u ++ wM kI mo m0 m1 m2 m3 m4 m5 m6 m7 v ++ [(oo, .inl (kJ, 1, .inr (.inl f)))]) → va_S (fun q : Nat => s.heap.size ≤ q) s.heap H locs → lv_has ls 7 [(4, .int v4), (0, .ref b), (1, .ref x), (2, .ref mo), (3, .ref oo)] → pL_c6 v4 (xs ((v4 + 1)).toNatClampNeg) u v f K → W p l e room_1 s m #[Value.ref b] below meth c H locs (60 + 2 * j) (600 + 12 * j) (lw_Z below #[Value.ref b] s) (F0 m 431 ls []) := by
  intro hP hD hS hl hw
  obtain ⟨hx, hb, hr, hml, hown, hts0, hX, hbl, hlocks, hgv⟩ := id C0
  have hown : s.vm.findClass RL = some m.cls := hown
  have hts : ∀ w ∈ wsL_law, w.before #[Value.ref b] s = true := fun w h => hts0 w (wsL_law_in w h)
  have hA : ∀ q : Nat, s.heap.size ≤ q → (fun q : Nat => s.heap.size ≤ q) q := fun _ h => h
  have hbA : ¬ (fun q : Nat => s.heap.size ≤ q) b := Nat.not_le.mpr hbl
  have hi0 : vp_in v4 L := by rw [ev4]; exact vp_in_nI (by omega) (by omega)
  have hi1 : vp_in (v4 + 1) L := by rw [ev4, nI_1]; exact vp_in_nI (by omega) (by omega)
  unfold pL_c6 at hw
  refine lv_aload_n hx hb dL_law_431 rfl (lv_at hl 2 rfl) ?_
  refine lv_aload_n hx hb dL_law_432 rfl (lv_at hl 4 rfl) ?_
  refine gLSi (mc := 1) (ms := 6) (S := SX × (Nat → Int64)) (As := [.ref x, .ref oo]) (rest := []) (wc := wX kI kC kG x ag at_ as_ hh hst a0 a1 a2 a3 tx tch u ++ [(oo, .inl (kJ, 1, .inr (.inl f)))]) (wr := wM kI mo m0 m1 m2 m3 m4 m5 m6 m7 v) (cs1 := (fun zz : SX × (Nat → Int64) => wX kI kC kG x ag at_ as_ hh hst a0 a1 a2 a3 tx tch zz.1 ++ [(oo, .inl (kJ, 1, .inr (.inl zz.2)))])) (ws2 := (fun zz : SX × (Nat → Int64) => wX kI kC kG x ag at_ as_ hh hst a0 a1 a2 a3 tx tch zz.1 ++ wM kI mo m0 m1 m2 m3 m4 m5 m6 m7 v ++ [(oo, .inl (kJ, 1, .inr (.inl zz.2)))])) ⟨hx, hb, hml, hown, hts⟩ (fun sz => kL_impossibleMove l D kI kC kG kJ hlt x ag at_ as_ hh hst a0 a1 a2 a3 tx tch oo sz u f _ hw) (vx_cwSW 2 hts gL_law_L_impossibleMove rfl rfl rfl hdL_impossibleMove ⟨Nat.le_of_ble_eq_true rfl, Nat.le_of_ble_eq_true rfl⟩) hK hP hD hE hS hA [0, 1, 2, 3, 4, 5, 6, 7, 8, 9, 10, 11, 12, 13, 14, 15, 16, 17, 18, 19, 20, 21, 22, 23, 24, 25, 26, 27, 28, 29, 30, 31, 32, 42] [33, 34, 35, 36, 37, 38, 39, 40, 41] rfl rfl rfl rfl (by decide) [9, 10, 11, 12, 13, 14, 15, 16, 17, 18, 19, 20, 21, 22, 23, 24, 25, 26, 27, 28, 29, 30, 31, 32, 33, 34, 35, 36, 37, 38, 39, 40, 41, 0, 1, 2, 3, 4, 5, 6, 7, 8, 42] rfl (fun _ => rfl) rfl hl.1 rfl (Nat.le_of_ble_eq_true rfl) dL_law_433 (gr1 (by omega)) (fun r46 w46 H locs hw hP hD hS => ?_)
  have hP : va_P D vwCl (wX kI kC kG x ag at_ as_ hh hst a0 a1 a2 a3 tx tch w46.1 ++ wM kI mo m0 m1 m2 m3 m4 m5 m6 m7 v ++ [(oo, .inl (kJ, 1, .inr (.inl w46.2)))]) H := hP
  have hD : va_D (fun q : Nat => s.heap.size ≤ q) (wX kI kC kG x ag at_ as_ hh hst a0 a1 a2 a3 tx tch w46.1 ++ wM kI mo m0 m1 m2 m3 m4 m5 m6 m7 v ++ [(oo, .inl (kJ, 1, .inr (.inl w46.2)))]) := hD
  refine lv_istore (lv' := [(5, .int r46), (4, .int v4), (0, .ref b), (1, .ref x), (2, .ref mo), (3, .ref oo)]) hx hb dL_law_436 hl (by decide) rfl (fun ls hl => ?_)
  refine lv_aload_n hx hb dL_law_438 rfl (lv_at hl 4 rfl) ?_
  refine gWVi (S := SM) (As := []) (rest := []) (wc := wM kI mo m0 m1 m2 m3 m4 m5 m6 m7 v) (wr := [(x, .inr (4, [.ref ag.1, .ref at_.1, .ref as_.1, .int w46.1.1, .ref hh, .ref tx]))] ++ wG kI ag w46.1.2.1 ++ wG kI at_ w46.1.2.2.1 ++ wG kI as_ w46.1.2.2.2.1 ++ [(hh, .inr (2, [.ref hst, .int w46.1.2.2.2.2.1.1, .int w46.1.2.2.2.2.1.2.1])), (hst, .inl (kG, 4, .inr (.inr (.inr (.inr (fH a0 a1 a2 a3))))))] ++ wG kI a0 w46.1.2.2.2.2.1.2.2.1 ++ wG kI a1 w46.1.2.2.2.2.1.2.2.2.1 ++ wG kI a2 w46.1.2.2.2.2.1.2.2.2.2.1 ++ wG kI a3 w46.1.2.2.2.2.1.2.2.2.2.2 ++ wT kC tx tch w46.1.2.2.2.2.2 ++ [(oo, .inl (kJ, 1, .inr (.inl w46.2)))]) (cs1 := (fun zz : SM => wM kI mo m0 m1 m2 m3 m4 m5 m6 m7 zz)) (ws2 := (fun zz : SM => wX kI kC kG x ag at_ as_ hh hst a0 a1 a2 a3 tx tch w46.1 ++ wM kI mo m0 m1 m2 m3 m4 m5 m6 m7 zz ++ [(oo, .inl (kJ, 1, .inr (.inl w46.2)))])) ⟨hx, hb, hml, hown, hts⟩ (fun sz => kX6_impossibleMove l D kI kC kG kJ mo m0 m1 m2 m3 m4 m5 m6 m7 sz v _ hw) (cwV 0 hts gL_law_X6_impossibleMove rfl rfl rfl hdX6_impossibleMove ⟨Nat.le_of_ble_eq_true rfl, Nat.le_of_ble_eq_true rfl⟩) hK hP hD hE hS hA [33, 34, 35, 36, 37, 38, 39, 40, 41] [0, 1, 2, 3, 4, 5, 6, 7, 8, 9, 10, 11, 12, 13, 14, 15, 16, 17, 18, 19, 20, 21, 22, 23, 24, 25, 26, 27, 28, 29, 30, 31, 32, 42] rfl rfl rfl rfl (by decide) [0, 1, 2, 3, 4, 5, 6, 7, 8, 9, 10, 11, 12, 13, 14, 15, 16, 17, 18, 19, 20, 21, 22, 23, 24, 25, 26, 27, 28, 29, 30, 31, 32, 34, 35, 36, 37, 38, 39, 40, 41, 42, 33] rfl (fun _ => rfl) (ci := 5) (q0 := 0) rfl rfl rfl rfl hl.1 rfl (Nat.le_of_ble_eq_true rfl) dL_law_439 (gr1 (by omega)) (fun r47 w47 H locs hw hP hD hS => ?_)
  have hP : va_P D vwCl (wX kI kC kG x ag at_ as_ hh hst a0 a1 a2 a3 tx tch w46.1 ++ wM kI mo m0 m1 m2 m3 m4 m5 m6 m7 w47 ++ [(oo, .inl (kJ, 1, .inr (.inl w46.2)))]) H := hP
  have hD : va_D (fun q : Nat => s.heap.size ≤ q) (wX kI kC kG x ag at_ as_ hh hst a0 a1 a2 a3 tx tch w46.1 ++ wM kI mo m0 m1 m2 m3 m4 m5 m6 m7 w47 ++ [(oo, .inl (kJ, 1, .inr (.inl w46.2)))]) := hD
  refine lv_istore (lv' := [(6, .int r47), (5, .int r46), (4, .int v4), (0, .ref b), (1, .ref x), (2, .ref mo), (3, .ref oo)]) hx hb dL_law_442 hl (by decide) rfl (fun ls hl => ?_)
  refine lv_aload_n hx hb dL_law_444 rfl (lv_at hl 5 rfl) ?_
  refine gVi (As := []) (rest := []) (cs' := wM kI mo m0 m1 m2 m3 m4 m5 m6 m7 w47) ⟨hx, hb, hml, hown, hts⟩ (kX6_thrown l D kI kC kG kJ mo m0 m1 m2 m3 m4 m5 m6 m7 w47 _ hw) (cwV 0 hts gL_law_X6_thrown rfl rfl rfl hdX6_thrown ⟨Nat.le_of_ble_eq_true rfl, Nat.le_of_ble_eq_true rfl⟩) hK hP hE hS [33, 34, 35, 36, 37, 38, 39, 40, 41] rfl (ci := 5) (q0 := 0) rfl rfl rfl rfl hl.1 rfl (Nat.le_of_ble_eq_true rfl) dL_law_445 (gr1 (by omega)) (fun r48 hw => ?_)
  refine lv_iload hx hb dL_law_448 (lv_at hl 1 rfl) ?_
  refine lv_icmp_eq (tgt := 455) hx hb dL_law_450 (by decide) (fun c49 => ?_) (fun c49 => ?_)
  · replace hw := Eq.mp (if_pos c49) hw
    refine lv_iload hx hb dL_law_455 (lv_at hl 1 rfl) ?_
    refine lv_if_ne (tgt := 472) hx hb dL_law_457 (by decide) (fun c50 => ?_) (fun c50 => ?_)
    · replace hw := Eq.mp (if_neg c50) hw
      refine lv_goto (tgt := 1187) hx hb dL_law_472 (by decide) ?_
      obtain ⟨x51, ex51⟩ : ∃ y : Int32, y = (v4 + 2) := ⟨_, rfl⟩
      replace hw := hw x51 ex51
      refine lv_iinc (v := x51) (lv' := [(4, .int x51), (6, .int r47), (5, .int r46), (0, .ref b), (1, .ref x), (2, .ref mo), (3, .ref oo)]) hx hb dL_law_1187 hl (k := 2) rfl (by rw [ex51]; rfl) (by decide) rfl (fun ls hl => ?_)
      refine lv_goto (tgt := 23) hx hb dL_law_1190 (by decide) ?_
      refine W.widen (k := 60 + 2 * (j + 2)) (n := 600 + 12 * (j + 2)) (by omega) (by omega) ?_
      exact hback x51 w46.1 w47 w46.2 H locs ls hP hD hS (lv_sub hl [0, 3, 4, 5, 6] rfl) (by rw [ex51, ev4]; exact nI_add j 2) hw
    · replace hw := Eq.mp (if_pos c50) hw
      refine lv_aload_n hx hb dL_law_460 rfl (lv_at hl 6 rfl) ?_
      refine lv_iconst (v := 0) hx hb dL_law_461 (by decide) ?_
      refine gLald (k := 0) hx hb hK hP 42 3 rfl rfl (gin (by decide)) (by decide) dL_law_462 ?_
      refine lv_iload hx hb dL_law_463 (lv_at hl 0 rfl) ?_
      refine lv_i2l (v := r47.toInt64) hx hb dL_law_465 rfl ?_
      refine W.lcmp hx hb dL_law_466 ?_
      refine lv_if_eq (tgt := 472) hx hb dL_law_467 (by decide) (fun c52 => ?_) (fun c52 => ?_)
      · replace hw := Eq.mp (if_pos c52) hw
        refine lv_goto (tgt := 1187) hx hb dL_law_472 (by decide) ?_
        obtain ⟨x53, ex53⟩ : ∃ y : Int32, y = (v4 + 2) := ⟨_, rfl⟩
        replace hw := hw x53 ex53
        refine lv_iinc (v := x53) (lv' := [(4, .int x53), (6, .int r47), (5, .int r46), (0, .ref b), (1, .ref x), (2, .ref mo), (3, .ref oo)]) hx hb dL_law_1187 hl (k := 2) rfl (by rw [ex53]; rfl) (by decide) rfl (fun ls hl => ?_)
        refine lv_goto (tgt := 23) hx hb dL_law_1190 (by decide) ?_
        refine W.widen (k := 60 + 2 * (j + 2)) (n := 600 + 12 * (j + 2)) (by omega) (by omega) ?_
        exact hback x53 w46.1 w47 w46.2 H locs ls hP hD hS (lv_sub hl [0, 3, 4, 5, 6] rfl) (by rw [ex53, ev4]; exact nI_add j 2) hw
      · replace hw := Eq.mp (if_neg c52) hw
        refine lv_iconst (v := 0) hx hb dL_law_470 (by decide) ?_
        exact (hw : False).elim
  · replace hw := Eq.mp (if_neg c49) hw
    refine lv_iconst (v := 0) hx hb dL_law_453 (by decide) ?_
    exact (hw : False).elim
set_option maxHeartbeats 4000000 in
set_option maxRecDepth 100000 in
theorem law_c7 {p : Program} {l : Launch} {e : Env} {s : State} {m : MethodId} {below : List Frame} {meth : Method} {c : Code} {D : va_G} {kI kC kG kJ : ClassId} {b L : Nat} {xs : Nat → Int32} (hlt : l.stackTraces = false) (hL : L ≤ 1024) (C0 : lw_At p s m meth c b L xs) (hK : va_K D vwCl (gT kI kC kG kJ) s) (hE : gE (fun q : Nat => s.heap.size ≤ q) s s.heap) {x : Nat} {ag at_ as_ : AG} {hh hst : Nat} {a0 a1 a2 a3 : AG} {tx tch : Nat} {mo m0 m1 m2 m3 m4 m5 m6 m7 : Nat} {oo : Nat} (K : SX → SM → (Nat → Int64) → Prop) (j : Nat) (hback : ∀ (v4 : Int32) (u : SX) (v : SM) (f : Nat → Int64) (H : Heap) (locs : List Loc) (ls : Array Slot), va_P D vwCl (wX kI kC kG x ag at_ as_ hh hst a0 a1 a2 a3 tx tch u ++ wM kI mo m0 m1 m2 m3 m4 m5 m6 m7 v ++ [(oo, .inl (kJ, 1, .inr (.inl f)))]) H → va_D (fun q : Nat => s.heap.size ≤ q) (wX kI kC kG x ag at_ as_ hh hst a0 a1 a2 a3 tx tch u ++ wM kI mo m0 m1 m2 m3 m4 m5 m6 m7 v ++ [(oo, .inl (kJ, 1, .inr (.inl f)))]) → va_S (fun q : Nat => s.heap.size ≤ q) s.heap H locs → lv_has ls 7 [(4, .int v4), (0, .ref b), (1, .ref x), (2, .ref mo), (3, .ref oo)] → v4 = nI (j + 2) → K u v f → W p l e room_1 s m #[Value.ref b] below meth c H locs (60 + 2 * (j + 2)) (600 + 12 * (j + 2)) (lw_Z below #[Value.ref b] s) (F0 m 23 ls [])) (v4 : Int32) (ev4 : v4 = nI j) (hj : j + 2 ≤ L) (u : SX) (v : SM) (f : Nat → Int64) (H : Heap) (locs : List Loc) (ls : Array Slot) : va_P D vwCl (wX kI kC kG x ag at_ as_ hh hst a0 a1 a2 a3 tx tch u ++ wM kI mo m0 m1 m2 m3 m4 m5 m6 m7 v ++ [(oo, .inl (kJ, 1, .inr (.inl f)))]) H → va_D (fun q : Nat => s.heap.size ≤ q) (wX kI kC kG x ag at_ as_ hh hst a0 a1 a2 a3 tx tch u ++ wM kI mo m0 m1 m2 m3 m4 m5 m6 m7 v ++ [(oo, .inl (kJ, 1, .inr (.inl f)))]) → va_S (fun q : Nat => s.heap.size ≤ q) s.heap H locs → lv_has ls 7 [(4, .int v4), (0, .ref b), (1, .ref x), (2, .ref mo), (3, .ref oo)] → pL_c7 v4 (xs ((v4 + 1)).toNatClampNeg) u v f K → W p l e room_1 s m #[Value.ref b] below meth c H locs (60 + 2 * j) (600 + 12 * j) (lw_Z below #[Value.ref b] s) (F0 m 475 ls []) := by
  intro hP hD hS hl hw
  obtain ⟨hx, hb, hr, hml, hown, hts0, hX, hbl, hlocks, hgv⟩ := id C0
  have hown : s.vm.findClass RL = some m.cls := hown
  have hts : ∀ w ∈ wsL_law, w.before #[Value.ref b] s = true := fun w h => hts0 w (wsL_law_in w h)
  have hA : ∀ q : Nat, s.heap.size ≤ q → (fun q : Nat => s.heap.size ≤ q) q := fun _ h => h
  have hbA : ¬ (fun q : Nat => s.heap.size ≤ q) b := Nat.not_le.mpr hbl
  have hi0 : vp_in v4 L := by rw [ev4]; exact vp_in_nI (by omega) (by omega)
  have hi1 : vp_in (v4 + 1) L := by rw [ev4, nI_1]; exact vp_in_nI (by omega) (by omega)
  unfold pL_c7 at hw
  refine lv_aload_n hx hb dL_law_475 rfl (lv_at hl 2 rfl) ?_
  refine lv_aload_n hx hb dL_law_476 rfl (lv_at hl 4 rfl) ?_
  refine gLSi (mc := 2) (ms := 12) (S := SX × (Nat → Int64)) (As := [.ref x, .ref oo]) (rest := []) (wc := wX kI kC kG x ag at_ as_ hh hst a0 a1 a2 a3 tx tch u ++ [(oo, .inl (kJ, 1, .inr (.inl f)))]) (wr := wM kI mo m0 m1 m2 m3 m4 m5 m6 m7 v) (cs1 := (fun zz : SX × (Nat → Int64) => wX kI kC kG x ag at_ as_ hh hst a0 a1 a2 a3 tx tch zz.1 ++ [(oo, .inl (kJ, 1, .inr (.inl zz.2)))])) (ws2 := (fun zz : SX × (Nat → Int64) => wX kI kC kG x ag at_ as_ hh hst a0 a1 a2 a3 tx tch zz.1 ++ wM kI mo m0 m1 m2 m3 m4 m5 m6 m7 v ++ [(oo, .inl (kJ, 1, .inr (.inl zz.2)))])) ⟨hx, hb, hml, hown, hts⟩ (fun sz => kL_carryOut l D kI kC kG kJ hlt x ag at_ as_ hh hst a0 a1 a2 a3 tx tch oo sz u f _ hw) (vx_cwSW 2 hts gL_law_L_carryOut rfl rfl rfl hdL_carryOut ⟨Nat.le_of_ble_eq_true rfl, Nat.le_of_ble_eq_true rfl⟩) hK hP hD hE hS hA [0, 1, 2, 3, 4, 5, 6, 7, 8, 9, 10, 11, 12, 13, 14, 15, 16, 17, 18, 19, 20, 21, 22, 23, 24, 25, 26, 27, 28, 29, 30, 31, 32, 42] [33, 34, 35, 36, 37, 38, 39, 40, 41] rfl rfl rfl rfl (by decide) [9, 10, 11, 12, 13, 14, 15, 16, 17, 18, 19, 20, 21, 22, 23, 24, 25, 26, 27, 28, 29, 30, 31, 32, 33, 34, 35, 36, 37, 38, 39, 40, 41, 0, 1, 2, 3, 4, 5, 6, 7, 8, 42] rfl (fun _ => rfl) rfl hl.1 rfl (Nat.le_of_ble_eq_true rfl) dL_law_477 (gr1 (by omega)) (fun r54 w54 H locs hw hP hD hS => ?_)
  have hP : va_P D vwCl (wX kI kC kG x ag at_ as_ hh hst a0 a1 a2 a3 tx tch w54.1 ++ wM kI mo m0 m1 m2 m3 m4 m5 m6 m7 v ++ [(oo, .inl (kJ, 1, .inr (.inl w54.2)))]) H := hP
  have hD : va_D (fun q : Nat => s.heap.size ≤ q) (wX kI kC kG x ag at_ as_ hh hst a0 a1 a2 a3 tx tch w54.1 ++ wM kI mo m0 m1 m2 m3 m4 m5 m6 m7 v ++ [(oo, .inl (kJ, 1, .inr (.inl w54.2)))]) := hD
  refine lv_istore (lv' := [(5, .int r54), (4, .int v4), (0, .ref b), (1, .ref x), (2, .ref mo), (3, .ref oo)]) hx hb dL_law_480 hl (by decide) rfl (fun ls hl => ?_)
  refine lv_aload_n hx hb dL_law_482 rfl (lv_at hl 4 rfl) ?_
  refine gWVi (S := SM) (As := []) (rest := []) (wc := wM kI mo m0 m1 m2 m3 m4 m5 m6 m7 v) (wr := [(x, .inr (4, [.ref ag.1, .ref at_.1, .ref as_.1, .int w54.1.1, .ref hh, .ref tx]))] ++ wG kI ag w54.1.2.1 ++ wG kI at_ w54.1.2.2.1 ++ wG kI as_ w54.1.2.2.2.1 ++ [(hh, .inr (2, [.ref hst, .int w54.1.2.2.2.2.1.1, .int w54.1.2.2.2.2.1.2.1])), (hst, .inl (kG, 4, .inr (.inr (.inr (.inr (fH a0 a1 a2 a3))))))] ++ wG kI a0 w54.1.2.2.2.2.1.2.2.1 ++ wG kI a1 w54.1.2.2.2.2.1.2.2.2.1 ++ wG kI a2 w54.1.2.2.2.2.1.2.2.2.2.1 ++ wG kI a3 w54.1.2.2.2.2.1.2.2.2.2.2 ++ wT kC tx tch w54.1.2.2.2.2.2 ++ [(oo, .inl (kJ, 1, .inr (.inl w54.2)))]) (cs1 := (fun zz : SM => wM kI mo m0 m1 m2 m3 m4 m5 m6 m7 zz)) (ws2 := (fun zz : SM => wX kI kC kG x ag at_ as_ hh hst a0 a1 a2 a3 tx tch w54.1 ++ wM kI mo m0 m1 m2 m3 m4 m5 m6 m7 zz ++ [(oo, .inl (kJ, 1, .inr (.inl w54.2)))])) ⟨hx, hb, hml, hown, hts⟩ (fun sz => kX6_carryOut l D kI kC kG kJ mo m0 m1 m2 m3 m4 m5 m6 m7 sz v _ hw) (cwV 0 hts gL_law_X6_carryOut rfl rfl rfl hdX6_carryOut ⟨Nat.le_of_ble_eq_true rfl, Nat.le_of_ble_eq_true rfl⟩) hK hP hD hE hS hA [33, 34, 35, 36, 37, 38, 39, 40, 41] [0, 1, 2, 3, 4, 5, 6, 7, 8, 9, 10, 11, 12, 13, 14, 15, 16, 17, 18, 19, 20, 21, 22, 23, 24, 25, 26, 27, 28, 29, 30, 31, 32, 42] rfl rfl rfl rfl (by decide) [0, 1, 2, 3, 4, 5, 6, 7, 8, 9, 10, 11, 12, 13, 14, 15, 16, 17, 18, 19, 20, 21, 22, 23, 24, 25, 26, 27, 28, 29, 30, 31, 32, 34, 35, 36, 37, 38, 39, 40, 41, 42, 33] rfl (fun _ => rfl) (ci := 5) (q0 := 0) rfl rfl rfl rfl hl.1 rfl (Nat.le_of_ble_eq_true rfl) dL_law_483 (gr1 (by omega)) (fun r55 w55 H locs hw hP hD hS => ?_)
  have hP : va_P D vwCl (wX kI kC kG x ag at_ as_ hh hst a0 a1 a2 a3 tx tch w54.1 ++ wM kI mo m0 m1 m2 m3 m4 m5 m6 m7 w55 ++ [(oo, .inl (kJ, 1, .inr (.inl w54.2)))]) H := hP
  have hD : va_D (fun q : Nat => s.heap.size ≤ q) (wX kI kC kG x ag at_ as_ hh hst a0 a1 a2 a3 tx tch w54.1 ++ wM kI mo m0 m1 m2 m3 m4 m5 m6 m7 w55 ++ [(oo, .inl (kJ, 1, .inr (.inl w54.2)))]) := hD
  refine lv_istore (lv' := [(6, .int r55), (5, .int r54), (4, .int v4), (0, .ref b), (1, .ref x), (2, .ref mo), (3, .ref oo)]) hx hb dL_law_486 hl (by decide) rfl (fun ls hl => ?_)
  refine lv_aload_n hx hb dL_law_488 rfl (lv_at hl 5 rfl) ?_
  refine gVi (As := []) (rest := []) (cs' := wM kI mo m0 m1 m2 m3 m4 m5 m6 m7 w55) ⟨hx, hb, hml, hown, hts⟩ (kX6_thrown l D kI kC kG kJ mo m0 m1 m2 m3 m4 m5 m6 m7 w55 _ hw) (cwV 0 hts gL_law_X6_thrown rfl rfl rfl hdX6_thrown ⟨Nat.le_of_ble_eq_true rfl, Nat.le_of_ble_eq_true rfl⟩) hK hP hE hS [33, 34, 35, 36, 37, 38, 39, 40, 41] rfl (ci := 5) (q0 := 0) rfl rfl rfl rfl hl.1 rfl (Nat.le_of_ble_eq_true rfl) dL_law_489 (gr1 (by omega)) (fun r56 hw => ?_)
  refine lv_iload hx hb dL_law_492 (lv_at hl 1 rfl) ?_
  refine lv_icmp_eq (tgt := 499) hx hb dL_law_494 (by decide) (fun c57 => ?_) (fun c57 => ?_)
  · replace hw := Eq.mp (if_pos c57) hw
    refine lv_iload hx hb dL_law_499 (lv_at hl 1 rfl) ?_
    refine lv_if_ne (tgt := 516) hx hb dL_law_501 (by decide) (fun c58 => ?_) (fun c58 => ?_)
    · replace hw := Eq.mp (if_neg c58) hw
      refine lv_goto (tgt := 1187) hx hb dL_law_516 (by decide) ?_
      obtain ⟨x59, ex59⟩ : ∃ y : Int32, y = (v4 + 2) := ⟨_, rfl⟩
      replace hw := hw x59 ex59
      refine lv_iinc (v := x59) (lv' := [(4, .int x59), (6, .int r55), (5, .int r54), (0, .ref b), (1, .ref x), (2, .ref mo), (3, .ref oo)]) hx hb dL_law_1187 hl (k := 2) rfl (by rw [ex59]; rfl) (by decide) rfl (fun ls hl => ?_)
      refine lv_goto (tgt := 23) hx hb dL_law_1190 (by decide) ?_
      refine W.widen (k := 60 + 2 * (j + 2)) (n := 600 + 12 * (j + 2)) (by omega) (by omega) ?_
      exact hback x59 w54.1 w55 w54.2 H locs ls hP hD hS (lv_sub hl [0, 3, 4, 5, 6] rfl) (by rw [ex59, ev4]; exact nI_add j 2) hw
    · replace hw := Eq.mp (if_pos c58) hw
      refine lv_aload_n hx hb dL_law_504 rfl (lv_at hl 6 rfl) ?_
      refine lv_iconst (v := 0) hx hb dL_law_505 (by decide) ?_
      refine gLald (k := 0) hx hb hK hP 42 3 rfl rfl (gin (by decide)) (by decide) dL_law_506 ?_
      refine lv_iload hx hb dL_law_507 (lv_at hl 0 rfl) ?_
      refine lv_i2l (v := r55.toInt64) hx hb dL_law_509 rfl ?_
      refine W.lcmp hx hb dL_law_510 ?_
      refine lv_if_eq (tgt := 516) hx hb dL_law_511 (by decide) (fun c60 => ?_) (fun c60 => ?_)
      · replace hw := Eq.mp (if_pos c60) hw
        refine lv_goto (tgt := 1187) hx hb dL_law_516 (by decide) ?_
        obtain ⟨x61, ex61⟩ : ∃ y : Int32, y = (v4 + 2) := ⟨_, rfl⟩
        replace hw := hw x61 ex61
        refine lv_iinc (v := x61) (lv' := [(4, .int x61), (6, .int r55), (5, .int r54), (0, .ref b), (1, .ref x), (2, .ref mo), (3, .ref oo)]) hx hb dL_law_1187 hl (k := 2) rfl (by rw [ex61]; rfl) (by decide) rfl (fun ls hl => ?_)
        refine lv_goto (tgt := 23) hx hb dL_law_1190 (by decide) ?_
        refine W.widen (k := 60 + 2 * (j + 2)) (n := 600 + 12 * (j + 2)) (by omega) (by omega) ?_
        exact hback x61 w54.1 w55 w54.2 H locs ls hP hD hS (lv_sub hl [0, 3, 4, 5, 6] rfl) (by rw [ex61, ev4]; exact nI_add j 2) hw
      · replace hw := Eq.mp (if_neg c60) hw
        refine lv_iconst (v := 0) hx hb dL_law_514 (by decide) ?_
        exact (hw : False).elim
  · replace hw := Eq.mp (if_neg c57) hw
    refine lv_iconst (v := 0) hx hb dL_law_497 (by decide) ?_
    exact (hw : False).elim
set_option maxHeartbeats 4000000 in
set_option maxRecDepth 100000 in
theorem law_c8 {p : Program} {l : Launch} {e : Env} {s : State} {m : MethodId} {below : List Frame} {meth : Method} {c : Code} {D : va_G} {kI kC kG kJ : ClassId} {b L : Nat} {xs : Nat → Int32} (hlt : l.stackTraces = false) (hL : L ≤ 1024) (C0 : lw_At p s m meth c b L xs) (hK : va_K D vwCl (gT kI kC kG kJ) s) (hE : gE (fun q : Nat => s.heap.size ≤ q) s s.heap) {x : Nat} {ag at_ as_ : AG} {hh hst : Nat} {a0 a1 a2 a3 : AG} {tx tch : Nat} {mo m0 m1 m2 m3 m4 m5 m6 m7 : Nat} {oo : Nat} (K : SX → SM → (Nat → Int64) → Prop) (j : Nat) (hback : ∀ (v4 : Int32) (u : SX) (v : SM) (f : Nat → Int64) (H : Heap) (locs : List Loc) (ls : Array Slot), va_P D vwCl (wX kI kC kG x ag at_ as_ hh hst a0 a1 a2 a3 tx tch u ++ wM kI mo m0 m1 m2 m3 m4 m5 m6 m7 v ++ [(oo, .inl (kJ, 1, .inr (.inl f)))]) H → va_D (fun q : Nat => s.heap.size ≤ q) (wX kI kC kG x ag at_ as_ hh hst a0 a1 a2 a3 tx tch u ++ wM kI mo m0 m1 m2 m3 m4 m5 m6 m7 v ++ [(oo, .inl (kJ, 1, .inr (.inl f)))]) → va_S (fun q : Nat => s.heap.size ≤ q) s.heap H locs → lv_has ls 7 [(4, .int v4), (0, .ref b), (1, .ref x), (2, .ref mo), (3, .ref oo)] → v4 = nI (j + 2) → K u v f → W p l e room_1 s m #[Value.ref b] below meth c H locs (60 + 2 * (j + 2)) (600 + 12 * (j + 2)) (lw_Z below #[Value.ref b] s) (F0 m 23 ls [])) (v4 : Int32) (ev4 : v4 = nI j) (hj : j + 2 ≤ L) (u : SX) (v : SM) (f : Nat → Int64) (H : Heap) (locs : List Loc) (ls : Array Slot) : va_P D vwCl (wX kI kC kG x ag at_ as_ hh hst a0 a1 a2 a3 tx tch u ++ wM kI mo m0 m1 m2 m3 m4 m5 m6 m7 v ++ [(oo, .inl (kJ, 1, .inr (.inl f)))]) H → va_D (fun q : Nat => s.heap.size ≤ q) (wX kI kC kG x ag at_ as_ hh hst a0 a1 a2 a3 tx tch u ++ wM kI mo m0 m1 m2 m3 m4 m5 m6 m7 v ++ [(oo, .inl (kJ, 1, .inr (.inl f)))]) → va_S (fun q : Nat => s.heap.size ≤ q) s.heap H locs → lv_has ls 7 [(4, .int v4), (0, .ref b), (1, .ref x), (2, .ref mo), (3, .ref oo)] → pL_c8 v4 (xs ((v4 + 1)).toNatClampNeg) u v f K → W p l e room_1 s m #[Value.ref b] below meth c H locs (60 + 2 * j) (600 + 12 * j) (lw_Z below #[Value.ref b] s) (F0 m 519 ls []) := by
  intro hP hD hS hl hw
  obtain ⟨hx, hb, hr, hml, hown, hts0, hX, hbl, hlocks, hgv⟩ := id C0
  have hown : s.vm.findClass RL = some m.cls := hown
  have hts : ∀ w ∈ wsL_law, w.before #[Value.ref b] s = true := fun w h => hts0 w (wsL_law_in w h)
  have hA : ∀ q : Nat, s.heap.size ≤ q → (fun q : Nat => s.heap.size ≤ q) q := fun _ h => h
  have hbA : ¬ (fun q : Nat => s.heap.size ≤ q) b := Nat.not_le.mpr hbl
  have hi0 : vp_in v4 L := by rw [ev4]; exact vp_in_nI (by omega) (by omega)
  have hi1 : vp_in (v4 + 1) L := by rw [ev4, nI_1]; exact vp_in_nI (by omega) (by omega)
  unfold pL_c8 at hw
  refine lv_aload_n hx hb dL_law_519 rfl (lv_at hl 2 rfl) ?_
  refine lv_aload_n hx hb dL_law_520 rfl (lv_at hl 4 rfl) ?_
  refine gLSi (mc := 1) (ms := 6) (S := SX × (Nat → Int64)) (As := [.ref x, .ref oo]) (rest := []) (wc := wX kI kC kG x ag at_ as_ hh hst a0 a1 a2 a3 tx tch u ++ [(oo, .inl (kJ, 1, .inr (.inl f)))]) (wr := wM kI mo m0 m1 m2 m3 m4 m5 m6 m7 v) (cs1 := (fun zz : SX × (Nat → Int64) => wX kI kC kG x ag at_ as_ hh hst a0 a1 a2 a3 tx tch zz.1 ++ [(oo, .inl (kJ, 1, .inr (.inl zz.2)))])) (ws2 := (fun zz : SX × (Nat → Int64) => wX kI kC kG x ag at_ as_ hh hst a0 a1 a2 a3 tx tch zz.1 ++ wM kI mo m0 m1 m2 m3 m4 m5 m6 m7 v ++ [(oo, .inl (kJ, 1, .inr (.inl zz.2)))])) ⟨hx, hb, hml, hown, hts⟩ (fun sz => kL_undo l D kI kC kG kJ hlt x ag at_ as_ hh hst a0 a1 a2 a3 tx tch oo sz u f _ hw) (vx_cwSW 2 hts gL_law_L_undo rfl rfl rfl hdL_undo ⟨Nat.le_of_ble_eq_true rfl, Nat.le_of_ble_eq_true rfl⟩) hK hP hD hE hS hA [0, 1, 2, 3, 4, 5, 6, 7, 8, 9, 10, 11, 12, 13, 14, 15, 16, 17, 18, 19, 20, 21, 22, 23, 24, 25, 26, 27, 28, 29, 30, 31, 32, 42] [33, 34, 35, 36, 37, 38, 39, 40, 41] rfl rfl rfl rfl (by decide) [9, 10, 11, 12, 13, 14, 15, 16, 17, 18, 19, 20, 21, 22, 23, 24, 25, 26, 27, 28, 29, 30, 31, 32, 33, 34, 35, 36, 37, 38, 39, 40, 41, 0, 1, 2, 3, 4, 5, 6, 7, 8, 42] rfl (fun _ => rfl) rfl hl.1 rfl (Nat.le_of_ble_eq_true rfl) dL_law_521 (gr1 (by omega)) (fun r62 w62 H locs hw hP hD hS => ?_)
  have hP : va_P D vwCl (wX kI kC kG x ag at_ as_ hh hst a0 a1 a2 a3 tx tch w62.1 ++ wM kI mo m0 m1 m2 m3 m4 m5 m6 m7 v ++ [(oo, .inl (kJ, 1, .inr (.inl w62.2)))]) H := hP
  have hD : va_D (fun q : Nat => s.heap.size ≤ q) (wX kI kC kG x ag at_ as_ hh hst a0 a1 a2 a3 tx tch w62.1 ++ wM kI mo m0 m1 m2 m3 m4 m5 m6 m7 v ++ [(oo, .inl (kJ, 1, .inr (.inl w62.2)))]) := hD
  refine lv_istore (lv' := [(5, .int r62), (4, .int v4), (0, .ref b), (1, .ref x), (2, .ref mo), (3, .ref oo)]) hx hb dL_law_524 hl (by decide) rfl (fun ls hl => ?_)
  refine lv_aload_n hx hb dL_law_526 rfl (lv_at hl 4 rfl) ?_
  refine gWVi (S := SM) (As := []) (rest := []) (wc := wM kI mo m0 m1 m2 m3 m4 m5 m6 m7 v) (wr := [(x, .inr (4, [.ref ag.1, .ref at_.1, .ref as_.1, .int w62.1.1, .ref hh, .ref tx]))] ++ wG kI ag w62.1.2.1 ++ wG kI at_ w62.1.2.2.1 ++ wG kI as_ w62.1.2.2.2.1 ++ [(hh, .inr (2, [.ref hst, .int w62.1.2.2.2.2.1.1, .int w62.1.2.2.2.2.1.2.1])), (hst, .inl (kG, 4, .inr (.inr (.inr (.inr (fH a0 a1 a2 a3))))))] ++ wG kI a0 w62.1.2.2.2.2.1.2.2.1 ++ wG kI a1 w62.1.2.2.2.2.1.2.2.2.1 ++ wG kI a2 w62.1.2.2.2.2.1.2.2.2.2.1 ++ wG kI a3 w62.1.2.2.2.2.1.2.2.2.2.2 ++ wT kC tx tch w62.1.2.2.2.2.2 ++ [(oo, .inl (kJ, 1, .inr (.inl w62.2)))]) (cs1 := (fun zz : SM => wM kI mo m0 m1 m2 m3 m4 m5 m6 m7 zz)) (ws2 := (fun zz : SM => wX kI kC kG x ag at_ as_ hh hst a0 a1 a2 a3 tx tch w62.1 ++ wM kI mo m0 m1 m2 m3 m4 m5 m6 m7 zz ++ [(oo, .inl (kJ, 1, .inr (.inl w62.2)))])) ⟨hx, hb, hml, hown, hts⟩ (fun sz => kX6_undo l D kI kC kG kJ mo m0 m1 m2 m3 m4 m5 m6 m7 sz v _ hw) (cwV 0 hts gL_law_X6_undo rfl rfl rfl hdX6_undo ⟨Nat.le_of_ble_eq_true rfl, Nat.le_of_ble_eq_true rfl⟩) hK hP hD hE hS hA [33, 34, 35, 36, 37, 38, 39, 40, 41] [0, 1, 2, 3, 4, 5, 6, 7, 8, 9, 10, 11, 12, 13, 14, 15, 16, 17, 18, 19, 20, 21, 22, 23, 24, 25, 26, 27, 28, 29, 30, 31, 32, 42] rfl rfl rfl rfl (by decide) [0, 1, 2, 3, 4, 5, 6, 7, 8, 9, 10, 11, 12, 13, 14, 15, 16, 17, 18, 19, 20, 21, 22, 23, 24, 25, 26, 27, 28, 29, 30, 31, 32, 34, 35, 36, 37, 38, 39, 40, 41, 42, 33] rfl (fun _ => rfl) (ci := 5) (q0 := 0) rfl rfl rfl rfl hl.1 rfl (Nat.le_of_ble_eq_true rfl) dL_law_527 (gr1 (by omega)) (fun r63 w63 H locs hw hP hD hS => ?_)
  have hP : va_P D vwCl (wX kI kC kG x ag at_ as_ hh hst a0 a1 a2 a3 tx tch w62.1 ++ wM kI mo m0 m1 m2 m3 m4 m5 m6 m7 w63 ++ [(oo, .inl (kJ, 1, .inr (.inl w62.2)))]) H := hP
  have hD : va_D (fun q : Nat => s.heap.size ≤ q) (wX kI kC kG x ag at_ as_ hh hst a0 a1 a2 a3 tx tch w62.1 ++ wM kI mo m0 m1 m2 m3 m4 m5 m6 m7 w63 ++ [(oo, .inl (kJ, 1, .inr (.inl w62.2)))]) := hD
  refine lv_istore (lv' := [(6, .int r63), (5, .int r62), (4, .int v4), (0, .ref b), (1, .ref x), (2, .ref mo), (3, .ref oo)]) hx hb dL_law_530 hl (by decide) rfl (fun ls hl => ?_)
  refine lv_aload_n hx hb dL_law_532 rfl (lv_at hl 5 rfl) ?_
  refine gVi (As := []) (rest := []) (cs' := wM kI mo m0 m1 m2 m3 m4 m5 m6 m7 w63) ⟨hx, hb, hml, hown, hts⟩ (kX6_thrown l D kI kC kG kJ mo m0 m1 m2 m3 m4 m5 m6 m7 w63 _ hw) (cwV 0 hts gL_law_X6_thrown rfl rfl rfl hdX6_thrown ⟨Nat.le_of_ble_eq_true rfl, Nat.le_of_ble_eq_true rfl⟩) hK hP hE hS [33, 34, 35, 36, 37, 38, 39, 40, 41] rfl (ci := 5) (q0 := 0) rfl rfl rfl rfl hl.1 rfl (Nat.le_of_ble_eq_true rfl) dL_law_533 (gr1 (by omega)) (fun r64 hw => ?_)
  refine lv_iload hx hb dL_law_536 (lv_at hl 1 rfl) ?_
  refine lv_icmp_eq (tgt := 543) hx hb dL_law_538 (by decide) (fun c65 => ?_) (fun c65 => ?_)
  · replace hw := Eq.mp (if_pos c65) hw
    refine lv_iload hx hb dL_law_543 (lv_at hl 1 rfl) ?_
    refine lv_if_ne (tgt := 560) hx hb dL_law_545 (by decide) (fun c66 => ?_) (fun c66 => ?_)
    · replace hw := Eq.mp (if_neg c66) hw
      refine lv_goto (tgt := 1187) hx hb dL_law_560 (by decide) ?_
      obtain ⟨x67, ex67⟩ : ∃ y : Int32, y = (v4 + 2) := ⟨_, rfl⟩
      replace hw := hw x67 ex67
      refine lv_iinc (v := x67) (lv' := [(4, .int x67), (6, .int r63), (5, .int r62), (0, .ref b), (1, .ref x), (2, .ref mo), (3, .ref oo)]) hx hb dL_law_1187 hl (k := 2) rfl (by rw [ex67]; rfl) (by decide) rfl (fun ls hl => ?_)
      refine lv_goto (tgt := 23) hx hb dL_law_1190 (by decide) ?_
      refine W.widen (k := 60 + 2 * (j + 2)) (n := 600 + 12 * (j + 2)) (by omega) (by omega) ?_
      exact hback x67 w62.1 w63 w62.2 H locs ls hP hD hS (lv_sub hl [0, 3, 4, 5, 6] rfl) (by rw [ex67, ev4]; exact nI_add j 2) hw
    · replace hw := Eq.mp (if_pos c66) hw
      refine lv_aload_n hx hb dL_law_548 rfl (lv_at hl 6 rfl) ?_
      refine lv_iconst (v := 0) hx hb dL_law_549 (by decide) ?_
      refine gLald (k := 0) hx hb hK hP 42 3 rfl rfl (gin (by decide)) (by decide) dL_law_550 ?_
      refine lv_iload hx hb dL_law_551 (lv_at hl 0 rfl) ?_
      refine lv_i2l (v := r63.toInt64) hx hb dL_law_553 rfl ?_
      refine W.lcmp hx hb dL_law_554 ?_
      refine lv_if_eq (tgt := 560) hx hb dL_law_555 (by decide) (fun c68 => ?_) (fun c68 => ?_)
      · replace hw := Eq.mp (if_pos c68) hw
        refine lv_goto (tgt := 1187) hx hb dL_law_560 (by decide) ?_
        obtain ⟨x69, ex69⟩ : ∃ y : Int32, y = (v4 + 2) := ⟨_, rfl⟩
        replace hw := hw x69 ex69
        refine lv_iinc (v := x69) (lv' := [(4, .int x69), (6, .int r63), (5, .int r62), (0, .ref b), (1, .ref x), (2, .ref mo), (3, .ref oo)]) hx hb dL_law_1187 hl (k := 2) rfl (by rw [ex69]; rfl) (by decide) rfl (fun ls hl => ?_)
        refine lv_goto (tgt := 23) hx hb dL_law_1190 (by decide) ?_
        refine W.widen (k := 60 + 2 * (j + 2)) (n := 600 + 12 * (j + 2)) (by omega) (by omega) ?_
        exact hback x69 w62.1 w63 w62.2 H locs ls hP hD hS (lv_sub hl [0, 3, 4, 5, 6] rfl) (by rw [ex69, ev4]; exact nI_add j 2) hw
      · replace hw := Eq.mp (if_neg c68) hw
        refine lv_iconst (v := 0) hx hb dL_law_558 (by decide) ?_
        exact (hw : False).elim
  · replace hw := Eq.mp (if_neg c65) hw
    refine lv_iconst (v := 0) hx hb dL_law_541 (by decide) ?_
    exact (hw : False).elim
set_option maxHeartbeats 4000000 in
set_option maxRecDepth 100000 in
theorem law_c9 {p : Program} {l : Launch} {e : Env} {s : State} {m : MethodId} {below : List Frame} {meth : Method} {c : Code} {D : va_G} {kI kC kG kJ : ClassId} {b L : Nat} {xs : Nat → Int32} (hlt : l.stackTraces = false) (hL : L ≤ 1024) (C0 : lw_At p s m meth c b L xs) (hK : va_K D vwCl (gT kI kC kG kJ) s) (hE : gE (fun q : Nat => s.heap.size ≤ q) s s.heap) {x : Nat} {ag at_ as_ : AG} {hh hst : Nat} {a0 a1 a2 a3 : AG} {tx tch : Nat} {mo m0 m1 m2 m3 m4 m5 m6 m7 : Nat} {oo : Nat} (K : SX → SM → (Nat → Int64) → Prop) (j : Nat) (hback : ∀ (v4 : Int32) (u : SX) (v : SM) (f : Nat → Int64) (H : Heap) (locs : List Loc) (ls : Array Slot), va_P D vwCl (wX kI kC kG x ag at_ as_ hh hst a0 a1 a2 a3 tx tch u ++ wM kI mo m0 m1 m2 m3 m4 m5 m6 m7 v ++ [(oo, .inl (kJ, 1, .inr (.inl f)))]) H → va_D (fun q : Nat => s.heap.size ≤ q) (wX kI kC kG x ag at_ as_ hh hst a0 a1 a2 a3 tx tch u ++ wM kI mo m0 m1 m2 m3 m4 m5 m6 m7 v ++ [(oo, .inl (kJ, 1, .inr (.inl f)))]) → va_S (fun q : Nat => s.heap.size ≤ q) s.heap H locs → lv_has ls 7 [(4, .int v4), (0, .ref b), (1, .ref x), (2, .ref mo), (3, .ref oo)] → v4 = nI (j + 2) → K u v f → W p l e room_1 s m #[Value.ref b] below meth c H locs (60 + 2 * (j + 2)) (600 + 12 * (j + 2)) (lw_Z below #[Value.ref b] s) (F0 m 23 ls [])) (v4 : Int32) (ev4 : v4 = nI j) (hj : j + 2 ≤ L) (u : SX) (v : SM) (f : Nat → Int64) (H : Heap) (locs : List Loc) (ls : Array Slot) : va_P D vwCl (wX kI kC kG x ag at_ as_ hh hst a0 a1 a2 a3 tx tch u ++ wM kI mo m0 m1 m2 m3 m4 m5 m6 m7 v ++ [(oo, .inl (kJ, 1, .inr (.inl f)))]) H → va_D (fun q : Nat => s.heap.size ≤ q) (wX kI kC kG x ag at_ as_ hh hst a0 a1 a2 a3 tx tch u ++ wM kI mo m0 m1 m2 m3 m4 m5 m6 m7 v ++ [(oo, .inl (kJ, 1, .inr (.inl f)))]) → va_S (fun q : Nat => s.heap.size ≤ q) s.heap H locs → lv_has ls 7 [(4, .int v4), (0, .ref b), (1, .ref x), (2, .ref mo), (3, .ref oo)] → pL_c9 v4 (xs ((v4 + 1)).toNatClampNeg) u v f K → W p l e room_1 s m #[Value.ref b] below meth c H locs (60 + 2 * j) (600 + 12 * j) (lw_Z below #[Value.ref b] s) (F0 m 563 ls []) := by
  intro hP hD hS hl hw
  obtain ⟨hx, hb, hr, hml, hown, hts0, hX, hbl, hlocks, hgv⟩ := id C0
  have hown : s.vm.findClass RL = some m.cls := hown
  have hts : ∀ w ∈ wsL_law, w.before #[Value.ref b] s = true := fun w h => hts0 w (wsL_law_in w h)
  have hA : ∀ q : Nat, s.heap.size ≤ q → (fun q : Nat => s.heap.size ≤ q) q := fun _ h => h
  have hbA : ¬ (fun q : Nat => s.heap.size ≤ q) b := Nat.not_le.mpr hbl
  have hi0 : vp_in v4 L := by rw [ev4]; exact vp_in_nI (by omega) (by omega)
  have hi1 : vp_in (v4 + 1) L := by rw [ev4, nI_1]; exact vp_in_nI (by omega) (by omega)
  unfold pL_c9 at hw
  refine lv_aload_n hx hb dL_law_563 rfl (lv_at hl 2 rfl) ?_
  refine gWVi (S := SX) (As := []) (rest := []) (wc := wX kI kC kG x ag at_ as_ hh hst a0 a1 a2 a3 tx tch u) (wr := wM kI mo m0 m1 m2 m3 m4 m5 m6 m7 v ++ [(oo, .inl (kJ, 1, .inr (.inl f)))]) (cs1 := (fun zz : SX => wX kI kC kG x ag at_ as_ hh hst a0 a1 a2 a3 tx tch zz)) (ws2 := (fun zz : SX => wX kI kC kG x ag at_ as_ hh hst a0 a1 a2 a3 tx tch zz ++ wM kI mo m0 m1 m2 m3 m4 m5 m6 m7 v ++ [(oo, .inl (kJ, 1, .inr (.inl f)))])) ⟨hx, hb, hml, hown, hts⟩ (fun sz => kX5_takeSnapshot l D kI kC kG kJ x ag at_ as_ hh hst a0 a1 a2 a3 tx tch sz u _ hw) (cwV 0 hts gL_law_X5_takeSnapshot rfl rfl rfl hdX5_takeSnapshot ⟨Nat.le_of_ble_eq_true rfl, Nat.le_of_ble_eq_true rfl⟩) hK hP hD hE hS hA [0, 1, 2, 3, 4, 5, 6, 7, 8, 9, 10, 11, 12, 13, 14, 15, 16, 17, 18, 19, 20, 21, 22, 23, 24, 25, 26, 27, 28, 29, 30, 31, 32] [33, 34, 35, 36, 37, 38, 39, 40, 41, 42] rfl rfl rfl rfl (by decide) [10, 11, 12, 13, 14, 15, 16, 17, 18, 19, 20, 21, 22, 23, 24, 25, 26, 27, 28, 29, 30, 31, 32, 33, 34, 35, 36, 37, 38, 39, 40, 41, 42, 0, 1, 2, 3, 4, 5, 6, 7, 8, 9] rfl (fun _ => rfl) (ci := 4) (q0 := 0) rfl rfl rfl rfl hl.1 rfl (Nat.le_of_ble_eq_true rfl) dL_law_564 (gr1 (by omega)) (fun r70 w70 H locs hw hP hD hS => ?_)
  have hP : va_P D vwCl (wX kI kC kG x ag at_ as_ hh hst a0 a1 a2 a3 tx tch w70 ++ wM kI mo m0 m1 m2 m3 m4 m5 m6 m7 v ++ [(oo, .inl (kJ, 1, .inr (.inl f)))]) H := hP
  have hD : va_D (fun q : Nat => s.heap.size ≤ q) (wX kI kC kG x ag at_ as_ hh hst a0 a1 a2 a3 tx tch w70 ++ wM kI mo m0 m1 m2 m3 m4 m5 m6 m7 v ++ [(oo, .inl (kJ, 1, .inr (.inl f)))]) := hD
  refine lv_aload_n hx hb dL_law_567 rfl (lv_at hl 3 rfl) ?_
  refine gWVi (S := SM) (As := []) (rest := [.int r70]) (wc := wM kI mo m0 m1 m2 m3 m4 m5 m6 m7 v) (wr := [(x, .inr (4, [.ref ag.1, .ref at_.1, .ref as_.1, .int w70.1, .ref hh, .ref tx]))] ++ wG kI ag w70.2.1 ++ wG kI at_ w70.2.2.1 ++ wG kI as_ w70.2.2.2.1 ++ [(hh, .inr (2, [.ref hst, .int w70.2.2.2.2.1.1, .int w70.2.2.2.2.1.2.1])), (hst, .inl (kG, 4, .inr (.inr (.inr (.inr (fH a0 a1 a2 a3))))))] ++ wG kI a0 w70.2.2.2.2.1.2.2.1 ++ wG kI a1 w70.2.2.2.2.1.2.2.2.1 ++ wG kI a2 w70.2.2.2.2.1.2.2.2.2.1 ++ wG kI a3 w70.2.2.2.2.1.2.2.2.2.2 ++ wT kC tx tch w70.2.2.2.2.2 ++ [(oo, .inl (kJ, 1, .inr (.inl f)))]) (cs1 := (fun zz : SM => wM kI mo m0 m1 m2 m3 m4 m5 m6 m7 zz)) (ws2 := (fun zz : SM => wX kI kC kG x ag at_ as_ hh hst a0 a1 a2 a3 tx tch w70 ++ wM kI mo m0 m1 m2 m3 m4 m5 m6 m7 zz ++ [(oo, .inl (kJ, 1, .inr (.inl f)))])) ⟨hx, hb, hml, hown, hts⟩ (fun sz => kX6_takeSnapshot l D kI kC kG kJ mo m0 m1 m2 m3 m4 m5 m6 m7 sz v _ hw) (cwV 0 hts gL_law_X6_takeSnapshot rfl rfl rfl hdX6_takeSnapshot ⟨Nat.le_of_ble_eq_true rfl, Nat.le_of_ble_eq_true rfl⟩) hK hP hD hE hS hA [33, 34, 35, 36, 37, 38, 39, 40, 41] [0, 1, 2, 3, 4, 5, 6, 7, 8, 9, 10, 11, 12, 13, 14, 15, 16, 17, 18, 19, 20, 21, 22, 23, 24, 25, 26, 27, 28, 29, 30, 31, 32, 42] rfl rfl rfl rfl (by decide) [0, 1, 2, 3, 4, 5, 6, 7, 8, 9, 10, 11, 12, 13, 14, 15, 16, 17, 18, 19, 20, 21, 22, 23, 24, 25, 26, 27, 28, 29, 30, 31, 32, 34, 35, 36, 37, 38, 39, 40, 41, 42, 33] rfl (fun _ => rfl) (ci := 5) (q0 := 0) rfl rfl rfl rfl hl.1 rfl (Nat.le_of_ble_eq_true rfl) dL_law_568 (gr1 (by omega)) (fun r71 w71 H locs hw hP hD hS => ?_)
  have hP : va_P D vwCl (wX kI kC kG x ag at_ as_ hh hst a0 a1 a2 a3 tx tch w70 ++ wM kI mo m0 m1 m2 m3 m4 m5 m6 m7 w71 ++ [(oo, .inl (kJ, 1, .inr (.inl f)))]) H := hP
  have hD : va_D (fun q : Nat => s.heap.size ≤ q) (wX kI kC kG x ag at_ as_ hh hst a0 a1 a2 a3 tx tch w70 ++ wM kI mo m0 m1 m2 m3 m4 m5 m6 m7 w71 ++ [(oo, .inl (kJ, 1, .inr (.inl f)))]) := hD
  refine lv_icmp_eq (tgt := 1187) hx hb dL_law_571 (by decide) (fun c72 => ?_) (fun c72 => ?_)
  · replace hw := Eq.mp (if_pos c72) hw
    obtain ⟨x73, ex73⟩ : ∃ y : Int32, y = (v4 + 2) := ⟨_, rfl⟩
    replace hw := hw x73 ex73
    refine lv_iinc (v := x73) (lv' := [(4, .int x73), (0, .ref b), (1, .ref x), (2, .ref mo), (3, .ref oo)]) hx hb dL_law_1187 hl (k := 0) rfl (by rw [ex73]; rfl) (by decide) rfl (fun ls hl => ?_)
    refine lv_goto (tgt := 23) hx hb dL_law_1190 (by decide) ?_
    refine W.widen (k := 60 + 2 * (j + 2)) (n := 600 + 12 * (j + 2)) (by omega) (by omega) ?_
    exact hback x73 w70 w71 f H locs ls hP hD hS (lv_sub hl [0, 1, 2, 3, 4] rfl) (by rw [ex73, ev4]; exact nI_add j 2) hw
  · replace hw := Eq.mp (if_neg c72) hw
    refine lv_iconst (v := 0) hx hb dL_law_574 (by decide) ?_
    exact (hw : False).elim
