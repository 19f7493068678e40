def pL_c22 (v4 k1 : Int32) (u : SX) (v : SM) (f : Nat → Int64) (K : SX → SM → (Nat → Int64) → Prop) : Prop :=
  pL_winsOf k1 u f (fun r142 w142 => (pX6_winsOf k1 v (fun r143 w143 => (pX6_thrown w143 (fun r144 => (if r144 = r142 then (if r142 = 0 then (if (lg_cmp (w142.2 0) r143.toInt64) = 0 then (∀ x149 : Int32, x149 = (v4 + 2) → (K w142.1 w143 w142.2)) else False) else (∀ x147 : Int32, x147 = (v4 + 2) → (K w142.1 w143 w142.2))) else False))))))
def pL_c23 (v4 k1 : Int32) (u : SX) (v : SM) (f : Nat → Int64) (K : SX → SM → (Nat → Int64) → Prop) : Prop :=
  pL_winningCell k1 u f (fun r150 w150 => (pX6_winningCell k1 v (fun r151 w151 => (pX6_thrown w151 (fun r152 => (if r152 = r150 then (if r150 = 0 then (if (lg_cmp (w150.2 0) r151.toInt64) = 0 then (∀ x157 : Int32, x157 = (v4 + 2) → (K w150.1 w151 w150.2)) else False) else (∀ x155 : Int32, x155 = (v4 + 2) → (K w150.1 w151 w150.2))) else False))))))
def pL_c24 (v4 k1 : Int32) (u : SX) (v : SM) (f : Nat → Int64) (K : SX → SM → (Nat → Int64) → Prop) : Prop :=
  pX5_safeByTrying u (fun r158 w158 => (pX6_safeByTrying v (fun r159 w159 => (if r158 = r159 then (∀ x161 : Int32, x161 = (v4 + 2) → (K w158 w159 f)) else False))))
def pL_c25 (v4 k1 : Int32) (u : SX) (v : SM) (f : Nat → Int64) (K : SX → SM → (Nat → Int64) → Prop) : Prop :=
  pX5_safeByLines u (fun r162 => (pX6_safeByLines v (fun r163 w163 => (if r162 = r163 then (∀ x165 : Int32, x165 = (v4 + 2) → (K u w163 f)) else False))))
def pL_c26 (v4 k1 : Int32) (u : SX) (v : SM) (f : Nat → Int64) (K : SX → SM → (Nat → Int64) → Prop) : Prop :=
  pL_outcome u f (fun r166 w166 => (pX6_outcome v (fun r167 w167 => (pX6_thrown w167 (fun r168 => (if r168 = r166 then (if r166 = 0 then (if (lg_cmp (w166.2 0) r167.toInt64) = 0 then (∀ x173 : Int32, x173 = (v4 + 2) → (K w166.1 w167 w166.2)) else False) else (∀ x171 : Int32, x171 = (v4 + 2) → (K w166.1 w167 w166.2))) else False))))))
def pL_c27 (v4 k1 : Int32) (u : SX) (v : SM) (f : Nat → Int64) (K : SX → SM → (Nat → Int64) → Prop) : Prop :=
  pL_bestMove u f (fun r174 w174 => (pX6_bestMove v (fun r175 w175 => (pX6_thrown w175 (fun r176 => (if r176 = r174 then (if r174 = 0 then (if (lg_cmp (w174.2 0) r175.toInt64) = 0 then (∀ x181 : Int32, x181 = (v4 + 2) → (K w174.1 w175 w174.2)) else False) else (∀ x179 : Int32, x179 = (v4 + 2) → (K w174.1 w175 w174.2))) else False))))))
def pL_c28 (v4 k1 : Int32) (u : SX) (v : SM) (f : Nat → Int64) (K : SX → SM → (Nat → Int64) → Prop) : Prop :=
  pX5_rule u (fun r182 => (pX6_rule v (fun r183 w183 => (if r182 = r183 then (∀ x185 : Int32, x185 = (v4 + 2) → (K u w183 f)) else False))))
def pL_c29 (v4 k1 : Int32) (u : SX) (v : SM) (f : Nat → Int64) (K : SX → SM → (Nat → Int64) → Prop) : Prop :=
  pX5_recordedStates u (fun r186 => (pX6_recordedStates v (fun r187 w187 => (if r186 = r187 then (∀ x189 : Int32, x189 = (v4 + 2) → (K u w187 f)) else False))))
set_option maxHeartbeats 4000000 in
set_option maxRecDepth 100000 in
theorem law_c22 {p : Program} {l : Launch} {e : Env} {s : State} {m : MethodId} {below : List Frame} {meth : Method} {c : Code} {D : va_G} {kI kC kG kJ : ClassId} {b L : Nat} {xs : Nat → Int32} (hlt : l.stackTraces = false) (hL : L ≤ 1024) (C0 : lw_At p s m meth c b L xs) (hK : va_K D vwCl (gT kI kC kG kJ) s) (hE : gE (fun q : Nat => s.heap.size ≤ q) s s.heap) {x : Nat} {ag at_ as_ : AG} {hh hst : Nat} {a0 a1 a2 a3 : AG} {tx tch : Nat} {mo m0 m1 m2 m3 m4 m5 m6 m7 : Nat} {oo : Nat} (K : SX → SM → (Nat → Int64) → Prop) (j : Nat) (hback : ∀ (v4 : Int32) (u : SX) (v : SM) (f : Nat → Int64) (H : Heap) (locs : List Loc) (ls : Array Slot), va_P D vwCl (wX kI kC kG x ag at_ as_ hh hst a0 a1 a2 a3 tx tch u ++ wM kI mo m0 m1 m2 m3 m4 m5 m6 m7 v ++ [(oo, .inl (kJ, 1, .inr (.inl f)))]) H → va_D (fun q : Nat => s.heap.size ≤ q) (wX kI kC kG x ag at_ as_ hh hst a0 a1 a2 a3 tx tch u ++ wM kI mo m0 m1 m2 m3 m4 m5 m6 m7 v ++ [(oo, .inl (kJ, 1, .inr (.inl f)))]) → va_S (fun q : Nat => s.heap.size ≤ q) s.heap H locs → lv_has ls 7 [(4, .int v4), (0, .ref b), (1, .ref x), (2, .ref mo), (3, .ref oo)] → v4 = nI (j + 2) → K u v f → W p l e room_1 s m #[Value.ref b] below meth c H locs (60 + 2 * (j + 2)) (600 + 12 * (j + 2)) (lw_Z below #[Value.ref b] s) (F0 m 23 ls [])) (v4 : Int32) (ev4 : v4 = nI j) (hj : j + 2 ≤ L) (u : SX) (v : SM) (f : Nat → Int64) (H : Heap) (locs : List Loc) (ls : Array Slot) : va_P D vwCl (wX kI kC kG x ag at_ as_ hh hst a0 a1 a2 a3 tx tch u ++ wM kI mo m0 m1 m2 m3 m4 m5 m6 m7 v ++ [(oo, .inl (kJ, 1, .inr (.inl f)))]) H → va_D (fun q : Nat => s.heap.size ≤ q) (wX kI kC kG x ag at_ as_ hh hst a0 a1 a2 a3 tx tch u ++ wM kI mo m0 m1 m2 m3 m4 m5 m6 m7 v ++ [(oo, .inl (kJ, 1, .inr (.inl f)))]) → va_S (fun q : Nat => s.heap.size ≤ q) s.heap H locs → lv_has ls 7 [(4, .int v4), (0, .ref b), (1, .ref x), (2, .ref mo), (3, .ref oo)] → pL_c22 v4 (xs ((v4 + 1)).toNatClampNeg) u v f K → W p l e room_1 s m #[Value.ref b] below meth c H locs (60 + 2 * j) (600 + 12 * j) (lw_Z below #[Value.ref b] s) (F0 m 935 ls []) := by
  intro hP hD hS hl hw
  obtain ⟨hx, hb, hr, hml, hown, hts0, hX, hbl, hlocks, hgv⟩ := id C0
  have hown : s.vm.findClass RL = some m.cls := hown
  have hts : ∀ w ∈ wsL_law, w.before #[Value.ref b] s = true := fun w h => hts0 w (wsL_law_in w h)
  have hA : ∀ q : Nat, s.heap.size ≤ q → (fun q : Nat => s.heap.size ≤ q) q := fun _ h => h
  have hbA : ¬ (fun q : Nat => s.heap.size ≤ q) b := Nat.not_le.mpr hbl
  have hi0 : vp_in v4 L := by rw [ev4]; exact vp_in_nI (by omega) (by omega)
  have hi1 : vp_in (v4 + 1) L := by rw [ev4, nI_1]; exact vp_in_nI (by omega) (by omega)
  unfold pL_c22 at hw
  refine lv_aload_n hx hb dL_law_935 rfl (lv_at hl 2 rfl) ?_
  refine lv_aload_n hx hb dL_law_936 rfl (lv_at hl 1 rfl) ?_
  refine lv_iload hx hb dL_law_937 (lv_at hl 0 rfl) ?_
  refine lv_iconst (v := 1) hx hb dL_law_939 (by decide) ?_
  refine lv_iadd hx hb dL_law_940 ?_
  refine va_sld hx hb hX hbl hbA hS hi1 dL_law_941 ?_
  refine lv_aload_n hx hb dL_law_942 rfl (lv_at hl 4 rfl) ?_
  refine gLSi (mc := 1) (ms := 6) (S := SX × (Nat → Int64)) (As := [.ref x, .int (xs ((v4 + 1)).toNatClampNeg), .ref oo]) (rest := []) (wc := wX kI kC kG x ag at_ as_ hh hst a0 a1 a2 a3 tx tch u ++ [(oo, .inl (kJ, 1, .inr (.inl f)))]) (wr := wM kI mo m0 m1 m2 m3 m4 m5 m6 m7 v) (cs1 := (fun zz : SX × (Nat → Int64) => wX kI kC kG x ag at_ as_ hh hst a0 a1 a2 a3 tx tch zz.1 ++ [(oo, .inl (kJ, 1, .inr (.inl zz.2)))])) (ws2 := (fun zz : SX × (Nat → Int64) => wX kI kC kG x ag at_ as_ hh hst a0 a1 a2 a3 tx tch zz.1 ++ wM kI mo m0 m1 m2 m3 m4 m5 m6 m7 v ++ [(oo, .inl (kJ, 1, .inr (.inl zz.2)))])) ⟨hx, hb, hml, hown, hts⟩ (fun sz => kL_winsOf l D kI kC kG kJ hlt x ag at_ as_ hh hst a0 a1 a2 a3 tx tch oo sz u f (xs ((v4 + 1)).toNatClampNeg) _ hw) (vx_cwSW 3 hts gL_law_L_winsOf rfl rfl rfl hdL_winsOf ⟨Nat.le_of_ble_eq_true rfl, Nat.le_of_ble_eq_true rfl⟩) hK hP hD hE hS hA [0, 1, 2, 3, 4, 5, 6, 7, 8, 9, 10, 11, 12, 13, 14, 15, 16, 17, 18, 19, 20, 21, 22, 23, 24, 25, 26, 27, 28, 29, 30, 31, 32, 42] [33, 34, 35, 36, 37, 38, 39, 40, 41] rfl rfl rfl rfl (by decide) [9, 10, 11, 12, 13, 14, 15, 16, 17, 18, 19, 20, 21, 22, 23, 24, 25, 26, 27, 28, 29, 30, 31, 32, 33, 34, 35, 36, 37, 38, 39, 40, 41, 0, 1, 2, 3, 4, 5, 6, 7, 8, 42] rfl (fun _ => rfl) rfl hl.1 rfl (Nat.le_of_ble_eq_true rfl) dL_law_943 (gr1 (by omega)) (fun r142 w142 H locs hw hP hD hS => ?_)
  have hP : va_P D vwCl (wX kI kC kG x ag at_ as_ hh hst a0 a1 a2 a3 tx tch w142.1 ++ wM kI mo m0 m1 m2 m3 m4 m5 m6 m7 v ++ [(oo, .inl (kJ, 1, .inr (.inl w142.2)))]) H := hP
  have hD : va_D (fun q : Nat => s.heap.size ≤ q) (wX kI kC kG x ag at_ as_ hh hst a0 a1 a2 a3 tx tch w142.1 ++ wM kI mo m0 m1 m2 m3 m4 m5 m6 m7 v ++ [(oo, .inl (kJ, 1, .inr (.inl w142.2)))]) := hD
  refine lv_istore (lv' := [(5, .int r142), (4, .int v4), (0, .ref b), (1, .ref x), (2, .ref mo), (3, .ref oo)]) hx hb dL_law_946 hl (by decide) rfl (fun ls hl => ?_)
  refine lv_aload_n hx hb dL_law_948 rfl (lv_at hl 4 rfl) ?_
  refine lv_aload_n hx hb dL_law_949 rfl (lv_at hl 2 rfl) ?_
  refine lv_iload hx hb dL_law_950 (lv_at hl 1 rfl) ?_
  refine lv_iconst (v := 1) hx hb dL_law_952 (by decide) ?_
  refine lv_iadd hx hb dL_law_953 ?_
  refine va_sld hx hb hX hbl hbA hS hi1 dL_law_954 ?_
  refine gWVi (S := SM) (As := [.int (xs ((v4 + 1)).toNatClampNeg)]) (rest := []) (wc := wM kI mo m0 m1 m2 m3 m4 m5 m6 m7 v) (wr := [(x, .inr (4, [.ref ag.1, .ref at_.1, .ref as_.1, .int w142.1.1, .ref hh, .ref tx]))] ++ wG kI ag w142.1.2.1 ++ wG kI at_ w142.1.2.2.1 ++ wG kI as_ w142.1.2.2.2.1 ++ [(hh, .inr (2, [.ref hst, .int w142.1.2.2.2.2.1.1, .int w142.1.2.2.2.2.1.2.1])), (hst, .inl (kG, 4, .inr (.inr (.inr (.inr (fH a0 a1 a2 a3))))))] ++ wG kI a0 w142.1.2.2.2.2.1.2.2.1 ++ wG kI a1 w142.1.2.2.2.2.1.2.2.2.1 ++ wG kI a2 w142.1.2.2.2.2.1.2.2.2.2.1 ++ wG kI a3 w142.1.2.2.2.2.1.2.2.2.2.2 ++ wT kC tx tch w142.1.2.2.2.2.2 ++ [(oo, .inl (kJ, 1, .inr (.inl w142.2)))]) (cs1 := (fun zz : SM => wM kI mo m0 m1 m2 m3 m4 m5 m6 m7 zz)) (ws2 := (fun zz : SM => wX kI kC kG x ag at_ as_ hh hst a0 a1 a2 a3 tx tch w142.1 ++ wM kI mo m0 m1 m2 m3 m4 m5 m6 m7 zz ++ [(oo, .inl (kJ, 1, .inr (.inl w142.2)))])) ⟨hx, hb, hml, hown, hts⟩ (fun sz => kX6_winsOf l D kI kC kG kJ mo m0 m1 m2 m3 m4 m5 m6 m7 sz v (xs ((v4 + 1)).toNatClampNeg) _ hw) (cwV 1 hts gL_law_X6_winsOf rfl rfl rfl hdX6_winsOf ⟨Nat.le_of_ble_eq_true rfl, Nat.le_of_ble_eq_true rfl⟩) hK hP hD hE hS hA [33, 34, 35, 36, 37, 38, 39, 40, 41] [0, 1, 2, 3, 4, 5, 6, 7, 8, 9, 10, 11, 12, 13, 14, 15, 16, 17, 18, 19, 20, 21, 22, 23, 24, 25, 26, 27, 28, 29, 30, 31, 32, 42] rfl rfl rfl rfl (by decide) [0, 1, 2, 3, 4, 5, 6, 7, 8, 9, 10, 11, 12, 13, 14, 15, 16, 17, 18, 19, 20, 21, 22, 23, 24, 25, 26, 27, 28, 29, 30, 31, 32, 34, 35, 36, 37, 38, 39, 40, 41, 42, 33] rfl (fun _ => rfl) (ci := 5) (q0 := 0) rfl rfl rfl rfl hl.1 rfl (Nat.le_of_ble_eq_true rfl) dL_law_955 (gr1 (by omega)) (fun r143 w143 H locs hw hP hD hS => ?_)
  have hP : va_P D vwCl (wX kI kC kG x ag at_ as_ hh hst a0 a1 a2 a3 tx tch w142.1 ++ wM kI mo m0 m1 m2 m3 m4 m5 m6 m7 w143 ++ [(oo, .inl (kJ, 1, .inr (.inl w142.2)))]) H := hP
  have hD : va_D (fun q : Nat => s.heap.size ≤ q) (wX kI kC kG x ag at_ as_ hh hst a0 a1 a2 a3 tx tch w142.1 ++ wM kI mo m0 m1 m2 m3 m4 m5 m6 m7 w143 ++ [(oo, .inl (kJ, 1, .inr (.inl w142.2)))]) := hD
  refine lv_istore (lv' := [(6, .int r143), (5, .int r142), (4, .int v4), (0, .ref b), (1, .ref x), (2, .ref mo), (3, .ref oo)]) hx hb dL_law_958 hl (by decide) rfl (fun ls hl => ?_)
  refine lv_aload_n hx hb dL_law_960 rfl (lv_at hl 5 rfl) ?_
  refine gVi (As := []) (rest := []) (cs' := wM kI mo m0 m1 m2 m3 m4 m5 m6 m7 w143) ⟨hx, hb, hml, hown, hts⟩ (kX6_thrown l D kI kC kG kJ mo m0 m1 m2 m3 m4 m5 m6 m7 w143 _ hw) (cwV 0 hts gL_law_X6_thrown rfl rfl rfl hdX6_thrown ⟨Nat.le_of_ble_eq_true rfl, Nat.le_of_ble_eq_true rfl⟩) hK hP hE hS [33, 34, 35, 36, 37, 38, 39, 40, 41] rfl (ci := 5) (q0 := 0) rfl rfl rfl rfl hl.1 rfl (Nat.le_of_ble_eq_true rfl) dL_law_961 (gr1 (by omega)) (fun r144 hw => ?_)
  refine lv_iload hx hb dL_law_964 (lv_at hl 1 rfl) ?_
  refine lv_icmp_eq (tgt := 971) hx hb dL_law_966 (by decide) (fun c145 => ?_) (fun c145 => ?_)
  · replace hw := Eq.mp (if_pos c145) hw
    refine lv_iload hx hb dL_law_971 (lv_at hl 1 rfl) ?_
    refine lv_if_ne (tgt := 988) hx hb dL_law_973 (by decide) (fun c146 => ?_) (fun c146 => ?_)
    · replace hw := Eq.mp (if_neg c146) hw
      refine lv_goto (tgt := 1187) hx hb dL_law_988 (by decide) ?_
      obtain ⟨x147, ex147⟩ : ∃ y : Int32, y = (v4 + 2) := ⟨_, rfl⟩
      replace hw := hw x147 ex147
      refine lv_iinc (v := x147) (lv' := [(4, .int x147), (6, .int r143), (5, .int r142), (0, .ref b), (1, .ref x), (2, .ref mo), (3, .ref oo)]) hx hb dL_law_1187 hl (k := 2) rfl (by rw [ex147]; rfl) (by decide) rfl (fun ls hl => ?_)
      refine lv_goto (tgt := 23) hx hb dL_law_1190 (by decide) ?_
      refine W.widen (k := 60 + 2 * (j + 2)) (n := 600 + 12 * (j + 2)) (by omega) (by omega) ?_
      exact hback x147 w142.1 w143 w142.2 H locs ls hP hD hS (lv_sub hl [0, 3, 4, 5, 6] rfl) (by rw [ex147, ev4]; exact nI_add j 2) hw
    · replace hw := Eq.mp (if_pos c146) hw
      refine lv_aload_n hx hb dL_law_976 rfl (lv_at hl 6 rfl) ?_
      refine lv_iconst (v := 0) hx hb dL_law_977 (by decide) ?_
      refine gLald (k := 0) hx hb hK hP 42 3 rfl rfl (gin (by decide)) (by decide) dL_law_978 ?_
      refine lv_iload hx hb dL_law_979 (lv_at hl 0 rfl) ?_
      refine lv_i2l (v := r143.toInt64) hx hb dL_law_981 rfl ?_
      refine W.lcmp hx hb dL_law_982 ?_
      refine lv_if_eq (tgt := 988) hx hb dL_law_983 (by decide) (fun c148 => ?_) (fun c148 => ?_)
      · replace hw := Eq.mp (if_pos c148) hw
        refine lv_goto (tgt := 1187) hx hb dL_law_988 (by decide) ?_
        obtain ⟨x149, ex149⟩ : ∃ y : Int32, y = (v4 + 2) := ⟨_, rfl⟩
        replace hw := hw x149 ex149
        refine lv_iinc (v := x149) (lv' := [(4, .int x149), (6, .int r143), (5, .int r142), (0, .ref b), (1, .ref x), (2, .ref mo), (3, .ref oo)]) hx hb dL_law_1187 hl (k := 2) rfl (by rw [ex149]; rfl) (by decide) rfl (fun ls hl => ?_)
        refine lv_goto (tgt := 23) hx hb dL_law_1190 (by decide) ?_
        refine W.widen (k := 60 + 2 * (j + 2)) (n := 600 + 12 * (j + 2)) (by omega) (by omega) ?_
        exact hback x149 w142.1 w143 w142.2 H locs ls hP hD hS (lv_sub hl [0, 3, 4, 5, 6] rfl) (by rw [ex149, ev4]; exact nI_add j 2) hw
      · replace hw := Eq.mp (if_neg c148) hw
        refine lv_iconst (v := 0) hx hb dL_law_986 (by decide) ?_
        exact (hw : False).elim
  · replace hw := Eq.mp (if_neg c145) hw
    refine lv_iconst (v := 0) hx hb dL_law_969 (by decide) ?_
    exact (hw : False).elim
set_option maxHeartbeats 4000000 in
set_option maxRecDepth 100000 in
theorem law_c23 {p : Program} {l : Launch} {e : Env} {s : State} {m : MethodId} {below : List Frame} {meth : Method} {c : Code} {D : va_G} {kI kC kG kJ : ClassId} {b L : Nat} {xs : Nat → Int32} (hlt : l.stackTraces = false) (hL : L ≤ 1024) (C0 : lw_At p s m meth c b L xs) (hK : va_K D vwCl (gT kI kC kG kJ) s) (hE : gE (fun q : Nat => s.heap.size ≤ q) s s.heap) {x : Nat} {ag at_ as_ : AG} {hh hst : Nat} {a0 a1 a2 a3 : AG} {tx tch : Nat} {mo m0 m1 m2 m3 m4 m5 m6 m7 : Nat} {oo : Nat} (K : SX → SM → (Nat → Int64) → Prop) (j : Nat) (hback : ∀ (v4 : Int32) (u : SX) (v : SM) (f : Nat → Int64) (H : Heap) (locs : List Loc) (ls : Array Slot), va_P D vwCl (wX kI kC kG x ag at_ as_ hh hst a0 a1 a2 a3 tx tch u ++ wM kI mo m0 m1 m2 m3 m4 m5 m6 m7 v ++ [(oo, .inl (kJ, 1, .inr (.inl f)))]) H → va_D (fun q : Nat => s.heap.size ≤ q) (wX kI kC kG x ag at_ as_ hh hst a0 a1 a2 a3 tx tch u ++ wM kI mo m0 m1 m2 m3 m4 m5 m6 m7 v ++ [(oo, .inl (kJ, 1, .inr (.inl f)))]) → va_S (fun q : Nat => s.heap.size ≤ q) s.heap H locs → lv_has ls 7 [(4, .int v4), (0, .ref b), (1, .ref x), (2, .ref mo), (3, .ref oo)] → v4 = nI (j + 2) → K u v f → W p l e room_1 s m #[Value.ref b] below meth c H locs (60 + 2 * (j + 2)) (600 + 12 * (j + 2)) (lw_Z below #[Value.ref b] s) (F0 m 23 ls [])) (v4 : Int32) (ev4 : v4 = nI j) (hj : j + 2 ≤ L) (u : SX) (v : SM) (f : Nat → Int64) (H : Heap) (locs : List Loc) (ls : Array Slot) : va_P D vwCl (wX kI kC kG x ag at_ as_ hh hst a0 a1 a2 a3 tx tch u ++ wM kI mo m0 m1 m2 m3 m4 m5 m6 m7 v ++ [(oo, .inl (kJ, 1, .inr (.inl f)))]) H → va_D (fun q : Nat => s.heap.size ≤ q) (wX kI kC kG x ag at_ as_ hh hst a0 a1 a2 a3 tx tch u ++ wM kI mo m0 m1 m2 m3 m4 m5 m6 m7 v ++ [(oo, .inl (kJ, 1, .inr (.inl f)))]) → va_S (fun q : Nat => s.heap.size ≤ q) s.heap H locs → lv_has ls 7 [(4, .int v4), (0, .ref b), (1, .ref x), (2, .ref mo), (3, .ref oo)] → pL_c23 v4 (xs ((v4 + 1)).toNatClampNeg) u v f K → W p l e room_1 s m #[Value.ref b] below meth c H locs (60 + 2 * j) (600 + 12 * j) (lw_Z below #[Value.ref b] s) (F0 m 991 ls []) := by
  intro hP hD hS hl hw
  obtain ⟨hx, hb, hr, hml, hown, hts0, hX, hbl, hlocks, hgv⟩ := id C0
  have hown : s.vm.findClass RL = some m.cls := hown
  have hts : ∀ w ∈ wsL_law, w.before #[Value.ref b] s = true := fun w h => hts0 w (wsL_law_in w h)
  have hA : ∀ q : Nat, s.heap.size ≤ q → (fun q : Nat => s.heap.size ≤ q) q := fun _ h => h
  have hbA : ¬ (fun q : Nat => s.heap.size ≤ q) b := Nat.not_le.mpr hbl
  have hi0 : vp_in v4 L := by rw [ev4]; exact vp_in_nI (by omega) (by omega)
  have hi1 : vp_in (v4 + 1) L := by rw [ev4, nI_1]; exact vp_in_nI (by omega) (by omega)
  unfold pL_c23 at hw
  refine lv_aload_n hx hb dL_law_991 rfl (lv_at hl 2 rfl) ?_
  refine lv_aload_n hx hb dL_law_992 rfl (lv_at hl 1 rfl) ?_
  refine lv_iload hx hb dL_law_993 (lv_at hl 0 rfl) ?_
  refine lv_iconst (v := 1) hx hb dL_law_995 (by decide) ?_
  refine lv_iadd hx hb dL_law_996 ?_
  refine va_sld hx hb hX hbl hbA hS hi1 dL_law_997 ?_
  refine lv_aload_n hx hb dL_law_998 rfl (lv_at hl 4 rfl) ?_
  refine gLSi (mc := 1) (ms := 6) (S := SX × (Nat → Int64)) (As := [.ref x, .int (xs ((v4 + 1)).toNatClampNeg), .ref oo]) (rest := []) (wc := wX kI kC kG x ag at_ as_ hh hst a0 a1 a2 a3 tx tch u ++ [(oo, .inl (kJ, 1, .inr (.inl f)))]) (wr := wM kI mo m0 m1 m2 m3 m4 m5 m6 m7 v) (cs1 := (fun zz : SX × (Nat → Int64) => wX kI kC kG x ag at_ as_ hh hst a0 a1 a2 a3 tx tch zz.1 ++ [(oo, .inl (kJ, 1, .inr (.inl zz.2)))])) (ws2 := (fun zz : SX × (Nat → Int64) => wX kI kC kG x ag at_ as_ hh hst a0 a1 a2 a3 tx tch zz.1 ++ wM kI mo m0 m1 m2 m3 m4 m5 m6 m7 v ++ [(oo, .inl (kJ, 1, .inr (.inl zz.2)))])) ⟨hx, hb, hml, hown, hts⟩ (fun sz => kL_winningCell l D kI kC kG kJ hlt x ag at_ as_ hh hst a0 a1 a2 a3 tx tch oo sz u f (xs ((v4 + 1)).toNatClampNeg) _ hw) (vx_cwSW 3 hts gL_law_L_winningCell rfl rfl rfl hdL_winningCell ⟨Nat.le_of_ble_eq_true rfl, Nat.le_of_ble_eq_true rfl⟩) hK hP hD hE hS hA [0, 1, 2, 3, 4, 5, 6, 7, 8, 9, 10, 11, 12, 13, 14, 15, 16, 17, 18, 19, 20, 21, 22, 23, 24, 25, 26, 27, 28, 29, 30, 31, 32, 42] [33, 34, 35, 36, 37, 38, 39, 40, 41] rfl rfl rfl rfl (by decide) [9, 10, 11, 12, 13, 14, 15, 16, 17, 18, 19, 20, 21, 22, 23, 24, 25, 26, 27, 28, 29, 30, 31, 32, 33, 34, 35, 36, 37, 38, 39, 40, 41, 0, 1, 2, 3, 4, 5, 6, 7, 8, 42] rfl (fun _ => rfl) rfl hl.1 rfl (Nat.le_of_ble_eq_true rfl) dL_law_999 (gr1 (by omega)) (fun r150 w150 H locs hw hP hD hS => ?_)
  have hP : va_P D vwCl (wX kI kC kG x ag at_ as_ hh hst a0 a1 a2 a3 tx tch w150.1 ++ wM kI mo m0 m1 m2 m3 m4 m5 m6 m7 v ++ [(oo, .inl (kJ, 1, .inr (.inl w150.2)))]) H := hP
  have hD : va_D (fun q : Nat => s.heap.size ≤ q) (wX kI kC kG x ag at_ as_ hh hst a0 a1 a2 a3 tx tch w150.1 ++ wM kI mo m0 m1 m2 m3 m4 m5 m6 m7 v ++ [(oo, .inl (kJ, 1, .inr (.inl w150.2)))]) := hD
  refine lv_istore (lv' := [(5, .int r150), (4, .int v4), (0, .ref b), (1, .ref x), (2, .ref mo), (3, .ref oo)]) hx hb dL_law_1002 hl (by decide) rfl (fun ls hl => ?_)
  refine lv_aload_n hx hb dL_law_1004 rfl (lv_at hl 4 rfl) ?_
  refine lv_aload_n hx hb dL_law_1005 rfl (lv_at hl 2 rfl) ?_
  refine lv_iload hx hb dL_law_1006 (lv_at hl 1 rfl) ?_
  refine lv_iconst (v := 1) hx hb dL_law_1008 (by decide) ?_
  refine lv_iadd hx hb dL_law_1009 ?_
  refine va_sld hx hb hX hbl hbA hS hi1 dL_law_1010 ?_
  refine gWVi (S := SM) (As := [.int (xs ((v4 + 1)).toNatClampNeg)]) (rest := []) (wc := wM kI mo m0 m1 m2 m3 m4 m5 m6 m7 v) (wr := [(x, .inr (4, [.ref ag.1, .ref at_.1, .ref as_.1, .int w150.1.1, .ref hh, .ref tx]))] ++ wG kI ag w150.1.2.1 ++ wG kI at_ w150.1.2.2.1 ++ wG kI as_ w150.1.2.2.2.1 ++ [(hh, .inr (2, [.ref hst, .int w150.1.2.2.2.2.1.1, .int w150.1.2.2.2.2.1.2.1])), (hst, .inl (kG, 4, .inr (.inr (.inr (.inr (fH a0 a1 a2 a3))))))] ++ wG kI a0 w150.1.2.2.2.2.1.2.2.1 ++ wG kI a1 w150.1.2.2.2.2.1.2.2.2.1 ++ wG kI a2 w150.1.2.2.2.2.1.2.2.2.2.1 ++ wG kI a3 w150.1.2.2.2.2.1.2.2.2.2.2 ++ wT kC tx tch w150.1.2.2.2.2.2 ++ [(oo, .inl (kJ, 1, .inr (.inl w150.2)))]) (cs1 := (fun zz : SM => wM kI mo m0 m1 m2 m3 m4 m5 m6 m7 zz)) (ws2 := (fun zz : SM => wX kI kC kG x ag at_ as_ hh hst a0 a1 a2 a3 tx tch w150.1 ++ wM kI mo m0 m1 m2 m3 m4 m5 m6 m7 zz ++ [(oo, .inl (kJ, 1, .inr (.inl w150.2)))])) ⟨hx, hb, hml, hown, hts⟩ (fun sz => kX6_winningCell l D kI kC kG kJ mo m0 m1 m2 m3 m4 m5 m6 m7 sz v (xs ((v4 + 1)).toNatClampNeg) _ hw) (cwV 1 hts gL_law_X6_winningCell rfl rfl rfl hdX6_winningCell ⟨Nat.le_of_ble_eq_true rfl, Nat.le_of_ble_eq_true rfl⟩) hK hP hD hE hS hA [33, 34, 35, 36, 37, 38, 39, 40, 41] [0, 1, 2, 3, 4, 5, 6, 7, 8, 9, 10, 11, 12, 13, 14, 15, 16, 17, 18, 19, 20, 21, 22, 23, 24, 25, 26, 27, 28, 29, 30, 31, 32, 42] rfl rfl rfl rfl (by decide) [0, 1, 2, 3, 4, 5, 6, 7, 8, 9, 10, 11, 12, 13, 14, 15, 16, 17, 18, 19, 20, 21, 22, 23, 24, 25, 26, 27, 28, 29, 30, 31, 32, 34, 35, 36, 37, 38, 39, 40, 41, 42, 33] rfl (fun _ => rfl) (ci := 5) (q0 := 0) rfl rfl rfl rfl hl.1 rfl (Nat.le_of_ble_eq_true rfl) dL_law_1011 (gr1 (by omega)) (fun r151 w151 H locs hw hP hD hS => ?_)
  have hP : va_P D vwCl (wX kI kC kG x ag at_ as_ hh hst a0 a1 a2 a3 tx tch w150.1 ++ wM kI mo m0 m1 m2 m3 m4 m5 m6 m7 w151 ++ [(oo, .inl (kJ, 1, .inr (.inl w150.2)))]) H := hP
  have hD : va_D (fun q : Nat => s.heap.size ≤ q) (wX kI kC kG x ag at_ as_ hh hst a0 a1 a2 a3 tx tch w150.1 ++ wM kI mo m0 m1 m2 m3 m4 m5 m6 m7 w151 ++ [(oo, .inl (kJ, 1, .inr (.inl w150.2)))]) := hD
  refine lv_istore (lv' := [(6, .int r151), (5, .int r150), (4, .int v4), (0, .ref b), (1, .ref x), (2, .ref mo), (3, .ref oo)]) hx hb dL_law_1014 hl (by decide) rfl (fun ls hl => ?_)
  refine lv_aload_n hx hb dL_law_1016 rfl (lv_at hl 5 rfl) ?_
  refine gVi (As := []) (rest := []) (cs' := wM kI mo m0 m1 m2 m3 m4 m5 m6 m7 w151) ⟨hx, hb, hml, hown, hts⟩ (kX6_thrown l D kI kC kG kJ mo m0 m1 m2 m3 m4 m5 m6 m7 w151 _ hw) (cwV 0 hts gL_law_X6_thrown rfl rfl rfl hdX6_thrown ⟨Nat.le_of_ble_eq_true rfl, Nat.le_of_ble_eq_true rfl⟩) hK hP hE hS [33, 34, 35, 36, 37, 38, 39, 40, 41] rfl (ci := 5) (q0 := 0) rfl rfl rfl rfl hl.1 rfl (Nat.le_of_ble_eq_true rfl) dL_law_1017 (gr1 (by omega)) (fun r152 hw => ?_)
  refine lv_iload hx hb dL_law_1020 (lv_at hl 1 rfl) ?_
  refine lv_icmp_eq (tgt := 1027) hx hb dL_law_1022 (by decide) (fun c153 => ?_) (fun c153 => ?_)
  · replace hw := Eq.mp (if_pos c153) hw
    refine lv_iload hx hb dL_law_1027 (lv_at hl 1 rfl) ?_
    refine lv_if_ne (tgt := 1044) hx hb dL_law_1029 (by decide) (fun c154 => ?_) (fun c154 => ?_)
    · replace hw := Eq.mp (if_neg c154) hw
      refine lv_goto (tgt := 1187) hx hb dL_law_1044 (by decide) ?_
      obtain ⟨x155, ex155⟩ : ∃ y : Int32, y = (v4 + 2) := ⟨_, rfl⟩
      replace hw := hw x155 ex155
      refine lv_iinc (v := x155) (lv' := [(4, .int x155), (6, .int r151), (5, .int r150), (0, .ref b), (1, .ref x), (2, .ref mo), (3, .ref oo)]) hx hb dL_law_1187 hl (k := 2) rfl (by rw [ex155]; rfl) (by decide) rfl (fun ls hl => ?_)
      refine lv_goto (tgt := 23) hx hb dL_law_1190 (by decide) ?_
      refine W.widen (k := 60 + 2 * (j + 2)) (n := 600 + 12 * (j + 2)) (by omega) (by omega) ?_
      exact hback x155 w150.1 w151 w150.2 H locs ls hP hD hS (lv_sub hl [0, 3, 4, 5, 6] rfl) (by rw [ex155, ev4]; exact nI_add j 2) hw
    · replace hw := Eq.mp (if_pos c154) hw
      refine lv_aload_n hx hb dL_law_1032 rfl (lv_at hl 6 rfl) ?_
      refine lv_iconst (v := 0) hx hb dL_law_1033 (by decide) ?_
      refine gLald (k := 0) hx hb hK hP 42 3 rfl rfl (gin (by decide)) (by decide) dL_law_1034 ?_
      refine lv_iload hx hb dL_law_1035 (lv_at hl 0 rfl) ?_
      refine lv_i2l (v := r151.toInt64) hx hb dL_law_1037 rfl ?_
      refine W.lcmp hx hb dL_law_1038 ?_
      refine lv_if_eq (tgt := 1044) hx hb dL_law_1039 (by decide) (fun c156 => ?_) (fun c156 => ?_)
      · replace hw := Eq.mp (if_pos c156) hw
        refine lv_goto (tgt := 1187) hx hb dL_law_1044 (by decide) ?_
        obtain ⟨x157, ex157⟩ : ∃ y : Int32, y = (v4 + 2) := ⟨_, rfl⟩
        replace hw := hw x157 ex157
        refine lv_iinc (v := x157) (lv' := [(4, .int x157), (6, .int r151), (5, .int r150), (0, .ref b), (1, .ref x), (2, .ref mo), (3, .ref oo)]) hx hb dL_law_1187 hl (k := 2) rfl (by rw [ex157]; rfl) (by decide) rfl (fun ls hl => ?_)
        refine lv_goto (tgt := 23) hx hb dL_law_1190 (by decide) ?_
        refine W.widen (k := 60 + 2 * (j + 2)) (n := 600 + 12 * (j + 2)) (by omega) (by omega) ?_
        exact hback x157 w150.1 w151 w150.2 H locs ls hP hD hS (lv_sub hl [0, 3, 4, 5, 6] rfl) (by rw [ex157, ev4]; exact nI_add j 2) hw
      · replace hw := Eq.mp (if_neg c156) hw
        refine lv_iconst (v := 0) hx hb dL_law_1042 (by decide) ?_
        exact (hw : False).elim
  · replace hw := Eq.mp (if_neg c153) hw
    refine lv_iconst (v := 0) hx hb dL_law_1025 (by decide) ?_
    exact (hw : False).elim
set_option maxHeartbeats 4000000 in
set_option maxRecDepth 100000 in
theorem law_c24 {p : Program} {l : Launch} {e : Env} {s : State} {m : MethodId} {below : List Frame} {meth : Method} {c : Code} {D : va_G} {kI kC kG kJ : ClassId} {b L : Nat} {xs : Nat → Int32} (hlt : l.stackTraces = false) (hL : L ≤ 1024) (C0 : lw_At p s m meth c b L xs) (hK : va_K D vwCl (gT kI kC kG kJ) s) (hE : gE (fun q : Nat => s.heap.size ≤ q) s s.heap) {x : Nat} {ag at_ as_ : AG} {hh hst : Nat} {a0 a1 a2 a3 : AG} {tx tch : Nat} {mo m0 m1 m2 m3 m4 m5 m6 m7 : Nat} {oo : Nat} (K : SX → SM → (Nat → Int64) → Prop) (j : Nat) (hback : ∀ (v4 : Int32) (u : SX) (v : SM) (f : Nat → Int64) (H : Heap) (locs : List Loc) (ls : Array Slot), va_P D vwCl (wX kI kC kG x ag at_ as_ hh hst a0 a1 a2 a3 tx tch u ++ wM kI mo m0 m1 m2 m3 m4 m5 m6 m7 v ++ [(oo, .inl (kJ, 1, .inr (.inl f)))]) H → va_D (fun q : Nat => s.heap.size ≤ q) (wX kI kC kG x ag at_ as_ hh hst a0 a1 a2 a3 tx tch u ++ wM kI mo m0 m1 m2 m3 m4 m5 m6 m7 v ++ [(oo, .inl (kJ, 1, .inr (.inl f)))]) → va_S (fun q : Nat => s.heap.size ≤ q) s.heap H locs → lv_has ls 7 [(4, .int v4), (0, .ref b), (1, .ref x), (2, .ref mo), (3, .ref oo)] → v4 = nI (j + 2) → K u v f → W p l e room_1 s m #[Value.ref b] below meth c H locs (60 + 2 * (j + 2)) (600 + 12 * (j + 2)) (lw_Z below #[Value.ref b] s) (F0 m 23 ls [])) (v4 : Int32) (ev4 : v4 = nI j) (hj : j + 2 ≤ L) (u : SX) (v : SM) (f : Nat → Int64) (H : Heap) (locs : List Loc) (ls : Array Slot) : va_P D vwCl (wX kI kC kG x ag at_ as_ hh hst a0 a1 a2 a3 tx tch u ++ wM kI mo m0 m1 m2 m3 m4 m5 m6 m7 v ++ [(oo, .inl (kJ, 1, .inr (.inl f)))]) H → va_D (fun q : Nat => s.heap.size ≤ q) (wX kI kC kG x ag at_ as_ hh hst a0 a1 a2 a3 tx tch u ++ wM kI mo m0 m1 m2 m3 m4 m5 m6 m7 v ++ [(oo, .inl (kJ, 1, .inr (.inl f)))]) → va_S (fun q : Nat => s.heap.size ≤ q) s.heap H locs → lv_has ls 7 [(4, .int v4), (0, .ref b), (1, .ref x), (2, .ref mo), (3, .ref oo)] → pL_c24 v4 (xs ((v4 + 1)).toNatClampNeg) u v f K → W p l e room_1 s m #[Value.ref b] below meth c H locs (60 + 2 * j) (600 + 12 * j) (lw_Z below #[Value.ref b] s) (F0 m 1047 ls []) := by
  intro hP hD hS hl hw
  obtain ⟨hx, hb, hr, hml, hown, hts0, hX, hbl, hlocks, hgv⟩ := id C0
  have hown : s.vm.findClass RL = some m.cls := hown
  have hts : ∀ w ∈ wsL_law, w.before #[Value.ref b] s = true := fun w h => hts0 w (wsL_law_in w h)
  have hA : ∀ q : Nat, s.heap.size ≤ q → (fun q : Nat => s.heap.size ≤ q) q := fun _ h => h
  have hbA : ¬ (fun q : Nat => s.heap.size ≤ q) b := Nat.not_le.mpr hbl
  have hi0 : vp_in v4 L := by rw [ev4]; exact vp_in_nI (by omega) (by omega)
  have hi1 : vp_in (v4 + 1) L := by rw [ev4, nI_1]; exact vp_in_nI (by omega) (by omega)
  unfold pL_c24 at hw
  refine lv_aload_n hx hb dL_law_1047 rfl (lv_at hl 2 rfl) ?_
  refine gWVi (S := SX) (As := []) (rest := []) (wc := wX kI kC kG x ag at_ as_ hh hst a0 a1 a2 a3 tx tch u) (wr := wM kI mo m0 m1 m2 m3 m4 m5 m6 m7 v ++ [(oo, .inl (kJ, 1, .inr (.inl f)))]) (cs1 := (fun zz : SX => wX kI kC kG x ag at_ as_ hh hst a0 a1 a2 a3 tx tch zz)) (ws2 := (fun zz : SX => wX kI kC kG x ag at_ as_ hh hst a0 a1 a2 a3 tx tch zz ++ wM kI mo m0 m1 m2 m3 m4 m5 m6 m7 v ++ [(oo, .inl (kJ, 1, .inr (.inl f)))])) ⟨hx, hb, hml, hown, hts⟩ (fun sz => kX5_safeByTrying l D kI kC kG kJ x ag at_ as_ hh hst a0 a1 a2 a3 tx tch sz u _ hw) (cwV 0 hts gL_law_X5_safeByTrying rfl rfl rfl hdX5_safeByTrying ⟨Nat.le_of_ble_eq_true rfl, Nat.le_of_ble_eq_true rfl⟩) hK hP hD hE hS hA [0, 1, 2, 3, 4, 5, 6, 7, 8, 9, 10, 11, 12, 13, 14, 15, 16, 17, 18, 19, 20, 21, 22, 23, 24, 25, 26, 27, 28, 29, 30, 31, 32] [33, 34, 35, 36, 37, 38, 39, 40, 41, 42] rfl rfl rfl rfl (by decide) [10, 11, 12, 13, 14, 15, 16, 17, 18, 19, 20, 21, 22, 23, 24, 25, 26, 27, 28, 29, 30, 31, 32, 33, 34, 35, 36, 37, 38, 39, 40, 41, 42, 0, 1, 2, 3, 4, 5, 6, 7, 8, 9] rfl (fun _ => rfl) (ci := 4) (q0 := 0) rfl rfl rfl rfl hl.1 rfl (Nat.le_of_ble_eq_true rfl) dL_law_1048 (gr1 (by omega)) (fun r158 w158 H locs hw hP hD hS => ?_)
  have hP : va_P D vwCl (wX kI kC kG x ag at_ as_ hh hst a0 a1 a2 a3 tx tch w158 ++ wM kI mo m0 m1 m2 m3 m4 m5 m6 m7 v ++ [(oo, .inl (kJ, 1, .inr (.inl f)))]) H := hP
  have hD : va_D (fun q : Nat => s.heap.size ≤ q) (wX kI kC kG x ag at_ as_ hh hst a0 a1 a2 a3 tx tch w158 ++ wM kI mo m0 m1 m2 m3 m4 m5 m6 m7 v ++ [(oo, .inl (kJ, 1, .inr (.inl f)))]) := hD
  refine lv_aload_n hx hb dL_law_1051 rfl (lv_at hl 3 rfl) ?_
  refine gWVi (S := SM) (As := []) (rest := [.int r158]) (wc := wM kI mo m0 m1 m2 m3 m4 m5 m6 m7 v) (wr := [(x, .inr (4, [.ref ag.1, .ref at_.1, .ref as_.1, .int w158.1, .ref hh, .ref tx]))] ++ wG kI ag w158.2.1 ++ wG kI at_ w158.2.2.1 ++ wG kI as_ w158.2.2.2.1 ++ [(hh, .inr (2, [.ref hst, .int w158.2.2.2.2.1.1, .int w158.2.2.2.2.1.2.1])), (hst, .inl (kG, 4, .inr (.inr (.inr (.inr (fH a0 a1 a2 a3))))))] ++ wG kI a0 w158.2.2.2.2.1.2.2.1 ++ wG kI a1 w158.2.2.2.2.1.2.2.2.1 ++ wG kI a2 w158.2.2.2.2.1.2.2.2.2.1 ++ wG kI a3 w158.2.2.2.2.1.2.2.2.2.2 ++ wT kC tx tch w158.2.2.2.2.2 ++ [(oo, .inl (kJ, 1, .inr (.inl f)))]) (cs1 := (fun zz : SM => wM kI mo m0 m1 m2 m3 m4 m5 m6 m7 zz)) (ws2 := (fun zz : SM => wX kI kC kG x ag at_ as_ hh hst a0 a1 a2 a3 tx tch w158 ++ wM kI mo m0 m1 m2 m3 m4 m5 m6 m7 zz ++ [(oo, .inl (kJ, 1, .inr (.inl f)))])) ⟨hx, hb, hml, hown, hts⟩ (fun sz => kX6_safeByTrying l D kI kC kG kJ mo m0 m1 m2 m3 m4 m5 m6 m7 sz v _ hw) (cwV 0 hts gL_law_X6_safeByTrying rfl rfl rfl hdX6_safeByTrying ⟨Nat.le_of_ble_eq_true rfl, Nat.le_of_ble_eq_true rfl⟩) hK hP hD hE hS hA [33, 34, 35, 36, 37, 38, 39, 40, 41] [0, 1, 2, 3, 4, 5, 6, 7, 8, 9, 10, 11, 12, 13, 14, 15, 16, 17, 18, 19, 20, 21, 22, 23, 24, 25, 26, 27, 28, 29, 30, 31, 32, 42] rfl rfl rfl rfl (by decide) [0, 1, 2, 3, 4, 5, 6, 7, 8, 9, 10, 11, 12, 13, 14, 15, 16, 17, 18, 19, 20, 21, 22, 23, 24, 25, 26, 27, 28, 29, 30, 31, 32, 34, 35, 36, 37, 38, 39, 40, 41, 42, 33] rfl (fun _ => rfl) (ci := 5) (q0 := 0) rfl rfl rfl rfl hl.1 rfl (Nat.le_of_ble_eq_true rfl) dL_law_1052 (gr1 (by omega)) (fun r159 w159 H locs hw hP hD hS => ?_)
  have hP : va_P D vwCl (wX kI kC kG x ag at_ as_ hh hst a0 a1 a2 a3 tx tch w158 ++ wM kI mo m0 m1 m2 m3 m4 m5 m6 m7 w159 ++ [(oo, .inl (kJ, 1, .inr (.inl f)))]) H := hP
  have hD : va_D (fun q : Nat => s.heap.size ≤ q) (wX kI kC kG x ag at_ as_ hh hst a0 a1 a2 a3 tx tch w158 ++ wM kI mo m0 m1 m2 m3 m4 m5 m6 m7 w159 ++ [(oo, .inl (kJ, 1, .inr (.inl f)))]) := hD
  refine lv_icmp_eq (tgt := 1187) hx hb dL_law_1055 (by decide) (fun c160 => ?_) (fun c160 => ?_)
  · replace hw := Eq.mp (if_pos c160) hw
    obtain ⟨x161, ex161⟩ : ∃ y : Int32, y = (v4 + 2) := ⟨_, rfl⟩
    replace hw := hw x161 ex161
    refine lv_iinc (v := x161) (lv' := [(4, .int x161), (0, .ref b), (1, .ref x), (2, .ref mo), (3, .ref oo)]) hx hb dL_law_1187 hl (k := 0) rfl (by rw [ex161]; rfl) (by decide) rfl (fun ls hl => ?_)
    refine lv_goto (tgt := 23) hx hb dL_law_1190 (by decide) ?_
    refine W.widen (k := 60 + 2 * (j + 2)) (n := 600 + 12 * (j + 2)) (by omega) (by omega) ?_
    exact hback x161 w158 w159 f H locs ls hP hD hS (lv_sub hl [0, 1, 2, 3, 4] rfl) (by rw [ex161, ev4]; exact nI_add j 2) hw
  · replace hw := Eq.mp (if_neg c160) hw
    refine lv_iconst (v := 0) hx hb dL_law_1058 (by decide) ?_
    exact (hw : False).elim
set_option maxHeartbeats 4000000 in
set_option maxRecDepth 100000 in
theorem law_c25 {p : Program} {l : Launch} {e : Env} {s : State} {m : MethodId} {below : List Frame} {meth : Method} {c : Code} {D : va_G} {kI kC kG kJ : ClassId} {b L : Nat} {xs : Nat → Int32} (hlt : l.stackTraces = false) (hL : L ≤ 1024) (C0 : lw_At p s m meth c b L xs) (hK : va_K D vwCl (gT kI kC kG kJ) s) (hE : gE (fun q : Nat => s.heap.size ≤ q) s s.heap) {x : Nat} {ag at_ as_ : AG} {hh hst : Nat} {a0 a1 a2 a3 : AG} {tx tch : Nat} {mo m0 m1 m2 m3 m4 m5 m6 m7 : Nat} {oo : Nat} (K : SX → SM → (Nat → Int64) → Prop) (j : Nat) (hback : ∀ (v4 : Int32) (u : SX) (v : SM) (f : Nat → Int64) (H : Heap) (locs : List Loc) (ls : Array Slot), va_P D vwCl (wX kI kC kG x ag at_ as_ hh hst a0 a1 a2 a3 tx tch u ++ wM kI mo m0 m1 m2 m3 m4 m5 m6 m7 v ++ [(oo, .inl (kJ, 1, .inr (.inl f)))]) H → va_D (fun q : Nat => s.heap.size ≤ q) (wX kI kC kG x ag at_ as_ hh hst a0 a1 a2 a3 tx tch u ++ wM kI mo m0 m1 m2 m3 m4 m5 m6 m7 v ++ [(oo, .inl (kJ, 1, .inr (.inl f)))]) → va_S (fun q : Nat => s.heap.size ≤ q) s.heap H locs → lv_has ls 7 [(4, .int v4), (0, .ref b), (1, .ref x), (2, .ref mo), (3, .ref oo)] → v4 = nI (j + 2) → K u v f → W p l e room_1 s m #[Value.ref b] below meth c H locs (60 + 2 * (j + 2)) (600 + 12 * (j + 2)) (lw_Z below #[Value.ref b] s) (F0 m 23 ls [])) (v4 : Int32) (ev4 : v4 = nI j) (hj : j + 2 ≤ L) (u : SX) (v : SM) (f : Nat → Int64) (H : Heap) (locs : List Loc) (ls : Array Slot) : va_P D vwCl (wX kI kC kG x ag at_ as_ hh hst a0 a1 a2 a3 tx tch u ++ wM kI mo m0 m1 m2 m3 m4 m5 m6 m7 v ++ [(oo, .inl (kJ, 1, .inr (.inl f)))]) H → va_D (fun q : Nat => s.heap.size ≤ q) (wX kI kC kG x ag at_ as_ hh hst a0 a1 a2 a3 tx tch u ++ wM kI mo m0 m1 m2 m3 m4 m5 m6 m7 v ++ [(oo, .inl (kJ, 1, .inr (.inl f)))]) → va_S (fun q : Nat => s.heap.size ≤ q) s.heap H locs → lv_has ls 7 [(4, .int v4), (0, .ref b), (1, .ref x), (2, .ref mo), (3, .ref oo)] → pL_c25 v4 (xs ((v4 + 1)).toNatClampNeg) u v f K → W p l e room_1 s m #[Value.ref b] below meth c H locs (60 + 2 * j) (600 + 12 * j) (lw_Z below #[Value.ref b] s) (F0 m 1060 ls []) := by
  intro hP hD hS hl hw
  obtain ⟨hx, hb, hr, hml, hown, hts0, hX, hbl, hlocks, hgv⟩ := id C0
  have hown : s.vm.findClass RL = some m.cls := hown
  have hts : ∀ w ∈ wsL_law, w.before #[Value.ref b] s = true := fun w h => hts0 w (wsL_law_in w h)
  have hA : ∀ q : Nat, s.heap.size ≤ q → (fun q : Nat => s.heap.size ≤ q) q := fun _ h => h
  have hbA : ¬ (fun q : Nat => s.heap.size ≤ q) b := Nat.not_le.mpr hbl
  have hi0 : vp_in v4 L := by rw [ev4]; exact vp_in_nI (by omega) (by omega)
  have hi1 : vp_in (v4 + 1) L := by rw [ev4, nI_1]; exact vp_in_nI (by omega) (by omega)
  unfold pL_c25 at hw
  refine lv_aload_n hx hb dL_law_1060 rfl (lv_at hl 2 rfl) ?_
  refine gVi (As := []) (rest := []) (cs' := wX kI kC kG x ag at_ as_ hh hst a0 a1 a2 a3 tx tch u) ⟨hx, hb, hml, hown, hts⟩ (kX5_safeByLines l D kI kC kG kJ x ag at_ as_ hh hst a0 a1 a2 a3 tx tch u _ hw) (cwV 0 hts gL_law_X5_safeByLines rfl rfl rfl hdX5_safeByLines ⟨Nat.le_of_ble_eq_true rfl, Nat.le_of_ble_eq_true rfl⟩) hK hP hE hS [0, 1, 2, 3, 4, 5, 6, 7, 8, 9, 10, 11, 12, 13, 14, 15, 16, 17, 18, 19, 20, 21, 22, 23, 24, 25, 26, 27, 28, 29, 30, 31, 32] rfl (ci := 4) (q0 := 0) rfl rfl rfl rfl hl.1 rfl (Nat.le_of_ble_eq_true rfl) dL_law_1061 (gr1 (by omega)) (fun r162 hw => ?_)
  refine lv_aload_n hx hb dL_law_1064 rfl (lv_at hl 3 rfl) ?_
  refine gWVi (S := SM) (As := []) (rest := [.int r162]) (wc := wM kI mo m0 m1 m2 m3 m4 m5 m6 m7 v) (wr := [(x, .inr (4, [.ref ag.1, .ref at_.1, .ref as_.1, .int u.1, .ref hh, .ref tx]))] ++ wG kI ag u.2.1 ++ wG kI at_ u.2.2.1 ++ wG kI as_ u.2.2.2.1 ++ [(hh, .inr (2, [.ref hst, .int u.2.2.2.2.1.1, .int u.2.2.2.2.1.2.1])), (hst, .inl (kG, 4, .inr (.inr (.inr (.inr (fH a0 a1 a2 a3))))))] ++ wG kI a0 u.2.2.2.2.1.2.2.1 ++ wG kI a1 u.2.2.2.2.1.2.2.2.1 ++ wG kI a2 u.2.2.2.2.1.2.2.2.2.1 ++ wG kI a3 u.2.2.2.2.1.2.2.2.2.2 ++ wT kC tx tch u.2.2.2.2.2 ++ [(oo, .inl (kJ, 1, .inr (.inl f)))]) (cs1 := (fun zz : SM => wM kI mo m0 m1 m2 m3 m4 m5 m6 m7 zz)) (ws2 := (fun zz : SM => wX kI kC kG x ag at_ as_ hh hst a0 a1 a2 a3 tx tch u ++ wM kI mo m0 m1 m2 m3 m4 m5 m6 m7 zz ++ [(oo, .inl (kJ, 1, .inr (.inl f)))])) ⟨hx, hb, hml, hown, hts⟩ (fun sz => kX6_safeByLines l D kI kC kG kJ mo m0 m1 m2 m3 m4 m5 m6 m7 sz v _ hw) (cwV 0 hts gL_law_X6_safeByLines rfl rfl rfl hdX6_safeByLines ⟨Nat.le_of_ble_eq_true rfl, Nat.le_of_ble_eq_true rfl⟩) hK hP hD hE hS hA [33, 34, 35, 36, 37, 38, 39, 40, 41] [0, 1, 2, 3, 4, 5, 6, 7, 8, 9, 10, 11, 12, 13, 14, 15, 16, 17, 18, 19, 20, 21, 22, 23, 24, 25, 26, 27, 28, 29, 30, 31, 32, 42] rfl rfl rfl rfl (by decide) [0, 1, 2, 3, 4, 5, 6, 7, 8, 9, 10, 11, 12, 13, 14, 15, 16, 17, 18, 19, 20, 21, 22, 23, 24, 25, 26, 27, 28, 29, 30, 31, 32, 34, 35, 36, 37, 38, 39, 40, 41, 42, 33] rfl (fun _ => rfl) (ci := 5) (q0 := 0) rfl rfl rfl rfl hl.1 rfl (Nat.le_of_ble_eq_true rfl) dL_law_1065 (gr1 (by omega)) (fun r163 w163 H locs hw hP hD hS => ?_)
  have hP : va_P D vwCl (wX kI kC kG x ag at_ as_ hh hst a0 a1 a2 a3 tx tch u ++ wM kI mo m0 m1 m2 m3 m4 m5 m6 m7 w163 ++ [(oo, .inl (kJ, 1, .inr (.inl f)))]) H := hP
  have hD : va_D (fun q : Nat => s.heap.size ≤ q) (wX kI kC kG x ag at_ as_ hh hst a0 a1 a2 a3 tx tch u ++ wM kI mo m0 m1 m2 m3 m4 m5 m6 m7 w163 ++ [(oo, .inl (kJ, 1, .inr (.inl f)))]) := hD
  refine lv_icmp_eq (tgt := 1187) hx hb dL_law_1068 (by decide) (fun c164 => ?_) (fun c164 => ?_)
  · replace hw := Eq.mp (if_pos c164) hw
    obtain ⟨x165, ex165⟩ : ∃ y : Int32, y = (v4 + 2) := ⟨_, rfl⟩
    replace hw := hw x165 ex165
    refine lv_iinc (v := x165) (lv' := [(4, .int x165), (0, .ref b), (1, .ref x), (2, .ref mo), (3, .ref oo)]) hx hb dL_law_1187 hl (k := 0) rfl (by rw [ex165]; rfl) (by decide) rfl (fun ls hl => ?_)
    refine lv_goto (tgt := 23) hx hb dL_law_1190 (by decide) ?_
    refine W.widen (k := 60 + 2 * (j + 2)) (n := 600 + 12 * (j + 2)) (by omega) (by omega) ?_
    exact hback x165 u w163 f H locs ls hP hD hS (lv_sub hl [0, 1, 2, 3, 4] rfl) (by rw [ex165, ev4]; exact nI_add j 2) hw
  · replace hw := Eq.mp (if_neg c164) hw
    refine lv_iconst (v := 0) hx hb dL_law_1071 (by decide) ?_
    exact (hw : False).elim
set_option maxHeartbeats 4000000 in
set_option maxRecDepth 100000 in
theorem law_c26 {p : Program} {l : Launch} {e : Env} {s : State} {m : MethodId} {below : List Frame} {meth : Method} {c : Code} {D : va_G} {kI kC kG kJ : ClassId} {b L : Nat} {xs : Nat → Int32} (hlt : l.stackTraces = false) (hL : L ≤ 1024) (C0 : lw_At p s m meth c b L xs) (hK : va_K D vwCl (gT kI kC kG kJ) s) (hE : gE (fun q : Nat => s.heap.size ≤ q) s s.heap) {x : Nat} {ag at_ as_ : AG} {hh hst : Nat} {a0 a1 a2 a3 : AG} {tx tch : Nat} {mo m0 m1 m2 m3 m4 m5 m6 m7 : Nat} {oo : Nat} (K : SX → SM → (Nat → Int64) → Prop) (j : Nat) (hback : ∀ (v4 : Int32) (u : SX) (v : SM) (f : Nat → Int64) (H : Heap) (locs : List Loc) (ls : Array Slot), va_P D vwCl (wX kI kC kG x ag at_ as_ hh hst a0 a1 a2 a3 tx tch u ++ wM kI mo m0 m1 m2 m3 m4 m5 m6 m7 v ++ [(oo, .inl (kJ, 1, .inr (.inl f)))]) H → va_D (fun q : Nat => s.heap.size ≤ q) (wX kI kC kG x ag at_ as_ hh hst a0 a1 a2 a3 tx tch u ++ wM kI mo m0 m1 m2 m3 m4 m5 m6 m7 v ++ [(oo, .inl (kJ, 1, .inr (.inl f)))]) → va_S (fun q : Nat => s.heap.size ≤ q) s.heap H locs → lv_has ls 7 [(4, .int v4), (0, .ref b), (1, .ref x), (2, .ref mo), (3, .ref oo)] → v4 = nI (j + 2) → K u v f → W p l e room_1 s m #[Value.ref b] below meth c H locs (60 + 2 * (j + 2)) (600 + 12 * (j + 2)) (lw_Z below #[Value.ref b] s) (F0 m 23 ls [])) (v4 : Int32) (ev4 : v4 = nI j) (hj : j + 2 ≤ L) (u : SX) (v : SM) (f : Nat → Int64) (H : Heap) (locs : List Loc) (ls : Array Slot) : va_P D vwCl (wX kI kC kG x ag at_ as_ hh hst a0 a1 a2 a3 tx tch u ++ wM kI mo m0 m1 m2 m3 m4 m5 m6 m7 v ++ [(oo, .inl (kJ, 1, .inr (.inl f)))]) H → va_D (fun q : Nat => s.heap.size ≤ q) (wX kI kC kG x ag at_ as_ hh hst a0 a1 a2 a3 tx tch u ++ wM kI mo m0 m1 m2 m3 m4 m5 m6 m7 v ++ [(oo, .inl (kJ, 1, .inr (.inl f)))]) → va_S (fun q : Nat => s.heap.size ≤ q) s.heap H locs → lv_has ls 7 [(4, .int v4), (0, .ref b), (1, .ref x), (2, .ref mo), (3, .ref oo)] → pL_c26 v4 (xs ((v4 + 1)).toNatClampNeg) u v f K → W p l e room_1 s m #[Value.ref b] below meth c H locs (60 + 2 * j) (600 + 12 * j) (lw_Z below #[Value.ref b] s) (F0 m 1073 ls []) := by
  intro hP hD hS hl hw
  obtain ⟨hx, hb, hr, hml, hown, hts0, hX, hbl, hlocks, hgv⟩ := id C0
  have hown : s.vm.findClass RL = some m.cls := hown
  have hts : ∀ w ∈ wsL_law, w.before #[Value.ref b] s = true := fun w h => hts0 w (wsL_law_in w h)
  have hA : ∀ q : Nat, s.heap.size ≤ q → (fun q : Nat => s.heap.size ≤ q) q := fun _ h => h
  have hbA : ¬ (fun q : Nat => s.heap.size ≤ q) b := Nat.not_le.mpr hbl
  have hi0 : vp_in v4 L := by rw [ev4]; exact vp_in_nI (by omega) (by omega)
  have hi1 : vp_in (v4 + 1) L := by rw [ev4, nI_1]; exact vp_in_nI (by omega) (by omega)
  unfold pL_c26 at hw
  refine lv_aload_n hx hb dL_law_1073 rfl (lv_at hl 2 rfl) ?_
  refine lv_aload_n hx hb dL_law_1074 rfl (lv_at hl 4 rfl) ?_
  refine gLSi (mc := 1) (ms := 6) (S := SX × (Nat → Int64)) (As := [.ref x, .ref oo]) (rest := []) (wc := wX kI kC kG x ag at_ as_ hh hst a0 a1 a2 a3 tx tch u ++ [(oo, .inl (kJ, 1, .inr (.inl f)))]) (wr := wM kI mo m0 m1 m2 m3 m4 m5 m6 m7 v) (cs1 := (fun zz : SX × (Nat → Int64) => wX kI kC kG x ag at_ as_ hh hst a0 a1 a2 a3 tx tch zz.1 ++ [(oo, .inl (kJ, 1, .inr (.inl zz.2)))])) (ws2 := (fun zz : SX × (Nat → Int64) => wX kI kC kG x ag at_ as_ hh hst a0 a1 a2 a3 tx tch zz.1 ++ wM kI mo m0 m1 m2 m3 m4 m5 m6 m7 v ++ [(oo, .inl (kJ, 1, .inr (.inl zz.2)))])) ⟨hx, hb, hml, hown, hts⟩ (fun sz => kL_outcome l D kI kC kG kJ hlt x ag at_ as_ hh hst a0 a1 a2 a3 tx tch oo sz u f _ hw) (vx_cwSW 2 hts gL_law_L_outcome rfl rfl rfl hdL_outcome ⟨Nat.le_of_ble_eq_true rfl, Nat.le_of_ble_eq_true rfl⟩) hK hP hD hE hS hA [0, 1, 2, 3, 4, 5, 6, 7, 8, 9, 10, 11, 12, 13, 14, 15, 16, 17, 18, 19, 20, 21, 22, 23, 24, 25, 26, 27, 28, 29, 30, 31, 32, 42] [33, 34, 35, 36, 37, 38, 39, 40, 41] rfl rfl rfl rfl (by decide) [9, 10, 11, 12, 13, 14, 15, 16, 17, 18, 19, 20, 21, 22, 23, 24, 25, 26, 27, 28, 29, 30, 31, 32, 33, 34, 35, 36, 37, 38, 39, 40, 41, 0, 1, 2, 3, 4, 5, 6, 7, 8, 42] rfl (fun _ => rfl) rfl hl.1 rfl (Nat.le_of_ble_eq_true rfl) dL_law_1075 (gr1 (by omega)) (fun r166 w166 H locs hw hP hD hS => ?_)
  have hP : va_P D vwCl (wX kI kC kG x ag at_ as_ hh hst a0 a1 a2 a3 tx tch w166.1 ++ wM kI mo m0 m1 m2 m3 m4 m5 m6 m7 v ++ [(oo, .inl (kJ, 1, .inr (.inl w166.2)))]) H := hP
  have hD : va_D (fun q : Nat => s.heap.size ≤ q) (wX kI kC kG x ag at_ as_ hh hst a0 a1 a2 a3 tx tch w166.1 ++ wM kI mo m0 m1 m2 m3 m4 m5 m6 m7 v ++ [(oo, .inl (kJ, 1, .inr (.inl w166.2)))]) := hD
  refine lv_istore (lv' := [(5, .int r166), (4, .int v4), (0, .ref b), (1, .ref x), (2, .ref mo), (3, .ref oo)]) hx hb dL_law_1078 hl (by decide) rfl (fun ls hl => ?_)
  refine lv_aload_n hx hb dL_law_1080 rfl (lv_at hl 4 rfl) ?_
  refine gWVi (S := SM) (As := []) (rest := []) (wc := wM kI mo m0 m1 m2 m3 m4 m5 m6 m7 v) (wr := [(x, .inr (4, [.ref ag.1, .ref at_.1, .ref as_.1, .int w166.1.1, .ref hh, .ref tx]))] ++ wG kI ag w166.1.2.1 ++ wG kI at_ w166.1.2.2.1 ++ wG kI as_ w166.1.2.2.2.1 ++ [(hh, .inr (2, [.ref hst, .int w166.1.2.2.2.2.1.1, .int w166.1.2.2.2.2.1.2.1])), (hst, .inl (kG, 4, .inr (.inr (.inr (.inr (fH a0 a1 a2 a3))))))] ++ wG kI a0 w166.1.2.2.2.2.1.2.2.1 ++ wG kI a1 w166.1.2.2.2.2.1.2.2.2.1 ++ wG kI a2 w166.1.2.2.2.2.1.2.2.2.2.1 ++ wG kI a3 w166.1.2.2.2.2.1.2.2.2.2.2 ++ wT kC tx tch w166.1.2.2.2.2.2 ++ [(oo, .inl (kJ, 1, .inr (.inl w166.2)))]) (cs1 := (fun zz : SM => wM kI mo m0 m1 m2 m3 m4 m5 m6 m7 zz)) (ws2 := (fun zz : SM => wX kI kC kG x ag at_ as_ hh hst a0 a1 a2 a3 tx tch w166.1 ++ wM kI mo m0 m1 m2 m3 m4 m5 m6 m7 zz ++ [(oo, .inl (kJ, 1, .inr (.inl w166.2)))])) ⟨hx, hb, hml, hown, hts⟩ (fun sz => kX6_outcome l D kI kC kG kJ mo m0 m1 m2 m3 m4 m5 m6 m7 sz v _ hw) (cwV 0 hts gL_law_X6_outcome rfl rfl rfl hdX6_outcome ⟨Nat.le_of_ble_eq_true rfl, Nat.le_of_ble_eq_true rfl⟩) hK hP hD hE hS hA [33, 34, 35, 36, 37, 38, 39, 40, 41] [0, 1, 2, 3, 4, 5, 6, 7, 8, 9, 10, 11, 12, 13, 14, 15, 16, 17, 18, 19, 20, 21, 22, 23, 24, 25, 26, 27, 28, 29, 30, 31, 32, 42] rfl rfl rfl rfl (by decide) [0, 1, 2, 3, 4, 5, 6, 7, 8, 9, 10, 11, 12, 13, 14, 15, 16, 17, 18, 19, 20, 21, 22, 23, 24, 25, 26, 27, 28, 29, 30, 31, 32, 34, 35, 36, 37, 38, 39, 40, 41, 42, 33] rfl (fun _ => rfl) (ci := 5) (q0 := 0) rfl rfl rfl rfl hl.1 rfl (Nat.le_of_ble_eq_true rfl) dL_law_1081 (gr1 (by omega)) (fun r167 w167 H locs hw hP hD hS => ?_)
  have hP : va_P D vwCl (wX kI kC kG x ag at_ as_ hh hst a0 a1 a2 a3 tx tch w166.1 ++ wM kI mo m0 m1 m2 m3 m4 m5 m6 m7 w167 ++ [(oo, .inl (kJ, 1, .inr (.inl w166.2)))]) H := hP
  have hD : va_D (fun q : Nat => s.heap.size ≤ q) (wX kI kC kG x ag at_ as_ hh hst a0 a1 a2 a3 tx tch w166.1 ++ wM kI mo m0 m1 m2 m3 m4 m5 m6 m7 w167 ++ [(oo, .inl (kJ, 1, .inr (.inl w166.2)))]) := hD
  refine lv_istore (lv' := [(6, .int r167), (5, .int r166), (4, .int v4), (0, .ref b), (1, .ref x), (2, .ref mo), (3, .ref oo)]) hx hb dL_law_1084 hl (by decide) rfl (fun ls hl => ?_)
  refine lv_aload_n hx hb dL_law_1086 rfl (lv_at hl 5 rfl) ?_
  refine gVi (As := []) (rest := []) (cs' := wM kI mo m0 m1 m2 m3 m4 m5 m6 m7 w167) ⟨hx, hb, hml, hown, hts⟩ (kX6_thrown l D kI kC kG kJ mo m0 m1 m2 m3 m4 m5 m6 m7 w167 _ hw) (cwV 0 hts gL_law_X6_thrown rfl rfl rfl hdX6_thrown ⟨Nat.le_of_ble_eq_true rfl, Nat.le_of_ble_eq_true rfl⟩) hK hP hE hS [33, 34, 35, 36, 37, 38, 39, 40, 41] rfl (ci := 5) (q0 := 0) rfl rfl rfl rfl hl.1 rfl (Nat.le_of_ble_eq_true rfl) dL_law_1087 (gr1 (by omega)) (fun r168 hw => ?_)
  refine lv_iload hx hb dL_law_1090 (lv_at hl 1 rfl) ?_
  refine lv_icmp_eq (tgt := 1097) hx hb dL_law_1092 (by decide) (fun c169 => ?_) (fun c169 => ?_)
  · replace hw := Eq.mp (if_pos c169) hw
    refine lv_iload hx hb dL_law_1097 (lv_at hl 1 rfl) ?_
    refine lv_if_ne (tgt := 1114) hx hb dL_law_1099 (by decide) (fun c170 => ?_) (fun c170 => ?_)
    · replace hw := Eq.mp (if_neg c170) hw
      refine lv_goto (tgt := 1187) hx hb dL_law_1114 (by decide) ?_
      obtain ⟨x171, ex171⟩ : ∃ y : Int32, y = (v4 + 2) := ⟨_, rfl⟩
      replace hw := hw x171 ex171
      refine lv_iinc (v := x171) (lv' := [(4, .int x171), (6, .int r167), (5, .int r166), (0, .ref b), (1, .ref x), (2, .ref mo), (3, .ref oo)]) hx hb dL_law_1187 hl (k := 2) rfl (by rw [ex171]; rfl) (by decide) rfl (fun ls hl => ?_)
      refine lv_goto (tgt := 23) hx hb dL_law_1190 (by decide) ?_
      refine W.widen (k := 60 + 2 * (j + 2)) (n := 600 + 12 * (j + 2)) (by omega) (by omega) ?_
      exact hback x171 w166.1 w167 w166.2 H locs ls hP hD hS (lv_sub hl [0, 3, 4, 5, 6] rfl) (by rw [ex171, ev4]; exact nI_add j 2) hw
    · replace hw := Eq.mp (if_pos c170) hw
      refine lv_aload_n hx hb dL_law_1102 rfl (lv_at hl 6 rfl) ?_
      refine lv_iconst (v := 0) hx hb dL_law_1103 (by decide) ?_
      refine gLald (k := 0) hx hb hK hP 42 3 rfl rfl (gin (by decide)) (by decide) dL_law_1104 ?_
      refine lv_iload hx hb dL_law_1105 (lv_at hl 0 rfl) ?_
      refine lv_i2l (v := r167.toInt64) hx hb dL_law_1107 rfl ?_
      refine W.lcmp hx hb dL_law_1108 ?_
      refine lv_if_eq (tgt := 1114) hx hb dL_law_1109 (by decide) (fun c172 => ?_) (fun c172 => ?_)
      · replace hw := Eq.mp (if_pos c172) hw
        refine lv_goto (tgt := 1187) hx hb dL_law_1114 (by decide) ?_
        obtain ⟨x173, ex173⟩ : ∃ y : Int32, y = (v4 + 2) := ⟨_, rfl⟩
        replace hw := hw x173 ex173
        refine lv_iinc (v := x173) (lv' := [(4, .int x173), (6, .int r167), (5, .int r166), (0, .ref b), (1, .ref x), (2, .ref mo), (3, .ref oo)]) hx hb dL_law_1187 hl (k := 2) rfl (by rw [ex173]; rfl) (by decide) rfl (fun ls hl => ?_)
        refine lv_goto (tgt := 23) hx hb dL_law_1190 (by decide) ?_
        refine W.widen (k := 60 + 2 * (j + 2)) (n := 600 + 12 * (j + 2)) (by omega) (by omega) ?_
        exact hback x173 w166.1 w167 w166.2 H locs ls hP hD hS (lv_sub hl [0, 3, 4, 5, 6] rfl) (by rw [ex173, ev4]; exact nI_add j 2) hw
      · replace hw := Eq.mp (if_neg c172) hw
        refine lv_iconst (v := 0) hx hb dL_law_1112 (by decide) ?_
        exact (hw : False).elim
  · replace hw := Eq.mp (if_neg c169) hw
    refine lv_iconst (v := 0) hx hb dL_law_1095 (by decide) ?_
    exact (hw : False).elim
set_option maxHeartbeats 4000000 in
set_option maxRecDepth 100000 in
theorem law_c27 {p : Program} {l : Launch} {e : Env} {s : State} {m : MethodId} {below : List Frame} {meth : Method} {c : Code} {D : va_G} {kI kC kG kJ : ClassId} {b L : Nat} {xs : Nat → Int32} (hlt : l.stackTraces = false) (hL : L ≤ 1024) (C0 : lw_At p s m meth c b L xs) (hK : va_K D vwCl (gT kI kC kG kJ) s) (hE : gE (fun q : Nat => s.heap.size ≤ q) s s.heap) {x : Nat} {ag at_ as_ : AG} {hh hst : Nat} {a0 a1 a2 a3 : AG} {tx tch : Nat} {mo m0 m1 m2 m3 m4 m5 m6 m7 : Nat} {oo : Nat} (K : SX → SM → (Nat → Int64) → Prop) (j : Nat) (hback : ∀ (v4 : Int32) (u : SX) (v : SM) (f : Nat → Int64) (H : Heap) (locs : List Loc) (ls : Array Slot), va_P D vwCl (wX kI kC kG x ag at_ as_ hh hst a0 a1 a2 a3 tx tch u ++ wM kI mo m0 m1 m2 m3 m4 m5 m6 m7 v ++ [(oo, .inl (kJ, 1, .inr (.inl f)))]) H → va_D (fun q : Nat => s.heap.size ≤ q) (wX kI kC kG x ag at_ as_ hh hst a0 a1 a2 a3 tx tch u ++ wM kI mo m0 m1 m2 m3 m4 m5 m6 m7 v ++ [(oo, .inl (kJ, 1, .inr (.inl f)))]) → va_S (fun q : Nat => s.heap.size ≤ q) s.heap H locs → lv_has ls 7 [(4, .int v4), (0, .ref b), (1, .ref x), (2, .ref mo), (3, .ref oo)] → v4 = nI (j + 2) → K u v f → W p l e room_1 s m #[Value.ref b] below meth c H locs (60 + 2 * (j + 2)) (600 + 12 * (j + 2)) (lw_Z below #[Value.ref b] s) (F0 m 23 ls [])) (v4 : Int32) (ev4 : v4 = nI j) (hj : j + 2 ≤ L) (u : SX) (v : SM) (f : Nat → Int64) (H : Heap) (locs : List Loc) (ls : Array Slot) : va_P D vwCl (wX kI kC kG x ag at_ as_ hh hst a0 a1 a2 a3 tx tch u ++ wM kI mo m0 m1 m2 m3 m4 m5 m6 m7 v ++ [(oo, .inl (kJ, 1, .inr (.inl f)))]) H → va_D (fun q : Nat => s.heap.size ≤ q) (wX kI kC kG x ag at_ as_ hh hst a0 a1 a2 a3 tx tch u ++ wM kI mo m0 m1 m2 m3 m4 m5 m6 m7 v ++ [(oo, .inl (kJ, 1, .inr (.inl f)))]) → va_S (fun q : Nat => s.heap.size ≤ q) s.heap H locs → lv_has ls 7 [(4, .int v4), (0, .ref b), (1, .ref x), (2, .ref mo), (3, .ref oo)] → pL_c27 v4 (xs ((v4 + 1)).toNatClampNeg) u v f K → W p l e room_1 s m #[Value.ref b] below meth c H locs (60 + 2 * j) (600 + 12 * j) (lw_Z below #[Value.ref b] s) (F0 m 1117 ls []) := by
  intro hP hD hS hl hw
  obtain ⟨hx, hb, hr, hml, hown, hts0, hX, hbl, hlocks, hgv⟩ := id C0
  have hown : s.vm.findClass RL = some m.cls := hown
  have hts : ∀ w ∈ wsL_law, w.before #[Value.ref b] s = true := fun w h => hts0 w (wsL_law_in w h)
  have hA : ∀ q : Nat, s.heap.size ≤ q → (fun q : Nat => s.heap.size ≤ q) q := fun _ h => h
  have hbA : ¬ (fun q : Nat => s.heap.size ≤ q) b := Nat.not_le.mpr hbl
  have hi0 : vp_in v4 L := by rw [ev4]; exact vp_in_nI (by omega) (by omega)
  have hi1 : vp_in (v4 + 1) L := by rw [ev4, nI_1]; exact vp_in_nI (by omega) (by omega)
  unfold pL_c27 at hw
  refine lv_aload_n hx hb dL_law_1117 rfl (lv_at hl 2 rfl) ?_
  refine lv_aload_n hx hb dL_law_1118 rfl (lv_at hl 4 rfl) ?_
  refine gLSi (mc := 1) (ms := 6) (S := SX × (Nat → Int64)) (As := [.ref x, .ref oo]) (rest := []) (wc := wX kI kC kG x ag at_ as_ hh hst a0 a1 a2 a3 tx tch u ++ [(oo, .inl (kJ, 1, .inr (.inl f)))]) (wr := wM kI mo m0 m1 m2 m3 m4 m5 m6 m7 v) (cs1 := (fun zz : SX × (Nat → Int64) => wX kI kC kG x ag at_ as_ hh hst a0 a1 a2 a3 tx tch zz.1 ++ [(oo, .inl (kJ, 1, .inr (.inl zz.2)))])) (ws2 := (fun zz : SX × (Nat → Int64) => wX kI kC kG x ag at_ as_ hh hst a0 a1 a2 a3 tx tch zz.1 ++ wM kI mo m0 m1 m2 m3 m4 m5 m6 m7 v ++ [(oo, .inl (kJ, 1, .inr (.inl zz.2)))])) ⟨hx, hb, hml, hown, hts⟩ (fun sz => kL_bestMove l D kI kC kG kJ hlt x ag at_ as_ hh hst a0 a1 a2 a3 tx tch oo sz u f _ hw) (vx_cwSW 2 hts gL_law_L_bestMove rfl rfl rfl hdL_bestMove ⟨Nat.le_of_ble_eq_true rfl, Nat.le_of_ble_eq_true rfl⟩) hK hP hD hE hS hA [0, 1, 2, 3, 4, 5, 6, 7, 8, 9, 10, 11, 12, 13, 14, 15, 16, 17, 18, 19, 20, 21, 22, 23, 24, 25, 26, 27, 28, 29, 30, 31, 32, 42] [33, 34, 35, 36, 37, 38, 39, 40, 41] rfl rfl rfl rfl (by decide) [9, 10, 11, 12, 13, 14, 15, 16, 17, 18, 19, 20, 21, 22, 23, 24, 25, 26, 27, 28, 29, 30, 31, 32, 33, 34, 35, 36, 37, 38, 39, 40, 41, 0, 1, 2, 3, 4, 5, 6, 7, 8, 42] rfl (fun _ => rfl) rfl hl.1 rfl (Nat.le_of_ble_eq_true rfl) dL_law_1119 (gr1 (by omega)) (fun r174 w174 H locs hw hP hD hS => ?_)
  have hP : va_P D vwCl (wX kI kC kG x ag at_ as_ hh hst a0 a1 a2 a3 tx tch w174.1 ++ wM kI mo m0 m1 m2 m3 m4 m5 m6 m7 v ++ [(oo, .inl (kJ, 1, .inr (.inl w174.2)))]) H := hP
  have hD : va_D (fun q : Nat => s.heap.size ≤ q) (wX kI kC kG x ag at_ as_ hh hst a0 a1 a2 a3 tx tch w174.1 ++ wM kI mo m0 m1 m2 m3 m4 m5 m6 m7 v ++ [(oo, .inl (kJ, 1, .inr (.inl w174.2)))]) := hD
  refine lv_istore (lv' := [(5, .int r174), (4, .int v4), (0, .ref b), (1, .ref x), (2, .ref mo), (3, .ref oo)]) hx hb dL_law_1122 hl (by decide) rfl (fun ls hl => ?_)
  refine lv_aload_n hx hb dL_law_1124 rfl (lv_at hl 4 rfl) ?_
  refine gWVi (S := SM) (As := []) (rest := []) (wc := wM kI mo m0 m1 m2 m3 m4 m5 m6 m7 v) (wr := [(x, .inr (4, [.ref ag.1, .ref at_.1, .ref as_.1, .int w174.1.1, .ref hh, .ref tx]))] ++ wG kI ag w174.1.2.1 ++ wG kI at_ w174.1.2.2.1 ++ wG kI as_ w174.1.2.2.2.1 ++ [(hh, .inr (2, [.ref hst, .int w174.1.2.2.2.2.1.1, .int w174.1.2.2.2.2.1.2.1])), (hst, .inl (kG, 4, .inr (.inr (.inr (.inr (fH a0 a1 a2 a3))))))] ++ wG kI a0 w174.1.2.2.2.2.1.2.2.1 ++ wG kI a1 w174.1.2.2.2.2.1.2.2.2.1 ++ wG kI a2 w174.1.2.2.2.2.1.2.2.2.2.1 ++ wG kI a3 w174.1.2.2.2.2.1.2.2.2.2.2 ++ wT kC tx tch w174.1.2.2.2.2.2 ++ [(oo, .inl (kJ, 1, .inr (.inl w174.2)))]) (cs1 := (fun zz : SM => wM kI mo m0 m1 m2 m3 m4 m5 m6 m7 zz)) (ws2 := (fun zz : SM => wX kI kC kG x ag at_ as_ hh hst a0 a1 a2 a3 tx tch w174.1 ++ wM kI mo m0 m1 m2 m3 m4 m5 m6 m7 zz ++ [(oo, .inl (kJ, 1, .inr (.inl w174.2)))])) ⟨hx, hb, hml, hown, hts⟩ (fun sz => kX6_bestMove l D kI kC kG kJ mo m0 m1 m2 m3 m4 m5 m6 m7 sz v _ hw) (cwV 0 hts gL_law_X6_bestMove rfl rfl rfl hdX6_bestMove ⟨Nat.le_of_ble_eq_true rfl, Nat.le_of_ble_eq_true rfl⟩) hK hP hD hE hS hA [33, 34, 35, 36, 37, 38, 39, 40, 41] [0, 1, 2, 3, 4, 5, 6, 7, 8, 9, 10, 11, 12, 13, 14, 15, 16, 17, 18, 19, 20, 21, 22, 23, 24, 25, 26, 27, 28, 29, 30, 31, 32, 42] rfl rfl rfl rfl (by decide) [0, 1, 2, 3, 4, 5, 6, 7, 8, 9, 10, 11, 12, 13, 14, 15, 16, 17, 18, 19, 20, 21, 22, 23, 24, 25, 26, 27, 28, 29, 30, 31, 32, 34, 35, 36, 37, 38, 39, 40, 41, 42, 33] rfl (fun _ => rfl) (ci := 5) (q0 := 0) rfl rfl rfl rfl hl.1 rfl (Nat.le_of_ble_eq_true rfl) dL_law_1125 (gr1 (by omega)) (fun r175 w175 H locs hw hP hD hS => ?_)
  have hP : va_P D vwCl (wX kI kC kG x ag at_ as_ hh hst a0 a1 a2 a3 tx tch w174.1 ++ wM kI mo m0 m1 m2 m3 m4 m5 m6 m7 w175 ++ [(oo, .inl (kJ, 1, .inr (.inl w174.2)))]) H := hP
  have hD : va_D (fun q : Nat => s.heap.size ≤ q) (wX kI kC kG x ag at_ as_ hh hst a0 a1 a2 a3 tx tch w174.1 ++ wM kI mo m0 m1 m2 m3 m4 m5 m6 m7 w175 ++ [(oo, .inl (kJ, 1, .inr (.inl w174.2)))]) := hD
  refine lv_istore (lv' := [(6, .int r175), (5, .int r174), (4, .int v4), (0, .ref b), (1, .ref x), (2, .ref mo), (3, .ref oo)]) hx hb dL_law_1128 hl (by decide) rfl (fun ls hl => ?_)
  refine lv_aload_n hx hb dL_law_1130 rfl (lv_at hl 5 rfl) ?_
  refine gVi (As := []) (rest := []) (cs' := wM kI mo m0 m1 m2 m3 m4 m5 m6 m7 w175) ⟨hx, hb, hml, hown, hts⟩ (kX6_thrown l D kI kC kG kJ mo m0 m1 m2 m3 m4 m5 m6 m7 w175 _ hw) (cwV 0 hts gL_law_X6_thrown rfl rfl rfl hdX6_thrown ⟨Nat.le_of_ble_eq_true rfl, Nat.le_of_ble_eq_true rfl⟩) hK hP hE hS [33, 34, 35, 36, 37, 38, 39, 40, 41] rfl (ci := 5) (q0 := 0) rfl rfl rfl rfl hl.1 rfl (Nat.le_of_ble_eq_true rfl) dL_law_1131 (gr1 (by omega)) (fun r176 hw => ?_)
  refine lv_iload hx hb dL_law_1134 (lv_at hl 1 rfl) ?_
  refine lv_icmp_eq (tgt := 1141) hx hb dL_law_1136 (by decide) (fun c177 => ?_) (fun c177 => ?_)
  · replace hw := Eq.mp (if_pos c177) hw
    refine lv_iload hx hb dL_law_1141 (lv_at hl 1 rfl) ?_
    refine lv_if_ne (tgt := 1158) hx hb dL_law_1143 (by decide) (fun c178 => ?_) (fun c178 => ?_)
    · replace hw := Eq.mp (if_neg c178) hw
      refine lv_goto (tgt := 1187) hx hb dL_law_1158 (by decide) ?_
      obtain ⟨x179, ex179⟩ : ∃ y : Int32, y = (v4 + 2) := ⟨_, rfl⟩
      replace hw := hw x179 ex179
      refine lv_iinc (v := x179) (lv' := [(4, .int x179), (6, .int r175), (5, .int r174), (0, .ref b), (1, .ref x), (2, .ref mo), (3, .ref oo)]) hx hb dL_law_1187 hl (k := 2) rfl (by rw [ex179]; rfl) (by decide) rfl (fun ls hl => ?_)
      refine lv_goto (tgt := 23) hx hb dL_law_1190 (by decide) ?_
      refine W.widen (k := 60 + 2 * (j + 2)) (n := 600 + 12 * (j + 2)) (by omega) (by omega) ?_
      exact hback x179 w174.1 w175 w174.2 H locs ls hP hD hS (lv_sub hl [0, 3, 4, 5, 6] rfl) (by rw [ex179, ev4]; exact nI_add j 2) hw
    · replace hw := Eq.mp (if_pos c178) hw
      refine lv_aload_n hx hb dL_law_1146 rfl (lv_at hl 6 rfl) ?_
      refine lv_iconst (v := 0) hx hb dL_law_1147 (by decide) ?_
      refine gLald (k := 0) hx hb hK hP 42 3 rfl rfl (gin (by decide)) (by decide) dL_law_1148 ?_
      refine lv_iload hx hb dL_law_1149 (lv_at hl 0 rfl) ?_
      refine lv_i2l (v := r175.toInt64) hx hb dL_law_1151 rfl ?_
      refine W.lcmp hx hb dL_law_1152 ?_
      refine lv_if_eq (tgt := 1158) hx hb dL_law_1153 (by decide) (fun c180 => ?_) (fun c180 => ?_)
      · replace hw := Eq.mp (if_pos c180) hw
        refine lv_goto (tgt := 1187) hx hb dL_law_1158 (by decide) ?_
        obtain ⟨x181, ex181⟩ : ∃ y : Int32, y = (v4 + 2) := ⟨_, rfl⟩
        replace hw := hw x181 ex181
        refine lv_iinc (v := x181) (lv' := [(4, .int x181), (6, .int r175), (5, .int r174), (0, .ref b), (1, .ref x), (2, .ref mo), (3, .ref oo)]) hx hb dL_law_1187 hl (k := 2) rfl (by rw [ex181]; rfl) (by decide) rfl (fun ls hl => ?_)
        refine lv_goto (tgt := 23) hx hb dL_law_1190 (by decide) ?_
        refine W.widen (k := 60 + 2 * (j + 2)) (n := 600 + 12 * (j + 2)) (by omega) (by omega) ?_
        exact hback x181 w174.1 w175 w174.2 H locs ls hP hD hS (lv_sub hl [0, 3, 4, 5, 6] rfl) (by rw [ex181, ev4]; exact nI_add j 2) hw
      · replace hw := Eq.mp (if_neg c180) hw
        refine lv_iconst (v := 0) hx hb dL_law_1156 (by decide) ?_
        exact (hw : False).elim
  · replace hw := Eq.mp (if_neg c177) hw
    refine lv_iconst (v := 0) hx hb dL_law_1139 (by decide) ?_
    exact (hw : False).elim
set_option maxHeartbeats 4000000 in
set_option maxRecDepth 100000 in
theorem law_c28 {p : Program} {l : Launch} {e : Env} {s : State} {m : MethodId} {below : List Frame} {meth : Method} {c : Code} {D : va_G} {kI kC kG kJ : ClassId} {b L : Nat} {xs : Nat → Int32} (hlt : l.stackTraces = false) (hL : L ≤ 1024) (C0 : lw_At p s m meth c b L xs) (hK : va_K D vwCl (gT kI kC kG kJ) s) (hE : gE (fun q : Nat => s.heap.size ≤ q) s s.heap) {x : Nat} {ag at_ as_ : AG} {hh hst : Nat} {a0 a1 a2 a3 : AG} {tx tch : Nat} {mo m0 m1 m2 m3 m4 m5 m6 m7 : Nat} {oo : Nat} (K : SX → SM → (Nat → Int64) → Prop) (j : Nat) (hback : ∀ (v4 : Int32) (u : SX) (v : SM) (f : Nat → Int64) (H : Heap) (locs : List Loc) (ls : Array Slot), va_P D vwCl (wX kI kC kG x ag at_ as_ hh hst a0 a1 a2 a3 tx tch u ++ wM kI mo m0 m1 m2 m3 m4 m5 m6 m7 v ++ [(oo, .inl (kJ, 1, .inr (.inl f)))]) H → va_D (fun q : Nat => s.heap.size ≤ q) (wX kI kC kG x ag at_ as_ hh hst a0 a1 a2 a3 tx tch u ++ wM kI mo m0 m1 m2 m3 m4 m5 m6 m7 v ++ [(oo, .inl (kJ, 1, .inr (.inl f)))]) → va_S (fun q : Nat => s.heap.size ≤ q) s.heap H locs → lv_has ls 7 [(4, .int v4), (0, .ref b), (1, .ref x), (2, .ref mo), (3, .ref oo)] → v4 = nI (j + 2) → K u v f → W p l e room_1 s m #[Value.ref b] below meth c H locs (60 + 2 * (j + 2)) (600 + 12 * (j + 2)) (lw_Z below #[Value.ref b] s) (F0 m 23 ls [])) (v4 : Int32) (ev4 : v4 = nI j) (hj : j + 2 ≤ L) (u : SX) (v : SM) (f : Nat → Int64) (H : Heap) (locs : List Loc) (ls : Array Slot) : va_P D vwCl (wX kI kC kG x ag at_ as_ hh hst a0 a1 a2 a3 tx tch u ++ wM kI mo m0 m1 m2 m3 m4 m5 m6 m7 v ++ [(oo, .inl (kJ, 1, .inr (.inl f)))]) H → va_D (fun q : Nat => s.heap.size ≤ q) (wX kI kC kG x ag at_ as_ hh hst a0 a1 a2 a3 tx tch u ++ wM kI mo m0 m1 m2 m3 m4 m5 m6 m7 v ++ [(oo, .inl (kJ, 1, .inr (.inl f)))]) → va_S (fun q : Nat => s.heap.size ≤ q) s.heap H locs → lv_has ls 7 [(4, .int v4), (0, .ref b), (1, .ref x), (2, .ref mo), (3, .ref oo)] → pL_c28 v4 (xs ((v4 + 1)).toNatClampNeg) u v f K → W p l e room_1 s m #[Value.ref b] below meth c H locs (60 + 2 * j) (600 + 12 * j) (lw_Z below #[Value.ref b] s) (F0 m 1161 ls []) := by
  intro hP hD hS hl hw
  obtain ⟨hx, hb, hr, hml, hown, hts0, hX, hbl, hlocks, hgv⟩ := id C0
  have hown : s.vm.findClass RL = some m.cls := hown
  have hts : ∀ w ∈ wsL_law, w.before #[Value.ref b] s = true := fun w h => hts0 w (wsL_law_in w h)
  have hA : ∀ q : Nat, s.heap.size ≤ q → (fun q : Nat => s.heap.size ≤ q) q := fun _ h => h
  have hbA : ¬ (fun q : Nat => s.heap.size ≤ q) b := Nat.not_le.mpr hbl
  have hi0 : vp_in v4 L := by rw [ev4]; exact vp_in_nI (by omega) (by omega)
  have hi1 : vp_in (v4 + 1) L := by rw [ev4, nI_1]; exact vp_in_nI (by omega) (by omega)
  unfold pL_c28 at hw
  refine lv_aload_n hx hb dL_law_1161 rfl (lv_at hl 2 rfl) ?_
  refine gVi (As := []) (rest := []) (cs' := wX kI kC kG x ag at_ as_ hh hst a0 a1 a2 a3 tx tch u) ⟨hx, hb, hml, hown, hts⟩ (kX5_rule l D kI kC kG kJ x ag at_ as_ hh hst a0 a1 a2 a3 tx tch u _ hw) (cwV 0 hts gL_law_X5_rule rfl rfl rfl hdX5_rule ⟨Nat.le_of_ble_eq_true rfl, Nat.le_of_ble_eq_true rfl⟩) hK hP hE hS [0, 1, 2, 3, 4, 5, 6, 7, 8, 9, 10, 11, 12, 13, 14, 15, 16, 17, 18, 19, 20, 21, 22, 23, 24, 25, 26, 27, 28, 29, 30, 31, 32] rfl (ci := 4) (q0 := 0) rfl rfl rfl rfl hl.1 rfl (Nat.le_of_ble_eq_true rfl) dL_law_1162 (gr1 (by omega)) (fun r182 hw => ?_)
  refine lv_aload_n hx hb dL_law_1165 rfl (lv_at hl 3 rfl) ?_
  refine gWVi (S := SM) (As := []) (rest := [.int r182]) (wc := wM kI mo m0 m1 m2 m3 m4 m5 m6 m7 v) (wr := [(x, .inr (4, [.ref ag.1, .ref at_.1, .ref as_.1, .int u.1, .ref hh, .ref tx]))] ++ wG kI ag u.2.1 ++ wG kI at_ u.2.2.1 ++ wG kI as_ u.2.2.2.1 ++ [(hh, .inr (2, [.ref hst, .int u.2.2.2.2.1.1, .int u.2.2.2.2.1.2.1])), (hst, .inl (kG, 4, .inr (.inr (.inr (.inr (fH a0 a1 a2 a3))))))] ++ wG kI a0 u.2.2.2.2.1.2.2.1 ++ wG kI a1 u.2.2.2.2.1.2.2.2.1 ++ wG kI a2 u.2.2.2.2.1.2.2.2.2.1 ++ wG kI a3 u.2.2.2.2.1.2.2.2.2.2 ++ wT kC tx tch u.2.2.2.2.2 ++ [(oo, .inl (kJ, 1, .inr (.inl f)))]) (cs1 := (fun zz : SM => wM kI mo m0 m1 m2 m3 m4 m5 m6 m7 zz)) (ws2 := (fun zz : SM => wX kI kC kG x ag at_ as_ hh hst a0 a1 a2 a3 tx tch u ++ wM kI mo m0 m1 m2 m3 m4 m5 m6 m7 zz ++ [(oo, .inl (kJ, 1, .inr (.inl f)))])) ⟨hx, hb, hml, hown, hts⟩ (fun sz => kX6_rule l D kI kC kG kJ mo m0 m1 m2 m3 m4 m5 m6 m7 sz v _ hw) (cwV 0 hts gL_law_X6_rule rfl rfl rfl hdX6_rule ⟨Nat.le_of_ble_eq_true rfl, Nat.le_of_ble_eq_true rfl⟩) hK hP hD hE hS hA [33, 34, 35, 36, 37, 38, 39, 40, 41] [0, 1, 2, 3, 4, 5, 6, 7, 8, 9, 10, 11, 12, 13, 14, 15, 16, 17, 18, 19, 20, 21, 22, 23, 24, 25, 26, 27, 28, 29, 30, 31, 32, 42] rfl rfl rfl rfl (by decide) [0, 1, 2, 3, 4, 5, 6, 7, 8, 9, 10, 11, 12, 13, 14, 15, 16, 17, 18, 19, 20, 21, 22, 23, 24, 25, 26, 27, 28, 29, 30, 31, 32, 34, 35, 36, 37, 38, 39, 40, 41, 42, 33] rfl (fun _ => rfl) (ci := 5) (q0 := 0) rfl rfl rfl rfl hl.1 rfl (Nat.le_of_ble_eq_true rfl) dL_law_1166 (gr1 (by omega)) (fun r183 w183 H locs hw hP hD hS => ?_)
  have hP : va_P D vwCl (wX kI kC kG x ag at_ as_ hh hst a0 a1 a2 a3 tx tch u ++ wM kI mo m0 m1 m2 m3 m4 m5 m6 m7 w183 ++ [(oo, .inl (kJ, 1, .inr (.inl f)))]) H := hP
  have hD : va_D (fun q : Nat => s.heap.size ≤ q) (wX kI kC kG x ag at_ as_ hh hst a0 a1 a2 a3 tx tch u ++ wM kI mo m0 m1 m2 m3 m4 m5 m6 m7 w183 ++ [(oo, .inl (kJ, 1, .inr (.inl f)))]) := hD
  refine lv_icmp_eq (tgt := 1187) hx hb dL_law_1169 (by decide) (fun c184 => ?_) (fun c184 => ?_)
  · replace hw := Eq.mp (if_pos c184) hw
    obtain ⟨x185, ex185⟩ : ∃ y : Int32, y = (v4 + 2) := ⟨_, rfl⟩
    replace hw := hw x185 ex185
    refine lv_iinc (v := x185) (lv' := [(4, .int x185), (0, .ref b), (1, .ref x), (2, .ref mo), (3, .ref oo)]) hx hb dL_law_1187 hl (k := 0) rfl (by rw [ex185]; rfl) (by decide) rfl (fun ls hl => ?_)
    refine lv_goto (tgt := 23) hx hb dL_law_1190 (by decide) ?_
    refine W.widen (k := 60 + 2 * (j + 2)) (n := 600 + 12 * (j + 2)) (by omega) (by omega) ?_
    exact hback x185 u w183 f H locs ls hP hD hS (lv_sub hl [0, 1, 2, 3, 4] rfl) (by rw [ex185, ev4]; exact nI_add j 2) hw
  · replace hw := Eq.mp (if_neg c184) hw
    refine lv_iconst (v := 0) hx hb dL_law_1172 (by decide) ?_
    exact (hw : False).elim
set_option maxHeartbeats 4000000 in
set_option maxRecDepth 100000 in
theorem law_c29 {p : Program} {l : Launch} {e : Env} {s : State} {m : MethodId} {below : List Frame} {meth : Method} {c : Code} {D : va_G} {kI kC kG kJ : ClassId} {b L : Nat} {xs : Nat → Int32} (hlt : l.stackTraces = false) (hL : L ≤ 1024) (C0 : lw_At p s m meth c b L xs) (hK : va_K D vwCl (gT kI kC kG kJ) s) (hE : gE (fun q : Nat => s.heap.size ≤ q) s s.heap) {x : Nat} {ag at_ as_ : AG} {hh hst : Nat} {a0 a1 a2 a3 : AG} {tx tch : Nat} {mo m0 m1 m2 m3 m4 m5 m6 m7 : Nat} {oo : Nat} (K : SX → SM → (Nat → Int64) → Prop) (j : Nat) (hback : ∀ (v4 : Int32) (u : SX) (v : SM) (f : Nat → Int64) (H : Heap) (locs : List Loc) (ls : Array Slot), va_P D vwCl (wX kI kC kG x ag at_ as_ hh hst a0 a1 a2 a3 tx tch u ++ wM kI mo m0 m1 m2 m3 m4 m5 m6 m7 v ++ [(oo, .inl (kJ, 1, .inr (.inl f)))]) H → va_D (fun q : Nat => s.heap.size ≤ q) (wX kI kC kG x ag at_ as_ hh hst a0 a1 a2 a3 tx tch u ++ wM kI mo m0 m1 m2 m3 m4 m5 m6 m7 v ++ [(oo, .inl (kJ, 1, .inr (.inl f)))]) → va_S (fun q : Nat => s.heap.size ≤ q) s.heap H locs → lv_has ls 7 [(4, .int v4), (0, .ref b), (1, .ref x), (2, .ref mo), (3, .ref oo)] → v4 = nI (j + 2) → K u v f → W p l e room_1 s m #[Value.ref b] below meth c H locs (60 + 2 * (j + 2)) (600 + 12 * (j + 2)) (lw_Z below #[Value.ref b] s) (F0 m 23 ls [])) (v4 : Int32) (ev4 : v4 = nI j) (hj : j + 2 ≤ L) (u : SX) (v : SM) (f : Nat → Int64) (H : Heap) (locs : List Loc) (ls : Array Slot) : va_P D vwCl (wX kI kC kG x ag at_ as_ hh hst a0 a1 a2 a3 tx tch u ++ wM kI mo m0 m1 m2 m3 m4 m5 m6 m7 v ++ [(oo, .inl (kJ, 1, .inr (.inl f)))]) H → va_D (fun q : Nat => s.heap.size ≤ q) (wX kI kC kG x ag at_ as_ hh hst a0 a1 a2 a3 tx tch u ++ wM kI mo m0 m1 m2 m3 m4 m5 m6 m7 v ++ [(oo, .inl (kJ, 1, .inr (.inl f)))]) → va_S (fun q : Nat => s.heap.size ≤ q) s.heap H locs → lv_has ls 7 [(4, .int v4), (0, .ref b), (1, .ref x), (2, .ref mo), (3, .ref oo)] → pL_c29 v4 (xs ((v4 + 1)).toNatClampNeg) u v f K → W p l e room_1 s m #[Value.ref b] below meth c H locs (60 + 2 * j) (600 + 12 * j) (lw_Z below #[Value.ref b] s) (F0 m 1174 ls []) := by
  intro hP hD hS hl hw
  obtain ⟨hx, hb, hr, hml, hown, hts0, hX, hbl, hlocks, hgv⟩ := id C0
  have hown : s.vm.findClass RL = some m.cls := hown
  have hts : ∀ w ∈ wsL_law, w.before #[Value.ref b] s = true := fun w h => hts0 w (wsL_law_in w h)
  have hA : ∀ q : Nat, s.heap.size ≤ q → (fun q : Nat => s.heap.size ≤ q) q := fun _ h => h
  have hbA : ¬ (fun q : Nat => s.heap.size ≤ q) b := Nat.not_le.mpr hbl
  have hi0 : vp_in v4 L := by rw [ev4]; exact vp_in_nI (by omega) (by omega)
  have hi1 : vp_in (v4 + 1) L := by rw [ev4, nI_1]; exact vp_in_nI (by omega) (by omega)
  unfold pL_c29 at hw
  refine lv_aload_n hx hb dL_law_1174 rfl (lv_at hl 2 rfl) ?_
  refine gVi (As := []) (rest := []) (cs' := wX kI kC kG x ag at_ as_ hh hst a0 a1 a2 a3 tx tch u) ⟨hx, hb, hml, hown, hts⟩ (kX5_recordedStates l D kI kC kG kJ x ag at_ as_ hh hst a0 a1 a2 a3 tx tch u _ hw) (cwV 0 hts gL_law_X5_recordedStates rfl rfl rfl hdX5_recordedStates ⟨Nat.le_of_ble_eq_true rfl, Nat.le_of_ble_eq_true rfl⟩) hK hP hE hS [0, 1, 2, 3, 4, 5, 6, 7, 8, 9, 10, 11, 12, 13, 14, 15, 16, 17, 18, 19, 20, 21, 22, 23, 24, 25, 26, 27, 28, 29, 30, 31, 32] rfl (ci := 4) (q0 := 0) rfl rfl rfl rfl hl.1 rfl (Nat.le_of_ble_eq_true rfl) dL_law_1175 (gr1 (by omega)) (fun r186 hw => ?_)
  refine lv_aload_n hx hb dL_law_1178 rfl (lv_at hl 3 rfl) ?_
  refine gWVi (S := SM) (As := []) (rest := [.int r186]) (wc := wM kI mo m0 m1 m2 m3 m4 m5 m6 m7 v) (wr := [(x, .inr (4, [.ref ag.1, .ref at_.1, .ref as_.1, .int u.1, .ref hh, .ref tx]))] ++ wG kI ag u.2.1 ++ wG kI at_ u.2.2.1 ++ wG kI as_ u.2.2.2.1 ++ [(hh, .inr (2, [.ref hst, .int u.2.2.2.2.1.1, .int u.2.2.2.2.1.2.1])), (hst, .inl (kG, 4, .inr (.inr (.inr (.inr (fH a0 a1 a2 a3))))))] ++ wG kI a0 u.2.2.2.2.1.2.2.1 ++ wG kI a1 u.2.2.2.2.1.2.2.2.1 ++ wG kI a2 u.2.2.2.2.1.2.2.2.2.1 ++ wG kI a3 u.2.2.2.2.1.2.2.2.2.2 ++ wT kC tx tch u.2.2.2.2.2 ++ [(oo, .inl (kJ, 1, .inr (.inl f)))]) (cs1 := (fun zz : SM => wM kI mo m0 m1 m2 m3 m4 m5 m6 m7 zz)) (ws2 := (fun zz : SM => wX kI kC kG x ag at_ as_ hh hst a0 a1 a2 a3 tx tch u ++ wM kI mo m0 m1 m2 m3 m4 m5 m6 m7 zz ++ [(oo, .inl (kJ, 1, .inr (.inl f)))])) ⟨hx, hb, hml, hown, hts⟩ (fun sz => kX6_recordedStates l D kI kC kG kJ mo m0 m1 m2 m3 m4 m5 m6 m7 sz v _ hw) (cwV 0 hts gL_law_X6_recordedStates rfl rfl rfl hdX6_recordedStates ⟨Nat.le_of_ble_eq_true rfl, Nat.le_of_ble_eq_true rfl⟩) hK hP hD hE hS hA [33, 34, 35, 36, 37, 38, 39, 40, 41] [0, 1, 2, 3, 4, 5, 6, 7, 8, 9, 10, 11, 12, 13, 14, 15, 16, 17, 18, 19, 20, 21, 22, 23, 24, 25, 26, 27, 28, 29, 30, 31, 32, 42] rfl rfl rfl rfl (by decide) [0, 1, 2, 3, 4, 5, 6, 7, 8, 9, 10, 11, 12, 13, 14, 15, 16, 17, 18, 19, 20, 21, 22, 23, 24, 25, 26, 27, 28, 29, 30, 31, 32, 34, 35, 36, 37, 38, 39, 40, 41, 42, 33] rfl (fun _ => rfl) (ci := 5) (q0 := 0) rfl rfl rfl rfl hl.1 rfl (Nat.le_of_ble_eq_true rfl) dL_law_1179 (gr1 (by omega)) (fun r187 w187 H locs hw hP hD hS => ?_)
  have hP : va_P D vwCl (wX kI kC kG x ag at_ as_ hh hst a0 a1 a2 a3 tx tch u ++ wM kI mo m0 m1 m2 m3 m4 m5 m6 m7 w187 ++ [(oo, .inl (kJ, 1, .inr (.inl f)))]) H := hP
  have hD : va_D (fun q : Nat => s.heap.size ≤ q) (wX kI kC kG x ag at_ as_ hh hst a0 a1 a2 a3 tx tch u ++ wM kI mo m0 m1 m2 m3 m4 m5 m6 m7 w187 ++ [(oo, .inl (kJ, 1, .inr (.inl f)))]) := hD
  refine lv_icmp_eq (tgt := 1187) hx hb dL_law_1182 (by decide) (fun c188 => ?_) (fun c188 => ?_)
  · replace hw := Eq.mp (if_pos c188) hw
    obtain ⟨x189, ex189⟩ : ∃ y : Int32, y = (v4 + 2) := ⟨_, rfl⟩
    replace hw := hw x189 ex189
    refine lv_iinc (v := x189) (lv' := [(4, .int x189), (0, .ref b), (1, .ref x), (2, .ref mo), (3, .ref oo)]) hx hb dL_law_1187 hl (k := 0) rfl (by rw [ex189]; rfl) (by decide) rfl (fun ls hl => ?_)
    refine lv_goto (tgt := 23) hx hb dL_law_1190 (by decide) ?_
    refine W.widen (k := 60 + 2 * (j + 2)) (n := 600 + 12 * (j + 2)) (by omega) (by omega) ?_
    exact hback x189 u w187 f H locs ls hP hD hS (lv_sub hl [0, 1, 2, 3, 4] rfl) (by rw [ex189, ev4]; exact nI_add j 2) hw
  · replace hw := Eq.mp (if_neg c188) hw
    refine lv_iconst (v := 0) hx hb dL_law_1185 (by decide) ?_
    exact (hw : False).elim
