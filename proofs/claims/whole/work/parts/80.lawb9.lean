set_option maxHeartbeats 16000000 in
set_option maxRecDepth 100000 in
/-- one turn of the law, behind the test at its head -/
theorem law_body {p : Program} {l : Launch} {e : Env} {s : State} {m : MethodId} {below : List Frame} {meth : Method} {c : Code} {D : va_G} {kI kC kG kJ : ClassId} {b L : Nat} {xs : Nat → Int32} (hlt : l.stackTraces = false) (hL : L ≤ 1024) (C0 : lw_At p s m meth c b L xs) (hK : va_K D vwCl (gT kI kC kG kJ) s) (hE : gE (fun q : Nat => s.heap.size ≤ q) s s.heap) {x : Nat} {ag at_ as_ : AG} {hh hst : Nat} {a0 a1 a2 a3 : AG} {tx tch : Nat} {mo m0 m1 m2 m3 m4 m5 m6 m7 : Nat} {oo : Nat} (K : SX → SM → (Nat → Int64) → Prop) (j : Nat) (hback : ∀ (v4 : Int32) (u : SX) (v : SM) (f : Nat → Int64) (H : Heap) (locs : List Loc) (ls : Array Slot), va_P D vwCl (wX kI kC kG x ag at_ as_ hh hst a0 a1 a2 a3 tx tch u ++ wM kI mo m0 m1 m2 m3 m4 m5 m6 m7 v ++ [(oo, .inl (kJ, 1, .inr (.inl f)))]) H → va_D (fun q : Nat => s.heap.size ≤ q) (wX kI kC kG x ag at_ as_ hh hst a0 a1 a2 a3 tx tch u ++ wM kI mo m0 m1 m2 m3 m4 m5 m6 m7 v ++ [(oo, .inl (kJ, 1, .inr (.inl f)))]) → va_S (fun q : Nat => s.heap.size ≤ q) s.heap H locs → lv_has ls 7 [(4, .int v4), (0, .ref b), (1, .ref x), (2, .ref mo), (3, .ref oo)] → v4 = nI (j + 2) → K u v f → W p l e room_1 s m #[Value.ref b] below meth c H locs (60 + 2 * (j + 2)) (600 + 12 * (j + 2)) (lw_Z below #[Value.ref b] s) (F0 m 23 ls [])) (v4 : Int32) (ev4 : v4 = nI j) (hj : j + 2 ≤ L) (u : SX) (v : SM) (f : Nat → Int64) (H : Heap) (locs : List Loc) (ls : Array Slot) : va_P D vwCl (wX kI kC kG x ag at_ as_ hh hst a0 a1 a2 a3 tx tch u ++ wM kI mo m0 m1 m2 m3 m4 m5 m6 m7 v ++ [(oo, .inl (kJ, 1, .inr (.inl f)))]) H → va_D (fun q : Nat => s.heap.size ≤ q) (wX kI kC kG x ag at_ as_ hh hst a0 a1 a2 a3 tx tch u ++ wM kI mo m0 m1 m2 m3 m4 m5 m6 m7 v ++ [(oo, .inl (kJ, 1, .inr (.inl f)))]) → va_S (fun q : Nat => s.heap.size ≤ q) s.heap H locs → lv_has ls 7 [(4, .int v4), (0, .ref b), (1, .ref x), (2, .ref mo), (3, .ref oo)] → pL_body v4 (xs (v4).toNatClampNeg) (xs ((v4 + 1)).toNatClampNeg) u v f K → W p l e room_1 s m #[Value.ref b] below meth c H locs (60 + 2 * j) (600 + 12 * j) (lw_Z below #[Value.ref b] s) (F0 m 32 ls []) := by
  intro hP hD hS hl hw
  obtain ⟨hx, hb, hr, hml, hown, hts0, hX, hbl, hlocks, hgv⟩ := id C0
  have hown : s.vm.findClass RL = some m.cls := hown
  have hts : ∀ w ∈ wsL_law, w.before #[Value.ref b] s = true := fun w h => hts0 w (wsL_law_in w h)
  have hA : ∀ q : Nat, s.heap.size ≤ q → (fun q : Nat => s.heap.size ≤ q) q := fun _ h => h
  have hbA : ¬ (fun q : Nat => s.heap.size ≤ q) b := Nat.not_le.mpr hbl
  have hi0 : vp_in v4 L := by rw [ev4]; exact vp_in_nI (by omega) (by omega)
  have hi1 : vp_in (v4 + 1) L := by rw [ev4, nI_1]; exact vp_in_nI (by omega) (by omega)
  unfold pL_body at hw
  refine lv_aload_n hx hb dL_law_32 rfl (lv_at hl 1 rfl) ?_
  refine lv_iload hx hb dL_law_33 (lv_at hl 0 rfl) ?_
  refine va_sld hx hb hX hbl hbA hS hi0 dL_law_35 ?_
  refine lv_bipush (v := 31) hx hb dL_law_36 (by decide) ?_
  refine lv_iand hx hb dL_law_38 ?_
  refine lv_topi (fun x1 ex1 => ?_)
  replace hw := hw x1 ex1
  by_cases c2_0 : x1 = 0
  · replace hw := Eq.mp (if_pos c2_0) hw
    refine lv_tableIn (off := 133) (tgt := 172) hx hb dL_law_39 (by rw [c2_0]; decide) (by rw [c2_0]; decide) (by rw [c2_0]; rfl) (by decide) ?_
    exact law_c0 hlt hL C0 hK hE K j hback v4 ev4 hj u v f H locs ls hP hD hS hl hw
  replace hw := Eq.mp (if_neg c2_0) hw
  by_cases c2_1 : x1 = 1
  · replace hw := Eq.mp (if_pos c2_1) hw
    refine lv_tableIn (off := 189) (tgt := 228) hx hb dL_law_39 (by rw [c2_1]; decide) (by rw [c2_1]; decide) (by rw [c2_1]; rfl) (by decide) ?_
    exact law_c1 hlt hL C0 hK hE K j hback v4 ev4 hj u v f H locs ls hP hD hS hl hw
  replace hw := Eq.mp (if_neg c2_1) hw
  by_cases c2_2 : x1 = 2
  · replace hw := Eq.mp (if_pos c2_2) hw
    refine lv_tableIn (off := 252) (tgt := 291) hx hb dL_law_39 (by rw [c2_2]; decide) (by rw [c2_2]; decide) (by rw [c2_2]; rfl) (by decide) ?_
    exact law_c2 hlt hL C0 hK hE K j hback v4 ev4 hj u v f H locs ls hP hD hS hl hw
  replace hw := Eq.mp (if_neg c2_2) hw
  by_cases c2_3 : x1 = 3
  · replace hw := Eq.mp (if_pos c2_3) hw
    refine lv_tableIn (off := 308) (tgt := 347) hx hb dL_law_39 (by rw [c2_3]; decide) (by rw [c2_3]; decide) (by rw [c2_3]; rfl) (by decide) ?_
    exact law_c3 hlt hL C0 hK hE K j hback v4 ev4 hj u v f H locs ls hP hD hS hl hw
  replace hw := Eq.mp (if_neg c2_3) hw
  by_cases c2_4 : x1 = 4
  · replace hw := Eq.mp (if_pos c2_4) hw
    refine lv_tableIn (off := 366) (tgt := 405) hx hb dL_law_39 (by rw [c2_4]; decide) (by rw [c2_4]; decide) (by rw [c2_4]; rfl) (by decide) ?_
    exact law_c4 hlt hL C0 hK hE K j hback v4 ev4 hj u v f H locs ls hP hD hS hl hw
  replace hw := Eq.mp (if_neg c2_4) hw
  by_cases c2_5 : x1 = 5
  · replace hw := Eq.mp (if_pos c2_5) hw
    refine lv_tableIn (off := 379) (tgt := 418) hx hb dL_law_39 (by rw [c2_5]; decide) (by rw [c2_5]; decide) (by rw [c2_5]; rfl) (by decide) ?_
    exact law_c5 hlt hL C0 hK hE K j hback v4 ev4 hj u v f H locs ls hP hD hS hl hw
  replace hw := Eq.mp (if_neg c2_5) hw
  by_cases c2_6 : x1 = 6
  · replace hw := Eq.mp (if_pos c2_6) hw
    refine lv_tableIn (off := 392) (tgt := 431) hx hb dL_law_39 (by rw [c2_6]; decide) (by rw [c2_6]; decide) (by rw [c2_6]; rfl) (by decide) ?_
    exact law_c6 hlt hL C0 hK hE K j hback v4 ev4 hj u v f H locs ls hP hD hS hl hw
  replace hw := Eq.mp (if_neg c2_6) hw
  by_cases c2_7 : x1 = 7
  · replace hw := Eq.mp (if_pos c2_7) hw
    refine lv_tableIn (off := 436) (tgt := 475) hx hb dL_law_39 (by rw [c2_7]; decide) (by rw [c2_7]; decide) (by rw [c2_7]; rfl) (by decide) ?_
    exact law_c7 hlt hL C0 hK hE K j hback v4 ev4 hj u v f H locs ls hP hD hS hl hw
  replace hw := Eq.mp (if_neg c2_7) hw
  by_cases c2_8 : x1 = 8
  · replace hw := Eq.mp (if_pos c2_8) hw
    refine lv_tableIn (off := 480) (tgt := 519) hx hb dL_law_39 (by rw [c2_8]; decide) (by rw [c2_8]; decide) (by rw [c2_8]; rfl) (by decide) ?_
    exact law_c8 hlt hL C0 hK hE K j hback v4 ev4 hj u v f H locs ls hP hD hS hl hw
  replace hw := Eq.mp (if_neg c2_8) hw
  by_cases c2_9 : x1 = 9
  · replace hw := Eq.mp (if_pos c2_9) hw
    refine lv_tableIn (off := 524) (tgt := 563) hx hb dL_law_39 (by rw [c2_9]; decide) (by rw [c2_9]; decide) (by rw [c2_9]; rfl) (by decide) ?_
    exact law_c9 hlt hL C0 hK hE K j hback v4 ev4 hj u v f H locs ls hP hD hS hl hw
  replace hw := Eq.mp (if_neg c2_9) hw
  by_cases c2_10 : x1 = 10
  · replace hw := Eq.mp (if_pos c2_10) hw
    refine lv_tableIn (off := 537) (tgt := 576) hx hb dL_law_39 (by rw [c2_10]; decide) (by rw [c2_10]; decide) (by rw [c2_10]; rfl) (by decide) ?_
    exact law_c10 hlt hL C0 hK hE K j hback v4 ev4 hj u v f H locs ls hP hD hS hl hw
  replace hw := Eq.mp (if_neg c2_10) hw
  by_cases c2_11 : x1 = 11
  · replace hw := Eq.mp (if_pos c2_11) hw
    refine lv_tableIn (off := 581) (tgt := 620) hx hb dL_law_39 (by rw [c2_11]; decide) (by rw [c2_11]; decide) (by rw [c2_11]; rfl) (by decide) ?_
    exact law_c11 hlt hL C0 hK hE K j hback v4 ev4 hj u v f H locs ls hP hD hS hl hw
  replace hw := Eq.mp (if_neg c2_11) hw
  by_cases c2_12 : x1 = 12
  · replace hw := Eq.mp (if_pos c2_12) hw
    refine lv_tableIn (off := 594) (tgt := 633) hx hb dL_law_39 (by rw [c2_12]; decide) (by rw [c2_12]; decide) (by rw [c2_12]; rfl) (by decide) ?_
    exact law_c12 hlt hL C0 hK hE K j hback v4 ev4 hj u v f H locs ls hP hD hS hl hw
  replace hw := Eq.mp (if_neg c2_12) hw
  by_cases c2_13 : x1 = 13
  · replace hw := Eq.mp (if_pos c2_13) hw
    refine lv_tableIn (off := 607) (tgt := 646) hx hb dL_law_39 (by rw [c2_13]; decide) (by rw [c2_13]; decide) (by rw [c2_13]; rfl) (by decide) ?_
    exact law_c13 hlt hL C0 hK hE K j hback v4 ev4 hj u v f H locs ls hP hD hS hl hw
  replace hw := Eq.mp (if_neg c2_13) hw
  by_cases c2_14 : x1 = 14
  · replace hw := Eq.mp (if_pos c2_14) hw
    refine lv_tableIn (off := 663) (tgt := 702) hx hb dL_law_39 (by rw [c2_14]; decide) (by rw [c2_14]; decide) (by rw [c2_14]; rfl) (by decide) ?_
    exact law_c14 hlt hL C0 hK hE K j hback v4 ev4 hj u v f H locs ls hP hD hS hl hw
  replace hw := Eq.mp (if_neg c2_14) hw
  by_cases c2_15 : x1 = 15
  · replace hw := Eq.mp (if_pos c2_15) hw
    refine lv_tableIn (off := 719) (tgt := 758) hx hb dL_law_39 (by rw [c2_15]; decide) (by rw [c2_15]; decide) (by rw [c2_15]; rfl) (by decide) ?_
    exact law_c15 hlt hL C0 hK hE K j hback v4 ev4 hj u v f H locs ls hP hD hS hl hw
  replace hw := Eq.mp (if_neg c2_15) hw
  by_cases c2_16 : x1 = 16
  · replace hw := Eq.mp (if_pos c2_16) hw
    refine lv_tableIn (off := 732) (tgt := 771) hx hb dL_law_39 (by rw [c2_16]; decide) (by rw [c2_16]; decide) (by rw [c2_16]; rfl) (by decide) ?_
    exact law_c16 hlt hL C0 hK hE K j hback v4 ev4 hj u v f H locs ls hP hD hS hl hw
  replace hw := Eq.mp (if_neg c2_16) hw
  by_cases c2_17 : x1 = 17
  · replace hw := Eq.mp (if_pos c2_17) hw
    refine lv_tableIn (off := 745) (tgt := 784) hx hb dL_law_39 (by rw [c2_17]; decide) (by rw [c2_17]; decide) (by rw [c2_17]; rfl) (by decide) ?_
    exact law_c17 hlt hL C0 hK hE K j hback v4 ev4 hj u v f H locs ls hP hD hS hl hw
  replace hw := Eq.mp (if_neg c2_17) hw
  by_cases c2_18 : x1 = 18
  · replace hw := Eq.mp (if_pos c2_18) hw
    refine lv_tableIn (off := 758) (tgt := 797) hx hb dL_law_39 (by rw [c2_18]; decide) (by rw [c2_18]; decide) (by rw [c2_18]; rfl) (by decide) ?_
    exact law_c18 hlt hL C0 hK hE K j hback v4 ev4 hj u v f H locs ls hP hD hS hl hw
  replace hw := Eq.mp (if_neg c2_18) hw
  by_cases c2_19 : x1 = 19
  · replace hw := Eq.mp (if_pos c2_19) hw
    refine lv_tableIn (off := 771) (tgt := 810) hx hb dL_law_39 (by rw [c2_19]; decide) (by rw [c2_19]; decide) (by rw [c2_19]; rfl) (by decide) ?_
    exact law_c19 hlt hL C0 hK hE K j hback v4 ev4 hj u v f H locs ls hP hD hS hl hw
  replace hw := Eq.mp (if_neg c2_19) hw
  by_cases c2_20 : x1 = 20
  · replace hw := Eq.mp (if_pos c2_20) hw
    refine lv_tableIn (off := 827) (tgt := 866) hx hb dL_law_39 (by rw [c2_20]; decide) (by rw [c2_20]; decide) (by rw [c2_20]; rfl) (by decide) ?_
    exact law_c20 hlt hL C0 hK hE K j hback v4 ev4 hj u v f H locs ls hP hD hS hl hw
  replace hw := Eq.mp (if_neg c2_20) hw
  by_cases c2_21 : x1 = 21
  · replace hw := Eq.mp (if_pos c2_21) hw
    refine lv_tableIn (off := 883) (tgt := 922) hx hb dL_law_39 (by rw [c2_21]; decide) (by rw [c2_21]; decide) (by rw [c2_21]; rfl) (by decide) ?_
    exact law_c21 hlt hL C0 hK hE K j hback v4 ev4 hj u v f H locs ls hP hD hS hl hw
  replace hw := Eq.mp (if_neg c2_21) hw
  by_cases c2_22 : x1 = 22
  · replace hw := Eq.mp (if_pos c2_22) hw
    refine lv_tableIn (off := 896) (tgt := 935) hx hb dL_law_39 (by rw [c2_22]; decide) (by rw [c2_22]; decide) (by rw [c2_22]; rfl) (by decide) ?_
    exact law_c22 hlt hL C0 hK hE K j hback v4 ev4 hj u v f H locs ls hP hD hS hl hw
  replace hw := Eq.mp (if_neg c2_22) hw
  by_cases c2_23 : x1 = 23
  · replace hw := Eq.mp (if_pos c2_23) hw
    refine lv_tableIn (off := 952) (tgt := 991) hx hb dL_law_39 (by rw [c2_23]; decide) (by rw [c2_23]; decide) (by rw [c2_23]; rfl) (by decide) ?_
    exact law_c23 hlt hL C0 hK hE K j hback v4 ev4 hj u v f H locs ls hP hD hS hl hw
  replace hw := Eq.mp (if_neg c2_23) hw
  by_cases c2_24 : x1 = 24
  · replace hw := Eq.mp (if_pos c2_24) hw
    refine lv_tableIn (off := 1008) (tgt := 1047) hx hb dL_law_39 (by rw [c2_24]; decide) (by rw [c2_24]; decide) (by rw [c2_24]; rfl) (by decide) ?_
    exact law_c24 hlt hL C0 hK hE K j hback v4 ev4 hj u v f H locs ls hP hD hS hl hw
  replace hw := Eq.mp (if_neg c2_24) hw
  by_cases c2_25 : x1 = 25
  · replace hw := Eq.mp (if_pos c2_25) hw
    refine lv_tableIn (off := 1021) (tgt := 1060) hx hb dL_law_39 (by rw [c2_25]; decide) (by rw [c2_25]; decide) (by rw [c2_25]; rfl) (by decide) ?_
    exact law_c25 hlt hL C0 hK hE K j hback v4 ev4 hj u v f H locs ls hP hD hS hl hw
  replace hw := Eq.mp (if_neg c2_25) hw
  by_cases c2_26 : x1 = 26
  · replace hw := Eq.mp (if_pos c2_26) hw
    refine lv_tableIn (off := 1034) (tgt := 1073) hx hb dL_law_39 (by rw [c2_26]; decide) (by rw [c2_26]; decide) (by rw [c2_26]; rfl) (by decide) ?_
    exact law_c26 hlt hL C0 hK hE K j hback v4 ev4 hj u v f H locs ls hP hD hS hl hw
  replace hw := Eq.mp (if_neg c2_26) hw
  by_cases c2_27 : x1 = 27
  · replace hw := Eq.mp (if_pos c2_27) hw
    refine lv_tableIn (off := 1078) (tgt := 1117) hx hb dL_law_39 (by rw [c2_27]; decide) (by rw [c2_27]; decide) (by rw [c2_27]; rfl) (by decide) ?_
    exact law_c27 hlt hL C0 hK hE K j hback v4 ev4 hj u v f H locs ls hP hD hS hl hw
  replace hw := Eq.mp (if_neg c2_27) hw
  by_cases c2_28 : x1 = 28
  · replace hw := Eq.mp (if_pos c2_28) hw
    refine lv_tableIn (off := 1122) (tgt := 1161) hx hb dL_law_39 (by rw [c2_28]; decide) (by rw [c2_28]; decide) (by rw [c2_28]; rfl) (by decide) ?_
    exact law_c28 hlt hL C0 hK hE K j hback v4 ev4 hj u v f H locs ls hP hD hS hl hw
  replace hw := Eq.mp (if_neg c2_28) hw
  by_cases c2_29 : x1 = 29
  · replace hw := Eq.mp (if_pos c2_29) hw
    refine lv_tableIn (off := 1135) (tgt := 1174) hx hb dL_law_39 (by rw [c2_29]; decide) (by rw [c2_29]; decide) (by rw [c2_29]; rfl) (by decide) ?_
    exact law_c29 hlt hL C0 hK hE K j hback v4 ev4 hj u v f H locs ls hP hD hS hl hw
  replace hw := Eq.mp (if_neg c2_29) hw
  refine lv_tableOut (tgt := 1187) hx hb dL_law_39 (goutN 30 (by decide) (lt_s (lt_s (lt_s (lt_s (lt_s (lt_s (lt_s (lt_s (lt_s (lt_s (lt_s (lt_s (lt_s (lt_s (lt_s (lt_s (lt_s (lt_s (lt_s (lt_s (lt_s (lt_s (lt_s (lt_s (lt_s (lt_s (lt_s (lt_s (lt_s (lt_s lt_0 c2_0) c2_1) c2_2) c2_3) c2_4) c2_5) c2_6) c2_7) c2_8) c2_9) c2_10) c2_11) c2_12) c2_13) c2_14) c2_15) c2_16) c2_17) c2_18) c2_19) c2_20) c2_21) c2_22) c2_23) c2_24) c2_25) c2_26) c2_27) c2_28) c2_29)) (by decide) ?_
  obtain ⟨x190, ex190⟩ : ∃ y : Int32, y = (v4 + 2) := ⟨_, rfl⟩
  replace hw := hw x190 ex190
  refine lv_iinc (v := x190) (lv' := [(4, .int x190), (0, .ref b), (1, .ref x), (2, .ref mo), (3, .ref oo)]) hx hb dL_law_1187 hl (k := 0) rfl (by rw [ex190]; rfl) (by decide) rfl (fun ls hl => ?_)
  refine lv_goto (tgt := 23) hx hb dL_law_1190 (by decide) ?_
  refine W.widen (k := 60 + 2 * (j + 2)) (n := 600 + 12 * (j + 2)) (by omega) (by omega) ?_
  exact hback x190 u v f H locs ls hP hD hS (lv_sub hl [0, 1, 2, 3, 4] rfl) (by rw [ex190, ev4]; exact nI_add j 2) hw
