set_option maxHeartbeats 4000000 in
set_option maxRecDepth 100000 in
/-- the law's loop, for any relation that a turn keeps -/
theorem law_loop {p : Program} {l : Launch} {e : Env} {s : State} {m : MethodId} {below : List Frame} {meth : Method} {c : Code} {D : va_G} {kI kC kG kJ : ClassId} {b L : Nat} {xs : Nat → Int32} (hlt : l.stackTraces = false) (hL : L ≤ 1024) (C0 : lw_At p s m meth c b L xs) (hK : va_K D vwCl (gT kI kC kG kJ) s) (hE : gE (fun q : Nat => s.heap.size ≤ q) s s.heap) {x : Nat} {ag at_ as_ : AG} {hh hst : Nat} {a0 a1 a2 a3 : AG} {tx tch : Nat} {mo m0 m1 m2 m3 m4 m5 m6 m7 : Nat} {oo : Nat} (K : SX → SM → (Nat → Int64) → Prop) (hstep : ∀ (v4 k0 k1 : Int32) (u : SX) (v : SM) (f : Nat → Int64), K u v f → pL_body v4 k0 k1 u v f K) : ∀ (n j : Nat), j ≤ L → L + 1 ≤ j + n → ∀ (v4 : Int32), v4 = nI j → ∀ (u : SX) (v : SM) (f : Nat → Int64) (H : Heap) (locs : List Loc) (ls : Array Slot), va_P D vwCl (wX kI kC kG x ag at_ as_ hh hst a0 a1 a2 a3 tx tch u ++ wM kI mo m0 m1 m2 m3 m4 m5 m6 m7 v ++ [(oo, .inl (kJ, 1, .inr (.inl f)))]) H → va_D (fun q : Nat => s.heap.size ≤ q) (wX kI kC kG x ag at_ as_ hh hst a0 a1 a2 a3 tx tch u ++ wM kI mo m0 m1 m2 m3 m4 m5 m6 m7 v ++ [(oo, .inl (kJ, 1, .inr (.inl f)))]) → va_S (fun q : Nat => s.heap.size ≤ q) s.heap H locs → lv_has ls 7 [(4, .int v4), (0, .ref b), (1, .ref x), (2, .ref mo), (3, .ref oo)] → K u v f → W p l e room_1 s m #[Value.ref b] below meth c H locs (60 + 2 * j) (600 + 12 * j) (lw_Z below #[Value.ref b] s) (F0 m 23 ls []) := by
  obtain ⟨hx, hb, hr, hml, hown, hts0, hX, hbl, hlocks, hgv⟩ := id C0
  have hbA : ¬ (fun q : Nat => s.heap.size ≤ q) b := Nat.not_le.mpr hbl
  intro n
  induction n with
  | zero => intro j h1 h2; exact absurd h2 (by omega)
  | succ n ih =>
    intro j hj hn v4 ev4 u v f H locs ls hP hD hS hl hk
    refine lv_iload hx hb dL_law_23 (lv_at hl 0 rfl) ?_
    refine lv_aload_n hx hb dL_law_25 rfl (lv_at hl 1 rfl) ?_
    refine va_slen hx hb hX hbl hbA hS dL_law_26 ?_
    refine lv_iconst (v := 2) hx hb dL_law_27 (by decide) ?_
    refine lv_isub hx hb dL_law_28 ?_
    have e2 : (nI L - nI 2).toInt = (L : Int) - 2 := pk_sub_toInt (by omega) (by omega)
    have e3 : (Int32.ofNat L - 2).toInt = (L : Int) - 2 := e2
    have e4 : v4.toInt = (j : Int) := by rw [ev4]; exact nI_toInt (by omega)
    refine lv_icmp_gt (tgt := 1193) hx hb dL_law_29 (by decide) (fun c1 => ?_) (fun c1 => ?_)
    · refine lv_iconst (v := 1) hx hb dL_law_1193 (by decide) ?_
      refine va_forget (fun q hq => hS.2.2 q hq) ?_
      refine W.widen (k := 661739) (n := 7110886) (by omega) (by omega) ?_
      exact lw_ret hx hb hr hlocks dL_law_1194
    · have hj2 : j + 2 ≤ L := by
        rw [Int32.lt_iff_toInt_lt, e3, e4] at c1
        omega
      exact law_body hlt hL C0 hK hE K j (fun v5 u5 v6 f5 H5 locs5 ls5 hP5 hD5 hS5 hl5 ev5 hk5 => ih (j + 2) hj2 (by omega) v5 ev5 u5 v6 f5 H5 locs5 ls5 hP5 hD5 hS5 hl5 hk5) v4 ev4 hj2 u v f H locs ls hP hD hS hl (hstep _ _ _ u v f hk)
