set_option maxHeartbeats 4000000 in
set_option maxRecDepth 100000 in
/-- the law from its entry, for any relation that holds of the new objects and that every turn keeps -/
theorem whole_open {p : Program} {e : Env} {s : State} {m : MethodId} {below : List Frame} {meth : Method} {c : Code} (l : Launch) (hflags : l.flags = flags0) {b L : Nat} {xs : Nat → Int32} (hL : L ≤ 1024) (C0 : lw_At p s m meth c b L xs) (K : SX → SM → (Nat → Int64) → Prop) (hstep : ∀ (v4 k0 k1 : Int32) (u : SX) (v : SM) (f : Nat → Int64), K u v f → pL_body v4 k0 k1 u v f K) (hinit : K iX iM (fun _ => 0)) : W p l e room_1 s m #[Value.ref b] below meth c s.heap [] 0 0 (lw_Z below #[Value.ref b] s) (entryFrame m ([Value.ref b] : List Value).toArray 7) := by
  have hE := gE_start C0
  obtain ⟨hx, hb, hr, hml, hown, hts0, hX, hbl, hlocks, hgv⟩ := id C0
  have hown : s.vm.findClass RL = some m.cls := hown
  have hlt : l.stackTraces = false := by unfold Launch.stackTraces; rw [hflags]; decide +kernel
  have hts : ∀ w ∈ wsL_law, w.before #[Value.ref b] s = true := fun w h => hts0 w (wsL_law_in w h)
  have hA : ∀ q : Nat, s.heap.size ≤ q → (fun q : Nat => s.heap.size ≤ q) q := fun _ h => h
  have hbA : ¬ (fun q : Nat => s.heap.size ≤ q) b := Nat.not_le.mpr hbl
  obtain ⟨c0, j0, hk0⟩ := u_known (C := RX0) (T := TX0) (N := 4) (n := 4) hts0 inX0 (hts0 (.instantiable RX0 4) (List.mem_of_getElem? (i := 68) (by decide +kernel)))
  obtain ⟨c1, j1, hk1⟩ := u_known (C := RX2) (T := TX2) (N := 4) (n := 4) hts0 inX2 (hts0 (.instantiable RX2 4) (List.mem_of_getElem? (i := 62) (by decide +kernel)))
  obtain ⟨c2, j2, hk2⟩ := u_known (C := RX3) (T := TX3) (N := 3) (n := 3) hts0 inX3 (hts0 (.instantiable RX3 3) (List.mem_of_getElem? (i := 101) (by decide +kernel)))
  obtain ⟨c3, j3, hk3⟩ := u_known (C := RX4) (T := TX4) (N := 2) (n := 2) hts0 inX4 (hts0 (.instantiable RX4 2) (List.mem_of_getElem? (i := 120) (by decide +kernel)))
  obtain ⟨c4, j4, hk4⟩ := u_known (C := RX5) (T := TX5) (N := 6) (n := 6) hts0 inX5 (hts0 (.instantiable RX5 6) (List.mem_of_getElem? (i := 54) (by decide +kernel)))
  obtain ⟨c5, j5, hk5⟩ := u_known (C := RX6) (T := TX6) (N := 18) (n := 18) hts0 inX6 (hts0 (.instantiable RX6 18) (List.mem_of_getElem? (i := 722) (by decide +kernel)))
  obtain ⟨kI, hI1, hI2⟩ := gArr (ty := .int) (fun _ h => by cases h) (hts0 (.arrayClass .int) (List.mem_of_getElem? (i := 86) (by decide +kernel)))
  obtain ⟨kC, hC1, hC2⟩ := gArr (ty := .char) (fun _ h => by cases h) (hts0 (.arrayClass .char) (List.mem_of_getElem? (i := 132) (by decide +kernel)))
  obtain ⟨kJ, hJ1, hJ2⟩ := gArr (ty := .long) (fun _ h => by cases h) (hts0 (.arrayClass .long) (List.mem_of_getElem? (i := 1031) (by decide +kernel)))
  obtain ⟨kG, hG1, hG2⟩ := gArrO (C := "HazelGift$Game") (hts0 (.arrayOver (.object "HazelGift$Game")) (List.mem_of_getElem? (i := 107) (by decide +kernel)))
  obtain ⟨D, hKc⟩ : ∃ D : va_G, ∀ (k : Nat) (q : vw_C), vwCl[k]? = some q → u_Kn s q.1 q.2.1 q.2.2 (D.1 k) (D.2 k) := by
    refine ⟨(fun k => match k with | 0 => c0 | 1 => c1 | 2 => c2 | 3 => c3 | 4 => c4 | _ => c5, fun k => match k with | 0 => j0 | 1 => j1 | 2 => j2 | 3 => j3 | 4 => j4 | _ => j5), ?_⟩
    intro k q hq
    match k, hq with
    | 0, hq => cases hq; exact hk0
    | 1, hq => cases hq; exact hk1
    | 2, hq => cases hq; exact hk2
    | 3, hq => cases hq; exact hk3
    | 4, hq => cases hq; exact hk4
    | 5, hq => cases hq; exact hk5
    | k + 6, hq => simp [vwCl] at hq
  have hK : va_K D vwCl (gT kI kC kG kJ) s := by
    refine ⟨hKc, fun k q hq => ?_⟩
    match k, hq with
    | 0, hq => cases hq; exact ⟨hI1, hI2⟩
    | 1, hq => cases hq; exact ⟨hC1, hC2⟩
    | 2, hq => cases hq; exact ⟨hG1, hG2⟩
    | 3, hq => cases hq; exact ⟨hJ1, hJ2⟩
    | k + 4, hq => simp [gT] at hq
  have hS : va_S (fun q : Nat => s.heap.size ≤ q) s.heap s.heap [] := va_S.rf
  have hP : va_P D vwCl [] s.heap := fun k q h => by simp at h
  have hD : va_D (fun q : Nat => s.heap.size ≤ q) [] := ⟨fun i j p q h => by simp at h, fun k q h => by simp at h⟩
  have hl := lv_entry ([.ref b]) (n := 7) (Nat.le_of_ble_eq_true rfl)
  rw [lg_entry_eq]
  generalize (lg_sl ([.ref b]) ++ List.replicate (7 - (lg_sl ([.ref b])).length) Slot.unset).toArray = ls at hl ⊢
  have hl : lv_has ls 7 [(0, .ref b)] := hl
  refine va_new (ci := 4) (fs := [.null, .null, .null, .int 0, .null, .null]) (C := RX5) (T := TX5) (N := 6) hx hb hts inlX5 tyX5 tyX5_ok hown (hts (.classLink RL 8 RX5) (List.mem_append_left _ (List.mem_append_left _ (List.mem_append_left _ (wLx 0 rfl))))) (hts (.instantiable RX5 6) (List.mem_append_left _ (List.mem_append_left _ (List.mem_append_left _ (wLx 1 rfl))))) (hts (.initialized RX5) (List.mem_append_left _ (List.mem_append_left _ (List.mem_append_left _ (wLx 2 rfl))))) hK hP hD hS hA rfl (fun j hj => by rcases (show j = 0 ∨ j = 1 ∨ j = 2 ∨ j = 3 ∨ j = 4 ∨ j = 5 by omega) with rfl | rfl | rfl | rfl | rfl | rfl <;> rfl) (Nat.le_of_ble_eq_true rfl) (Nat.le_of_ble_eq_true rfl) dL_law_0 (fun x H hP hD hS => ?_)
  have hP : va_P D vwCl ([(x, .inr (4, [.null, .null, .null, .int 0, .null, .null]))]) H := hP
  have hD : va_D (fun q : Nat => s.heap.size ≤ q) ([(x, .inr (4, [.null, .null, .null, .int 0, .null, .null]))]) := hD
  refine lv_dup hx hb dL_law_3 rfl ?_
  refine gIv (S := (AG × AG × AG × Nat × Nat × AG × AG × AG × AG × Nat × Nat)) (As := []) (rest := [.ref x]) (wc := [(x, .inr (4, [.null, .null, .null, .int 0, .null, .null]))]) (wr := []) (cs1 := (fun zz : (AG × AG × AG × Nat × Nat × AG × AG × AG × AG × Nat × Nat) => wX kI kC kG x zz.1 zz.2.1 zz.2.2.1 zz.2.2.2.1 zz.2.2.2.2.1 zz.2.2.2.2.2.1 zz.2.2.2.2.2.2.1 zz.2.2.2.2.2.2.2.1 zz.2.2.2.2.2.2.2.2.1 zz.2.2.2.2.2.2.2.2.2.1 zz.2.2.2.2.2.2.2.2.2.2 iX)) (ws2 := (fun zz : (AG × AG × AG × Nat × Nat × AG × AG × AG × AG × Nat × Nat) => wX kI kC kG x zz.1 zz.2.1 zz.2.2.1 zz.2.2.2.1 zz.2.2.2.2.1 zz.2.2.2.2.2.1 zz.2.2.2.2.2.2.1 zz.2.2.2.2.2.2.2.1 zz.2.2.2.2.2.2.2.2.1 zz.2.2.2.2.2.2.2.2.2.1 zz.2.2.2.2.2.2.2.2.2.2 iX)) ⟨hx, hb, hml, hown, hts⟩ (fun sz => kX5_init l D kI kC kG kJ x sz) (cwI 0 hts gL_law_X5_init rfl rfl rfl (hts (.initialized RX5) (List.mem_append_left _ (List.mem_append_left _ (List.mem_append_left _ (wLx 2 rfl))))) (hts (.methodLink RL 67 yX5_init) (List.mem_append_left _ (List.mem_append_left _ (List.mem_append_left _ (wLx 7 rfl))))) (hts (.instanceMethod yX5_init) (List.mem_append_left _ (List.mem_append_left _ (List.mem_append_left _ (wLx 8 rfl))))) rfl hdX5_init ⟨Nat.le_of_ble_eq_true rfl, Nat.le_of_ble_eq_true rfl⟩) hK hP hD hE hS hA [0] [] rfl rfl rfl rfl (by decide) [0, 1, 2, 3, 4, 5, 6, 7, 8, 9, 10, 11, 12, 13, 14, 15, 16, 17, 18, 19, 20, 21, 22, 23, 24, 25, 26, 27, 28, 29, 30, 31, 32] rfl (fun _ => rfl) rfl hl.1 rfl (Nat.le_of_ble_eq_true rfl) dL_law_4 ⟨Nat.le_of_ble_eq_true rfl, Nat.le_of_ble_eq_true rfl⟩ (fun z1 H locs hw hP hD hS => ?_)
  have hP : va_P D vwCl (wX kI kC kG x z1.1 z1.2.1 z1.2.2.1 z1.2.2.2.1 z1.2.2.2.2.1 z1.2.2.2.2.2.1 z1.2.2.2.2.2.2.1 z1.2.2.2.2.2.2.2.1 z1.2.2.2.2.2.2.2.2.1 z1.2.2.2.2.2.2.2.2.2.1 z1.2.2.2.2.2.2.2.2.2.2 iX) H := hP
  have hD : va_D (fun q : Nat => s.heap.size ≤ q) (wX kI kC kG x z1.1 z1.2.1 z1.2.2.1 z1.2.2.2.1 z1.2.2.2.2.1 z1.2.2.2.2.2.1 z1.2.2.2.2.2.2.1 z1.2.2.2.2.2.2.2.1 z1.2.2.2.2.2.2.2.2.1 z1.2.2.2.2.2.2.2.2.2.1 z1.2.2.2.2.2.2.2.2.2.2 iX) := hD
  refine lv_astore_n (lv' := [(1, .ref x), (0, .ref b)]) hx hb dL_law_7 rfl hl (by decide) rfl (fun ls hl => ?_)
  refine va_new (ci := 5) (fs := [.null, .null, .null, .int 0, .null, .int 0, .int 0, .null, .int 0, .int 0, .int 0, .int 0, .int 0, .int 0, .null, .null, .null, .int 0]) (C := RX6) (T := TX6) (N := 18) hx hb hts inlX6 tyX6 tyX6_ok hown (hts (.classLink RL 68 RX6) (List.mem_append_left _ (List.mem_append_left _ (List.mem_append_left _ (wLx 3 rfl))))) (hts (.instantiable RX6 18) (List.mem_append_left _ (List.mem_append_left _ (List.mem_append_left _ (wLx 4 rfl))))) (hts (.initialized RX6) (List.mem_append_left _ (List.mem_append_left _ (List.mem_append_left _ (wLx 5 rfl))))) hK hP hD hS hA rfl (fun j hj => by rcases (show j = 0 ∨ j = 1 ∨ j = 2 ∨ j = 3 ∨ j = 4 ∨ j = 5 ∨ j = 6 ∨ j = 7 ∨ j = 8 ∨ j = 9 ∨ j = 10 ∨ j = 11 ∨ j = 12 ∨ j = 13 ∨ j = 14 ∨ j = 15 ∨ j = 16 ∨ j = 17 by omega) with rfl | rfl | rfl | rfl | rfl | rfl | rfl | rfl | rfl | rfl | rfl | rfl | rfl | rfl | rfl | rfl | rfl | rfl <;> rfl) (Nat.le_of_ble_eq_true rfl) (Nat.le_of_ble_eq_true rfl) dL_law_8 (fun mo H hP hD hS => ?_)
  have hP : va_P D vwCl (wX kI kC kG x z1.1 z1.2.1 z1.2.2.1 z1.2.2.2.1 z1.2.2.2.2.1 z1.2.2.2.2.2.1 z1.2.2.2.2.2.2.1 z1.2.2.2.2.2.2.2.1 z1.2.2.2.2.2.2.2.2.1 z1.2.2.2.2.2.2.2.2.2.1 z1.2.2.2.2.2.2.2.2.2.2 iX ++ [(mo, .inr (5, [.null, .null, .null, .int 0, .null, .int 0, .int 0, .null, .int 0, .int 0, .int 0, .int 0, .int 0, .int 0, .null, .null, .null, .int 0]))]) H := hP
  have hD : va_D (fun q : Nat => s.heap.size ≤ q) (wX kI kC kG x z1.1 z1.2.1 z1.2.2.1 z1.2.2.2.1 z1.2.2.2.2.1 z1.2.2.2.2.2.1 z1.2.2.2.2.2.2.1 z1.2.2.2.2.2.2.2.1 z1.2.2.2.2.2.2.2.2.1 z1.2.2.2.2.2.2.2.2.2.1 z1.2.2.2.2.2.2.2.2.2.2 iX ++ [(mo, .inr (5, [.null, .null, .null, .int 0, .null, .int 0, .int 0, .null, .int 0, .int 0, .int 0, .int 0, .int 0, .int 0, .null, .null, .null, .int 0]))]) := hD
  refine lv_dup hx hb dL_law_11 rfl ?_
  refine gIv (S := (Nat × Nat × Nat × Nat × Nat × Nat × Nat × Nat)) (As := []) (rest := [.ref mo]) (wc := [(mo, .inr (5, [.null, .null, .null, .int 0, .null, .int 0, .int 0, .null, .int 0, .int 0, .int 0, .int 0, .int 0, .int 0, .null, .null, .null, .int 0]))]) (wr := wX kI kC kG x z1.1 z1.2.1 z1.2.2.1 z1.2.2.2.1 z1.2.2.2.2.1 z1.2.2.2.2.2.1 z1.2.2.2.2.2.2.1 z1.2.2.2.2.2.2.2.1 z1.2.2.2.2.2.2.2.2.1 z1.2.2.2.2.2.2.2.2.2.1 z1.2.2.2.2.2.2.2.2.2.2 iX) (cs1 := (fun zz : (Nat × Nat × Nat × Nat × Nat × Nat × Nat × Nat) => wM kI mo zz.1 zz.2.1 zz.2.2.1 zz.2.2.2.1 zz.2.2.2.2.1 zz.2.2.2.2.2.1 zz.2.2.2.2.2.2.1 zz.2.2.2.2.2.2.2 iM)) (ws2 := (fun zz : (Nat × Nat × Nat × Nat × Nat × Nat × Nat × Nat) => wX kI kC kG x z1.1 z1.2.1 z1.2.2.1 z1.2.2.2.1 z1.2.2.2.2.1 z1.2.2.2.2.2.1 z1.2.2.2.2.2.2.1 z1.2.2.2.2.2.2.2.1 z1.2.2.2.2.2.2.2.2.1 z1.2.2.2.2.2.2.2.2.2.1 z1.2.2.2.2.2.2.2.2.2.2 iX ++ wM kI mo zz.1 zz.2.1 zz.2.2.1 zz.2.2.2.1 zz.2.2.2.2.1 zz.2.2.2.2.2.1 zz.2.2.2.2.2.2.1 zz.2.2.2.2.2.2.2 iM)) ⟨hx, hb, hml, hown, hts⟩ (fun sz => kX6_init l D kI kC kG kJ mo sz) (cwI 0 hts gL_law_X6_init rfl rfl rfl (hts (.initialized RX6) (List.mem_append_left _ (List.mem_append_left _ (List.mem_append_left _ (wLx 5 rfl))))) (hts (.methodLink RL 70 yX6_init) (List.mem_append_left _ (List.mem_append_left _ (List.mem_append_left _ (wLx 64 rfl))))) (hts (.instanceMethod yX6_init) (List.mem_append_left _ (List.mem_append_left _ (List.mem_append_left _ (wLx 65 rfl))))) rfl hdX6_init ⟨Nat.le_of_ble_eq_true rfl, Nat.le_of_ble_eq_true rfl⟩) hK hP hD hE hS hA [33] [0, 1, 2, 3, 4, 5, 6, 7, 8, 9, 10, 11, 12, 13, 14, 15, 16, 17, 18, 19, 20, 21, 22, 23, 24, 25, 26, 27, 28, 29, 30, 31, 32] rfl rfl rfl rfl (by decide) [0, 1, 2, 3, 4, 5, 6, 7, 8, 9, 10, 11, 12, 13, 14, 15, 16, 17, 18, 19, 20, 21, 22, 23, 24, 25, 26, 27, 28, 29, 30, 31, 32, 33, 34, 35, 36, 37, 38, 39, 40, 41] rfl (fun _ => rfl) rfl hl.1 rfl (Nat.le_of_ble_eq_true rfl) dL_law_12 ⟨Nat.le_of_ble_eq_true rfl, Nat.le_of_ble_eq_true rfl⟩ (fun z2 H locs hw hP hD hS => ?_)
  have hP : va_P D vwCl (wX kI kC kG x z1.1 z1.2.1 z1.2.2.1 z1.2.2.2.1 z1.2.2.2.2.1 z1.2.2.2.2.2.1 z1.2.2.2.2.2.2.1 z1.2.2.2.2.2.2.2.1 z1.2.2.2.2.2.2.2.2.1 z1.2.2.2.2.2.2.2.2.2.1 z1.2.2.2.2.2.2.2.2.2.2 iX ++ wM kI mo z2.1 z2.2.1 z2.2.2.1 z2.2.2.2.1 z2.2.2.2.2.1 z2.2.2.2.2.2.1 z2.2.2.2.2.2.2.1 z2.2.2.2.2.2.2.2 iM) H := hP
  have hD : va_D (fun q : Nat => s.heap.size ≤ q) (wX kI kC kG x z1.1 z1.2.1 z1.2.2.1 z1.2.2.2.1 z1.2.2.2.2.1 z1.2.2.2.2.2.1 z1.2.2.2.2.2.2.1 z1.2.2.2.2.2.2.2.1 z1.2.2.2.2.2.2.2.2.1 z1.2.2.2.2.2.2.2.2.2.1 z1.2.2.2.2.2.2.2.2.2.2 iX ++ wM kI mo z2.1 z2.2.1 z2.2.2.1 z2.2.2.2.1 z2.2.2.2.2.1 z2.2.2.2.2.2.1 z2.2.2.2.2.2.2.1 z2.2.2.2.2.2.2.2 iM) := hD
  refine lv_astore_n (lv' := [(2, .ref mo), (1, .ref x), (0, .ref b)]) hx hb dL_law_15 rfl hl (by decide) rfl (fun ls hl => ?_)
  refine lv_iconst (v := 1) hx hb dL_law_16 (by decide) ?_
  refine gNewJ hx hb (hts (.arrayClass .long) (List.mem_append_left _ (List.mem_append_left _ (List.mem_append_left _ (wLx 6 rfl))))) hK hP hD hS hA 1 (by decide) (by decide) (Nat.le_of_ble_eq_true rfl) (Nat.le_of_ble_eq_true rfl) (Nat.le_of_ble_eq_true rfl) dL_law_17 (fun oo H hP hD hS => ?_)
  have hP : va_P D vwCl (wX kI kC kG x z1.1 z1.2.1 z1.2.2.1 z1.2.2.2.1 z1.2.2.2.2.1 z1.2.2.2.2.2.1 z1.2.2.2.2.2.2.1 z1.2.2.2.2.2.2.2.1 z1.2.2.2.2.2.2.2.2.1 z1.2.2.2.2.2.2.2.2.2.1 z1.2.2.2.2.2.2.2.2.2.2 iX ++ wM kI mo z2.1 z2.2.1 z2.2.2.1 z2.2.2.2.1 z2.2.2.2.2.1 z2.2.2.2.2.2.1 z2.2.2.2.2.2.2.1 z2.2.2.2.2.2.2.2 iM ++ [(oo, .inl (kJ, 1, .inr (.inl (fun _ => 0))))]) H := hP
  have hD : va_D (fun q : Nat => s.heap.size ≤ q) (wX kI kC kG x z1.1 z1.2.1 z1.2.2.1 z1.2.2.2.1 z1.2.2.2.2.1 z1.2.2.2.2.2.1 z1.2.2.2.2.2.2.1 z1.2.2.2.2.2.2.2.1 z1.2.2.2.2.2.2.2.2.1 z1.2.2.2.2.2.2.2.2.2.1 z1.2.2.2.2.2.2.2.2.2.2 iX ++ wM kI mo z2.1 z2.2.1 z2.2.2.1 z2.2.2.2.1 z2.2.2.2.2.1 z2.2.2.2.2.2.1 z2.2.2.2.2.2.2.1 z2.2.2.2.2.2.2.2 iM ++ [(oo, .inl (kJ, 1, .inr (.inl (fun _ => 0))))]) := hD
  refine lv_astore_n (lv' := [(3, .ref oo), (2, .ref mo), (1, .ref x), (0, .ref b)]) hx hb dL_law_19 rfl hl (by decide) rfl (fun ls hl => ?_)
  refine lv_iconst (v := 0) hx hb dL_law_20 (by decide) ?_
  refine lv_istore (lv' := [(4, .int 0), (3, .ref oo), (2, .ref mo), (1, .ref x), (0, .ref b)]) hx hb dL_law_21 hl (by decide) rfl (fun ls hl => ?_)
  refine W.widen (k := 60 + 2 * 0) (n := 600 + 12 * 0) (Nat.le_of_ble_eq_true rfl) (Nat.le_of_ble_eq_true rfl) ?_
  exact law_loop hlt hL C0 hK hE K hstep (L + 1) 0 (Nat.zero_le L) (by omega) 0 nI_0.symm iX iM (fun _ => 0) H _ ls hP hD hS (lv_sub hl [0, 4, 3, 2, 1] rfl) hinit
