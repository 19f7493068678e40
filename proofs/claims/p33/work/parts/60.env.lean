theorem wLx {w : Cond} (i : Nat) (h : wsL_law0[i]? = some w) : w ∈ wsL_law0 := List.mem_of_getElem? h
/-- an array class that the tables name -/
theorem gArr {args : Array Value} {s : State} {ty : FieldType} (hty : ∀ C, ty ≠ .object C) (h : (Cond.arrayClass ty).before args s = true) : ∃ cA : ClassId, ArrOfT s cA ty ∧ va_RA s cA ty := by
  obtain ⟨cA, kA, comp, h1, h2, h3⟩ := Cond.arrayClass_spec h
  refine ⟨cA, fun n z => ⟨fun k h => (by cases h), kA, h2, comp, h3⟩, ?_⟩
  cases ty with
  | object C => exact absurd rfl (hty C)
  | _ => exact h1
theorem gArrO {args : Array Value} {s : State} {C : String} (h : (Cond.arrayOver (.object C)).before args s = true) : ∃ cA : ClassId, ArrOfT s cA (.object C) ∧ va_RA s cA (.object C) := by
  obtain ⟨comp, cA, kA, h1, -, h2, h3, h4⟩ := Cond.arrayOver_spec h
  exact ⟨cA, fun n z => ⟨fun k h => (by cases h), kA, h2, comp, h3⟩, kA, comp, h2, h3, h1, h4⟩
theorem gStr {args : Array Value} {s : State} {own tx : String} {k : Nat} {cur : ClassId} (hcur : s.vm.findClass own = some cur) (h : (Cond.stringRef own k tx).before args s = true) : ∃ sa : Nat, vk_R own k tx sa s := by
  obtain ⟨k1, cf, i, a, -, -, -, -, -, h6⟩ := Cond.stringRef_spec hcur h
  exact ⟨a, vk_R.of h h6⟩

set_option maxHeartbeats 4000000 in
set_option maxRecDepth 100000 in
/-- what the statics, the texts and the tables give at the start -/
theorem gE_start {p : Program} {s : State} {m : MethodId} {meth : Method} {c : Code} {b L : Nat} {xs : Nat → Int32} (C0 : lw_At p s m meth c b L xs) : gE (fun q : Nat => s.heap.size ≤ q) s s.heap := by
  obtain ⟨hx, hb, hr, hml, hown, hts0, hX, hbl, hlocks, hgv⟩ := C0
  have hs := flat_of_before _ hgv
  have hA : ∀ a : Nat, a < s.heap.size → ¬ (fun q : Nat => s.heap.size ≤ q) a := fun a h => Nat.not_le.mpr h
  obtain ⟨cX, iX, hKX⟩ := u_known (C := RX5) (T := TX5) (N := 6) (n := 6) hts0 inX5 (hts0 (.instantiable RX5 6) (List.mem_of_getElem? (i := 25) (by decide +kernel)))
  have hcur : s.vm.findClass "HazelGift" = some cX := hKX.2.1
  refine ⟨?_, ?_, ?_, ?_, ?_, ?_, ?_⟩
  · have harr : (Cond.arrayOf (.static "HazelGift$Board" "LINE_CELLS" "[I") .int).before #[Value.ref b] s = true := hs _ (by decide +kernel)
    have hlen : (Cond.eq (.length (.static "HazelGift$Board" "LINE_CELLS" "[I")) (.int 19)).before #[Value.ref b] s = true := hs _ (by decide +kernel)
    obtain ⟨tL, h1, h2⟩ := va_Tof (N := 19) (f := fun j => .int (gLC j)) (by decide) harr (va_eqt hlen) (fun j hj => by
      rcases (show j = 0 ∨ j = 1 ∨ j = 2 ∨ j = 3 ∨ j = 4 ∨ j = 5 ∨ j = 6 ∨ j = 7 ∨ j = 8 ∨ j = 9 ∨ j = 10 ∨ j = 11 ∨ j = 12 ∨ j = 13 ∨ j = 14 ∨ j = 15 ∨ j = 16 ∨ j = 17 ∨ j = 18 by omega) with rfl | rfl | rfl | rfl | rfl | rfl | rfl | rfl | rfl | rfl | rfl | rfl | rfl | rfl | rfl | rfl | rfl | rfl | rfl
      · exact va_eqt (hs (Cond.eq (.elem (.static "HazelGift$Board" "LINE_CELLS" "[I") (.int 0)) (.int 15)) (by decide +kernel))
      · exact va_eqt (hs (Cond.eq (.elem (.static "HazelGift$Board" "LINE_CELLS" "[I") (.int 1)) (.int 240)) (by decide +kernel))
      · exact va_eqt (hs (Cond.eq (.elem (.static "HazelGift$Board" "LINE_CELLS" "[I") (.int 2)) (.int 3840)) (by decide +kernel))
      · exact va_eqt (hs (Cond.eq (.elem (.static "HazelGift$Board" "LINE_CELLS" "[I") (.int 3)) (.int 61440)) (by decide +kernel))
      · exact va_eqt (hs (Cond.eq (.elem (.static "HazelGift$Board" "LINE_CELLS" "[I") (.int 4)) (.int 4369)) (by decide +kernel))
      · exact va_eqt (hs (Cond.eq (.elem (.static "HazelGift$Board" "LINE_CELLS" "[I") (.int 5)) (.int 8738)) (by decide +kernel))
      · exact va_eqt (hs (Cond.eq (.elem (.static "HazelGift$Board" "LINE_CELLS" "[I") (.int 6)) (.int 17476)) (by decide +kernel))
      · exact va_eqt (hs (Cond.eq (.elem (.static "HazelGift$Board" "LINE_CELLS" "[I") (.int 7)) (.int 34952)) (by decide +kernel))
      · exact va_eqt (hs (Cond.eq (.elem (.static "HazelGift$Board" "LINE_CELLS" "[I") (.int 8)) (.int 33825)) (by decide +kernel))
      · exact va_eqt (hs (Cond.eq (.elem (.static "HazelGift$Board" "LINE_CELLS" "[I") (.int 9)) (.int 4680)) (by decide +kernel))
      · exact va_eqt (hs (Cond.eq (.elem (.static "HazelGift$Board" "LINE_CELLS" "[I") (.int 10)) (.int 51)) (by decide +kernel))
      · exact va_eqt (hs (Cond.eq (.elem (.static "HazelGift$Board" "LINE_CELLS" "[I") (.int 11)) (.int 102)) (by decide +kernel))
      · exact va_eqt (hs (Cond.eq (.elem (.static "HazelGift$Board" "LINE_CELLS" "[I") (.int 12)) (.int 204)) (by decide +kernel))
      · exact va_eqt (hs (Cond.eq (.elem (.static "HazelGift$Board" "LINE_CELLS" "[I") (.int 13)) (.int 816)) (by decide +kernel))
      · exact va_eqt (hs (Cond.eq (.elem (.static "HazelGift$Board" "LINE_CELLS" "[I") (.int 14)) (.int 1632)) (by decide +kernel))
      · exact va_eqt (hs (Cond.eq (.elem (.static "HazelGift$Board" "LINE_CELLS" "[I") (.int 15)) (.int 3264)) (by decide +kernel))
      · exact va_eqt (hs (Cond.eq (.elem (.static "HazelGift$Board" "LINE_CELLS" "[I") (.int 16)) (.int 13056)) (by decide +kernel))
      · exact va_eqt (hs (Cond.eq (.elem (.static "HazelGift$Board" "LINE_CELLS" "[I") (.int 17)) (.int 26112)) (by decide +kernel))
      · exact va_eqt (hs (Cond.eq (.elem (.static "HazelGift$Board" "LINE_CELLS" "[I") (.int 18)) (.int 52224)) (by decide +kernel))
      ) hA
    exact ⟨tL, va_Zref (hts0 (.laysStatic "HazelGift$Board" "LINE_CELLS" "[I") (List.mem_of_getElem? (i := 360) (by decide +kernel))) (hts0 (.initialized RX0) (List.mem_of_getElem? (i := 12) (by decide +kernel))) h1 hA, h2⟩
  · exact vx_Zqof (hts0 (.laysStatic "java/lang/Throwable" "UNASSIGNED_STACK" "[Ljava/lang/StackTraceElement;") (List.mem_of_getElem? (i := 218) (by decide +kernel))) (hts0 (.initialized "java/lang/Throwable") (List.mem_of_getElem? (i := 16) (by decide +kernel))) (hs (Cond.isRef (.static "java/lang/Throwable" "UNASSIGNED_STACK" "[Ljava/lang/StackTraceElement;")) (by decide +kernel)) hA
  · exact vx_Zqof (hts0 (.laysStatic "java/lang/Throwable" "SUPPRESSED_SENTINEL" "Ljava/util/List;") (List.mem_of_getElem? (i := 220) (by decide +kernel))) (hts0 (.initialized "java/lang/Throwable") (List.mem_of_getElem? (i := 16) (by decide +kernel))) (hs (Cond.isRef (.static "java/lang/Throwable" "SUPPRESSED_SENTINEL" "Ljava/util/List;")) (by decide +kernel)) hA
  · intro q hq
    simp only [gTx, List.mem_cons, List.not_mem_nil, or_false] at hq
    rcases hq with rfl | rfl | rfl | rfl | rfl | rfl | rfl | rfl | rfl | rfl | rfl | rfl | rfl
    · exact gStr hcur (hts0 (.stringRef RX5 50 "the piece cannot be given") (List.mem_of_getElem? (i := 426) (by decide +kernel)))
    · exact gStr hcur (hts0 (.stringRef RX5 72 "nothing can be placed there") (List.mem_of_getElem? (i := 578) (by decide +kernel)))
    · exact gStr hcur (hts0 (.stringRef RX5 79 "no such rule") (List.mem_of_getElem? (i := 232) (by decide +kernel)))
    · exact gStr hcur (hts0 (.stringRef RX5 98 "the text is full") (List.mem_of_getElem? (i := 458) (by decide +kernel)))
    · exact gStr hcur (hts0 (.stringRef RX5 119 "a move cannot be made") (List.mem_of_getElem? (i := 530) (by decide +kernel)))
    · exact gStr hcur (hts0 (.stringRef RX5 130 "no state is recorded") (List.mem_of_getElem? (i := 335) (by decide +kernel)))
    · exact gStr hcur (hts0 (.stringRef RX5 135 "there is no snapshot") (List.mem_of_getElem? (i := 317) (by decide +kernel)))
    · exact gStr hcur (hts0 (.stringRef RX5 170 "no such player") (List.mem_of_getElem? (i := 614) (by decide +kernel)))
    · exact gStr hcur (hts0 (.stringRef RX5 206 "no such piece") (List.mem_of_getElem? (i := 396) (by decide +kernel)))
    · exact gStr hcur (hts0 (.stringRef RX5 208 "no such cell") (List.mem_of_getElem? (i := 568) (by decide +kernel)))
    · exact gStr hcur (hts0 (.stringRef RX5 210 "no such line") (List.mem_of_getElem? (i := 677) (by decide +kernel)))
    · exact gStr hcur (hts0 (.stringRef RX5 212 "the text is not valid") (List.mem_of_getElem? (i := 485) (by decide +kernel)))
    · exact gStr hcur (hts0 (.stringRef RX5 217 "the end cannot be searched") (List.mem_of_getElem? (i := 642) (by decide +kernel)))
  · intro w hw
    have h9 : ∀ w ∈ gNG, w ∈ lw_tbl := memr _ [195, 197, 199, 310, 389, 193] (by decide +kernel)
    exact va_tabs ((show ∀ w ∈ gNG, w.onTables = true by decide +kernel) w hw) rfl (hts0 w (h9 w hw))
  · exact va_Nc.of (hs (Cond.not (.castable "java/lang/IllegalStateException" "java/lang/IndexOutOfBoundsException")) (by decide +kernel))
  · exact va_AO.of (hts0 (.arrayOver (.object "HazelGift$Game")) (List.mem_of_getElem? (i := 78) (by decide +kernel)))
