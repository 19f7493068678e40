set_option maxHeartbeats 4000000 in
set_option maxRecDepth 100000 in
theorem kL_up (l : Launch) (D : va_G) (kI kC kG kJ : ClassId) (p0 : Int32) (p1 : Int32) (Z : Int32 → Prop) (hw : pL_up p0 p1 Z) : Met l yL_up wsL_up ({ frames := 0, cells := 0, slots := 0, locals := 0 } : Room) (gPr D (gT kI kC kG kJ) [.int p0, .int p1] (([] : va_W))) (vp_Si Z) 0 0 (fun _ => False) := by
  refine Met.ofW (cc := cL_up) (maxL := 2) (ret := (some .int)) (by decide) rfl ?_
  intro p e s m args below meth c s₁ B hml hv
  obtain ⟨rfl, hP, hK, hE⟩ := hv
  have hx := B.exec
  have hb := B.bytes
  have hr := B.returns
  have hts := atoms_spec (ws := wsL_up) B.pre
  have hown : s.vm.findClass RL = some m.cls := findClass_of_methodNamed B.named
  have hlocks := B.notSynchronized
  have hS : va_S (fun _ => False) s.heap s.heap [] := va_S.rf
  have hl := lv_entry ([.int p0, .int p1]) (n := 2) (Nat.le_of_ble_eq_true rfl)
  rw [lg_entry_eq]
  generalize (lg_sl ([.int p0, .int p1]) ++ List.replicate (2 - (lg_sl ([.int p0, .int p1])).length) Slot.unset).toArray = ls at hl ⊢
  have hl : lv_has ls 2 [(0, .int p0), (1, .int p1)] := hl
  unfold pL_up at hw
  refine lv_iload_n hx hb dL_up_0 rfl (lv_at hl 0 rfl) ?_
  refine lv_ldc (v := 2147483647) hx hb hown (hts (.constant RL 8 (2147483647)) (List.mem_of_getElem? (i := 1) rfl)) dL_up_1 ?_
  refine lv_iand hx hb dL_up_3 ?_
  refine lv_iload_n hx hb dL_up_4 rfl (lv_at hl 1 rfl) ?_
  obtain ⟨hn0, hw⟩ := hw
  refine lv_irem hx hb dL_up_5 hn0 ?_
  exact W.iret (v := ((p0 &&& 2147483647) - (p0 &&& 2147483647) / p1 * p1)) hx hb hr (fun t ht hW => ⟨_, rfl, hw, ht⟩) (fun _ h => by cases h) dL_up_6
