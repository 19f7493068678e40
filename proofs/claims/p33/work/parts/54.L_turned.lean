set_option maxHeartbeats 4000000 in
set_option maxRecDepth 100000 in
theorem kL_turned (l : Launch) (D : va_G) (kI kC kG kJ : ClassId) (p0 : Int32) (Z : Int32 → Prop) (hw : pL_turned p0 Z) : Met l yL_turned wsL_turned ({ frames := 0, cells := 0, slots := 0, locals := 0 } : Room) (gPr D (gT kI kC kG kJ) [.int p0] (([] : va_W))) (vp_Si Z) 0 0 (fun _ => False) := by
  refine Met.ofW (cc := cL_turned) (maxL := 1) (ret := (some .int)) (by decide) rfl ?_
  intro p e s m args below meth c s₁ B hml hv
  obtain ⟨rfl, hP, hK, hE⟩ := hv
  have hx := B.exec
  have hb := B.bytes
  have hr := B.returns
  have hts := atoms_spec (ws := wsL_turned) B.pre
  have hown : s.vm.findClass RL = some m.cls := findClass_of_methodNamed B.named
  have hlocks := B.notSynchronized
  have hS : va_S (fun _ => False) s.heap s.heap [] := va_S.rf
  have hl := lv_entry ([.int p0]) (n := 1) (Nat.le_of_ble_eq_true rfl)
  rw [lg_entry_eq]
  generalize (lg_sl ([.int p0]) ++ List.replicate (1 - (lg_sl ([.int p0])).length) Slot.unset).toArray = ls at hl ⊢
  have hl : lv_has ls 1 [(0, .int p0)] := hl
  unfold pL_turned at hw
  refine lv_iload_n hx hb dL_turned_0 rfl (lv_at hl 0 rfl) ?_
  refine lv_iconst (v := 4) hx hb dL_turned_1 (by decide) ?_
  refine lv_irem hx hb dL_turned_2 (by decide) ?_
  refine lv_iconst (v := 4) hx hb dL_turned_3 (by decide) ?_
  refine lv_imul hx hb dL_turned_4 ?_
  refine lv_iload_n hx hb dL_turned_5 rfl (lv_at hl 0 rfl) ?_
  refine lv_iconst (v := 4) hx hb dL_turned_6 (by decide) ?_
  refine lv_idiv hx hb dL_turned_7 (by decide) ?_
  refine lv_iadd hx hb dL_turned_8 ?_
  exact W.iret (v := (((p0 - p0 / 4 * 4) * 4) + (p0 / 4))) hx hb hr (fun t ht hW => ⟨_, rfl, hw, ht⟩) (fun _ h => by cases h) dL_turned_9
