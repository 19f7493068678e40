set_option maxHeartbeats 4000000 in
set_option maxRecDepth 100000 in
theorem kL_line (l : Launch) (D : va_G) (kI kC kG kJ : ClassId) (p0 : Int32) (Z : Int32 → Prop) (hw : pL_line p0 Z) : Met l yL_line wsL_line ({ frames := 0, cells := 0, slots := 0, locals := 0 } : Room) (gPr D (gT kI kC kG kJ) [.int p0] (([] : va_W))) (vp_Si Z) 0 0 (fun _ => False) := by
  refine Met.ofW (cc := cL_line) (maxL := 1) (ret := (some .int)) (by decide) rfl ?_
  intro p e s m args below meth c s₁ B hml hv
  obtain ⟨rfl, hP, hK, hE⟩ := hv
  have hx := B.exec
  have hb := B.bytes
  have hr := B.returns
  have hts := atoms_spec (ws := wsL_line) B.pre
  have hown : s.vm.findClass RL = some m.cls := findClass_of_methodNamed B.named
  have hlocks := B.notSynchronized
  have hS : va_S (fun _ => False) s.heap s.heap [] := va_S.rf
  have hl := lv_entry ([.int p0]) (n := 1) (Nat.le_of_ble_eq_true rfl)
  rw [lg_entry_eq]
  generalize (lg_sl ([.int p0]) ++ List.replicate (1 - (lg_sl ([.int p0])).length) Slot.unset).toArray = ls at hl ⊢
  have hl : lv_has ls 1 [(0, .int p0)] := hl
  unfold pL_line at hw
  refine lv_iload_n hx hb dL_line_0 rfl (lv_at hl 0 rfl) ?_
  refine lv_iconst (v := 4) hx hb dL_line_1 (by decide) ?_
  refine lv_icmp_ge (tgt := 11) hx hb dL_line_2 (by decide) (fun c1 => ?_) (fun c1 => ?_)
  · replace hw := Eq.mp (if_pos c1) hw
    refine lv_iload_n hx hb dL_line_11 rfl (lv_at hl 0 rfl) ?_
    refine lv_bipush (v := 8) hx hb dL_line_12 (by decide) ?_
    refine lv_icmp_ge (tgt := 23) hx hb dL_line_14 (by decide) (fun c2 => ?_) (fun c2 => ?_)
    · replace hw := Eq.mp (if_pos c2) hw
      refine lv_iload_n hx hb dL_line_23 rfl (lv_at hl 0 rfl) ?_
      refine lv_bipush (v := 10) hx hb dL_line_24 (by decide) ?_
      refine lv_icmp_ge (tgt := 33) hx hb dL_line_26 (by decide) (fun c3 => ?_) (fun c3 => ?_)
      · replace hw := Eq.mp (if_pos c3) hw
        refine lv_bipush (v := 10) hx hb dL_line_33 (by decide) ?_
        refine lv_iload_n hx hb dL_line_35 rfl (lv_at hl 0 rfl) ?_
        refine lv_bipush (v := 10) hx hb dL_line_36 (by decide) ?_
        refine lv_isub hx hb dL_line_38 ?_
        refine lv_iconst (v := 3) hx hb dL_line_39 (by decide) ?_
        refine lv_irem hx hb dL_line_40 (by decide) ?_
        refine lv_iconst (v := 3) hx hb dL_line_41 (by decide) ?_
        refine lv_imul hx hb dL_line_42 ?_
        refine lv_iadd hx hb dL_line_43 ?_
        refine lv_iload_n hx hb dL_line_44 rfl (lv_at hl 0 rfl) ?_
        refine lv_bipush (v := 10) hx hb dL_line_45 (by decide) ?_
        refine lv_isub hx hb dL_line_47 ?_
        refine lv_iconst (v := 3) hx hb dL_line_48 (by decide) ?_
        refine lv_idiv hx hb dL_line_49 (by decide) ?_
        refine lv_iadd hx hb dL_line_50 ?_
        exact W.iret (v := ((10 + (((p0 - 10) - (p0 - 10) / 3 * 3) * 3)) + ((p0 - 10) / 3))) hx hb hr (fun t ht hW => ⟨_, rfl, hw, ht⟩) (fun _ h => by cases h) dL_line_51
      · replace hw := Eq.mp (if_neg c3) hw
        refine lv_iload_n hx hb dL_line_29 rfl (lv_at hl 0 rfl) ?_
        refine lv_goto (tgt := 51) hx hb dL_line_30 (by decide) ?_
        exact W.iret (v := p0) hx hb hr (fun t ht hW => ⟨_, rfl, hw, ht⟩) (fun _ h => by cases h) dL_line_51
    · replace hw := Eq.mp (if_neg c2) hw
      refine lv_iload_n hx hb dL_line_17 rfl (lv_at hl 0 rfl) ?_
      refine lv_iconst (v := 4) hx hb dL_line_18 (by decide) ?_
      refine lv_isub hx hb dL_line_19 ?_
      refine lv_goto (tgt := 51) hx hb dL_line_20 (by decide) ?_
      exact W.iret (v := (p0 - 4)) hx hb hr (fun t ht hW => ⟨_, rfl, hw, ht⟩) (fun _ h => by cases h) dL_line_51
  · replace hw := Eq.mp (if_neg c1) hw
    refine lv_iload_n hx hb dL_line_5 rfl (lv_at hl 0 rfl) ?_
    refine lv_iconst (v := 4) hx hb dL_line_6 (by decide) ?_
    refine lv_iadd hx hb dL_line_7 ?_
    refine lv_goto (tgt := 51) hx hb dL_line_8 (by decide) ?_
    exact W.iret (v := (p0 + 4)) hx hb hr (fun t ht hW => ⟨_, rfl, hw, ht⟩) (fun _ h => by cases h) dL_line_51
