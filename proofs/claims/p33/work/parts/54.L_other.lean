set_option maxHeartbeats 4000000 in
set_option maxRecDepth 100000 in
theorem kL_other (l : Launch) (D : va_G) (kI kC kG kJ : ClassId) (p0 : Int32) (Z : Int32 → Prop) (hw : pL_other p0 Z) : Met l yL_other wsL_other ({ frames := 0, cells := 0, slots := 0, locals := 0 } : Room) (gPr D (gT kI kC kG kJ) [.int p0] (([] : va_W))) (vp_Si Z) 0 0 (fun _ => False) := by
  refine Met.ofW (cc := cL_other) (maxL := 3) (ret := (some .int)) (by decide) rfl ?_
  intro p e s m args below meth c s₁ B hml hv
  obtain ⟨rfl, hP, hK, hE⟩ := hv
  have hx := B.exec
  have hb := B.bytes
  have hr := B.returns
  have hts := atoms_spec (ws := wsL_other) B.pre
  have hown : s.vm.findClass RL = some m.cls := findClass_of_methodNamed B.named
  have hlocks := B.notSynchronized
  have hS : va_S (fun _ => False) s.heap s.heap [] := va_S.rf
  have hl := lv_entry ([.int p0]) (n := 3) (Nat.le_of_ble_eq_true rfl)
  rw [lg_entry_eq]
  generalize (lg_sl ([.int p0]) ++ List.replicate (3 - (lg_sl ([.int p0])).length) Slot.unset).toArray = ls at hl ⊢
  have hl : lv_has ls 3 [(0, .int p0)] := hl
  have L4 : ∀ (v0 : Int32), ∀ (n : Nat), ∀ (v1 : Int32) (v2 : Int32) (ls : Array Slot), lv_has ls 3 [(0, .int v0), (1, .int v1), (2, .int v2)] → pL_other_4 Z v0 n v1 v2 → W p l e (headSpec wsL_other ({ frames := 0, cells := 0, slots := 0, locals := 0 } : Room)).room s m ([.int p0] : List Value).toArray below meth c s.heap [] 0 0 (MQ below (vp_Si Z) ([.int p0] : List Value).toArray s 0 0 (fun _ => False)) (F0 m 4 ls []) := by
    intro v0 n
    induction n with
    | zero => intro v1 v2 ls hl hw; exact hw.elim
    | succ n ih =>
    intro v1 v2 ls hl hw
    rw [pL_other_4] at hw
    refine lv_iload_n hx hb dL_other_4 rfl (lv_at hl 2 rfl) ?_
    refine lv_bipush (v := 16) hx hb dL_other_5 (by decide) ?_
    refine lv_icmp_ge (tgt := 29) hx hb dL_other_7 (by decide) (fun c1 => ?_) (fun c1 => ?_)
    · replace hw := Eq.mp (if_pos c1) hw
      refine lv_iload_n hx hb dL_other_29 rfl (lv_at hl 1 rfl) ?_
      exact W.iret (v := v1) hx hb hr (fun t ht hW => ⟨_, rfl, hw, ht⟩) (fun _ h => by cases h) dL_other_30
    · replace hw := Eq.mp (if_neg c1) hw
      refine lv_iload_n hx hb dL_other_10 rfl (lv_at hl 1 rfl) ?_
      refine lv_iload_n hx hb dL_other_11 rfl (lv_at hl 0 rfl) ?_
      refine lv_iload_n hx hb dL_other_12 rfl (lv_at hl 2 rfl) ?_
      refine lv_ishr hx hb dL_other_13 ?_
      refine lv_iconst (v := 1) hx hb dL_other_14 (by decide) ?_
      refine lv_iand hx hb dL_other_15 ?_
      refine lv_bipush (v := 15) hx hb dL_other_16 (by decide) ?_
      refine lv_iload_n hx hb dL_other_18 rfl (lv_at hl 2 rfl) ?_
      refine lv_isub hx hb dL_other_19 ?_
      refine lv_ishl hx hb dL_other_20 ?_
      refine lv_ior hx hb dL_other_21 ?_
      refine lv_topi (fun x2 ex2 => ?_)
      replace hw := hw x2 ex2
      refine lv_istore_n (lv' := [(1, .int x2), (0, .int v0), (2, .int v2)]) hx hb dL_other_22 rfl hl (by decide) rfl (fun ls hl => ?_)
      obtain ⟨x3, ex3⟩ : ∃ y : Int32, y = (v2 + 1) := ⟨_, rfl⟩
      replace hw := hw x3 ex3
      refine lv_iinc (v := x3) (lv' := [(2, .int x3), (1, .int x2), (0, .int v0)]) hx hb dL_other_23 hl (k := 2) rfl (by rw [ex3]; rfl) (by decide) rfl (fun ls hl => ?_)
      refine lv_goto (tgt := 4) hx hb dL_other_26 (by decide) ?_
      exact ih x2 x3 ls (lv_sub hl [2, 1, 0] rfl) hw
  unfold pL_other at hw
  refine lv_iconst (v := 0) hx hb dL_other_0 (by decide) ?_
  refine lv_istore_n (lv' := [(1, .int 0), (0, .int p0)]) hx hb dL_other_1 rfl hl (by decide) rfl (fun ls hl => ?_)
  refine lv_iconst (v := 0) hx hb dL_other_2 (by decide) ?_
  refine lv_istore_n (lv' := [(2, .int 0), (1, .int 0), (0, .int p0)]) hx hb dL_other_3 rfl hl (by decide) rfl (fun ls hl => ?_)
  obtain ⟨n9, hw⟩ := hw
  exact L4 p0 n9 0 0 ls (lv_sub hl [2, 1, 0] rfl) hw
