/-! my own layer: the environment (statics, texts), the shapes of contracts, a row a call -/
/-- the contents of the static array of the lines' masks -/
def gLC : Nat → Int32 := fun j => ([15, 240, 3840, 61440, 4369, 8738, 17476, 34952, 33825, 4680, 51, 102, 204, 816, 1632, 3264, 13056, 26112, 52224] : List Int32).getD j 0
/-- the texts of the thrown exceptions, by their places in the class's pool -/
def gTx : List (Nat × String) := [(50, "the piece cannot be given"), (72, "nothing can be placed there"), (79, "no such rule"), (98, "the text is full"), (119, "a move cannot be made"), (130, "no state is recorded"), (135, "there is no snapshot"), (170, "no such player"), (206, "no such piece"), (208, "no such cell"), (210, "no such line"), (212, "the text is not valid"), (217, "the end cannot be searched")]
def gNG : List Cond := [.declares (Bundle.initS "java/lang/RuntimeException"), .declares (Bundle.initS "java/lang/Exception"), .declares (Bundle.initS "java/lang/Throwable"), .castable "java/lang/IllegalStateException" "java/lang/IllegalStateException", .castable "java/lang/IndexOutOfBoundsException" "java/lang/IndexOutOfBoundsException", .castable "java/lang/IllegalArgumentException" "java/lang/IllegalArgumentException"]
def gN (U : State) : Prop := (∀ w ∈ gNG, w.before #[] U = true) ∧ va_Nc "java/lang/IllegalStateException" "java/lang/IndexOutOfBoundsException" U ∧ va_AO "HazelGift$Game" U
theorem gN.warm {s U : State} (hW : s.WarmedH U.vm) (h : gN s) : gN U := ⟨fun w hw => by
  have h1 : w.before #[] (s.setVm U.vm) = true := Cond.faceAtom_setVm hW.alike w ((show ∀ w ∈ gNG, w.faceAtom = true by decide +kernel) w hw) (h.1 w hw)
  exact va_tabs ((show ∀ w ∈ gNG, w.onTables = true by decide +kernel) w hw) (u := s.setVm U.vm) (U := U) rfl h1, h.2.1.moved hW.alike, h.2.2.moved hW.alike⟩
theorem gN.same {u U : State} (hv : U.vm = u.vm) (h : gN u) : gN U := ⟨fun w hw => va_tabs ((show ∀ w ∈ gNG, w.onTables = true by decide +kernel) w hw) hv.symm (h.1 w hw), h.2.1.moved (by rw [hv]; exact Vm.Alike.refl u.vm), h.2.2.moved (by rw [hv]; exact Vm.Alike.refl u.vm)⟩
theorem gN.use {U : State} {args : Array Value} (h : gN U) : ∀ w ∈ gNG, w.before args U = true := fun w hw => va_tabs ((show ∀ w ∈ gNG, w.onTables = true by decide +kernel) w hw) rfl (h.1 w hw)
/-- what the statics hold, of which no cell lies in A -/
def gE (A : Nat → Prop) (U : State) (H : Heap) : Prop := (∃ t : Nat, va_Z "HazelGift$Board" "LINE_CELLS" "[I" (.ref t) A U H ∧ va_T .int t 19 (fun j => .int (gLC j)) A U H) ∧ vx_Zq Bundle.tN "UNASSIGNED_STACK" Bundle.steD A U H ∧ vx_Zq Bundle.tN "SUPPRESSED_SENTINEL" Bundle.listD A U H ∧ (∀ q ∈ gTx, ∃ sa : Nat, vk_R RX5 q.1 q.2 sa U) ∧ gN U
theorem gE.warm {A : Nat → Prop} {s U : State} {H : Heap} (hW : s.WarmedH U.vm) (h : gE A s H) : gE A U H := by
  obtain ⟨⟨t, h1, h2⟩, h3, h4, h5, h6⟩ := h
  exact ⟨⟨t, h1.moved hW.alike, h2.moved hW.alike⟩, h3.moved hW.alike, h4.moved hW.alike, fun q hq => by
    obtain ⟨sa, h⟩ := h5 q hq
    exact ⟨sa, h.warm hW⟩, h6.warm hW⟩
theorem gE.same {A : Nat → Prop} {u U : State} {H : Heap} (hv : U.vm = u.vm) (h : gE A u H) : gE A U H := by
  have ha : u.vm.Alike U.vm := by rw [hv]; exact Vm.Alike.refl u.vm
  obtain ⟨⟨t, h1, h2⟩, h3, h4, h5, h6⟩ := h
  exact ⟨⟨t, h1.moved ha, h2.moved ha⟩, h3.moved ha, h4.moved ha, fun q hq => by
    obtain ⟨sa, h⟩ := h5 q hq
    exact ⟨sa, h.same hv⟩, h6.same hv⟩
theorem gE.narrow {A B : Nat → Prop} {U : State} {H : Heap} (h : gE A U H) (hAB : ∀ q, B q → A q) : gE B U H := by
  obtain ⟨⟨t, h1, h2⟩, h3, h4, h5, h6⟩ := h
  exact ⟨⟨t, h1.narrow hAB, h2.narrow hAB⟩, h3.narrow hAB, h4.narrow hAB, h5, h6⟩
theorem gE.kept {A : Nat → Prop} {U : State} {H H1 : Heap} (h : gE A U H) (hq : ∀ a : Nat, a < H.size → ¬ A a → H1[a]? = H[a]?) : gE A U H1 := by
  obtain ⟨⟨t, h1, h2⟩, h3, h4, h5, h6⟩ := h
  exact ⟨⟨t, h1.kept hq, h2.kept hq⟩, h3.kept hq, h4.kept hq, h5, h6⟩
theorem gE.here {A B : Nat → Prop} {s : State} {H : Heap} {locs : List Loc} (h : gE A s s.heap) (hS : va_S A s.heap H locs) (hAB : ∀ q, B q → A q) : gE B s H := (h.kept hS.2.1).narrow hAB
theorem gE.none {A : Nat → Prop} {s : State} {H : Heap} {locs : List Loc} (h : gE A s s.heap) (hS : va_S A s.heap H locs) : gE (fun _ => False) s H := h.here hS (fun _ h => h.elim)
/-- the array classes -/
abbrev gT (kI kC kG _kJ : ClassId) : List (ClassId × FieldType) := [(kI, .int), (kC, .char), (kG, .object "HazelGift$Game")]
/-- a start that only reads -/
def gPr (D : va_G) (T : List (ClassId × FieldType)) (av : List Value) (cs : va_W) : Array Value → State → Prop := va_Pc av (fun U => va_P D vwCl cs U.heap ∧ va_K D vwCl T U ∧ gE (fun _ => False) U U.heap)
/-- a start that writes -/
def gPw (D : va_G) (T : List (ClassId × FieldType)) (av : List Value) (cs : va_W) (sz : Nat) : Array Value → State → Prop := va_Pc av (fun U => U.heap.size = sz ∧ va_P D vwCl cs U.heap ∧ va_K D vwCl T U ∧ va_D (fun _ => True) cs ∧ gE (va_A cs sz) U U.heap)
/-- the world behind a writer -/
abbrev gB (D : va_G) (T : List (ClassId × FieldType)) {S : Type} (cs1 : S → va_W) (A : Nat → Prop) (u : S) (t : State) : Prop := va_P D vwCl (cs1 u) t.heap ∧ va_K D vwCl T t ∧ va_D A (cs1 u)
/-- the world behind a throw -/
abbrev gX (D : va_G) (T : List (ClassId × FieldType)) {S : Type} (cs1 : S → va_W) (A : Nat → Prop) (QX : String → S → Prop) : String → State → State → Prop := vx_X (fun _ : S => True) (fun E u t => QX E u ∧ gB D T cs1 A u t) A
theorem gPr.blind {D : va_G} {T : List (ClassId × FieldType)} {av : List Value} {cs : va_W} : FrameBlind (gPr D T av cs) := fun a U g mk q => by
  obtain ⟨q0, qP, qK, qE⟩ := q
  exact ⟨q0, qP, va_K.moved (u := U) (U := U.calling g mk a) (Vm.Alike.refl U.vm) qK, gE.same (u := U) (U := U.calling g mk a) rfl qE⟩
theorem gPw.blind {D : va_G} {T : List (ClassId × FieldType)} {av : List Value} {cs : va_W} {sz : Nat} : FrameBlind (gPw D T av cs sz) := fun a U g mk q => by
  obtain ⟨q0, q1, qP, qK, qD, qE⟩ := q
  exact ⟨q0, q1, qP, va_K.moved (u := U) (U := U.calling g mk a) (Vm.Alike.refl U.vm) qK, qD, gE.same (u := U) (U := U.calling g mk a) rfl qE⟩
section GC
variable {p : Program} {l : Launch} {e : Env} {R : Room} {s : State} {m : MethodId} {args : Array Value} {below : List Frame} {meth : Method} {c : Code} {H : Heap} {locs : List Loc} {cells slots : Nat} {Q : State → Prop}
variable {D : va_G} {T : List (ClassId × FieldType)} {y : MethodName} {bytes cc : ByteArray} {maxL nL n index : Nat} {ret : Option FieldType} {ws : List Cond} {rm : Room} {Ts : List Cond} {own C : String} {b : Addr} {As rest st0 : List Value} {pc : Nat} {ls : Array Slot} {A : Nat → Prop}
theorem gPr.of {av : List Value} {cs cs' : va_W} (hK : va_K D vwCl T s) (hP : va_P D vwCl cs H) (hE : gE A s s.heap) (hS : va_S A s.heap H locs) (is : List Nat) (his : is.filterMap (fun i => cs[i]?) = cs') : ∀ U : State, U.heap = H → s.WarmedH U.vm → gPr D T av cs' av.toArray U :=
  fun U hU hW => ⟨rfl, by rw [hU]; exact hP.sub is his, va_K.moved hW.alike hK, by rw [hU]; exact gE.warm hW (hE.none hS)⟩
/-- a call of a reader that answers an int -/
theorem gVi {cs cs' : va_W} {post : Int32 → Prop} (S : CallFix p m c cc nL s args Ts own) (hM : Met l y ws rm (gPr D T (.ref b :: As) cs') (vp_Si post) 0 0 (fun _ => False)) (cw : CallW R s args own C index y bytes maxL ret ws rm 0 0 n)
    (hK : va_K D vwCl T s) (hP : va_P D vwCl cs H) (hE : gE A s s.heap) (hS : va_S A s.heap H locs) (is : List Nat) (his : is.filterMap (fun i => cs[i]?) = cs') {ci q0 : Nat} {q : vw_C} {fs : List Value} (hc : vwCl[ci]? = some q) (hq : q.1 = C) (he : cs'[q0]? = some (b, .inr (ci, fs)))
    (hn : As.length = n) (hsize : ls.size = nL) (hstack : st0 = As.reverse ++ .ref b :: rest) (hW : (rest.map fun v => v.category).sum ≤ 8) (hdg : decode cc pc = .ok (.invokevirtual index, 3)) (hf : cells ≤ R.cells ∧ slots ≤ R.slots)
    (kk : ∀ r : Int32, post r → W p l e R s m args below meth c H locs cells slots Q (F0 m (pc + 3) ls (.int r :: rest))) : W p l e R s m args below meth c H locs cells slots Q (F0 m pc ls st0) := by
  subst hq
  exact vp_callSi (va_runV (As := As) (rest := rest) (b := b) (g := F0 m pc ls st0) S hM cw ⟨gPr.blind, va_recv hK (hP.sub is his) hc he, gPr.of hK hP hE hS is his⟩ rfl hn hsize hstack (lv_room hW) hdg hf).run kk
/-- the same for a static method -/
theorem gSi {cs cs' : va_W} {post : Int32 → Prop} (S : CallFix p m c cc nL s args Ts own) (hM : Met l y ws rm (gPr D T As cs') (vp_Si post) 0 0 (fun _ => False)) (cw : CallB R s args own index y bytes maxL ret ws rm 0 0 n ∧ (Cond.static y).before args s = true)
    (hK : va_K D vwCl T s) (hP : va_P D vwCl cs H) (hE : gE A s s.heap) (hS : va_S A s.heap H locs) (is : List Nat) (his : is.filterMap (fun i => cs[i]?) = cs')
    (hn : As.length = n) (hsize : ls.size = nL) (hstack : st0 = As.reverse ++ rest) (hW : (rest.map fun v => v.category).sum ≤ 8) (hdg : decode cc pc = .ok (.invokestatic index, 3)) (hf : cells ≤ R.cells ∧ slots ≤ R.slots)
    (kk : ∀ r : Int32, post r → W p l e R s m args below meth c H locs cells slots Q (F0 m (pc + 3) ls (.int r :: rest))) : W p l e R s m args below meth c H locs cells slots Q (F0 m pc ls st0) :=
  vp_callSi (va_runS (As := As) (rest := rest) (g := F0 m pc ls st0) S hM cw ⟨gPr.blind, gPr.of hK hP hE hS is his⟩ rfl hn hsize hstack (lv_room hW) hdg hf).run kk
/-- a call of a reader that answers a cell or null -/
theorem gVa {cs cs' : va_W} {r : Value} (S : CallFix p m c cc nL s args Ts own) (hM : Met l y ws rm (gPr D T (.ref b :: As) cs') (k2_QcV r) 0 0 (fun _ => False)) (cw : CallW R s args own C index y bytes maxL ret ws rm 0 0 n)
    (hK : va_K D vwCl T s) (hP : va_P D vwCl cs H) (hE : gE A s s.heap) (hS : va_S A s.heap H locs) (is : List Nat) (his : is.filterMap (fun i => cs[i]?) = cs') {ci q0 : Nat} {q : vw_C} {fs : List Value} (hc : vwCl[ci]? = some q) (hq : q.1 = C) (he : cs'[q0]? = some (b, .inr (ci, fs)))
    (hn : As.length = n) (hsize : ls.size = nL) (hstack : st0 = As.reverse ++ .ref b :: rest) (hW : (rest.map fun v => v.category).sum ≤ 8) (hdg : decode cc pc = .ok (.invokevirtual index, 3)) (hf : cells ≤ R.cells ∧ slots ≤ R.slots)
    (kk : W p l e R s m args below meth c H locs cells slots Q (F0 m (pc + 3) ls (r :: rest))) : W p l e R s m args below meth c H locs cells slots Q (F0 m pc ls st0) := by
  subst hq
  exact W.callV (va_runV (As := As) (rest := rest) (b := b) (g := F0 m pc ls st0) S hM cw ⟨gPr.blind, va_recv hK (hP.sub is his) hc he, gPr.of hK hP hE hS is his⟩ rfl hn hsize hstack (lv_room hW) hdg hf).run kk
theorem gPw.of {av : List Value} {cs wc : va_W} (hK : va_K D vwCl T s) (hP : va_P D vwCl cs H) (hD : va_D A cs) (hE : gE A s s.heap) (hS : va_S A s.heap H locs) (hA : ∀ q, s.heap.size ≤ q → A q) (isC : List Nat) (hC : isC.map (fun i => cs[i]?) = wc.map some) (hnc : va_nd isC = true) : ∀ U : State, U.heap = H → s.WarmedH U.vm → gPw D T av wc H.size av.toArray U :=
  fun U hU hW => ⟨rfl, by rw [hU], by
    rw [hU]
    refine hP.sub isC ?_
    have h : ∀ (l : List Nat) (w : va_W), l.map (fun i => cs[i]?) = w.map some → l.filterMap (fun i => cs[i]?) = w := by
      intro l
      induction l with
      | nil => intro w h; cases w with
        | nil => rfl
        | cons a w => simp at h
      | cons i l ih => intro w h; cases w with
        | nil => simp at h
        | cons a w =>
          simp only [List.map_cons, List.cons.injEq] at h
          rw [List.filterMap_cons, h.1, ih w h.2]
    exact h isC wc hC, va_K.moved hW.alike hK, (hD.sub isC hnc hC).weaken (fun _ _ _ _ => trivial), by
    rw [hU]
    exact gE.warm hW (hE.here hS (va_free hD hS hA isC hC))⟩
/-- what comes back is put in its place -/
theorem gBack {S : Type} {cs wc wr : va_W} {cs1 ws2 : S → va_W} {H1 : Heap} {t : State} {u : S} (hP : va_P D vwCl cs H) (hD : va_D A cs) (hS : va_S A s.heap H locs) (hA : ∀ q, s.heap.size ≤ q → A q) (isC isR : List Nat) (hC : isC.map (fun i => cs[i]?) = wc.map some) (hR : isR.map (fun i => cs[i]?) = wr.map some) (hnr : va_nd isR = true) (hdis : ∀ i ∈ isR, i ∉ isC) (pm : List Nat) (hpn : va_nd pm = true) (hpm : ∀ u, pm.map (fun i => (wr ++ cs1 u)[i]?) = (ws2 u).map some)
    (ht : t.heap = H1) (hB : gB D T cs1 (va_A wc H.size) u t) (hk1 : ∀ q : Nat, q < H.size → ¬ va_A wc H.size q → H1[q]? = H[q]?) : va_P D vwCl (ws2 u) H1 ∧ va_D A (ws2 u) := by
  obtain ⟨hP1, hK1, hD1⟩ := hB
  rw [ht] at hP1
  obtain ⟨hP2, hD2⟩ := va_join hP hD isC isR hC hR hnr hdis hk1 (va_free hD hS hA isC hC) hP1 hD1
  refine ⟨hP2.sub pm ?_, hD2.sub pm hpn (hpm u)⟩
  have h : ∀ (l : List Nat) (w : va_W), l.map (fun i => (wr ++ cs1 u)[i]?) = w.map some → l.filterMap (fun i => (wr ++ cs1 u)[i]?) = w := by
    intro l
    induction l with
    | nil => intro w h; cases w with
      | nil => rfl
      | cons a w => simp at h
    | cons i l ih => intro w h; cases w with
      | nil => simp at h
      | cons a w =>
        simp only [List.map_cons, List.cons.injEq] at h
        rw [List.filterMap_cons, h.1, ih w h.2]
  exact h pm (ws2 u) (hpm u)
/-- a call of a writer that answers an int -/
theorem gWVi {S : Type} {cs wc wr : va_W} {cs1 ws2 : S → va_W} {mc ms : Nat} {post : Int32 → S → Prop} (S0 : CallFix p m c cc nL s args Ts own) (hM : ∀ sz : Nat, Met l y ws rm (gPw D T (.ref b :: As) wc sz) (va_Qi post (gB D T cs1 (va_A wc sz)) (va_A wc sz)) mc ms (va_A wc sz)) (cw : CallW R s args own C index y bytes maxL ret ws rm mc ms n)
    (hK : va_K D vwCl T s) (hP : va_P D vwCl cs H) (hD : va_D A cs) (hE : gE A s s.heap) (hS : va_S A s.heap H locs) (hA : ∀ q, s.heap.size ≤ q → A q) (isC isR : List Nat) (hC : isC.map (fun i => cs[i]?) = wc.map some) (hnc : va_nd isC = true) (hR : isR.map (fun i => cs[i]?) = wr.map some) (hnr : va_nd isR = true) (hdis : ∀ i ∈ isR, i ∉ isC) (pm : List Nat) (hpn : va_nd pm = true) (hpm : ∀ u, pm.map (fun i => (wr ++ cs1 u)[i]?) = (ws2 u).map some)
    {ci q0 : Nat} {q : vw_C} {fs : List Value} (hc : vwCl[ci]? = some q) (hq : q.1 = C) (he : wc[q0]? = some (b, .inr (ci, fs)))
    (hn : As.length = n) (hsize : ls.size = nL) (hstack : st0 = As.reverse ++ .ref b :: rest) (hW : (rest.map fun v => v.category).sum ≤ 8) (hdg : decode cc pc = .ok (.invokevirtual index, 3)) (hf : cells + mc ≤ R.cells ∧ slots + ms ≤ R.slots)
    (kk : ∀ (r : Int32) (u : S) (H1 : Heap) (locs1 : List Loc), post r u → va_P D vwCl (ws2 u) H1 → va_D A (ws2 u) → va_S A s.heap H1 locs1 → W p l e R s m args below meth c H1 locs1 (cells + mc) (slots + ms) Q (F0 m (pc + 3) ls (.int r :: rest))) : W p l e R s m args below meth c H locs cells slots Q (F0 m pc ls st0) := by
  subst hq
  have hPU := gPw.of (av := .ref b :: As) hK hP hD hE hS hA isC hC hnc
  have hFc := va_free hD hS hA isC hC
  have hPc : va_P D vwCl wc H := by
    have hw : s.WarmedH s.vm := State.WarmedH.refl s
    obtain ⟨-, -, h, -⟩ := hPU ({ s with heap := H } : State) rfl hw
    exact h
  exact va_calli (va_runV (As := As) (rest := rest) (b := b) (g := F0 m pc ls st0) S0 (hM H.size) cw ⟨gPw.blind, va_recv hK hPc hc he, hPU⟩ rfl hn hsize hstack (lv_room hW) hdg hf) hS (fun q _ h => hFc q h) hFc
    (fun r u t H1 locs1 ht hvm hw hB hz1 hk1 hS1 => (gBack hP hD hS hA isC isR hC hR hnr hdis pm hpn hpm ht hB hk1).elim fun h1 h2 => kk r u H1 locs1 hw h1 h2 hS1)
/-- a call of a writer that answers nothing -/
theorem gWVv {S : Type} {cs wc wr : va_W} {cs1 ws2 : S → va_W} {mc ms : Nat} {post : S → Prop} (S0 : CallFix p m c cc nL s args Ts own) (hM : ∀ sz : Nat, Met l y ws rm (gPw D T (.ref b :: As) wc sz) (va_Qv post (gB D T cs1 (va_A wc sz)) (va_A wc sz)) mc ms (va_A wc sz)) (cw : CallW R s args own C index y bytes maxL ret ws rm mc ms n)
    (hK : va_K D vwCl T s) (hP : va_P D vwCl cs H) (hD : va_D A cs) (hE : gE A s s.heap) (hS : va_S A s.heap H locs) (hA : ∀ q, s.heap.size ≤ q → A q) (isC isR : List Nat) (hC : isC.map (fun i => cs[i]?) = wc.map some) (hnc : va_nd isC = true) (hR : isR.map (fun i => cs[i]?) = wr.map some) (hnr : va_nd isR = true) (hdis : ∀ i ∈ isR, i ∉ isC) (pm : List Nat) (hpn : va_nd pm = true) (hpm : ∀ u, pm.map (fun i => (wr ++ cs1 u)[i]?) = (ws2 u).map some)
    {ci q0 : Nat} {q : vw_C} {fs : List Value} (hc : vwCl[ci]? = some q) (hq : q.1 = C) (he : wc[q0]? = some (b, .inr (ci, fs)))
    (hn : As.length = n) (hsize : ls.size = nL) (hstack : st0 = As.reverse ++ .ref b :: rest) (hW : (rest.map fun v => v.category).sum ≤ 8) (hdg : decode cc pc = .ok (.invokevirtual index, 3)) (hf : cells + mc ≤ R.cells ∧ slots + ms ≤ R.slots)
    (kk : ∀ (u : S) (H1 : Heap) (locs1 : List Loc), post u → va_P D vwCl (ws2 u) H1 → va_D A (ws2 u) → va_S A s.heap H1 locs1 → W p l e R s m args below meth c H1 locs1 (cells + mc) (slots + ms) Q (F0 m (pc + 3) ls rest)) : W p l e R s m args below meth c H locs cells slots Q (F0 m pc ls st0) := by
  subst hq
  have hPU := gPw.of (av := .ref b :: As) hK hP hD hE hS hA isC hC hnc
  have hFc := va_free hD hS hA isC hC
  have hPc : va_P D vwCl wc H := by
    have hw : s.WarmedH s.vm := State.WarmedH.refl s
    obtain ⟨-, -, h, -⟩ := hPU ({ s with heap := H } : State) rfl hw
    exact h
  exact va_callv (va_runV (As := As) (rest := rest) (b := b) (g := F0 m pc ls st0) S0 (hM H.size) cw ⟨gPw.blind, va_recv hK hPc hc he, hPU⟩ rfl hn hsize hstack (lv_room hW) hdg hf) hS (fun q _ h => hFc q h) hFc
    (fun u t H1 locs1 ht hvm hw hB hz1 hk1 hS1 => (gBack hP hD hS hA isC isR hC hR hnr hdis pm hpn hpm ht hB hk1).elim fun h1 h2 => kk u H1 locs1 hw h1 h2 hS1)
/-- a static writer that answers an int -/
theorem gWSi {S : Type} {cs wc wr : va_W} {cs1 ws2 : S → va_W} {mc ms : Nat} {post : Int32 → S → Prop} (S0 : CallFix p m c cc nL s args Ts own) (hM : ∀ sz : Nat, Met l y ws rm (gPw D T As wc sz) (va_Qi post (gB D T cs1 (va_A wc sz)) (va_A wc sz)) mc ms (va_A wc sz)) (cw : CallB R s args own index y bytes maxL ret ws rm mc ms n ∧ (Cond.static y).before args s = true)
    (hK : va_K D vwCl T s) (hP : va_P D vwCl cs H) (hD : va_D A cs) (hE : gE A s s.heap) (hS : va_S A s.heap H locs) (hA : ∀ q, s.heap.size ≤ q → A q) (isC isR : List Nat) (hC : isC.map (fun i => cs[i]?) = wc.map some) (hnc : va_nd isC = true) (hR : isR.map (fun i => cs[i]?) = wr.map some) (hnr : va_nd isR = true) (hdis : ∀ i ∈ isR, i ∉ isC) (pm : List Nat) (hpn : va_nd pm = true) (hpm : ∀ u, pm.map (fun i => (wr ++ cs1 u)[i]?) = (ws2 u).map some)
    (hn : As.length = n) (hsize : ls.size = nL) (hstack : st0 = As.reverse ++ rest) (hW : (rest.map fun v => v.category).sum ≤ 8) (hdg : decode cc pc = .ok (.invokestatic index, 3)) (hf : cells + mc ≤ R.cells ∧ slots + ms ≤ R.slots)
    (kk : ∀ (r : Int32) (u : S) (H1 : Heap) (locs1 : List Loc), post r u → va_P D vwCl (ws2 u) H1 → va_D A (ws2 u) → va_S A s.heap H1 locs1 → W p l e R s m args below meth c H1 locs1 (cells + mc) (slots + ms) Q (F0 m (pc + 3) ls (.int r :: rest))) : W p l e R s m args below meth c H locs cells slots Q (F0 m pc ls st0) := by
  have hPU := gPw.of (av := As) hK hP hD hE hS hA isC hC hnc
  have hFc := va_free hD hS hA isC hC
  exact va_calli (va_runS (As := As) (rest := rest) (g := F0 m pc ls st0) S0 (hM H.size) cw ⟨gPw.blind, hPU⟩ rfl hn hsize hstack (lv_room hW) hdg hf) hS (fun q _ h => hFc q h) hFc
    (fun r u t H1 locs1 ht hvm hw hB hz1 hk1 hS1 => (gBack hP hD hS hA isC isR hC hR hnr hdis pm hpn hpm ht hB hk1).elim fun h1 h2 => kk r u H1 locs1 hw h1 h2 hS1)
theorem lv_lit {x v : Int32} (h : x = v) (k : W p l e R s m args below meth c H locs cells slots Q (F0 m pc ls (.int v :: rest))) : W p l e R s m args below meth c H locs cells slots Q (F0 m pc ls (.int x :: rest)) := h ▸ k
theorem gin {i : Int32} {n : Nat} (h : ¬ (i < 0 ∨ n ≤ i.toNatClampNeg)) : vp_in i n := h
variable {cs : va_W} {a : Nat} {H0 : Heap}
theorem gIald (hexec : p.tables.exec = Jvm.exec) (hb : c.code = cc) (hK : va_K D vwCl T s) (hP : va_P D vwCl cs H) (q0 t0 : Nat) {cA : ClassId} {n k : Nat} {f : Nat → Int32} (ha : cs[q0]? = some (a, .inl (cA, n, .inl f))) (ht : T[t0]? = some (cA, .int)) {i : Int32} (hin : vp_in i n) (hk : i.toNatClampNeg = k) (hdg : decode cc pc = .ok (.iaload, 1))
    (kk : W p l e R s m args below meth c H locs cells slots Q (F0 m (pc + 1) ls (.int (f k) :: rest))) : W p l e R s m args below meth c H locs cells slots Q (F0 m pc ls (.int i :: .ref a :: rest)) := by
  subst hk
  exact va_iald hexec hb hK hP q0 t0 ha ht hin hdg kk
theorem gCald (hexec : p.tables.exec = Jvm.exec) (hb : c.code = cc) (hK : va_K D vwCl T s) (hP : va_P D vwCl cs H) (q0 t0 : Nat) {cA : ClassId} {n k : Nat} {f : Nat → Int32} (ha : cs[q0]? = some (a, .inl (cA, n, .inl f))) (ht : T[t0]? = some (cA, .char)) {i : Int32} (hin : vp_in i n) (hk : i.toNatClampNeg = k) (hdg : decode cc pc = .ok (.caload, 1))
    (kk : W p l e R s m args below meth c H locs cells slots Q (F0 m (pc + 1) ls (.int (f k) :: rest))) : W p l e R s m args below meth c H locs cells slots Q (F0 m pc ls (.int i :: .ref a :: rest)) := by
  subst hk
  exact va_cald hexec hb hK hP q0 t0 ha ht hin hdg kk
theorem gAldq (hexec : p.tables.exec = Jvm.exec) (hb : c.code = cc) (hK : va_K D vwCl T s) (hP : va_P D vwCl cs H) (q0 t0 : Nat) {cA : ClassId} {C : String} {n v : Nat} {f : Nat → Option Nat} (ha : cs[q0]? = some (a, .inl (cA, n, .inr (.inr (.inr (.inr f)))))) (ht : T[t0]? = some (cA, .object C)) {i : Int32} (hin : vp_in i n) (hv : f i.toNatClampNeg = some v) (hdg : decode cc pc = .ok (.aaload, 1))
    (kk : W p l e R s m args below meth c H locs cells slots Q (F0 m (pc + 1) ls (.ref v :: rest))) : W p l e R s m args below meth c H locs cells slots Q (F0 m pc ls (.int i :: .ref a :: rest)) := by
  refine va_aldq hexec hb hK hP q0 t0 ha ht hin hdg ?_
  rw [hv]
  exact kk
theorem gIast (hexec : p.tables.exec = Jvm.exec) (hb : c.code = cc) (hK : va_K D vwCl T s) (hP : va_P D vwCl cs H) (hD : va_D A cs) (hS : va_S A H0 H locs) (q0 t0 : Nat) {cA : ClassId} {n k : Nat} {f : Nat → Int32} (ha : cs[q0]? = some (a, .inl (cA, n, .inl f))) (ht : T[t0]? = some (cA, .int)) {i : Int32} {x : Int32} (hin : vp_in i n) (hk : i.toNatClampNeg = k) (hdg : decode cc pc = .ok (.iastore, 1))
    (kk : ∀ (H1 : Heap) (locs1 : List Loc), va_P D vwCl (cs.set q0 (a, .inl (cA, n, .inl (upd f k x)))) H1 → va_D A (cs.set q0 (a, .inl (cA, n, .inl (upd f k x)))) → va_S A H0 H1 locs1 → W p l e R s m args below meth c H1 locs1 cells slots Q (F0 m (pc + 1) ls rest)) : W p l e R s m args below meth c H locs cells slots Q (F0 m pc ls (.int x :: .int i :: .ref a :: rest)) := by
  subst hk
  exact va_iast hexec hb hK hP hD hS q0 t0 ha ht hin hdg kk
theorem gCast (hexec : p.tables.exec = Jvm.exec) (hb : c.code = cc) (hK : va_K D vwCl T s) (hP : va_P D vwCl cs H) (hD : va_D A cs) (hS : va_S A H0 H locs) (q0 t0 : Nat) {cA : ClassId} {n k : Nat} {f : Nat → Int32} (ha : cs[q0]? = some (a, .inl (cA, n, .inl f))) (ht : T[t0]? = some (cA, .char)) {i : Int32} {x : Int32} (hin : vp_in i n) (hk : i.toNatClampNeg = k) (hdg : decode cc pc = .ok (.castore, 1))
    (kk : ∀ (H1 : Heap) (locs1 : List Loc), va_P D vwCl (cs.set q0 (a, .inl (cA, n, .inl (upd f k (vp_nar .char x))))) H1 → va_D A (cs.set q0 (a, .inl (cA, n, .inl (upd f k (vp_nar .char x))))) → va_S A H0 H1 locs1 → W p l e R s m args below meth c H1 locs1 cells slots Q (F0 m (pc + 1) ls rest)) : W p l e R s m args below meth c H locs cells slots Q (F0 m pc ls (.int x :: .int i :: .ref a :: rest)) := by
  subst hk
  exact va_cast hexec hb hK hP hD hS q0 t0 ha ht hin hdg kk
end GC
theorem gout {x : Int32} (h : ¬ x = 0 ∧ ¬ x = 1 ∧ ¬ x = 2 ∧ ¬ x = 3) : x.toInt < 0 ∨ 3 < x.toInt := by
  obtain ⟨h0, h1, h2, h3⟩ := h
  have e : ∀ k : Int32, ¬ x = k → ¬ x.toInt = k.toInt := fun k hk q => hk (Int32.toInt_inj.mp q)
  have a0 := e 0 h0
  have a1 := e 1 h1
  have a2 := e 2 h2
  have a3 := e 3 h3
  rw [show (0 : Int32).toInt = 0 from by decide] at a0
  rw [show (1 : Int32).toInt = 1 from by decide] at a1
  rw [show (2 : Int32).toInt = 2 from by decide] at a2
  rw [show (3 : Int32).toInt = 3 from by decide] at a3
  omega
/-! the states of the objects, and their cells -/
/-- a board: rule, filled, pieces, present -/
abbrev SB : Type := Int32 × Int32 × Int32 × (Nat → Int32)
/-- a game: gift, winner, victories, board -/
abbrev SG : Type := Int32 × Int32 × (Nat → Int32) × SB
/-- a history: next, size, four games -/
abbrev SH : Type := Int32 × Int32 × SG × SG × SG × SG
/-- a text: length, characters -/
abbrev ST : Type := Int32 × (Nat → Int32)
/-- the whole object: hasSnapshot, game, trial, snapshot, history, text -/
abbrev SX : Type := Int32 × SG × SG × SG × SH × ST
/-- a game's addresses: game, board, present, victories -/
abbrev AG : Type := Nat × Nat × Nat × Nat
abbrev wB (kI : ClassId) (b pr : Nat) (u : SB) : va_W := [(b, .inr (0, [.int u.1, .int u.2.1, .int u.2.2.1, .ref pr])), (pr, .inl (kI, 4, .inl u.2.2.2))]
abbrev wG (kI : ClassId) (a : AG) (u : SG) : va_W := [(a.1, .inr (1, [.ref a.2.1, .int u.1, .int u.2.1, .ref a.2.2.2])), (a.2.2.2, .inl (kI, 2, .inl u.2.2.1)), (a.2.1, .inr (0, [.int u.2.2.2.1, .int u.2.2.2.2.1, .int u.2.2.2.2.2.1, .ref a.2.2.1])), (a.2.2.1, .inl (kI, 4, .inl u.2.2.2.2.2.2))]
/-- which game stands where in the history -/
def fH (a0 a1 a2 a3 : AG) : Nat → Option Nat := va_up (va_up (va_up (va_up (fun _ => none) 0 (some a0.1)) 1 (some a1.1)) 2 (some a2.1)) 3 (some a3.1)
abbrev wH (kI kG : ClassId) (h st : Nat) (a0 a1 a2 a3 : AG) (u : SH) : va_W := [(h, .inr (2, [.ref st, .int u.1, .int u.2.1])), (st, .inl (kG, 4, .inr (.inr (.inr (.inr (fH a0 a1 a2 a3))))))] ++ (wG kI a0 u.2.2.1 ++ (wG kI a1 u.2.2.2.1 ++ (wG kI a2 u.2.2.2.2.1 ++ wG kI a3 u.2.2.2.2.2)))
abbrev wT (kC : ClassId) (x ch : Nat) (u : ST) : va_W := [(x, .inr (3, [.ref ch, .int u.1])), (ch, .inl (kC, 60, .inl u.2))]
abbrev wX (kI kC kG : ClassId) (x : Nat) (ag at_ as_ : AG) (hh hst : Nat) (a0 a1 a2 a3 : AG) (tx tch : Nat) (u : SX) : va_W := (x, .inr (4, [.ref ag.1, .ref at_.1, .ref as_.1, .int u.1, .ref hh, .ref tx])) :: (wG kI ag u.2.1 ++ (wG kI at_ u.2.2.1 ++ (wG kI as_ u.2.2.2.1 ++ (wH kI kG hh hst a0 a1 a2 a3 u.2.2.2.2.1 ++ wT kC tx tch u.2.2.2.2.2))))
