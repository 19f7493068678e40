/-! throws: a throw, a call that may throw -/
theorem gXg0 : ∀ w ∈ Cond.classLink RX5 48 "java/lang/IllegalStateException" :: Cond.initialized "java/lang/IllegalStateException" :: vx_atS RX5 52 "java/lang/IllegalStateException" ["java/lang/RuntimeException", "java/lang/Exception"], vx_ot w = true := by decide +kernel
theorem gXg1 : ∀ w ∈ Cond.classLink RX5 168 "java/lang/IndexOutOfBoundsException" :: Cond.initialized "java/lang/IndexOutOfBoundsException" :: vx_atS RX5 172 "java/lang/IndexOutOfBoundsException" ["java/lang/RuntimeException", "java/lang/Exception"], vx_ot w = true := by decide +kernel
theorem gXg2 : ∀ w ∈ Cond.classLink RX5 77 "java/lang/IllegalArgumentException" :: Cond.initialized "java/lang/IllegalArgumentException" :: vx_atS RX5 81 "java/lang/IllegalArgumentException" ["java/lang/RuntimeException", "java/lang/Exception"], vx_ot w = true := by decide +kernel
theorem gXn0 : ∀ w ∈ (vx_atS RX5 52 "java/lang/IllegalStateException" ["java/lang/RuntimeException", "java/lang/Exception"]).filter (fun w => !goodWord w), w ∈ gNG := by decide +kernel
theorem gXn1 : ∀ w ∈ (vx_atS RX5 172 "java/lang/IndexOutOfBoundsException" ["java/lang/RuntimeException", "java/lang/Exception"]).filter (fun w => !goodWord w), w ∈ gNG := by decide +kernel
theorem gXn2 : ∀ w ∈ (vx_atS RX5 81 "java/lang/IllegalArgumentException" ["java/lang/RuntimeException", "java/lang/Exception"]).filter (fun w => !goodWord w), w ∈ gNG := by decide +kernel
theorem gXf : ∀ n ∈ ["java/lang/RuntimeException", "java/lang/Exception"], Bundle.fit n = true := by decide +kernel
section GCX
variable {p : Program} {l : Launch} {e : Env} {R : Room} {s : State} {m : MethodId} {args : Array Value} {below : List Frame} {meth : Method} {c : Code} {H : Heap} {locs : List Loc} {cells slots : Nat}
variable {D : va_G} {T : List (ClassId × FieldType)} {y : MethodName} {bytes cc : ByteArray} {maxL nL n index : Nat} {ret : Option FieldType} {ws : List Cond} {rm : Room} {Ts : List Cond} {own C : String} {b : Addr} {As rest st0 : List Value} {pc : Nat} {ls : Array Slot} {A : Nat → Prop}
variable {Qc : Array Value → State → Outcome → State → Prop} {SO : Type} {csO : SO → va_W} {XO : String → SO → Prop} {mcO msO : Nat}
/-- new E(text), thrown where it stands, caught by nobody here -/
theorem gThrow {cls text : String} {ik is ic : Nat} {cs : va_W} {uO : SO} (hx : p.tables.exec = Jvm.exec) (hb : c.code = cc) (hlt : l.stackTraces = false) (hown : s.vm.findClass RX5 = some m.cls) (hcls : Bundle.fit cls = true) (hk : (Cond.classLink RX5 ik cls).before args s = true) (hini : (Cond.initialized cls).before args s = true)
    (hgw : ∀ w ∈ (vx_atS RX5 ic cls ["java/lang/RuntimeException", "java/lang/Exception"]).filter goodWord, w.before args s = true) (hnw : ∀ w ∈ (vx_atS RX5 ic cls ["java/lang/RuntimeException", "java/lang/Exception"]).filter (fun w => !goodWord w), w ∈ gNG) (hgood : ∀ w ∈ Cond.classLink RX5 ik cls :: Cond.initialized cls :: vx_atS RX5 ic cls ["java/lang/RuntimeException", "java/lang/Exception"], vx_ot w = true) (htx : (is, text) ∈ gTx)
    (hK : va_K D vwCl T s) (hP : va_P D vwCl cs H) (hD : va_D A cs) (hE : gE A s s.heap) (hS : va_S A s.heap H locs) (hO : csO uO = cs) (hX : XO cls uO)
    (hsize : ls.size = c.maxLocals) (d0 : decode cc pc = .ok (.new ik, 3)) (d3 : decode cc (pc + 3) = .ok (.dup, 1)) (d4 : decode cc (pc + 4) = .ok (.ldc is, 2)) (d6 : decode cc (pc + 6) = .ok (.invokespecial ic, 3)) (d9 : decode cc (pc + 9) = .ok (.athrow, 1)) (hnx : ∀ x ∈ c.exceptionTable.toList, False)
    (hRframes : 5 < R.frames) (hRlocals : (rest.map fun v => v.category).sum + 82 ≤ R.locals) (hRcells : cells + 1 ≤ R.cells) (hRslots : slots + 6 ≤ R.slots) (hlocks : meth.locks = false) (hc : cells + 1 ≤ mcO) (hs : slots + 6 ≤ msO) :
    W p l e R s m args below meth c H locs cells slots (vx_MQ below Qc (gX D T csO A XO) args s mcO msO A) (F0 m pc ls rest) := by
  obtain ⟨-, hU, hN, htxt, hng⟩ := id hE
  obtain ⟨sa, hstr⟩ := htxt _ htx
  subst hO
  refine vx_throwS (A := A) (names := ["java/lang/RuntimeException", "java/lang/Exception"]) hx hb hlt hown hcls gXf hk hini hstr (vx_hat hgw hnw hng.use) hgood hU hN hS hsize d0 d3 d4 d6 d9 (fun x h => (hnx x h).elim) hRframes hRlocals hRcells hRslots hlocks ?_ hS.2.2 hc hs
  intro t hal hz hk
  refine ⟨uO, trivial, ⟨hX, ?_, va_K.moved hal hK, hD⟩, Nat.le_trans hS.1 hz, fun q h1 h2 => ?_⟩
  · exact hP.kept (fun k q hq => hk q.1 (vx_lt hP hq))
  · rw [hk q (Nat.lt_of_lt_of_le h1 hS.1)]
    exact hS.2.1 q h1 h2
/-- an instance method that may throw, and answers nothing; what it throws goes on -/
theorem gXVv {S : Type} {cs wc wr : va_W} {cs1 ws2 : S → va_W} {mc ms : Nat} {post : S → Prop} {X1 : String → S → Prop} (S0 : CallFix p m c cc nL s args Ts own) (hM : ∀ sz : Nat, vx_Met l y ws rm (gPw D T (.ref b :: As) wc sz) (va_Qv post (gB D T cs1 (va_A wc sz)) (va_A wc sz)) (gX D T cs1 (va_A wc sz) X1) mc ms (va_A wc sz)) (cw : CallW R s args own C index y bytes maxL ret ws rm mc ms n)
    (hK : va_K D vwCl T s) (hP : va_P D vwCl cs H) (hD : va_D A cs) (hE : gE A s s.heap) (hS : va_S A s.heap H locs) (hA : ∀ q, s.heap.size ≤ q → A q) (isC isR : List Nat) (hC : isC.map (fun i => cs[i]?) = wc.map some) (hnc : va_nd isC = true) (hR : isR.map (fun i => cs[i]?) = wr.map some) (hnr : va_nd isR = true) (hdis : ∀ i ∈ isR, i ∉ isC) (pm : List Nat) (hpn : va_nd pm = true) (hpm : ∀ u, pm.map (fun i => (wr ++ cs1 u)[i]?) = (ws2 u).map some)
    (f : S → SO) (hf2 : ∀ u, csO (f u) = ws2 u) (hXO : ∀ E u, X1 E u → XO E (f u)) (hnx : ∀ x ∈ c.exceptionTable.toList, False) (hlocks : meth.locks = false) (hc1 : cells + mc ≤ mcO) (hs1 : slots + ms ≤ msO)
    {ci q0 : Nat} {q : vw_C} {fs : List Value} (hc : vwCl[ci]? = some q) (hq : q.1 = C) (he : wc[q0]? = some (b, .inr (ci, fs)))
    (hn : As.length = n) (hsize : ls.size = nL) (hstack : st0 = As.reverse ++ .ref b :: rest) (hW : (rest.map fun v => v.category).sum ≤ 8) (hdg : decode cc pc = .ok (.invokevirtual index, 3)) (hf : cells + mc ≤ R.cells ∧ slots + ms ≤ R.slots)
    (kk : ∀ (u : S) (H1 : Heap) (locs1 : List Loc), post u → va_P D vwCl (ws2 u) H1 → va_D A (ws2 u) → va_S A s.heap H1 locs1 → W p l e R s m args below meth c H1 locs1 (cells + mc) (slots + ms) (vx_MQ below Qc (gX D T csO A XO) args s mcO msO A) (F0 m (pc + 3) ls rest)) : W p l e R s m args below meth c H locs cells slots (vx_MQ below Qc (gX D T csO A XO) args s mcO msO A) (F0 m pc ls st0) := by
  subst hq
  have hPU := gPw.of (av := .ref b :: As) hK hP hD hE hS hA isC hC hnc
  have hFc := va_free hD hS hA isC hC
  have hPc : va_P D vwCl wc H := by
    have hw : s.WarmedH s.vm := State.WarmedH.refl s
    obtain ⟨-, -, h, -⟩ := hPU ({ s with heap := H } : State) rfl hw
    exact h
  refine vx_callv (vx_runV (As := As) (rest := rest) (b := b) (g := F0 m pc ls st0) S0 (hM H.size) cw ⟨gPw.blind, va_recv hK hPc hc he, hPU⟩ rfl hn hsize hstack (lv_room hW) hdg hf) hS (fun q _ h => hFc q h) hFc (fun q _ h => hFc q h) ?_
    (fun u t H1 locs1 ht hvm hw hB hz1 hk1 hS1 => (gBack hP hD hS hA isC isR hC hR hnr hdis pm hpn hpm ht hB hk1).elim fun h1 h2 => kk u H1 locs1 hw h1 h2 hS1)
  intro E ce q9 u t H1 locs1 ht hvm _ hB hz1 hk1 hS1 hce hcv hcl
  obtain ⟨h1, h2⟩ := gBack hP hD hS hA isC isR hC hR hnr hdis pm hpn hpm ht hB.2 hk1
  exact vx_out (fun x h => (hnx x h).elim) hlocks hce hcv hcl (fun t' ht' hal => ⟨f u, trivial, ⟨hXO E u hB.1, by rw [hf2, ht']; exact h1, va_K.moved hal hK, by rw [hf2]; exact h2⟩, hS1.F ht'⟩) hS1.2.2 hc1 hs1
/-- the same of a static method -/
theorem gXSv {S : Type} {cs wc wr : va_W} {cs1 ws2 : S → va_W} {mc ms : Nat} {post : S → Prop} {X1 : String → S → Prop} (S0 : CallFix p m c cc nL s args Ts own) (hM : ∀ sz : Nat, vx_Met l y ws rm (gPw D T As wc sz) (va_Qv post (gB D T cs1 (va_A wc sz)) (va_A wc sz)) (gX D T cs1 (va_A wc sz) X1) mc ms (va_A wc sz)) (cw : CallB R s args own index y bytes maxL ret ws rm mc ms n ∧ (Cond.static y).before args s = true)
    (hK : va_K D vwCl T s) (hP : va_P D vwCl cs H) (hD : va_D A cs) (hE : gE A s s.heap) (hS : va_S A s.heap H locs) (hA : ∀ q, s.heap.size ≤ q → A q) (isC isR : List Nat) (hC : isC.map (fun i => cs[i]?) = wc.map some) (hnc : va_nd isC = true) (hR : isR.map (fun i => cs[i]?) = wr.map some) (hnr : va_nd isR = true) (hdis : ∀ i ∈ isR, i ∉ isC) (pm : List Nat) (hpn : va_nd pm = true) (hpm : ∀ u, pm.map (fun i => (wr ++ cs1 u)[i]?) = (ws2 u).map some)
    (f : S → SO) (hf2 : ∀ u, csO (f u) = ws2 u) (hXO : ∀ E u, X1 E u → XO E (f u)) (hnx : ∀ x ∈ c.exceptionTable.toList, False) (hlocks : meth.locks = false) (hc1 : cells + mc ≤ mcO) (hs1 : slots + ms ≤ msO)
    (hn : As.length = n) (hsize : ls.size = nL) (hstack : st0 = As.reverse ++ rest) (hW : (rest.map fun v => v.category).sum ≤ 8) (hdg : decode cc pc = .ok (.invokestatic index, 3)) (hf : cells + mc ≤ R.cells ∧ slots + ms ≤ R.slots)
    (kk : ∀ (u : S) (H1 : Heap) (locs1 : List Loc), post u → va_P D vwCl (ws2 u) H1 → va_D A (ws2 u) → va_S A s.heap H1 locs1 → W p l e R s m args below meth c H1 locs1 (cells + mc) (slots + ms) (vx_MQ below Qc (gX D T csO A XO) args s mcO msO A) (F0 m (pc + 3) ls rest)) : W p l e R s m args below meth c H locs cells slots (vx_MQ below Qc (gX D T csO A XO) args s mcO msO A) (F0 m pc ls st0) := by
  have hPU := gPw.of (av := As) hK hP hD hE hS hA isC hC hnc
  have hFc := va_free hD hS hA isC hC
  refine vx_callv (vx_runS (As := As) (rest := rest) (g := F0 m pc ls st0) S0 (hM H.size) cw ⟨gPw.blind, hPU⟩ rfl hn hsize hstack (lv_room hW) hdg hf) hS (fun q _ h => hFc q h) hFc (fun q _ h => hFc q h) ?_
    (fun u t H1 locs1 ht hvm hw hB hz1 hk1 hS1 => (gBack hP hD hS hA isC isR hC hR hnr hdis pm hpn hpm ht hB hk1).elim fun h1 h2 => kk u H1 locs1 hw h1 h2 hS1)
  intro E ce q9 u t H1 locs1 ht hvm _ hB hz1 hk1 hS1 hce hcv hcl
  obtain ⟨h1, h2⟩ := gBack hP hD hS hA isC isR hC hR hnr hdis pm hpn hpm ht hB.2 hk1
  exact vx_out (fun x h => (hnx x h).elim) hlocks hce hcv hcl (fun t' ht' hal => ⟨f u, trivial, ⟨hXO E u hB.1, by rw [hf2, ht']; exact h1, va_K.moved hal hK, by rw [hf2]; exact h2⟩, hS1.F ht'⟩) hS1.2.2 hc1 hs1
end GCX
