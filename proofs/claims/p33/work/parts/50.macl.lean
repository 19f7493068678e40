/-! the law's methods: a table of handlers, the row of longs -/
theorem gOfWH {l : Launch} {y : MethodName} {ws ws' : List Cond} {rm : Room} {Pc : Array Value → State → Prop} {Qc : Array Value → State → Outcome → State → Prop} {mc ms : Nat} {free : Addr → Prop} {cc : ByteArray} {maxL : Nat} {ret : Option FieldType} {hh : List (Nat × Nat × Nat × Nat)}
    (hy : plainName y.cls = true) (hw : ws = Cond.codeWith y cc maxL ret hh :: ws')
    (body : ∀ p e s m args below meth c s₁, BodyLoose p l y (headSpec ws rm) cc maxL ret e s m args below meth c s₁ → c.maxLocals = maxL → Pc args s →
      W p l e (headSpec ws rm).room s m args below meth c s.heap [] 0 0 (MQ below Qc args s mc ms free) (entryFrame m args maxL)) : Met l y ws rm Pc Qc mc ms free := by
  refine MetFree.of_bodyS (code := cc) (maxLocals := maxL) (ret := ret) hy ?_ ?_
  · intro args s m h hn
    obtain ⟨m9, meth, c, hn9, h1, h2, h3, h4, -, h5, h6, -⟩ := Cond.codeWith_spec (atoms_spec (ws := ws) h _ (by rw [hw]; exact List.mem_cons_self))
    cases hn.symm.trans hn9
    exact ⟨meth, c, h1, h2, h3, h4, h5, h6⟩
  · intro p e s m args below meth c s₁ B hml hP _
    have hh0 : s₁.heap = s.heap := by rw [B.state]; rfl
    obtain ⟨t, a1, o, b1, b2, b3⟩ := body p e s m args below meth c s₁ B hml hP s₁ hh0 (Stand.of_body B)
    exact ⟨t, o, a1, b1, b2, ⟨b3.1, b3.2⟩⟩
section GCL
variable {p : Program} {l : Launch} {e : Env} {R : Room} {s : State} {m : MethodId} {args : Array Value} {below : List Frame} {meth : Method} {c : Code} {H : Heap} {locs : List Loc} {cells slots : Nat} {Q : State → Prop}
variable {D : va_G} {T : List (ClassId × FieldType)} {y : MethodName} {bytes cc : ByteArray} {maxL nL n index : Nat} {ret : Option FieldType} {ws : List Cond} {rm : Room} {Ts : List Cond} {own C : String} {b : Addr} {As rest st0 : List Value} {pc : Nat} {ls : Array Slot} {A : Nat → Prop}
/-- an instance method that answers an int or throws: both go on -/
theorem gCVi {S : Type} {cs wc wr : va_W} {cs1 ws2 : S → va_W} {mc ms : Nat} {post : Int32 → S → Prop} {X1 : String → S → Prop} (S0 : CallFix p m c cc nL s args Ts own) (hM : ∀ sz : Nat, vx_Met l y ws rm (gPw D T (.ref b :: As) wc sz) (va_Qi post (gB D T cs1 (va_A wc sz)) (va_A wc sz)) (gX D T cs1 (va_A wc sz) X1) mc ms (va_A wc sz)) (cw : CallW R s args own C index y bytes maxL ret ws rm mc ms n)
    (hK : va_K D vwCl T s) (hP : va_P D vwCl cs H) (hD : va_D A cs) (hE : gE A s s.heap) (hS : va_S A s.heap H locs) (hA : ∀ q, s.heap.size ≤ q → A q) (isC isR : List Nat) (hC : isC.map (fun i => cs[i]?) = wc.map some) (hnc : va_nd isC = true) (hR : isR.map (fun i => cs[i]?) = wr.map some) (hnr : va_nd isR = true) (hdis : ∀ i ∈ isR, i ∉ isC) (pm : List Nat) (hpn : va_nd pm = true) (hpm : ∀ u, pm.map (fun i => (wr ++ cs1 u)[i]?) = (ws2 u).map some)
    {ci q0 : Nat} {q : vw_C} {fs : List Value} (hc : vwCl[ci]? = some q) (hq : q.1 = C) (he : wc[q0]? = some (b, .inr (ci, fs)))
    (hn : As.length = n) (hsize : ls.size = nL) (hstack : st0 = As.reverse ++ .ref b :: rest) (hW : (rest.map fun v => v.category).sum ≤ 8) (hdg : decode cc pc = .ok (.invokevirtual index, 3)) (hf : cells + mc ≤ R.cells ∧ slots + ms ≤ R.slots)
    (kx : ∀ (E : String) (ce : Cell) (q9 : Addr) (u : S) (H1 : Heap) (locs1 : List Loc), X1 E u → va_P D vwCl (ws2 u) H1 → va_D A (ws2 u) → va_S A s.heap H1 locs1 → H1[q9]? = some ce → ce.vm = .none → s.vm.findClass E = some ce.cls → vx_W p l e R s m args below meth c H1 locs1 (cells + mc) (slots + ms) Q (F0 m pc ls rest) q9)
    (kk : ∀ (r : Int32) (u : S) (H1 : Heap) (locs1 : List Loc), post r u → va_P D vwCl (ws2 u) H1 → va_D A (ws2 u) → va_S A s.heap H1 locs1 → W p l e R s m args below meth c H1 locs1 (cells + mc) (slots + ms) Q (F0 m (pc + 3) ls (.int r :: rest))) : W p l e R s m args below meth c H locs cells slots Q (F0 m pc ls st0) := by
  subst hq
  have hPU := gPw.of (av := .ref b :: As) hK hP hD hE hS hA isC hC hnc
  have hFc := va_free hD hS hA isC hC
  have hPc : va_P D vwCl wc H := by
    have hw : s.WarmedH s.vm := State.WarmedH.refl s
    obtain ⟨-, -, h, -⟩ := hPU ({ s with heap := H } : State) rfl hw
    exact h
  refine vx_calli (vx_runV (As := As) (rest := rest) (b := b) (g := F0 m pc ls st0) S0 (hM H.size) cw ⟨gPw.blind, va_recv hK hPc hc he, hPU⟩ rfl hn hsize hstack (lv_room hW) hdg hf) hS (fun q _ h => hFc q h) hFc (fun q _ h => hFc q h) ?_
    (fun r u t H1 locs1 ht hvm hw hB hz1 hk1 hS1 => (gBack hP hD hS hA isC isR hC hR hnr hdis pm hpn hpm ht hB hk1).elim fun h1 h2 => kk r u H1 locs1 hw h1 h2 hS1)
  intro E ce q9 u t H1 locs1 ht hvm _ hB hz1 hk1 hS1 hce hcv hcl
  obtain ⟨h1, h2⟩ := gBack hP hD hS hA isC isR hC hR hnr hdis pm hpn hpm ht hB.2 hk1
  exact kx E ce q9 u H1 locs1 hB.1 h1 h2 hS1 hce hcv hcl
/-- a static writer that answers nothing -/
theorem gWSv {S : Type} {cs wc wr : va_W} {cs1 ws2 : S → va_W} {mc ms : Nat} {post : S → Prop} (S0 : CallFix p m c cc nL s args Ts own) (hM : ∀ sz : Nat, Met l y ws rm (gPw D T As wc sz) (va_Qv post (gB D T cs1 (va_A wc sz)) (va_A wc sz)) mc ms (va_A wc sz)) (cw : CallB R s args own index y bytes maxL ret ws rm mc ms n ∧ (Cond.static y).before args s = true)
    (hK : va_K D vwCl T s) (hP : va_P D vwCl cs H) (hD : va_D A cs) (hE : gE A s s.heap) (hS : va_S A s.heap H locs) (hA : ∀ q, s.heap.size ≤ q → A q) (isC isR : List Nat) (hC : isC.map (fun i => cs[i]?) = wc.map some) (hnc : va_nd isC = true) (hR : isR.map (fun i => cs[i]?) = wr.map some) (hnr : va_nd isR = true) (hdis : ∀ i ∈ isR, i ∉ isC) (pm : List Nat) (hpn : va_nd pm = true) (hpm : ∀ u, pm.map (fun i => (wr ++ cs1 u)[i]?) = (ws2 u).map some)
    (hn : As.length = n) (hsize : ls.size = nL) (hstack : st0 = As.reverse ++ rest) (hW : (rest.map fun v => v.category).sum ≤ 8) (hdg : decode cc pc = .ok (.invokestatic index, 3)) (hf : cells + mc ≤ R.cells ∧ slots + ms ≤ R.slots)
    (kk : ∀ (u : S) (H1 : Heap) (locs1 : List Loc), post u → va_P D vwCl (ws2 u) H1 → va_D A (ws2 u) → va_S A s.heap H1 locs1 → W p l e R s m args below meth c H1 locs1 (cells + mc) (slots + ms) Q (F0 m (pc + 3) ls rest)) : W p l e R s m args below meth c H locs cells slots Q (F0 m pc ls st0) := by
  have hPU := gPw.of (av := As) hK hP hD hE hS hA isC hC hnc
  have hFc := va_free hD hS hA isC hC
  exact va_callv (va_runS (As := As) (rest := rest) (g := F0 m pc ls st0) S0 (hM H.size) cw ⟨gPw.blind, hPU⟩ rfl hn hsize hstack (lv_room hW) hdg hf) hS (fun q _ h => hFc q h) hFc
    (fun u t H1 locs1 ht hvm hw hB hz1 hk1 hS1 => (gBack hP hD hS hA isC isR hC hR hnr hdis pm hpn hpm ht hB hk1).elim fun h1 h2 => kk u H1 locs1 hw h1 h2 hS1)
/-- a static method with a table of its own that answers an int -/
theorem gLSi {S : Type} {cs wc wr : va_W} {cs1 ws2 : S → va_W} {mc ms : Nat} {hh : List (Nat × Nat × Nat × Nat)} {post : Int32 → S → Prop} (S0 : CallFix p m c cc nL s args Ts own) (hM : ∀ sz : Nat, Met l y ws rm (gPw D T As wc sz) (va_Qi post (gB D T cs1 (va_A wc sz)) (va_A wc sz)) mc ms (va_A wc sz)) (cw : vx_CSW R s args own index y bytes maxL ret hh ws rm mc ms n)
    (hK : va_K D vwCl T s) (hP : va_P D vwCl cs H) (hD : va_D A cs) (hE : gE A s s.heap) (hS : va_S A s.heap H locs) (hA : ∀ q, s.heap.size ≤ q → A q) (isC isR : List Nat) (hC : isC.map (fun i => cs[i]?) = wc.map some) (hnc : va_nd isC = true) (hR : isR.map (fun i => cs[i]?) = wr.map some) (hnr : va_nd isR = true) (hdis : ∀ i ∈ isR, i ∉ isC) (pm : List Nat) (hpn : va_nd pm = true) (hpm : ∀ u, pm.map (fun i => (wr ++ cs1 u)[i]?) = (ws2 u).map some)
    (hn : As.length = n) (hsize : ls.size = nL) (hstack : st0 = As.reverse ++ rest) (hW : (rest.map fun v => v.category).sum ≤ 8) (hdg : decode cc pc = .ok (.invokestatic index, 3)) (hf : cells + mc ≤ R.cells ∧ slots + ms ≤ R.slots)
    (kk : ∀ (r : Int32) (u : S) (H1 : Heap) (locs1 : List Loc), post r u → va_P D vwCl (ws2 u) H1 → va_D A (ws2 u) → va_S A s.heap H1 locs1 → W p l e R s m args below meth c H1 locs1 (cells + mc) (slots + ms) Q (F0 m (pc + 3) ls (.int r :: rest))) : W p l e R s m args below meth c H locs cells slots Q (F0 m pc ls st0) := by
  have hPU := gPw.of (av := As) hK hP hD hE hS hA isC hC hnc
  have hFc := va_free hD hS hA isC hC
  exact va_calli (vx_runSW (As := As) (rest := rest) (g := F0 m pc ls st0) S0 (hM H.size) cw ⟨gPw.blind, hPU⟩ rfl hn hsize hstack (lv_room hW) hdg hf) hS (fun q _ h => hFc q h) hFc
    (fun r u t H1 locs1 ht hvm hw hB hz1 hk1 hS1 => (gBack hP hD hS hA isC isR hC hR hnr hdis pm hpn hpm ht hB hk1).elim fun h1 h2 => kk r u H1 locs1 hw h1 h2 hS1)
variable {cs : va_W} {a : Nat} {H0 : Heap}
theorem gr1 {k n : Nat} (h : k ≤ 681941 ∧ n ≤ 7054864) : k ≤ room_1.cells ∧ n ≤ room_1.slots := h
theorem goutN {x : Int32} (n : Nat) (hn : n < 2 ^ 31) (h : ∀ j, j < n → ¬ x = nI j) : x.toInt < 0 ∨ (n : Int) - 1 < x.toInt := by
  rcases Int.lt_or_le x.toInt 0 with q | q
  · exact Or.inl q
  · refine Or.inr ?_
    obtain ⟨j, hj, rfl⟩ := nI_of (x := x) (fun hlt => by
      have := Int32.lt_iff_toInt_lt.mp hlt
      rw [Int32.toInt_zero] at this
      omega)
    rcases Nat.lt_or_ge j n with z | z
    · exact absurd rfl (h j z)
    · rw [nI_toInt hj]
      omega
end GCL
