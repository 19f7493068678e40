/-! making: arrays and objects, the call of a constructor -/
section GCI
variable {p : Program} {l : Launch} {e : Env} {R : Room} {s : State} {m : MethodId} {args : Array Value} {below : List Frame} {meth : Method} {c : Code} {H : Heap} {locs : List Loc} {cells slots : Nat} {Q : State → Prop}
variable {D : va_G} {T : List (ClassId × FieldType)} {y : MethodName} {bytes cc : ByteArray} {maxL nL n index : Nat} {ret : Option FieldType} {ws : List Cond} {rm : Room} {Ts : List Cond} {own C : String} {b : Addr} {As rest st0 : List Value} {pc : Nat} {ls : Array Slot} {A : Nat → Prop}
variable {kI kC kG kJ : ClassId} {cs : va_W} {H0 : Heap}
theorem gNewI (hx : p.tables.exec = Jvm.exec) (hb : c.code = cc) (harr : (Cond.arrayClass .int).before args s = true) (hK : va_K D vwCl (gT kI kC kG kJ) s) (hP : va_P D vwCl cs H) (hD : va_D A cs) (hS : va_S A H0 H locs) (hA : ∀ q, H0.size ≤ q → A q) {k : Int32} (N : Nat) (hn : ¬ k < 0) (hN : k.toNatClampNeg = N) (hbytes : N * componentBytes .int ≤ 536870912) (hcells : cells + 1 ≤ R.cells) (hslots : slots + N ≤ R.slots) (hdg : decode cc pc = .ok (.newarray .int, 2))
    (kk : ∀ (q : Nat) (H1 : Heap), va_P D vwCl (cs ++ [(q, .inl (kI, N, .inl (fun _ => 0)))]) H1 → va_D A (cs ++ [(q, .inl (kI, N, .inl (fun _ => 0)))]) → va_S A H0 H1 locs → W p l e R s m args below meth c H1 locs (cells + 1) (slots + N) Q (F0 m (pc + 2) ls (.ref q :: rest))) : W p l e R s m args below meth c H locs cells slots Q (F0 m pc ls (.int k :: rest)) := by
  refine va_newa (atype := .int) (ty := .int) (a0 := (N, .inl (fun _ => 0))) hx hb harr rfl hK hP hD hS hA (fun cA => by rw [vp_cell_i]; rfl) hn hN hbytes hcells hslots hdg (fun q cA H1 hK1 hP1 hD1 hS1 => ?_)
  have e1 : va_RA s cA .int := (hK1.2 3 (cA, .int) rfl).2
  have e2 : va_RA s kI .int := (hK.2 0 (kI, .int) rfl).2
  have e3 : cA = kI := Option.some.inj (e1.symm.trans e2)
  subst e3
  exact kk q H1 hP1 hD1 hS1
theorem gNewC (hx : p.tables.exec = Jvm.exec) (hb : c.code = cc) (harr : (Cond.arrayClass .char).before args s = true) (hK : va_K D vwCl (gT kI kC kG kJ) s) (hP : va_P D vwCl cs H) (hD : va_D A cs) (hS : va_S A H0 H locs) (hA : ∀ q, H0.size ≤ q → A q) {k : Int32} (N : Nat) (hn : ¬ k < 0) (hN : k.toNatClampNeg = N) (hbytes : N * componentBytes .char ≤ 536870912) (hcells : cells + 1 ≤ R.cells) (hslots : slots + N ≤ R.slots) (hdg : decode cc pc = .ok (.newarray .char, 2))
    (kk : ∀ (q : Nat) (H1 : Heap), va_P D vwCl (cs ++ [(q, .inl (kC, N, .inl (fun _ => 0)))]) H1 → va_D A (cs ++ [(q, .inl (kC, N, .inl (fun _ => 0)))]) → va_S A H0 H1 locs → W p l e R s m args below meth c H1 locs (cells + 1) (slots + N) Q (F0 m (pc + 2) ls (.ref q :: rest))) : W p l e R s m args below meth c H locs cells slots Q (F0 m pc ls (.int k :: rest)) := by
  refine va_newa (atype := .char) (ty := .char) (a0 := (N, .inl (fun _ => 0))) hx hb harr rfl hK hP hD hS hA (fun cA => by rw [vp_cell_i]; rfl) hn hN hbytes hcells hslots hdg (fun q cA H1 hK1 hP1 hD1 hS1 => ?_)
  have e1 : va_RA s cA .char := (hK1.2 3 (cA, .char) rfl).2
  have e2 : va_RA s kC .char := (hK.2 1 (kC, .char) rfl).2
  have e3 : cA = kC := Option.some.inj (e1.symm.trans e2)
  subst e3
  exact kk q H1 hP1 hD1 hS1
theorem gNewG (hx : p.tables.exec = Jvm.exec) (hb : c.code = cc) {index : Nat} (hown : s.vm.findClass own = some m.cls) (hcl : (Cond.classLink own index "HazelGift$Game").before args s = true) (hov : va_AO "HazelGift$Game" s) (hK : va_K D vwCl (gT kI kC kG kJ) s) (hP : va_P D vwCl cs H) (hD : va_D A cs) (hS : va_S A H0 H locs) (hA : ∀ q, H0.size ≤ q → A q) {k : Int32} (N : Nat) (hn : ¬ k < 0) (hN : k.toNatClampNeg = N) (hbytes : N * 4 ≤ 536870912) (hcells : cells + 1 ≤ R.cells) (hslots : slots + N ≤ R.slots) (hdg : decode cc pc = .ok (.anewarray index, 3))
    (kk : ∀ (q : Nat) (H1 : Heap), va_P D vwCl (cs ++ [(q, .inl (kG, N, .inr (.inr (.inr (.inr (fun _ => none))))))]) H1 → va_D A (cs ++ [(q, .inl (kG, N, .inr (.inr (.inr (.inr (fun _ => none))))))]) → va_S A H0 H1 locs → W p l e R s m args below meth c H1 locs (cells + 1) (slots + N) Q (F0 m (pc + 3) ls (.ref q :: rest))) : W p l e R s m args below meth c H locs cells slots Q (F0 m pc ls (.int k :: rest)) := by
  refine va_newq hx hb hown hcl hov hK hP hD hS hA hn hN hbytes hcells hslots hdg (fun q cA H1 hK1 hP1 hD1 hS1 => ?_)
  obtain ⟨k1, c1, -, -, -, e1⟩ := (hK1.2 3 (cA, .object "HazelGift$Game") rfl).2
  obtain ⟨k2, c2, -, -, -, e2⟩ := (hK.2 2 (kG, .object "HazelGift$Game") rfl).2
  have e3 : cA = kG := Option.some.inj (e1.symm.trans e2)
  subst e3
  exact kk q H1 hP1 hD1 hS1
/-- the call of a constructor -/
theorem gIv {S : Type} {wc wr : va_W} {cs1 ws2 : S → va_W} {mc ms : Nat} {post : S → Prop} (S0 : CallFix p m c cc nL s args Ts own) (hM : ∀ sz : Nat, Met l y ws rm (gPw D T (.ref b :: As) wc sz) (va_Qv post (gB D T cs1 (va_A wc sz)) (va_A wc sz)) mc ms (va_A wc sz)) (cw : CallB R s args own index y bytes maxL none ws rm mc ms n ∧ y.name = "<init>" ∧ (Cond.instanceMethod y).before args s = true)
    (hK : va_K D vwCl T s) (hP : va_P D vwCl cs H) (hD : va_D A cs) (hE : gE A s s.heap) (hS : va_S A s.heap H locs) (hA : ∀ q, s.heap.size ≤ q → A q) (isC isR : List Nat) (hC : isC.map (fun i => cs[i]?) = wc.map some) (hnc : va_nd isC = true) (hR : isR.map (fun i => cs[i]?) = wr.map some) (hnr : va_nd isR = true) (hdis : ∀ i ∈ isR, i ∉ isC) (pm : List Nat) (hpn : va_nd pm = true) (hpm : ∀ u, pm.map (fun i => (wr ++ cs1 u)[i]?) = (ws2 u).map some)
    (hn : As.length = n) (hsize : ls.size = nL) (hstack : st0 = As.reverse ++ .ref b :: rest) (hW : (rest.map fun v => v.category).sum ≤ 8) (hdg : decode cc pc = .ok (.invokespecial index, 3)) (hf : cells + mc ≤ R.cells ∧ slots + ms ≤ R.slots)
    (kk : ∀ (u : S) (H1 : Heap) (locs1 : List Loc), post u → va_P D vwCl (ws2 u) H1 → va_D A (ws2 u) → va_S A s.heap H1 locs1 → W p l e R s m args below meth c H1 locs1 (cells + mc) (slots + ms) Q (F0 m (pc + 3) ls rest)) : W p l e R s m args below meth c H locs cells slots Q (F0 m pc ls st0) := by
  have hPU := gPw.of (av := .ref b :: As) hK hP hD hE hS hA isC hC hnc
  have hFc := va_free hD hS hA isC hC
  exact va_callv (va_runI (As := As) (rest := rest) (b := b) (g := F0 m pc ls st0) S0 (hM H.size) cw ⟨gPw.blind, hPU⟩ rfl hn hsize hstack (lv_room hW) hdg hf) hS (fun q _ h => hFc q h) hFc
    (fun u t H1 locs1 ht hvm hw hB hz1 hk1 hS1 => (gBack hP hD hS hA isC isR hC hR hnr hdis pm hpn hpm ht hB hk1).elim fun h1 h2 => kk u H1 locs1 hw h1 h2 hS1)
end GCI
/-! the states at first -/
def iB : SB := (0, 0, 0, fun _ => 0)
def iG : SG := (-1, -1, fun _ => 0, iB)
def iH : SH := (0, 0, iG, iG, iG, iG)
def iT : ST := (0, fun _ => 0)
def iX : SX := (0, iG, iG, iG, iH, iT)
