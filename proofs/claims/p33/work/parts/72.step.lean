/-! the two games between two calls -/
def OW (q : PG) : Prop := OG q ∧ (q.2.2.2.1 ≠ 0 → hw q.1 q.2.2.1 = true ∧ q.2.2.2.1 = ct q.1 % 2 + 1)
theorem OW_gv {p : Nat} {q : PG} (ho : OW q) (hp4 : p < 16) (h : cg p q = true) : OW (gv p q) := ⟨OG_gv ho.1 hp4 h, ho.2⟩
theorem cp_e {q : PG} {c : Nat} (h : cp c q = true) : q.1 c = 0 := by
  unfold cp at h
  rw [Bool.and_eq_true, beq_iff_eq] at h
  exact h.2
theorem ct_gift {q : PG} {c : Nat} (hc : c < 16) (h : cp c q = true) : ct (fu q.1 c q.2.1) = ct q.1 + 1 := by
  have hg := cp_g h
  have h1 := ct_put (p := q.2.1 - 1) hc (cp_e h)
  rw [show q.2.1 - 1 + 1 = q.2.1 by omega] at h1
  exact h1
theorem OW_pt {c : Nat} {q : PG} (ho : OW q) (hc : c < 16) (h : cp c q = true) : OW (pt c q) := by
  refine ⟨OG_pt ho.1 hc h, fun z => ?_⟩
  have z : (if pw c q then mvN q + 1 else 0) ≠ 0 := z
  have e : pw c q = true := by
    cases y : pw c q
    · rw [y] at z
      exact absurd rfl z
    · rfl
  refine ⟨e, ?_⟩
  show (if pw c q then mvN q + 1 else 0) = ct (fu q.1 c q.2.1) % 2 + 1
  rw [ct_gift hc h, e, if_pos rfl]
  unfold mvN
  rw [if_neg (cp_g h)]
  omega
theorem OW_ng {r : Nat} (hr : r ≤ 1) (q : PG) : OW (ng r q) := ⟨OG_ng hr q, fun z => absurd rfl z⟩
theorem OW_psh {q : PG} {L : Nat → PG} {n : Nat} (h : OW q) (hL : ∀ j, j < n → OW (L j)) : ∀ j, j < min (n + 1) 4 → OW (psh q L j)
  | 0, _ => h
  | j + 1, hj => hL j (by omega)
theorem psh_mg (q : PG) (L : Nat → PG) : psh (mg q) (fun j => mg (L j)) = fun j => mg (psh q L j) := funext fun j => by
  cases j with
  | zero => rfl
  | succ j => rfl
def KK (u w : SX) : Prop := ∃ hs q qs L n, RX u hs q qs L n ∧ RX w hs (mg q) (mg qs) (fun j => mg (L j)) n ∧ OW q ∧ (∀ j, j < n → OW (L j)) ∧ (hs ≠ 0 → OW qs)
theorem oI_c (p : Nat → Bool) : oI (fU p 16 0) = -1 ∨ ∃ i, i < 16 ∧ p i = true ∧ fU p 16 0 = some i ∧ oI (fU p 16 0) = nI i := by
  cases e : fU p 16 0 with
  | none => exact Or.inl rfl
  | some i =>
    have := fU_lt 16 0 i e
    exact Or.inr ⟨i, by omega, this.2.2, rfl, rfl⟩
theorem oI_hp {b : Nat → Nat} {p : Nat} (h : hp b p = true) : ¬ oI (fU (fun k => b k == p + 1) 16 0) < 0 := by
  rcases oI_c (fun k => b k == p + 1) with e | ⟨i, hi, _, _, e⟩
  · rw [cell_hp.mp e] at h
    cases h
  · rw [e]
    exact nI_pos (by omega)
theorem oI_no {b : Nat → Nat} {p : Nat} (h : hp b p = false) : oI (fU (fun k => b k == p + 1) 16 0) = -1 := cell_hp.mpr h
theorem fU_le {p : Nat → Bool} : ∀ k j i, j ≤ i → i < j + k → p i = true → ∃ i', fU p k j = some i' ∧ i' ≤ i
  | 0, j, i, h1, h2, _ => absurd h2 (by omega)
  | k + 1, j, i, h1, h2, h3 => by
    rw [fU]
    cases e : p j
    · rw [if_neg (by decide)]
      have : i ≠ j := fun z => by rw [z, e] at h3; cases h3
      exact fU_le k (j + 1) i (by omega) (by omega) h3
    · rw [if_pos rfl]
      exact ⟨j, rfl, h1⟩
theorem fU_one {p : Nat → Bool} {c : Nat} (hc : c < 16) (h1 : p c = true) (h2 : ∀ i, i < 16 → p i = true → i = c) : fU p 16 0 = some c := by
  obtain ⟨i, e, hi⟩ := fU_le (p := p) 16 0 c (by omega) (by omega) h1
  have h3 := fU_lt 16 0 i e
  rw [e, h2 i (by omega) h3.2.2]
theorem nn_le {i : Nat} (hi : i < 2 ^ 31) : (0 : Int32) ≤ nI i := nI_pos' hi
theorem pm_p {x : Nat} (h : x ≠ 0) : pm x = nI (x - 1) := by
  obtain ⟨y, rfl⟩ : ∃ y, x = y + 1 := ⟨x - 1, by omega⟩
  rw [pm_s]
  rfl
theorem mvI_le {q : PG} (h : ov q = false) {k : Nat} (hk : 2 ≤ k) (hk2 : k < 2 ^ 31) : ¬ mvI q = nI k := by
  have hm := mvN_le q
  rw [mvI_n h, nI_eq (by omega) hk2]
  omega
theorem rem16 (k a : Nat) (hk : k < 1000) (ha : a < 1000) : (nI k + nI a) - (nI k + nI a) / 16 * 16 = nI ((k + a) % 16) := by
  rw [nI_add]
  exact pk_rem (d := 16) (by omega) (by omega) (by omega)
section Step
variable {u w : SX} {hs : Int32} {q qs : PG} {L : Nat → PG} {n : Nat}
/-- the loop that seeks a piece to give -/
theorem loop241 (hu : RX u hs q qs L n) (ho : OG q) {Z : Int32 → SX × SX → Prop} (v4 v8 v10 : Int32) (H : ∀ k, k < 16 → ∃ n9, pL_isStep_298 Z n9 (nI k) v8 u w) : ∀ d j k, j + d = 16 → k < 16 → ∃ n9, pL_isStep_241 Z v4 v8 v10 n9 (nI k) (nI j) u w
  | 0, j, k, hj, hk => ⟨1, by
    rw [pL_isStep_241]
    exact ifp ((ile 16 (k := 16) rfl (by omega) (by omega)).mpr (by omega)) (H k hk)⟩
  | d + 1, j, k, hj, hk => by
    obtain ⟨n', hn'⟩ := loop241 hu ho v4 v8 v10 H d (j + 1) ((k + 7) % 16) (by omega) (by omega)
    have J : ∃ n9, pL_isStep_282 Z (pL_isStep_241 Z v4 v8 v10 n') v4 v8 v10 n9 (nI k) (nI j) u w := ⟨1, by
      rw [pL_isStep_282]
      intro x1 e1 x2 e2
      have e3 : x1 = nI ((k + 7) % 16) := e1.trans (rem16 k 7 (by omega) (by omega))
      rw [e3, e2, nI_1]
      exact hn'⟩
    refine ⟨n' + 1, ?_⟩
    rw [pL_isStep_241]
    refine ifn (mt (ile 16 (k := 16) rfl (by omega) (by omega)).mp (by omega)) (s_up v4 (k := 6) (by omega) (by omega) fun t _ => ?_)
    by_cases c1 : nI t ≤ 0
    · exact ifp c1 (H k hk)
    · refine ifn c1 (s_cellOf hu ho hk ?_)
      by_cases c2 : (0 : Int32) ≤ oI (fU (fun i => q.1 i == k + 1) 16 0)
      · exact ifp c2 J
      · refine ifn c2 ?_
        by_cases c3 : v10 ≤ 0
        · exact ifp c3 (H k hk)
        · refine ifn c3 ?_
          by_cases c4 : ((v10 >>> (nI k &&& 31)) &&& 1) = 0
          · exact ifp c4 J
          · exact ifn c4 (H k hk)
/-- the loop that seeks a cell -/
theorem loop399 (hu : RX u hs q qs L n) (ho : OG q) {Z : Int32 → SX × SX → Prop} (v4 v6 v7 v8 v10 : Int32) (H : ∀ k, k < 16 → ∃ n9, pL_isStep_463 Z n9 (nI k) v6 v7 v8 v10 u w) : ∀ d j k, j + d = 16 → k < 16 → ∃ n9, pL_isStep_399 Z v4 v6 v7 v8 v10 n9 (nI k) (nI j) u w
  | 0, j, k, hj, hk => ⟨1, by
    rw [pL_isStep_399]
    exact ifp ((ile 16 (k := 16) rfl (by omega) (by omega)).mpr (by omega)) (H k hk)⟩
  | d + 1, j, k, hj, hk => by
    obtain ⟨n', hn'⟩ := loop399 hu ho v4 v6 v7 v8 v10 H d (j + 1) ((k + 5) % 16) (by omega) (by omega)
    have J : ∃ n9, pL_isStep_448 Z (pL_isStep_399 Z v4 v6 v7 v8 v10 n') v4 v6 v7 v8 v10 n9 (nI k) (nI j) u w := ⟨1, by
      rw [pL_isStep_448]
      intro x1 e1 x2 e2
      have e3 : x1 = nI ((k + 5) % 16) := e1.trans (rem16 k 5 (by omega) (by omega))
      rw [e3, e2, nI_1]
      exact hn'⟩
    refine ⟨n' + 1, ?_⟩
    rw [pL_isStep_399]
    refine ifn (mt (ile 16 (k := 16) rfl (by omega) (by omega)).mp (by omega)) (s_up v4 (k := 9) (by omega) (by omega) fun t _ => ?_)
    by_cases c1 : nI t ≤ 0
    · exact ifp c1 (H k hk)
    · refine ifn c1 (s_pieceOn hu ho hk ?_)
      by_cases c2 : (0 : Int32) ≤ pm (q.1 k)
      · exact ifp c2 J
      · refine ifn c2 (s_up v4 (k := 4) (by omega) (by omega) fun t2 _ => ?_)
        by_cases c3 : nI t2 ≤ 0
        · exact ifp c3 (H k hk)
        · refine ifn c3 ?_
          by_cases c4 : nI k = v10
          · refine ifp c4 ?_
            by_cases c5 : (15 : Int32) ≤ v6
            · exact ifp c5 (H k hk)
            · exact ifn c5 J
          · exact ifn c4 (H k hk)
theorem i15 {k : Nat} (hk : k < 16) : (15 : Int32) - nI k = nI (15 - k) := pk_sub (a := 15) (by omega)
/-- a piece is given, in both games -/
theorem give298 {Z : Int32 → SX × SX → Prop} (hz : ∀ a b, KK a b → Z 1 (a, b)) (hu : RX u hs q qs L n) (hw : RX w hs (mg q) (mg qs) (fun j => mg (L j)) n) (ho : OW q) (hL : ∀ j, j < n → OW (L j)) (hS : hs ≠ 0 → OW qs) (hov : ov q = false) (hg : q.2.1 = 0) (k : Nat) (hk : k < 16) : ∃ n9, pL_isStep_298 Z n9 (nI k) (mvI q) u w := ⟨1, by
  have hom := OG_mg ho.1
  have m90 : ∀ p : Nat, ¬ mvI (gv p q) = 90002 := fun p => mvI_le (q := gv p q) hov (k := 90002) (by omega) (by omega)
  rw [pL_isStep_298]
  refine s_give hu ho.1 hk (fun e => ?_) (fun e u1 h1 => ?_)
  · rw [i15 hk]
    refine (s_text hw hom (sg := 103) (N := 15 - k) (Or.inl rfl) (by omega) (fun _ w1 h2 => ?_) (fun e1 => ?_) : pL_text (nI 103) (nI (15 - k)) w _)
    · refine ifp rfl (ifp rfl (ifp rfl (s_cellOf hu ho.1 hk (ifn (oI_hp ?_) (hz _ _ ⟨hs, q, qs, L, n, hu, h2, ho, hL, hS⟩)))))
      unfold cg at e
      rw [hov, hg] at e
      simpa using e
    · rw [if_pos rfl, mg_cg hk, e] at e1
      cases e1
  · rw [i15 hk]
    refine (s_text hw hom (sg := 103) (N := 15 - k) (Or.inl rfl) (by omega) (fun e1 => ?_) (fun _ w1 h2 => ?_) : pL_text (nI 103) (nI (15 - k)) w _)
    · rw [if_pos rfl, mg_cg hk, e] at e1
      cases e1
    · rw [if_pos rfl, mg_gv hk, psh_mg] at h2
      refine ifn (m90 k) (ifp rfl (ifn (m90 k) (ifp ?_ (s_gift h2 (ifp ?_ (s_mover h1 (OG_gv ho.1 hk e) (ifp rfl (hz _ _ ⟨hs, gv k q, qs, psh q L, _, h1, h2, OW_gv ho hk e, OW_psh ho hL, hS⟩))))))))
      · rw [mvI_n (q := gv k q) hov, mvI_n hov]
        have e3 : mvN (gv k q) = 1 - ct q.1 % 2 := if_neg (Nat.succ_ne_zero k)
        have e4 : mvN q = ct q.1 % 2 := if_pos hg
        rw [e3, e4]
        exact (pk_sub (a := 1) (by omega)).symm
      · show pm (mx (k + 1)) = _
        rw [mx_p hk, pm_s]⟩
/-- a piece is placed, in both games -/
theorem place463 {Z : Int32 → SX × SX → Prop} (hz : ∀ a b, KK a b → Z 1 (a, b)) (hu : RX u hs q qs L n) (hw : RX w hs (mg q) (mg qs) (fun j => mg (L j)) n) (ho : OW q) (hL : ∀ j, j < n → OW (L j)) (hS : hs ≠ 0 → OW qs) (hov : ov q = false) {p : Nat} (hg : q.2.1 = p + 1) (k : Nat) (hk : k < 16) : ∃ n9, pL_isStep_463 Z n9 (nI k) (nI (ct q.1)) (nI p) (mvI q) (wcI p q) u w := ⟨1, by
  have hom := OG_mg ho.1
  have hg0 : q.2.1 ≠ 0 := by omega
  have hg16 := ho.1.2.1
  have hnp := (ho.1.2.2.2.2.1 hg0).1
  rw [show q.2.1 - 1 = p by omega] at hnp
  have b90 : ∀ b : Bool, ¬ bI b = 90002 := fun b => by cases b <;> decide
  rw [pL_isStep_463]
  refine s_place hu ho.1 hk (fun e => s_turned hk ?_) (fun e u1 h1 => s_turned hk ?_)
  · refine (s_text hw hom (sg := 112) (N := tn k) (Or.inr rfl) (tn_lt hk) (fun _ w1 h2 => ?_) (fun e1 => ?_) : pL_text (nI 112) (nI (tn k)) w _)
    · refine ifp rfl (ifp rfl (ifp rfl (s_pieceOn hu ho.1 hk (ifn ?_ (hz _ _ ⟨hs, q, qs, L, n, hu, h2, ho, hL, hS⟩)))))
      have e3 : q.1 k ≠ 0 := fun z => by
        unfold cp at e
        rw [z, hg] at e
        cases e
      have := ho.1.1.1 k hk
      rw [pm_p e3]
      exact nI_pos (by omega)
    · rw [if_neg (by decide), mg_cp, e] at e1
      cases e1
  · refine (s_text hw hom (sg := 112) (N := tn k) (Or.inr rfl) (tn_lt hk) (fun e1 => ?_) (fun _ w1 h2 => ?_) : pL_text (nI 112) (nI (tn k)) w _)
    · rw [if_neg (by decide), mg_cp, e] at e1
      cases e1
    · rw [if_neg (by decide), mg_pt ho.1 hg0, psh_mg] at h2
      have hop := OW_pt ho hk e
      have hfin : KK u1 w1 := ⟨hs, pt k q, qs, psh q L, _, h1, h2, hop, OW_psh ho hL, hS⟩
      refine ifn (b90 _) (ifp rfl (ifn (b90 _) (s_placed h1 (ifp ?_ (s_cellOf h1 hop.1 (show p < 16 by omega) (ifp ?_ ?_))))))
      · show nI (ct (fu q.1 k q.2.1)) = _
        rw [ct_gift hk e, nI_1]
      · have e5 : (pt k q).1 k = p + 1 := by
          show fu q.1 k q.2.1 k = _
          rw [fu_s, hg]
        rw [fU_one (p := fun i => (pt k q).1 i == p + 1) hk (by simp [e5]) (fun i hi z => by
          rw [beq_iff_eq] at z
          exact hop.1.1.2 i k hi hk (by omega) (by rw [z, e5]))]
        rfl
      · have hwc : wcI p q = oI (fU (wF q.1 q.2.2.1 p) 16 0) := by
          unfold wcI
          rw [hov, hnp]
          rfl
        cases ep : pw k q
        · refine ifn (by decide) (s_winner h1 (ifn ?_ (ifp rfl (hz _ _ hfin))))
          show ¬ pm (if pw k q then mvN q + 1 else 0) = mvI q
          have hm := mvN_le q
          rw [ep, mvI_n hov]
          exact fun z => nI_m1 (x := mvN q) (by omega) (z.symm.trans pm_0)
        · refine ifp rfl (s_winner h1 (ifp ?_ (ifn (by decide) ?_)))
          · show pm (if pw k q then mvN q + 1 else 0) = mvI q
            rw [ep, mvI_n hov, if_pos rfl, pm_s]
          · have hwk : wF q.1 q.2.2.1 p k = true := by
              unfold wF
              rw [Bool.and_eq_true, beq_iff_eq]
              refine ⟨cp_e e, ?_⟩
              rw [← hg]
              exact ep
            obtain ⟨i, e6, hi⟩ := fU_le (p := wF q.1 q.2.2.1 p) 16 0 k (by omega) (by omega) hwk
            rw [hwc, e6]
            refine ifn (nI_pos (by omega)) (ifn ?_ (hz _ _ hfin))
            exact mt (nI_ltI (by omega) (by omega)).mp (by omega)⟩
theorem t_isStep {Z : Int32 → SX × SX → Prop} (hz : ∀ a b, KK a b → Z 1 (a, b)) (h : KK u w) (x y : Int32) : pL_isStep x y u w Z := by
  obtain ⟨hs, q, qs, L, n, hu, hw, ho, hL, hS⟩ := h
  have hom := OG_mg ho.1
  have same : KK u w := ⟨hs, q, qs, L, n, hu, hw, ho, hL, hS⟩
  have hr : q.2.2.1 < 2 := by have := ho.1.2.2.1; omega
  have hct : nI (ct (mg q).1) = nI (ct q.1) := by rw [mg_ct]
  unfold pL_isStep
  intro x1 e1
  refine s_up y (k := 16) (by omega) (by omega) fun k hk => s_placed hu (s_gift hu (s_mover hu ho.1 (s_over hu ho.1 (s_up x (k := 30) (by omega) (by omega) fun a _ => ?_))))
  by_cases c0 : nI a = 0
  · refine ifp c0 (s_up x1 (k := 2) (by omega) (by omega) fun r hr2 => s_restart hu hr2 fun u1 h1 => ifp rfl (s_restart hw hr2 fun w1 h2 => ifp hct (s_rule h1 (ifp rfl (s_placed h1 (ifp rfl (hz _ _ ⟨hs, ng r q, qs, psh q L, _, h1, ?_, OW_ng (by omega) q, OW_psh ho hL, hS⟩)))))))
    rw [psh_mg, mg_ng] at h2
    exact h2
  refine ifn c0 ?_
  by_cases c1 : nI a = 1
  · refine ifp c1 (s_up y (k := 2) (by omega) (by omega) fun t _ => ?_)
    by_cases c2 : nI t = 0
    · exact ifp c2 (s_take hu fun u1 h1 => s_take hw fun w1 h2 => ifp hct.symm (hz _ _ ⟨1, q, q, L, n, h1, h2, ho, hL, fun _ => ho⟩))
    · refine ifn c2 ?_
      by_cases e : hs = 0
      · exact s_restore hu (fun _ => s_restore hw (fun _ => ifp rfl (hz _ _ same)) (fun z => absurd e z)) (fun z => absurd e z)
      · refine s_restore hu (fun z => absurd z e) fun _ u1 h1 => s_restore hw (fun z => absurd z e) fun _ w1 h2 => ifp (by rw [mg_ct]) (hz _ _ ⟨hs, qs, qs, psh q L, _, h1, ?_, hS e, OW_psh ho hL, hS⟩)
        rw [psh_mg] at h2
        exact h2
  refine ifn c1 ?_
  by_cases c2 : nI a = 2
  · refine ifp c2 ?_
    cases n with
    | zero => exact s_undo0 hu (s_undo0 hw (ifp rfl (hz _ _ same)))
    | succ n => exact s_undo1 hu fun u1 h1 => s_undo1 hw fun w1 h2 => ifp rfl (hz _ _ ⟨hs, L 0, qs, fun j => L (j + 1), n, h1, h2, hL 0 (by omega), fun j hj => hL (j + 1) (by omega), hS⟩)
  refine ifn c2 ?_
  cases e : ov q
  · refine ifp rfl ?_
    by_cases hg : q.2.1 = 0
    · refine ifn (by rw [hg, pm_0]; decide) (s_safeL hu ho.1 ?_)
      exact loop241 hu ho.1 x1 (mvI q) (svI q) (fun k hk => give298 hz hu hw ho hL hS e hg k hk) 16 0 k rfl hk
    · obtain ⟨p, hp⟩ : ∃ p, q.2.1 = p + 1 := ⟨q.2.1 - 1, by omega⟩
      have hg16 := ho.1.2.1
      rw [show pm q.2.1 = nI p by rw [hp, pm_s]]
      refine ifp (nn_le (by omega)) (s_winCell hu ho.1 (show p < 16 by omega) fun u0 h0 => ?_)
      exact loop399 h0 ho.1 x1 (nI (ct q.1)) (nI p) (mvI q) (wcI p q) (fun k hk => place463 hz h0 hw ho hL hS e hp k hk) 16 0 k rfl hk
  · refine ifn (by decide) (s_up x1 (k := 3) (by omega) (by omega) fun t _ => ?_)
    by_cases c3 : (0 : Int32) < nI t
    · exact ifp c3 (hz _ _ same)
    · refine ifn c3 (s_rule hu (s_restart hu hr fun u1 h1 => ifp rfl (s_rule hw ?_)))
      refine s_restart hw (show (mg q).2.2.1 < 2 from hr) fun w1 h2 => ifp hct (hz _ _ ⟨hs, ng q.2.2.1 q, qs, psh q L, _, h1, ?_, OW_ng (by omega) q, OW_psh ho hL, hS⟩)
      rw [psh_mg] at h2
      exact h2
end Step
