/-! the other game: each piece has the other traits, rows and columns are exchanged -/
def tn (i : Nat) : Nat := if i < 16 then i % 4 * 4 + i / 4 else i
theorem tn_v {i : Nat} (h : i < 16) : tn i = i % 4 * 4 + i / 4 := if_pos h
theorem tn_lt {i : Nat} (h : i < 16) : tn i < 16 := by rw [tn_v h]; omega
theorem tn_tn (i : Nat) : tn (tn i) = i := by
  by_cases h : i < 16
  · rw [tn_v (tn_lt h), tn_v h]; omega
  · have e : tn i = i := if_neg h
    rw [e, e]
theorem tn_eq {i j : Nat} : tn i = j ↔ i = tn j := ⟨fun h => by rw [← h, tn_tn], fun h => by rw [h, tn_tn]⟩
/-- the content of a cell, of the other piece -/
def mx (x : Nat) : Nat := if x = 0 then 0 else if x ≤ 16 then 17 - x else x
theorem mx_mx (x : Nat) : mx (mx x) = x := by
  unfold mx
  by_cases h0 : x = 0
  · rw [if_pos h0, if_pos rfl, h0]
  · by_cases h1 : x ≤ 16
    · rw [if_neg h0, if_pos h1, if_neg (by omega), if_pos (by omega)]; omega
    · rw [if_neg h0, if_neg h1, if_neg h0, if_neg h1]
theorem mx_z {x : Nat} : mx x = 0 ↔ x = 0 := by
  unfold mx
  by_cases h0 : x = 0
  · rw [if_pos h0]; simp [h0]
  · by_cases h1 : x ≤ 16
    · rw [if_neg h0, if_pos h1]; omega
    · rw [if_neg h0, if_neg h1]
theorem mx_le {x : Nat} (h : x ≤ 16) : mx x ≤ 16 := by
  unfold mx
  by_cases h0 : x = 0
  · rw [if_pos h0]; omega
  · rw [if_neg h0, if_pos h]; omega
theorem mx_p {p : Nat} (h : p < 16) : mx (p + 1) = 15 - p + 1 := by
  unfold mx
  rw [if_neg (by omega), if_pos (by omega)]; omega
theorem mx_inj {x y : Nat} (h : mx x = mx y) : x = y := by rw [← mx_mx x, h, mx_mx]
theorem mx_0 : mx 0 = 0 := rfl
def mb (b : Nat → Nat) : Nat → Nat := fun i => mx (b (tn i))
theorem mb_t (b : Nat → Nat) (c : Nat) : mb b (tn c) = mx (b c) := by
  show mx (b (tn (tn c))) = _
  rw [tn_tn]
theorem mb_fu (b : Nat → Nat) (c x : Nat) : mb (fu b c x) = fu (mb b) (tn c) (mx x) := funext fun j => by
  by_cases e : tn j = c
  · have e2 := tn_eq.mp e
    show mx (fu b c x (tn j)) = fu (mb b) (tn c) (mx x) j
    rw [e, fu_s, e2, fu_s]
  · have e2 : ¬ j = tn c := fun z => e (tn_eq.mpr z)
    show mx (fu b c x (tn j)) = fu (mb b) (tn c) (mx x) j
    rw [fu_n e, fu_n e2]
    rfl
theorem mb_0 : mb (fun _ => 0) = fun _ => 0 := rfl
theorem ne_mb (b : Nat → Nat) (i : Nat) : ne (mb b) i = ne b (tn i) := b_eq (by
  show (mx (b (tn i)) != 0) = true ↔ (b (tn i) != 0) = true
  rw [bne_iff_ne, bne_iff_ne]
  exact not_congr mx_z)
theorem cN_tn (p : Nat → Bool) : cN (fun i => p (tn i)) 16 = cN p 16 := by
  simp only [cN, show tn 0 = 0 from rfl, show tn 1 = 4 from rfl, show tn 2 = 8 from rfl, show tn 3 = 12 from rfl, show tn 4 = 1 from rfl, show tn 5 = 5 from rfl, show tn 6 = 9 from rfl, show tn 7 = 13 from rfl, show tn 8 = 2 from rfl, show tn 9 = 6 from rfl, show tn 10 = 10 from rfl, show tn 11 = 14 from rfl, show tn 12 = 3 from rfl, show tn 13 = 7 from rfl, show tn 14 = 11 from rfl, show tn 15 = 15 from rfl]
  omega
theorem ct_mb (b : Nat → Nat) : ct (mb b) = ct b := by
  unfold ct
  rw [← cN_tn (ne b)]
  exact cN_ext fun i _ => ne_mb b i
theorem hp_mb {b : Nat → Nat} {p : Nat} (hp4 : p < 16) : hp (mb b) (15 - p) = hp b p := b_eq (by
  rw [hp_iff, hp_iff]
  constructor
  · rintro ⟨k, hk, e⟩
    refine ⟨tn k, tn_lt hk, mx_inj ?_⟩
    rw [mx_p hp4]
    exact e
  · rintro ⟨k, hk, e⟩
    refine ⟨tn k, tn_lt hk, ?_⟩
    rw [mb_t, e, mx_p hp4])
theorem tb_cpl : ∀ p, p < 16 → ∀ t, t < 4 → (15 - p).testBit t = !p.testBit t := by decide +kernel
theorem tr_mb {b : Nat → Nat} {t i : Nat} (ht : t < 4) (h : b (tn i) ≤ 16) : tr (mb b) t i = (ne b (tn i) && !tr b t (tn i)) := by
  unfold tr ne mb
  by_cases h0 : b (tn i) = 0
  · rw [h0]; rfl
  · obtain ⟨p, hp⟩ : ∃ p, b (tn i) = p + 1 := ⟨b (tn i) - 1, by omega⟩
    rw [hp, mx_p (by omega), Nat.add_sub_cancel, Nat.add_sub_cancel, tb_cpl p (by omega) t ht]
    simp
theorem WB_mb {b : Nat → Nat} (h : WB b) : WB (mb b) := by
  refine ⟨fun k hk => mx_le (h.1 _ (tn_lt hk)), fun i j hi hj h0 e => ?_⟩
  have h1 := h.2 (tn i) (tn j) (tn_lt hi) (tn_lt hj) (fun z => h0 (by show mx (b (tn i)) = 0; rw [z]; rfl)) (mx_inj e)
  rw [← tn_tn i, h1, tn_tn]
/-! the lines, as they are seen there -/
def lm (l : Nat) : Nat := if l < 4 then l + 4 else if l < 8 then l - 4 else if l < 10 then l else 10 + ((l - 10) % 3) * 3 + (l - 10) / 3
theorem lm_lt : ∀ l, l < 19 → lm l < 19 := by decide +kernel
theorem lm_lt10 : ∀ l, l < 10 → lm l < 10 := by decide +kernel
theorem lm_lm : ∀ l, l < 19 → lm (lm l) = l := by decide +kernel
theorem lm_ln {r l : Nat} (h : l < ln r) : lm l < ln r := by
  unfold ln at h ⊢
  by_cases e : r = 1
  · rw [if_pos e] at h ⊢; exact lm_lt l h
  · rw [if_neg e] at h ⊢; exact lm_lt10 l h
theorem onL_lm : ∀ l, l < 19 → ∀ i, i < 16 → onL (lm l) (tn i) = onL l i := by decide +kernel
theorem al_lm {l : Nat} (hl : l < 19) (q : Nat → Bool) : al (fun k => q (lc (lm l) k)) = al (fun k => q (tn (lc l k))) := b_eq (by
  rw [← on_al (lm_lt l hl) q, ← on_al hl (fun i => q (tn i))]
  constructor
  · intro h i hi ho
    exact h (tn i) (tn_lt hi) (by rw [onL_lm l hl i hi]; exact ho)
  · intro h i hi ho
    have h1 : q (tn (tn i)) = true := h (tn i) (tn_lt hi) (by rw [← onL_lm l hl (tn i) (tn_lt hi), tn_tn]; exact ho)
    rw [tn_tn] at h1
    exact h1)
theorem cN_lm {l : Nat} (hl : l < 19) (p : Nat → Bool) : cN (fun k => p (lc (lm l) k)) 4 = cN (fun k => p (tn (lc l k))) 4 := by
  rw [← cN_on (lm_lt l hl) p, ← cN_on hl (fun i => p (tn i)), ← cN_tn (fun i => p i && onL (lm l) i)]
  exact cN_ext fun i hi => by
    show (p (tn i) && onL (lm l) (tn i)) = (p (tn i) && onL l i)
    rw [onL_lm l hl i hi]
theorem mn_mb {b : Nat → Nat} {l : Nat} (hl : l < 19) : mn (mb b) (lm l) = mn b l := by
  unfold mn
  exact (cN_lm hl (ne (mb b))).trans (cN_ext fun k _ => by rw [ne_mb, tn_tn])
theorem al_ext {f g : Nat → Bool} (h : ∀ k, k < 4 → f k = g k) : al f = al g := by
  unfold al
  rw [h 0 (by omega), h 1 (by omega), h 2 (by omega), h 3 (by omega)]
theorem tr_imp (b : Nat → Nat) (t i : Nat) : (ne b i && tr b t i) = tr b t i := by rw [Bool.and_comm, tr_ne]
theorem shF_m1 {b : Nat → Nat} {l i : Nat} (hl : l < 19) (hw : WB b) (hi : i < 4) : shF (mb b) (lm l) i = shF b l (4 + i) := by
  rw [shF_lo hi, shF_hi hi]
  refine (al_lm hl (fun c => !ne (mb b) c || tr (mb b) i c)).trans (al_ext fun k hk => ?_)
  show (!ne (mb b) (tn (lc l k)) || tr (mb b) i (tn (lc l k))) = !tr b i (lc l k)
  have hb := hw.1 (lc l k) (lc_lt l hl k hk)
  rw [ne_mb, tr_mb hi (by rw [tn_tn]; exact hb), tn_tn, ← tr_imp b i (lc l k)]
  cases ne b (lc l k) <;> cases tr b i (lc l k) <;> rfl
theorem shF_m2 {b : Nat → Nat} {l i : Nat} (hl : l < 19) (hw : WB b) (hi : i < 4) : shF (mb b) (lm l) (4 + i) = shF b l i := by
  rw [shF_lo hi, shF_hi hi]
  refine (al_lm hl (fun c => !tr (mb b) i c)).trans (al_ext fun k hk => ?_)
  show (!tr (mb b) i (tn (lc l k))) = (!ne b (lc l k) || tr b i (lc l k))
  have hb := hw.1 (lc l k) (lc_lt l hl k hk)
  rw [tr_mb hi (by rw [tn_tn]; exact hb), tn_tn]
  cases ne b (lc l k) <;> cases tr b i (lc l k) <;> rfl
theorem exU_ext {p q : Nat → Bool} : ∀ k j, (∀ i, j ≤ i → i < j + k → p i = q i) → exU p k j = exU q k j
  | 0, _, _ => rfl
  | k + 1, j, h => by rw [exU, exU, h j (by omega) (by omega), exU_ext k (j + 1) (fun i h1 h2 => h i (by omega) (by omega))]
theorem wL_mb {b : Nat → Nat} {l : Nat} (hl : l < 19) (hw : WB b) : wL (mb b) (lm l) = wL b l := by
  unfold wL
  rw [mn_mb hl, exU_ext (p := fun t => shF (mb b) (lm l) t || shF (mb b) (lm l) (4 + t)) (q := fun t => shF b l t || shF b l (4 + t)) 4 0 (fun t _ ht => by
    show (shF (mb b) (lm l) t || shF (mb b) (lm l) (4 + t)) = (shF b l t || shF b l (4 + t))
    rw [shF_m1 hl hw (by omega), shF_m2 hl hw (by omega), Bool.or_comm])]
theorem cN_lmn (p : Nat → Bool) (r : Nat) : cN (fun l => p (lm l)) (ln r) = cN p (ln r) := by
  have h10 : cN (fun l => p (lm l)) 10 = cN p 10 := by
    simp only [cN, show lm 0 = 4 from rfl, show lm 1 = 5 from rfl, show lm 2 = 6 from rfl, show lm 3 = 7 from rfl, show lm 4 = 0 from rfl, show lm 5 = 1 from rfl, show lm 6 = 2 from rfl, show lm 7 = 3 from rfl, show lm 8 = 8 from rfl, show lm 9 = 9 from rfl]
    omega
  have h19 : cN (fun l => p (lm l)) 19 = cN p 19 := by
    simp only [cN, show lm 0 = 4 from rfl, show lm 1 = 5 from rfl, show lm 2 = 6 from rfl, show lm 3 = 7 from rfl, show lm 4 = 0 from rfl, show lm 5 = 1 from rfl, show lm 6 = 2 from rfl, show lm 7 = 3 from rfl, show lm 8 = 8 from rfl, show lm 9 = 9 from rfl, show lm 10 = 10 from rfl, show lm 11 = 13 from rfl, show lm 12 = 16 from rfl, show lm 13 = 11 from rfl, show lm 14 = 14 from rfl, show lm 15 = 17 from rfl, show lm 16 = 12 from rfl, show lm 17 = 15 from rfl, show lm 18 = 18 from rfl]
    omega
  unfold ln
  by_cases e : r = 1
  · rw [if_pos e]; exact h19
  · rw [if_neg e]; exact h10
theorem wC_mb {b : Nat → Nat} (r : Nat) (hw : WB b) : wC (mb b) r = wC b r := by
  have hl := ln_le r
  unfold wC
  rw [← cN_lmn (wL (mb b)) r]
  exact cN_ext fun l h => wL_mb (by omega) hw
theorem hw_mb {b : Nat → Nat} (r : Nat) (h : WB b) : hw (mb b) r = hw b r := b_eq (by rw [hw_iff, hw_iff, wC_mb r h])
theorem mb_put {b : Nat → Nat} {c p : Nat} (hp4 : p < 16) : fu (mb b) (tn c) (15 - p + 1) = mb (fu b c (p + 1)) := by rw [mb_fu, mx_p hp4]
theorem em_mb {b : Nat → Nat} {c : Nat} : (mb b (tn c) == 0) = (b c == 0) := b_eq (by
  rw [beq_iff_eq, beq_iff_eq, mb_t]
  exact mx_z)
theorem wF_mb {b : Nat → Nat} {r p c : Nat} (h : WB b) (hp4 : p < 16) (hf : hp b p = false) : wF (mb b) r (15 - p) (tn c) = wF b r p c := by
  unfold wF
  rw [em_mb, mb_put hp4, hw_mb r (WB_put h hf hp4)]
theorem exU_tn {p q : Nat → Bool} (h : ∀ i, i < 16 → p (tn i) = q i) : exU p 16 0 = exU q 16 0 := b_eq (by
  rw [exU_iff, exU_iff]
  constructor
  · rintro ⟨i, _, hi, e⟩
    have h1 := h (tn i) (tn_lt (by omega))
    rw [tn_tn] at h1
    have h2 := tn_lt (i := i) (by omega)
    exact ⟨tn i, by omega, by omega, h1.symm.trans e⟩
  · rintro ⟨i, _, hi, e⟩
    have h2 := tn_lt (i := i) (by omega)
    exact ⟨tn i, by omega, by omega, (h i (by omega)).trans e⟩)
theorem exW_mb {b : Nat → Nat} {r p : Nat} (h : WB b) (hp4 : p < 16) (hf : hp b p = false) : exU (wF (mb b) r (15 - p)) 16 0 = exU (wF b r p) 16 0 := exU_tn fun c _ => wF_mb h hp4 hf
/-! the game -/
def mg (q : PG) : PG := (mb q.1, mx q.2.1, q.2.2)
theorem mg_hp {q : PG} {p : Nat} (hp4 : p < 16) : hp (mg q).1 (15 - p) = hp q.1 p := hp_mb hp4
theorem mg_ct (q : PG) : ct (mg q).1 = ct q.1 := ct_mb q.1
theorem OG_mg {q : PG} (h : OG q) : OG (mg q) := by
  refine ⟨WB_mb h.1, mx_le h.2.1, h.2.2.1, h.2.2.2.1, fun z => ?_, fun z => ?_⟩
  · have z2 : q.2.1 ≠ 0 := fun y => z (mx_z.mpr y)
    have h1 := h.2.2.2.2.1 z2
    have hg := h.2.1
    refine ⟨?_, h1.2.1, by rw [mg_ct]; exact h1.2.2⟩
    show hp (mb q.1) (mx q.2.1 - 1) = false
    rw [show q.2.1 = q.2.1 - 1 + 1 by omega, mx_p (by omega), Nat.add_sub_cancel, hp_mb (by omega)]
    exact h1.1
  · show hw (mb q.1) q.2.2.1 = false
    rw [hw_mb _ h.1]
    exact h.2.2.2.2.2 z
theorem mg_ov (q : PG) : ov (mg q) = ov q := by
  unfold ov
  rw [mg_ct]
  rfl
theorem mg_g (q : PG) : ((mg q).2.1 = 0) = (q.2.1 = 0) := propext mx_z
theorem mg_gb (q : PG) : ((mg q).2.1 == 0) = (q.2.1 == 0) := b_eq (by rw [beq_iff_eq, beq_iff_eq, mg_g])
theorem mg_mvN (q : PG) : mvN (mg q) = mvN q := by
  unfold mvN
  rw [mg_ct]
  by_cases e : q.2.1 = 0
  · rw [if_pos e, if_pos (show (mg q).2.1 = 0 from mx_z.mpr e)]
  · rw [if_neg e, if_neg (show ¬ (mg q).2.1 = 0 from fun z => e (mx_z.mp z))]
theorem mg_mvI (q : PG) : mvI (mg q) = mvI q := by
  unfold mvI
  rw [mg_ov, mg_mvN]
theorem mg_cg {q : PG} {p : Nat} (hp4 : p < 16) : cg (15 - p) (mg q) = cg p q := by
  unfold cg
  rw [mg_ov, mg_gb, mg_hp hp4]
theorem mg_cp {q : PG} {c : Nat} : cp (tn c) (mg q) = cp c q := by
  unfold cp
  rw [mg_gb]
  have := em_mb (b := q.1) (c := c)
  rw [show (mg q).1 (tn c) = mb q.1 (tn c) from rfl, this]
theorem mg_gv {q : PG} {p : Nat} (hp4 : p < 16) : gv (15 - p) (mg q) = mg (gv p q) := by
  show (mb q.1, 15 - p + 1, q.2.2) = (mb q.1, mx (p + 1), q.2.2)
  rw [mx_p hp4]
theorem WB_gift {q : PG} {c : Nat} (ho : OG q) (hg : q.2.1 ≠ 0) : WB (fu q.1 c q.2.1) := by
  have h1 := (ho.2.2.2.2.1 hg).1
  have h2 := ho.2.1
  have := WB_put (c := c) ho.1 h1 (by omega)
  rw [show q.2.1 - 1 + 1 = q.2.1 by omega] at this
  exact this
theorem mg_pw {q : PG} {c : Nat} (ho : OG q) (hg : q.2.1 ≠ 0) : pw (tn c) (mg q) = pw c q := by
  show hw (fu (mb q.1) (tn c) (mx q.2.1)) q.2.2.1 = hw (fu q.1 c q.2.1) q.2.2.1
  rw [← mb_fu, hw_mb _ (WB_gift ho hg)]
theorem mg_pt {q : PG} {c : Nat} (ho : OG q) (hg : q.2.1 ≠ 0) : pt (tn c) (mg q) = mg (pt c q) := by
  have e1 := mg_pw (c := c) ho hg
  unfold pt
  rw [e1, mg_mvN]
  show (fu (mb q.1) (tn c) (mx q.2.1), _) = (mb (fu q.1 c q.2.1), _)
  rw [mb_fu]
  rfl
theorem mg_ng (r : Nat) (q : PG) : ng r (mg q) = mg (ng r q) := rfl
theorem cp_g {q : PG} {c : Nat} (h : cp c q = true) : q.2.1 ≠ 0 := fun z => by
  unfold cp at h
  rw [z] at h
  cases h
theorem mg_fr {q : PG} {p : Nat} (hp4 : p < 16) (hg : q.2.1 ≤ 16) : fr (15 - p) (mg q) = fr p q := by
  unfold fr
  have e : ((mg q).2.1 == 15 - p + 1) = (q.2.1 == p + 1) := b_eq (by
    rw [beq_iff_eq, beq_iff_eq, ← mx_p hp4]
    exact ⟨fun h => mx_inj h, fun h => congrArg mx h⟩)
  rw [e, mg_hp hp4]
theorem fr_hp {q : PG} {p : Nat} (h : fr p q = true) : hp q.1 p = false := by
  unfold fr at h
  cases z : hp q.1 p
  · rfl
  · rw [z, Bool.not_true, Bool.and_false] at h
    cases h
/-! safe pieces -/
theorem mg_sfT {q : PG} {p : Nat} (hp4 : p < 16) (ho : OG q) : sfT (mg q) (15 - p) = sfT q p := by
  unfold sfT
  rw [mg_fr hp4 ho.2.1]
  cases e : fr p q
  · rfl
  · have := exW_mb (r := q.2.2.1) ho.1 hp4 (fr_hp e)
    show (true && !exU (wF (mb q.1) q.2.2.1 (15 - p)) 16 0) = _
    rw [this]
/-! the values of the end -/
theorem go_sp {ok : Nat → Bool} {val : Nat → Int32} (hv : ∀ i, T3 (val i)) : ∀ k j acc, T3 acc → T3 (go ok val k j acc) ∧ (go ok val k j acc = 1 ↔ (acc = 1 ∨ ∃ i, j ≤ i ∧ i < j + k ∧ ok i = true ∧ val i = 1)) ∧ (go ok val k j acc = -1 ↔ (acc = -1 ∧ ∀ i, j ≤ i → i < j + k → ok i = true → val i = -1))
  | 0, j, acc, h => ⟨h, ⟨fun e => Or.inl e, fun e => e.elim id fun ⟨i, h1, h2, _⟩ => absurd h2 (by omega)⟩, ⟨fun e => ⟨e, fun i h1 h2 => absurd h2 (by omega)⟩, fun e => e.1⟩⟩
  | k + 1, j, acc, h => by
    rw [go]
    by_cases b1 : acc = 1
    · rw [if_pos b1]
      subst b1
      exact ⟨h, ⟨fun _ => Or.inl rfl, fun _ => rfl⟩, ⟨fun e => absurd e (by decide), fun e => e.1⟩⟩
    · rw [if_neg b1]
      have h2 : T3 (if ok j = true then mxI acc (val j) else acc) := by
        split
        · exact T3_mx h (hv j)
        · exact h
      obtain ⟨g1, g2, g3⟩ := go_sp hv k (j + 1) _ h2
      refine ⟨g1, ?_, ?_⟩
      · rw [g2]
        have e : (if ok j = true then mxI acc (val j) else acc) = 1 ↔ ok j = true ∧ val j = 1 := by
          cases ok j
          · simp [b1]
          · rw [if_pos rfl]
            rcases h with rfl | rfl | rfl
            · rcases hv j with q | q | q <;> rw [q] <;> decide
            · rcases hv j with q | q | q <;> rw [q] <;> decide
            · exact absurd rfl b1
        rw [e]
        constructor
        · rintro (⟨e1, e2⟩ | ⟨i, e1, e2, e3⟩)
          · exact Or.inr ⟨j, by omega, by omega, e1, e2⟩
          · exact Or.inr ⟨i, by omega, by omega, e3⟩
        · rintro (e1 | ⟨i, e1, e2, e3⟩)
          · exact absurd e1 b1
          · by_cases z : i = j
            · subst z; exact Or.inl e3
            · exact Or.inr ⟨i, by omega, by omega, e3⟩
      · rw [g3]
        have e : (if ok j = true then mxI acc (val j) else acc) = -1 ↔ acc = -1 ∧ (ok j = true → val j = -1) := by
          cases ok j
          · simp
          · rw [if_pos rfl]
            rcases h with rfl | rfl | rfl
            · rcases hv j with q | q | q <;> rw [q] <;> decide
            · rcases hv j with q | q | q <;> rw [q] <;> decide
            · exact absurd rfl b1
        rw [e]
        constructor
        · rintro ⟨⟨e1, e2⟩, e3⟩
          refine ⟨e1, fun i h1 h3 h4 => ?_⟩
          by_cases z : i = j
          · subst z; exact e2 h4
          · exact e3 i (by omega) (by omega) h4
        · rintro ⟨e1, e2⟩
          exact ⟨⟨e1, fun h4 => e2 j (by omega) (by omega) h4⟩, fun i h1 h3 h4 => e2 i (by omega) (by omega) h4⟩
theorem go_eq {ok ok' : Nat → Bool} {val val' : Nat → Int32} (σ : Nat → Nat) (h1 : ∀ i, i < 16 → σ i < 16) (h2 : ∀ i, i < 16 → σ (σ i) = i) (ho : ∀ i, i < 16 → ok' (σ i) = ok i) (hval : ∀ i, i < 16 → ok i = true → val' (σ i) = val i) (hv : ∀ i, T3 (val i)) (hv' : ∀ i, T3 (val' i)) : go ok' val' 16 0 (-1) = go ok val 16 0 (-1) := by
  have tm : T3 (-1) := Or.inl rfl
  obtain ⟨a1, a2, a3⟩ := go_sp (ok := ok) hv 16 0 (-1) tm
  obtain ⟨b1, b2, b3⟩ := go_sp (ok := ok') hv' 16 0 (-1) tm
  have e1 : go ok' val' 16 0 (-1) = 1 ↔ go ok val 16 0 (-1) = 1 := by
    rw [a2, b2]
    refine or_congr_right ⟨?_, ?_⟩
    · rintro ⟨i, _, hi, c1, c2⟩
      have hi : i < 16 := by omega
      have k1 := ho (σ i) (h1 i hi)
      rw [h2 i hi] at k1
      have k2 := hval (σ i) (h1 i hi) (by rw [← k1]; exact c1)
      rw [h2 i hi] at k2
      have := h1 i hi
      exact ⟨σ i, by omega, by omega, by rw [← k1]; exact c1, by rw [← k2]; exact c2⟩
    · rintro ⟨i, _, hi, c1, c2⟩
      have hi : i < 16 := by omega
      have := h1 i hi
      exact ⟨σ i, by omega, by omega, by rw [ho i hi]; exact c1, by rw [hval i hi c1]; exact c2⟩
  have e2 : go ok' val' 16 0 (-1) = -1 ↔ go ok val 16 0 (-1) = -1 := by
    rw [a3, b3]
    refine and_congr_right fun _ => ⟨?_, ?_⟩
    · intro hh i _ hi c1
      have hi : i < 16 := by omega
      have := h1 i hi
      rw [← hval i hi c1]
      exact hh (σ i) (by omega) (by omega) (by rw [ho i hi]; exact c1)
    · intro hh i _ hi c1
      have hi : i < 16 := by omega
      have k1 := ho (σ i) (h1 i hi)
      rw [h2 i hi] at k1
      have k2 := hval (σ i) (h1 i hi) (by rw [← k1]; exact c1)
      rw [h2 i hi] at k2
      have := h1 i hi
      rw [k2]
      exact hh (σ i) (by omega) (by omega) (by rw [← k1]; exact c1)
  rcases a1 with x | x | x
  · rw [x]; exact e2.mpr x
  · rcases b1 with y | y | y
    · have := e2.mp y; rw [x] at this; exact absurd this (by decide)
    · rw [x, y]
    · have := e1.mp y; rw [x] at this; exact absurd this (by decide)
  · rw [x]; exact e1.mpr x
theorem vX_mb {VG : (Nat → Nat) → Int32} (hV : ∀ b, WB b → VG (mb b) = VG b) {r : Nat} {b : Nat → Nat} {p c : Nat} (h : WB b) (hp4 : p < 16) (hf : hp b p = false) : vX VG r (mb b) (15 - p) (tn c) = vX VG r b p c := by
  have hw1 := WB_put (c := c) h hf hp4
  unfold vX
  rw [mb_put hp4, hw_mb r hw1, hV _ hw1]
theorem vP_mb {VG : (Nat → Nat) → Int32} (hV : ∀ b, WB b → VG (mb b) = VG b) (hT : ∀ b, T3 (VG b)) {r : Nat} {b : Nat → Nat} {p : Nat} (h : WB b) (hp4 : p < 16) (hf : hp b p = false) : vP VG r (mb b) (15 - p) = vP VG r b p := by
  unfold vP
  exact go_eq tn (fun i hi => tn_lt hi) (fun i _ => tn_tn i) (fun i _ => em_mb) (fun i _ _ => vX_mb hV h hp4 hf) (T3_vX hT r b p) (T3_vX hT r (mb b) (15 - p))
theorem vG_mb (r : Nat) : ∀ n b, WB b → vG r n (mb b) = vG r n b
  | 0, _, _ => rfl
  | n + 1, b, h => by
    rw [vG, vG]
    refine go_eq (fun p => 15 - p) (fun i hi => by show 15 - i < 16; omega) (fun i hi => by show 15 - (15 - i) = i; omega) (fun p hp4 => ?_) (fun p hp4 e => ?_) (fun p => T3_neg (T3_vP (T3_vG r n) r b p)) (fun p => T3_neg (T3_vP (T3_vG r n) r (mb b) p))
    · show (!hp (mb b) (15 - p)) = !hp b p
      rw [hp_mb hp4]
    · show -(vP (vG r n) r (mb b) (15 - p)) = -(vP (vG r n) r b p)
      rw [vP_mb (vG_mb r n) (T3_vG r n) h hp4 (by simpa using e)]
theorem vO_mg {q : PG} (ho : OG q) (n : Nat) : vO (mg q) n = vO q n := by
  have hg := ho.2.1
  by_cases e : q.2.1 = 0
  · rw [vO_0 (q := mg q) (mx_z.mpr e), vO_0 e]
    exact vG_mb _ _ _ ho.1
  · rw [vO_1 (q := mg q) (fun z => e (mx_z.mp z)), vO_1 e]
    show vP (vG q.2.2.1 n) q.2.2.1 (mb q.1) (mx q.2.1 - 1) = _
    obtain ⟨p, hp⟩ : ∃ p, q.2.1 = p + 1 := ⟨q.2.1 - 1, by omega⟩
    have h1 := (ho.2.2.2.2.1 e).1
    rw [hp] at h1 ⊢
    rw [mx_p (by omega), Nat.add_sub_cancel, Nat.add_sub_cancel]
    exact vP_mb (vG_mb _ n) (T3_vG _ n) ho.1 (by omega) h1
