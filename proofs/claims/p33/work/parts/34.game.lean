/-! the pure game: board, gift (the piece and 1), rule, winner (the player and 1), victories; the game of the class -/
abbrev PG : Type := (Nat → Nat) × Nat × Nat × Nat × Int32 × Int32
def RG (s : SG) (q : PG) : Prop := s.1 = pm q.2.1 ∧ s.2.1 = pm q.2.2.2.1 ∧ s.2.2.1 0 = q.2.2.2.2.1 ∧ s.2.2.1 1 = q.2.2.2.2.2 ∧ RB s.2.2.2 q.1 q.2.2.1
def OG (q : PG) : Prop := WB q.1 ∧ q.2.1 ≤ 16 ∧ q.2.2.1 ≤ 1 ∧ q.2.2.2.1 ≤ 2 ∧ (q.2.1 ≠ 0 → hp q.1 (q.2.1 - 1) = false ∧ q.2.2.2.1 = 0 ∧ ct q.1 < 16) ∧ (q.2.2.2.1 = 0 → hw q.1 q.2.2.1 = false)
def ov (q : PG) : Bool := !(q.2.2.2.1 == 0) || ct q.1 == 16
def mvN (q : PG) : Nat := if q.2.1 = 0 then ct q.1 % 2 else 1 - ct q.1 % 2
def mvI (q : PG) : Int32 := if ov q then -1 else nI (mvN q)
def cg (p : Nat) (q : PG) : Bool := !ov q && (q.2.1 == 0 && !hp q.1 p)
def cp (c : Nat) (q : PG) : Bool := !(q.2.1 == 0) && q.1 c == 0
def gv (p : Nat) (q : PG) : PG := (q.1, p + 1, q.2.2)
def pw (c : Nat) (q : PG) : Bool := hw (fu q.1 c q.2.1) q.2.2.1
def pt (c : Nat) (q : PG) : PG := (fu q.1 c q.2.1, 0, q.2.2.1, if pw c q then mvN q + 1 else 0, if pw c q && mvN q == 0 then q.2.2.2.2.1 + 1 else q.2.2.2.2.1, if pw c q && mvN q == 1 then q.2.2.2.2.2 + 1 else q.2.2.2.2.2)
def ng (r : Nat) (q : PG) : PG := (fun _ => 0, 0, r, 0, q.2.2.2.2)
theorem mvN_le (q : PG) : mvN q ≤ 1 := by
  unfold mvN
  split <;> omega
theorem ov_f {q : PG} : ov q = false ↔ q.2.2.2.1 = 0 ∧ ct q.1 ≠ 16 := by
  unfold ov
  simp
theorem OG_gv {p : Nat} {q : PG} (ho : OG q) (hp4 : p < 16) (h : cg p q = true) : OG (gv p q) := by
  unfold cg at h
  simp only [Bool.and_eq_true, Bool.not_eq_true', beq_iff_eq] at h
  have h1 := ov_f.mp h.1
  have hc := ct_le q.1
  exact ⟨ho.1, (show p + 1 ≤ 16 by omega), ho.2.2.1, ho.2.2.2.1, fun _ => ⟨h.2.2, h1.1, (show ct q.1 < 16 by omega)⟩, ho.2.2.2.2.2⟩
theorem OG_pt {c : Nat} {q : PG} (ho : OG q) (hc : c < 16) (h : cp c q = true) : OG (pt c q) := by
  unfold cp at h
  simp only [Bool.and_eq_true, Bool.not_eq_true', beq_iff_eq, beq_eq_false_iff_ne, ne_eq] at h
  have h1 := ho.2.2.2.2.1 h.1
  have hm := mvN_le q
  have hg := ho.2.1
  refine ⟨?_, Nat.zero_le _, ho.2.2.1, ?_, fun z => absurd rfl z, fun z => ?_⟩
  · show WB (fu q.1 c q.2.1)
    have := WB_put (c := c) ho.1 h1.1 (by omega)
    rw [show q.2.1 - 1 + 1 = q.2.1 by omega] at this
    exact this
  · show (if pw c q then mvN q + 1 else 0) ≤ 2
    split <;> omega
  · show pw c q = false
    have z : (if pw c q then mvN q + 1 else 0) = 0 := z
    cases e : pw c q
    · rfl
    · rw [e] at z
      simp at z
theorem mn_0 (l : Nat) : mn (fun _ => 0) l = 0 := rfl
theorem hw_0 (r : Nat) : hw (fun _ => 0) r = false := by
  cases e : hw (fun _ => 0) r
  · rfl
  · obtain ⟨i, _, h⟩ := cN_pos.mp (hw_iff.mp e)
    unfold wL at h
    rw [mn_0] at h
    cases h
theorem WB_0 : WB (fun _ => 0) := ⟨fun _ _ => Nat.zero_le _, fun _ _ _ _ h => absurd rfl h⟩
theorem OG_ng {r : Nat} (hr : r ≤ 1) (q : PG) : OG (ng r q) := ⟨WB_0, Nat.zero_le _, hr, Nat.zero_le _, fun h => absurd rfl h, fun _ => hw_0 r⟩
section Game
variable {s : SG} {q : PG} {Z : Int32 → Prop}
theorem p_hasEnded (h : RG s q) (ho : OG q) (hz : Z (bI (ov q))) : pX2_hasEnded s Z := by
  unfold pX2_hasEnded
  rw [h.2.1]
  have hw := ho.2.2.2.1
  have hc := ct_le q.1
  unfold ov at hz
  by_cases e : q.2.2.2.1 = 0
  · rw [if_pos (by rw [e]; exact pm_0)]
    refine p_emptyCount h.2.2.2.2 ?_
    by_cases e2 : ct q.1 = 16
    · rw [if_pos (by rw [e2]; rfl)]
      simpa [e, e2, bI] using hz
    · rw [if_neg (nI_ne0 (by omega) (by omega))]
      simpa [e, e2, bI] using hz
  · rw [if_neg (fun z => e ((pm_inj (by omega) (by omega)).mp (z.trans pm_0.symm)))]
    simpa [e, bI] using hz
theorem p_mover (h : RG s q) (ho : OG q) (hz : Z (mvI q)) : pX2_mover s Z := by
  unfold pX2_mover
  refine p_hasEnded h ho ?_
  have hc := ct_le q.1
  unfold mvI at hz
  cases e : ov q
  · rw [if_pos (show bI false = 0 from rfl)]
    rw [e] at hz
    refine p_count h.2.2.2.2 ?_
    intro x4 e4
    have e5 : nI (ct q.1) - nI (ct q.1) / 2 * 2 = nI (ct q.1 % 2) := pk_rem (d := 2) (by omega) (by omega) (by omega)
    rw [e5] at e4
    rw [h.1]
    have hz : Z (nI (mvN q)) := hz
    unfold mvN at hz
    by_cases e6 : q.2.1 = 0
    · rw [if_pos e6] at hz
      rw [if_pos (by rw [e6]; exact pm_0), e4]
      exact hz
    · rw [if_neg e6] at hz
      have hg := ho.2.1
      rw [if_neg (fun z => e6 ((pm_inj (by omega) (by omega)).mp (z.trans pm_0.symm))), e4]
      have e7 : (1 : Int32) - nI (ct q.1 % 2) = nI (1 - ct q.1 % 2) := pk_sub (a := 1) (by omega)
      rw [e7]
      exact hz
  · rw [if_neg (show ¬ bI true = 0 by decide)]
    rw [e] at hz
    exact hz
def fr (p : Nat) (q : PG) : Bool := !(q.2.1 == p + 1) && !hp q.1 p
theorem p_isFree (h : RG s q) (ho : OG q) {p : Nat} (hp4 : p < 16) (hz : Z (bI (fr p q))) : pX2_isFree (nI p) s Z := by
  unfold pX2_isFree
  have hg := ho.2.1
  unfold fr at hz
  rw [h.1, ← pm_s]
  by_cases e : q.2.1 = p + 1
  · rw [if_pos (by rw [e])]
    simpa [e, bI] using hz
  · rw [if_neg (fun z => e ((pm_inj (by omega) (by omega)).mp z.symm)), pm_s]
    refine p_holds h.2.2.2.2 hp4 ?_
    cases e2 : hp q.1 p
    · rw [if_pos (show bI false = 0 from rfl)]
      simpa [e, e2, bI] using hz
    · rw [if_neg (show ¬ bI true = 0 by decide)]
      simpa [e, e2, bI] using hz
theorem p_canGive (h : RG s q) (ho : OG q) {p : Nat} (hp4 : p < 16) (hz : Z (bI (cg p q))) : pX2_canGive (nI p) s Z := by
  unfold pX2_canGive
  have hg := ho.2.1
  unfold cg at hz
  refine p_hasEnded h ho ?_
  cases e : ov q
  · rw [if_pos (show bI false = 0 from rfl), h.1]
    by_cases e2 : q.2.1 = 0
    · rw [if_pos (by rw [e2]; exact pm_0)]
      refine p_holds h.2.2.2.2 hp4 ?_
      cases e3 : hp q.1 p
      · rw [if_pos (show bI false = 0 from rfl)]
        simpa [e, e2, e3, bI] using hz
      · rw [if_neg (show ¬ bI true = 0 by decide)]
        simpa [e, e2, e3, bI] using hz
    · rw [if_neg (fun z => e2 ((pm_inj (by omega) (by omega)).mp (z.trans pm_0.symm)))]
      simpa [e, e2, bI] using hz
  · rw [if_neg (show ¬ bI true = 0 by decide)]
    simpa [e, bI] using hz
theorem p_canPut (h : RG s q) (ho : OG q) {c : Nat} (hc : c < 16) (hz : Z (bI (cp c q))) : pX2_canPut (nI c) s Z := by
  unfold pX2_canPut
  have hg := ho.2.1
  unfold cp at hz
  rw [h.1]
  by_cases e2 : q.2.1 = 0
  · rw [if_pos (by rw [e2]; exact pm_0)]
    simpa [e2, bI] using hz
  · rw [if_neg (fun z => e2 ((pm_inj (by omega) (by omega)).mp (z.trans pm_0.symm)))]
    refine p_isEmpty h.2.2.2.2 hc ?_
    by_cases e3 : q.1 c = 0
    · rw [if_neg (fun z => by simp [e3, bI] at z)]
      simpa [e2, e3, bI] using hz
    · rw [if_pos (bI_0.mpr (by simp [e3]))]
      simpa [e2, e3, bI] using hz
theorem p_setGift (h : RG s q) {p : Nat} {Z : SG → Prop} (hz : ∀ w, RG w (gv p q) → Z w) : pX2_setGift (nI p) s Z := by
  unfold pX2_setGift
  exact hz _ ⟨(pm_s p).symm, h.2.1, h.2.2.1, h.2.2.2.1, h.2.2.2.2⟩
theorem p_begin (h : RG s q) (r : Nat) {Z : SG → Prop} (hz : ∀ w, RG w (ng r q) → Z w) : pX2_begin (nI r) s Z := by
  unfold pX2_begin
  exact p_empty r fun w h1 => hz _ ⟨pm_0.symm, pm_0.symm, h.2.2.1, h.2.2.2.1, h1⟩
theorem p_putGift (h : RG s q) (ho : OG q) {c : Nat} (hc : c < 16) (hcp : cp c q = true) {Z : Int32 → SG → Prop} (hz : ∀ w, RG w (pt c q) → Z (bI (pw c q)) w) : pX2_putGift (nI c) s Z := by
  unfold pX2_putGift
  unfold cp at hcp
  simp only [Bool.and_eq_true, Bool.not_eq_true', beq_iff_eq, beq_eq_false_iff_ne, ne_eq] at hcp
  have h1 := ho.2.2.2.2.1 hcp.1
  have hm := mvN_le q
  have hg := ho.2.1
  have hov : ov q = false := ov_f.mpr ⟨h1.2.1, by omega⟩
  refine p_mover h ho ?_
  have e1 : mvI q = nI (mvN q) := by unfold mvI; rw [hov]; rfl
  have e2 : q.2.1 - 1 + 1 = q.2.1 := by omega
  rw [e1, h.1, ← e2, pm_s]
  refine p_put h.2.2.2.2 (by omega) hc hcp.2 fun w2 h2 => ?_
  rw [e2] at h2
  refine p_hasWonLine h2 ho.2.2.1 ?_
  show (if bI (pw c q) = 0 then _ else _)
  have hv : ∀ x : Int32, x = s.2.2.1 (mvN q) + 1 → ∀ i, i < 2 → upd s.2.2.1 (mvN q) x i = if mvN q = i then s.2.2.1 i + 1 else s.2.2.1 i := fun x ex i hi => by
    by_cases e : i = mvN q
    · rw [if_pos e.symm, e, pk_us, ex]
    · rw [if_neg (fun z => e z.symm), pk_un e]
  cases e : pw c q
  · rw [if_pos (show bI false = 0 from rfl)]
    rw [e] at hz
    refine hz _ ⟨pm_0.symm, ?_, ?_, ?_, h2⟩
    · show s.2.1 = pm (if pw c q then mvN q + 1 else 0)
      rw [e, h.2.1, h1.2.1]
      rfl
    · show _ = if pw c q && mvN q == 0 then _ else _
      rw [e]
      exact h.2.2.1
    · show _ = if pw c q && mvN q == 1 then _ else _
      rw [e]
      exact h.2.2.2.1
  · rw [if_neg (show ¬ bI true = 0 by decide), if_neg (nI_pos (by omega)), if_neg (mt (ile 2 (k := 2) rfl (by omega) (by omega)).mp (by omega))]
    refine ⟨vp_in_nI (by omega) (by omega), fun x8 e8 => ⟨vp_in_nI (by omega) (by omega), ?_⟩⟩
    rw [nI_clamp (by omega)] at e8 ⊢
    rw [e] at hz
    have hv := hv x8 e8
    refine hz _ ⟨pm_0.symm, ?_, ?_, ?_, h2⟩
    · show nI (mvN q) = pm (if pw c q then mvN q + 1 else 0)
      rw [e]
      exact (pm_s _).symm
    · show upd s.2.2.1 (mvN q) x8 0 = if pw c q && mvN q == 0 then _ else _
      rw [e, hv 0 (by omega), h.2.2.1]
      by_cases z : mvN q = 0
      · rw [if_pos z, if_pos (by simp [z])]
      · rw [if_neg z, if_neg (by simp [z])]
    · show upd s.2.2.1 (mvN q) x8 1 = if pw c q && mvN q == 1 then _ else _
      rw [e, hv 1 (by omega), h.2.2.2.1]
      by_cases z : mvN q = 1
      · rw [if_pos z, if_pos (by simp [z])]
      · rw [if_neg z, if_neg (by simp [z])]
theorem p_copyG {u : SG} (h : RG s q) {Z : SG × SG → Prop} (hz : ∀ w, RG w q → Z (w, s)) : pX2_copyFrom u s Z := by
  unfold pX2_copyFrom
  refine p_copyB h.2.2.2.2 fun w1 h1 => ?_
  refine pk_loop (fun n i t => pX2_copyFrom_29 Z (s.1, s.2.1, s.2.2.1, s.2.2.2) n (nI i) t) (fun i t => t.1 = s.1 ∧ t.2.1 = s.2.1 ∧ t.2.2.2 = w1 ∧ ∀ k, k < i → t.2.2.1 k = s.2.2.1 k) 2 0 (s.1, s.2.1, u.2.2.1, w1) (by omega) ⟨rfl, rfl, rfl, fun t ht => absurd ht (by omega)⟩ ?_ ?_
  · intro n t ht
    show pX2_copyFrom_29 Z (s.1, s.2.1, s.2.2.1, s.2.2.2) (n + 1) (nI 2) t
    rw [pX2_copyFrom_29, if_pos ((ile 2 (k := 2) rfl (by omega) (by omega)).mpr (by omega))]
    exact hz t ⟨ht.1.trans h.1, ht.2.1.trans h.2.1, (ht.2.2.2 0 (by omega)).trans h.2.2.1, (ht.2.2.2 1 (by omega)).trans h.2.2.2.1, by rw [ht.2.2.1]; exact h1⟩
  · intro n i t hi ht hk
    show pX2_copyFrom_29 Z (s.1, s.2.1, s.2.2.1, s.2.2.2) (n + 1) (nI i) t
    have e9 := mt (ile 2 (k := 2) (j := i) rfl (by omega) (by omega)).mp (by omega)
    rw [pX2_copyFrom_29, if_neg e9, if_neg e9]
    refine ⟨vp_in_nI hi (by omega), fun x5 e5 => ⟨vp_in_nI hi (by omega), fun x7 e7 => ?_⟩⟩
    rw [nI_clamp (by omega)] at e5 ⊢
    rw [e7, nI_1]
    refine hk _ ⟨ht.1, ht.2.1, ht.2.2.1, fun k hk2 => ?_⟩
    show upd t.2.2.1 i x5 k = _
    by_cases e : k = i
    · rw [e, pk_us, e5]
    · rw [pk_un e]
      exact ht.2.2.2 k (by omega)
/-! the history of the class: the states from the newest on -/
def hst (h : SH) (i : Nat) : SG := match i with
  | 0 => h.2.2.1
  | 1 => h.2.2.2.1
  | 2 => h.2.2.2.2.1
  | _ => h.2.2.2.2.2
def psh (q : PG) (L : Nat → PG) : Nat → PG
  | 0 => q
  | j + 1 => L j
def RHc (h : SH) (L : Nat → PG) (n : Nat) : Prop := ∃ x, x < 4 ∧ h.1 = nI x ∧ h.2.1 = nI n ∧ n ≤ 4 ∧ ∀ j, j < n → RG (hst h ((x + 3 - j) % 4)) (L j)
theorem sz4 {n : Nat} (hn : n ≤ 4) {x : Int32} (h : x = (if 4 < nI n + 1 then 4 else nI n + 1)) : x = nI (min (n + 1) 4) := by
  rw [nI_1] at h
  by_cases e : n = 4
  · rw [if_pos ((igt 4 (k := 4) rfl (by omega) (by omega)).mpr (by omega))] at h
    rw [h, show min (n + 1) 4 = 4 by omega]
    rfl
  · rw [if_neg (mt (igt 4 (k := 4) rfl (by omega) (by omega)).mp (by omega))] at h
    rw [h, show min (n + 1) 4 = n + 1 by omega]
theorem p_record {hh : SH} {L : Nat → PG} {n : Nat} (h : RHc hh L n) (hg : RG s q) {Z : SH × SG → Prop} (hz : ∀ h', RHc h' (psh q L) (min (n + 1) 4) → Z (h', s)) : pX3_record hh s Z := by
  obtain ⟨x, hx, e1, e2, hn, hL⟩ := h
  unfold pX3_record
  rw [e1, e2]
  rcases (show x = 0 ∨ x = 1 ∨ x = 2 ∨ x = 3 by omega) with rfl | rfl | rfl | rfl
  · rw [if_pos (show nI 0 = 0 from rfl)]
    refine p_copyG hg fun w hw x4 e4 => hz _ ⟨1, by omega, rfl, sz4 hn e4, by omega, fun j hj => ?_⟩
    rcases (show j = 0 ∨ j = 1 ∨ j = 2 ∨ j = 3 by omega) with rfl | rfl | rfl | rfl
    · exact hw
    · exact hL 0 (by omega)
    · exact hL 1 (by omega)
    · exact hL 2 (by omega)
  · rw [if_neg (show ¬ nI 1 = 0 by decide), if_pos (show nI 1 = 1 from rfl)]
    refine p_copyG hg fun w hw x4 e4 => hz _ ⟨2, by omega, rfl, sz4 hn e4, by omega, fun j hj => ?_⟩
    rcases (show j = 0 ∨ j = 1 ∨ j = 2 ∨ j = 3 by omega) with rfl | rfl | rfl | rfl
    · exact hw
    · exact hL 0 (by omega)
    · exact hL 1 (by omega)
    · exact hL 2 (by omega)
  · rw [if_neg (show ¬ nI 2 = 0 by decide), if_neg (show ¬ nI 2 = 1 by decide), if_pos (show nI 2 = 2 from rfl)]
    refine p_copyG hg fun w hw x4 e4 => hz _ ⟨3, by omega, rfl, sz4 hn e4, by omega, fun j hj => ?_⟩
    rcases (show j = 0 ∨ j = 1 ∨ j = 2 ∨ j = 3 by omega) with rfl | rfl | rfl | rfl
    · exact hw
    · exact hL 0 (by omega)
    · exact hL 1 (by omega)
    · exact hL 2 (by omega)
  · rw [if_neg (show ¬ nI 3 = 0 by decide), if_neg (show ¬ nI 3 = 1 by decide), if_neg (show ¬ nI 3 = 2 by decide), if_pos (show nI 3 = 3 from rfl)]
    refine p_copyG hg fun w hw x4 e4 => hz _ ⟨0, by omega, rfl, sz4 hn e4, by omega, fun j hj => ?_⟩
    rcases (show j = 0 ∨ j = 1 ∨ j = 2 ∨ j = 3 by omega) with rfl | rfl | rfl | rfl
    · exact hw
    · exact hL 0 (by omega)
    · exact hL 1 (by omega)
    · exact hL 2 (by omega)
theorem p_takeBack {hh : SH} {L : Nat → PG} {n : Nat} (h : RHc hh L (n + 1)) {Z : SH × SG → Prop} (hz : ∀ h' s', RHc h' (fun j => L (j + 1)) n → RG s' (L 0) → Z (h', s')) : pX3_takeBack hh s Z := by
  obtain ⟨x, hx, e1, e2, hn, hL⟩ := h
  unfold pX3_takeBack
  have e3 : ¬ nI (n + 1) ≤ 0 := nI_nle (by omega) (by omega)
  have e4 : ∀ x : Int32, x = nI (n + 1) - 1 → x = nI n := fun x h => h.trans (nI_pred n)
  have h0 := hL 0 (by omega)
  rw [e1, e2]
  rcases (show x = 0 ∨ x = 1 ∨ x = 2 ∨ x = 3 by omega) with rfl | rfl | rfl | rfl
  · rw [if_pos (show nI 0 = 0 from rfl), if_neg e3]
    refine p_copyG h0 fun w hw x5 e5 => hz _ _ ⟨3, by omega, rfl, e4 _ e5, by omega, fun j hj => ?_⟩ hw
    rcases (show j = 0 ∨ j = 1 ∨ j = 2 by omega) with rfl | rfl | rfl
    · exact hL 1 (by omega)
    · exact hL 2 (by omega)
    · exact hL 3 (by omega)
  · rw [if_neg (show ¬ nI 1 = 0 by decide), if_pos (show nI 1 = 1 from rfl), if_neg e3]
    refine p_copyG h0 fun w hw x5 e5 => hz _ _ ⟨0, by omega, rfl, e4 _ e5, by omega, fun j hj => ?_⟩ hw
    rcases (show j = 0 ∨ j = 1 ∨ j = 2 by omega) with rfl | rfl | rfl
    · exact hL 1 (by omega)
    · exact hL 2 (by omega)
    · exact hL 3 (by omega)
  · rw [if_neg (show ¬ nI 2 = 0 by decide), if_neg (show ¬ nI 2 = 1 by decide), if_pos (show nI 2 = 2 from rfl), if_neg e3]
    refine p_copyG h0 fun w hw x5 e5 => hz _ _ ⟨1, by omega, rfl, e4 _ e5, by omega, fun j hj => ?_⟩ hw
    rcases (show j = 0 ∨ j = 1 ∨ j = 2 by omega) with rfl | rfl | rfl
    · exact hL 1 (by omega)
    · exact hL 2 (by omega)
    · exact hL 3 (by omega)
  · rw [if_neg (show ¬ nI 3 = 0 by decide), if_neg (show ¬ nI 3 = 1 by decide), if_neg (show ¬ nI 3 = 2 by decide), if_pos (show nI 3 = 3 from rfl), if_neg e3]
    refine p_copyG h0 fun w hw x5 e5 => hz _ _ ⟨2, by omega, rfl, e4 _ e5, by omega, fun j hj => ?_⟩ hw
    rcases (show j = 0 ∨ j = 1 ∨ j = 2 by omega) with rfl | rfl | rfl
    · exact hL 1 (by omega)
    · exact hL 2 (by omega)
    · exact hL 3 (by omega)
end Game
