/-! the model: recorded states, snapshot, ranges -/
theorem RA_of {a c : Nat → Int32} {q : PG} (h : ∀ k, k < 21 → a k = c k) (hc : RA c q) : RA a q :=
  ⟨fun k hk => (h k (by omega)).trans (hc.1 k hk), (h 16 (by omega)).trans hc.2.1, (h 17 (by omega)).trans hc.2.2.1, (h 18 (by omega)).trans hc.2.2.2.1, (h 19 (by omega)).trans hc.2.2.2.2.1, (h 20 (by omega)).trans hc.2.2.2.2.2⟩
/-- the model's recorded states, from the newest on -/
def RHm (a : Nat → Int32) (L : Nat → PG) (n : Nat) : Prop := n ≤ 4 ∧ ∀ j, j < n → RA (fun k => a (21 * (n - 1 - j) + k)) (L j)
theorem e21 (m i : Nat) : (21 : Int32) * nI m + nI i = nI (21 * m + i) := by rw [show (21 : Int32) = nI 21 from rfl, pk_mul, nI_add]
/-- another recorded array, another number of states -/
def sRec (u : SM) (s : Nat → Int32) (k th : Int32) : SM := (u.1, u.2.1, s, u.2.2.2.1, u.2.2.2.2.1, u.2.2.2.2.2.1, u.2.2.2.2.2.2.1, u.2.2.2.2.2.2.2.1, k, u.2.2.2.2.2.2.2.2.2.1, th, u.2.2.2.2.2.2.2.2.2.2.2)
section Model2
variable {u : SM} {q : PG}
theorem m_rec54 {Z : SM → Prop} (s0 : Nat → Int32) {m : Nat} (hm : m < 4) (th : Int32) (hz : ∀ s, (∀ k, k < 21 → s (21 * m + k) = u.1 k) → (∀ k, k < 21 * m → s k = s0 k) → Z (sRec u s (nI (m + 1)) th)) : ∃ n, pX6_records_54 Z n 0 (sRec u s0 (nI m) th) := by
  refine pk_loop (fun n i s => pX6_records_54 Z n (nI i) (sRec u s (nI m) th)) (fun i s => (∀ k, k < i → s (21 * m + k) = u.1 k) ∧ (∀ k, k < 21 * m → s k = s0 k)) 21 0 s0 (by omega) ⟨fun k hk => absurd hk (by omega), fun k _ => rfl⟩ ?_ ?_
  · intro n s hs
    show pX6_records_54 Z (n + 1) (nI 21) (sRec u s (nI m) th)
    rw [pX6_records_54, if_pos ((ile 21 (k := 21) rfl (by omega) (by omega)).mpr (by omega))]
    intro x3 e3
    have e3 : x3 = nI m + 1 := e3
    rw [nI_1] at e3
    rw [e3]
    exact hz s hs.1 hs.2
  · intro n i s hi hs hk
    show pX6_records_54 Z (n + 1) (nI i) (sRec u s (nI m) th)
    rw [pX6_records_54, if_neg (mt (ile 21 (k := 21) rfl (by omega) (by omega)).mp (by omega))]
    refine ⟨vp_in_nI (by omega) (by omega), fun x5 e5 => ?_⟩
    have e6 : (21 * (sRec u s (nI m) th).2.2.2.2.2.2.2.2.1) + nI i = nI (21 * m + i) := e21 m i
    rw [e6, nI_clamp (by omega)]
    rw [nI_clamp (by omega)] at e5
    have e5 : x5 = u.1 i := e5
    refine ⟨vp_in_nI (by omega) (by omega), fun x7 e7 => ?_⟩
    rw [e7, nI_1]
    refine hk (upd s (21 * m + i) x5) ⟨fun k hk2 => ?_, fun k hk2 => ?_⟩
    · by_cases e : k = i
      · rw [e, pk_us, e5]
      · rw [pk_un (by omega)]
        exact hs.1 k (by omega)
    · rw [pk_un (by omega)]
      exact hs.2 k hk2
theorem m_records {L : Nat → PG} {n : Nat} (h : RA u.1 q) (hL : RHm u.2.2.1 L n) (hn : u.2.2.2.2.2.2.2.2.1 = nI n) {Z : SM → Prop} (hz : ∀ s, RHm s (psh q L) (min (n + 1) 4) → Z (sRec u s (nI (min (n + 1) 4)) 0)) : pX6_records u Z := by
  unfold pX6_records
  rw [hn]
  have hn4 := hL.1
  by_cases e : n = 4
  · rw [if_pos ((ieq 4 (k := 4) rfl (by omega) (by omega)).mpr e)]
    subst e
    refine pk_loop (fun n i s => pX6_records_15 Z n (nI i) (sRec u s (nI 4) 0)) (fun i s => (∀ k, k < i → s k = u.2.2.1 (k + 21)) ∧ (∀ k, i ≤ k → s k = u.2.2.1 k)) 63 0 u.2.2.1 (by omega) ⟨fun k hk => absurd hk (by omega), fun k _ => rfl⟩ ?_ ?_
    · intro n s hs
      show pX6_records_15 Z (n + 1) (nI 63) (sRec u s (nI 4) 0)
      rw [pX6_records_15, if_pos ((ile 63 (k := 63) rfl (by omega) (by omega)).mpr (by omega))]
      intro x9 e9
      have e9 : x9 = nI 3 := (show x9 = nI 4 - 1 from e9).trans (nI_pred 3)
      rw [e9]
      refine m_rec54 (u := u) s (m := 3) (by omega) 0 fun t h1 h2 => hz t ⟨by omega, fun j hj => ?_⟩
      rcases (show j = 0 ∨ j = 1 ∨ j = 2 ∨ j = 3 by omega) with rfl | rfl | rfl | rfl
      · exact RA_of (fun k hk => h1 k hk) h
      · refine RA_of (fun k hk => ?_) (hL.2 0 (by omega))
        exact (h2 (42 + k) (by omega)).trans ((hs.1 (42 + k) (by omega)).trans (congrArg u.2.2.1 (by omega)))
      · refine RA_of (fun k hk => ?_) (hL.2 1 (by omega))
        exact (h2 (21 + k) (by omega)).trans ((hs.1 (21 + k) (by omega)).trans (congrArg u.2.2.1 (by omega)))
      · refine RA_of (fun k hk => ?_) (hL.2 2 (by omega))
        exact (h2 (0 + k) (by omega)).trans ((hs.1 (0 + k) (by omega)).trans (congrArg u.2.2.1 (by omega)))
    · intro n i s hi hs hk
      show pX6_records_15 Z (n + 1) (nI i) (sRec u s (nI 4) 0)
      rw [pX6_records_15, if_neg (mt (ile 63 (k := 63) rfl (by omega) (by omega)).mp (by omega))]
      have e6 : nI i + (21 : Int32) = nI (i + 21) := nI_add i 21
      rw [e6]
      refine ⟨vp_in_nI (by omega) (by omega), fun x11 e11 => ⟨vp_in_nI (by omega) (by omega), fun x13 e13 => ?_⟩⟩
      rw [nI_clamp (by omega)] at e11
      have e11 : x11 = s (i + 21) := e11
      rw [nI_clamp (by omega), e13, nI_1]
      refine hk (upd s i x11) ⟨fun k hk2 => ?_, fun k hk2 => ?_⟩
      · by_cases e : k = i
        · rw [e, pk_us, e11]
          exact hs.2 _ (by omega)
        · rw [pk_un e]
          exact hs.1 k (by omega)
      · rw [pk_un (by omega)]
        exact hs.2 k (by omega)
  · rw [if_neg (mt (ieq 4 (k := 4) rfl (by omega) (by omega)).mp e)]
    have e2 : min (n + 1) 4 = n + 1 := by omega
    rw [e2] at hz
    refine Exists.imp (fun k hk => hk) (m_rec54 (u := u) u.2.2.1 (m := n) (by omega) 0 fun t h1 h2 => hz t ⟨by omega, fun j hj => ?_⟩ : ∃ n9, pX6_records_54 Z n9 0 (sRec u u.2.2.1 (nI n) 0))
    cases j with
    | zero => exact RA_of (fun k hk => h1 k hk) h
    | succ j =>
      refine RA_of (fun k hk => ?_) (hL.2 j (by omega))
      show t (21 * (n + 1 - 1 - (j + 1)) + k) = u.2.2.1 (21 * (n - 1 - j) + k)
      rw [show n + 1 - 1 - (j + 1) = n - 1 - j by omega]
      exact h2 _ (by omega)
/-- the state behind undo -/
def sUn (u : SM) (a : Nat → Int32) (k : Int32) : SM := (a, u.2.1, u.2.2.1, u.2.2.2.1, u.2.2.2.2.1, u.2.2.2.2.2.1, u.2.2.2.2.2.2.1, u.2.2.2.2.2.2.2.1, k, u.2.2.2.2.2.2.2.2.2.1, 0, u.2.2.2.2.2.2.2.2.2.2.2)
theorem m_undo {L : Nat → PG} {n : Nat} (hL : RHm u.2.2.1 L (n + 1)) (hn : u.2.2.2.2.2.2.2.2.1 = nI (n + 1)) {Z : Int32 → SM → Prop} (hz : ∀ a, RA a (L 0) → Z (nI n) (sUn u a (nI n))) : pX6_undo u Z := by
  unfold pX6_undo
  have hn4 := hL.1
  rw [hn, if_neg (nI_ne0 (by omega) (by omega))]
  intro x2 e2
  rw [nI_pred] at e2
  rw [e2]
  refine pk_loop (fun m i s => pX6_undo_30 Z m (nI i) (sUn u s (nI n))) (fun i s => ∀ k, k < i → s k = u.2.2.1 (21 * n + k)) 21 0 u.1 (by omega) (fun k hk => absurd hk (by omega)) ?_ ?_
  · intro m s hs
    show pX6_undo_30 Z (m + 1) (nI 21) (sUn u s (nI n))
    rw [pX6_undo_30, if_pos ((ile 21 (k := 21) rfl (by omega) (by omega)).mpr (by omega))]
    exact hz s (RA_of (fun k hk => hs k hk) (hL.2 0 (by omega)))
  · intro m i s hi hs hk
    show pX6_undo_30 Z (m + 1) (nI i) (sUn u s (nI n))
    rw [pX6_undo_30, if_neg (mt (ile 21 (k := 21) rfl (by omega) (by omega)).mp (by omega))]
    have e6 : (21 * (sUn u s (nI n)).2.2.2.2.2.2.2.2.1) + nI i = nI (21 * n + i) := e21 n i
    rw [e6]
    refine ⟨vp_in_nI (by omega) (by omega), fun x5 e5 => ⟨vp_in_nI (by omega) (by omega), fun x7 e7 => ?_⟩⟩
    rw [nI_clamp (by omega)] at e5
    have e5 : x5 = u.2.2.1 (21 * n + i) := e5
    rw [nI_clamp (by omega), e7, nI_1]
    refine hk (upd s i x5) fun k hk2 => ?_
    by_cases e : k = i
    · rw [e, pk_us, e5]
    · rw [pk_un e]
      exact hs k (by omega)
/-- the state behind takeSnapshot -/
def sSn (u : SM) (s : Nat → Int32) (th : Int32) : SM := (u.1, u.2.1, u.2.2.1, s, u.2.2.2.2.1, u.2.2.2.2.2.1, u.2.2.2.2.2.2.1, u.2.2.2.2.2.2.2.1, u.2.2.2.2.2.2.2.2.1, 1, th, u.2.2.2.2.2.2.2.2.2.2.2)
theorem m_takeSnapshot (h : RA u.1 q) (hw : WB q.1) {Z : Int32 → SM → Prop} (hz : ∀ s, RA s q → Z (nI (ct q.1)) (sSn u s 0)) : pX6_takeSnapshot u Z := by
  unfold pX6_takeSnapshot
  refine pk_loop (fun m i s => pX6_takeSnapshot_2 Z m (nI i) (u.1, u.2.1, u.2.2.1, s, u.2.2.2.2)) (fun i s => ∀ k, k < i → s k = u.1 k) 21 0 u.2.2.2.1 (by omega) (fun k hk => absurd hk (by omega)) ?_ ?_
  · intro m s hs
    show pX6_takeSnapshot_2 Z (m + 1) (nI 21) (u.1, u.2.1, u.2.2.1, s, u.2.2.2.2)
    rw [pX6_takeSnapshot_2, if_pos ((ile 21 (k := 21) rfl (by omega) (by omega)).mpr (by omega))]
    refine m_count (q := q) h hw ?_
    exact hz s (RA_of (fun k hk => hs k hk) h)
  · intro m i s hi hs hk
    show pX6_takeSnapshot_2 Z (m + 1) (nI i) (u.1, u.2.1, u.2.2.1, s, u.2.2.2.2)
    rw [pX6_takeSnapshot_2, if_neg (mt (ile 21 (k := 21) rfl (by omega) (by omega)).mp (by omega))]
    refine ⟨vp_in_nI (by omega) (by omega), fun x5 e5 => ⟨vp_in_nI (by omega) (by omega), fun x7 e7 => ?_⟩⟩
    rw [nI_clamp (by omega)] at e5
    have e5 : x5 = u.1 i := e5
    rw [nI_clamp (by omega), e7, nI_1]
    refine hk (upd s i x5) fun k hk2 => ?_
    by_cases e : k = i
    · rw [e, pk_us, e5]
    · rw [pk_un e]
      exact hs k (by omega)
theorem m_restoreAll {qs : PG} (h : RA u.2.2.2.1 qs) (hw : WB qs.1) {Z : Int32 → SM → Prop} (hz : ∀ a, RA a qs → Z (nI (ct qs.1)) (a, u.2)) : ∃ n9, pX6_restoreSnapshot_19 Z n9 0 u := by
  refine pk_loop (fun m i s => pX6_restoreSnapshot_19 Z m (nI i) (s, u.2)) (fun i s => ∀ k, k < i → s k = u.2.2.2.1 k) 21 0 u.1 (by omega) (fun k hk => absurd hk (by omega)) ?_ ?_
  · intro m s hs
    show pX6_restoreSnapshot_19 Z (m + 1) (nI 21) (s, u.2)
    rw [pX6_restoreSnapshot_19, if_pos ((ile 21 (k := 21) rfl (by omega) (by omega)).mpr (by omega))]
    have ha : RA s qs := RA_of (fun k hk => hs k hk) h
    refine m_count (q := qs) ha hw ?_
    exact hz s ha
  · intro m i s hi hs hk
    show pX6_restoreSnapshot_19 Z (m + 1) (nI i) (s, u.2)
    rw [pX6_restoreSnapshot_19, if_neg (mt (ile 21 (k := 21) rfl (by omega) (by omega)).mp (by omega))]
    refine ⟨vp_in_nI (by omega) (by omega), fun x6 e6 => ⟨vp_in_nI (by omega) (by omega), fun x8 e8 => ?_⟩⟩
    rw [nI_clamp (by omega)] at e6
    have e6 : x6 = u.2.2.2.1 i := e6
    rw [nI_clamp (by omega), e8, nI_1]
    refine hk (upd s i x6) fun k hk2 => ?_
    by_cases e : k = i
    · rw [e, pk_us, e6]
    · rw [pk_un e]
      exact hs k (by omega)
theorem m_restart {q0 : PG} (h : RA u.1 q0) (r : Nat) (x : Int32) {Z : Int32 → SM → Prop} (hz : ∀ a, RA a (ng r q0) → Z x (a, u.2)) : ∃ n9, pX6_restart_27 Z (nI r) x n9 0 u := by
  refine pk_loop (fun m i s => pX6_restart_27 Z (nI r) x m (nI i) (s, u.2)) (fun i s => (∀ k, k < i → s k = 0) ∧ s 18 = u.1 18 ∧ s 19 = u.1 19) 17 0 u.1 (by omega) ⟨fun k hk => absurd hk (by omega), rfl, rfl⟩ ?_ ?_
  · intro m s hs
    show pX6_restart_27 Z (nI r) x (m + 1) (nI 17) (s, u.2)
    rw [pX6_restart_27, if_pos ((igt 16 (k := 16) rfl (by omega) (by omega)).mpr (by omega))]
    refine hz (upd (upd s 17 (nI r)) 20 0) ⟨fun k hk => ?_, ?_, ?_, ?_, ?_, pk_us⟩
    · rw [pk_un (by omega), pk_un (by omega)]
      exact hs.1 k (by omega)
    · rw [pk_un (by omega), pk_un (by omega)]
      exact hs.1 16 (by omega)
    · rw [pk_un (by omega), pk_us]
      rfl
    · rw [pk_un (by omega), pk_un (by omega), hs.2.1]
      exact h.2.2.2.1
    · rw [pk_un (by omega), pk_un (by omega), hs.2.2]
      exact h.2.2.2.2.1
  · intro m i s hi hs hk
    show pX6_restart_27 Z (nI r) x (m + 1) (nI i) (s, u.2)
    rw [pX6_restart_27, if_neg (mt (igt 16 (k := 16) rfl (by omega) (by omega)).mp (by omega))]
    refine ⟨vp_in_nI (by omega) (by omega), fun x7 e7 => ?_⟩
    rw [nI_clamp (by omega), e7, nI_1]
    refine hk (upd s i 0) ⟨fun k hk2 => ?_, ?_, ?_⟩
    · by_cases e : k = i
      · rw [e, pk_us]
      · rw [pk_un e]
        exact hs.1 k (by omega)
    · rw [pk_un (by omega)]
      exact hs.2.1
    · rw [pk_un (by omega)]
      exact hs.2.2
end Model2
/-! ranges -/
theorem cmp_lt {x y : Int64} : lg_cmp x y < 0 ↔ x < y := by
  unfold lg_cmp
  by_cases h : x > y
  · rw [if_pos h]
    refine ⟨fun z => absurd z (by decide), fun z => ?_⟩
    have h1 : y < x := h
    rw [Int64.lt_iff_toInt_lt] at h1 z
    omega
  · rw [if_neg h]
    by_cases e : x = y
    · rw [if_pos e, e]
      exact ⟨fun z => absurd z (by decide), fun z => by rw [Int64.lt_iff_toInt_lt] at z; omega⟩
    · rw [if_neg e]
      refine ⟨fun _ => ?_, fun _ => by decide⟩
      have h1 : ¬ y < x := h
      have h2 : ¬ x.toInt = y.toInt := fun z => e (Int64.toInt_inj.mp z)
      rw [Int64.lt_iff_toInt_lt] at h1 ⊢
      omega
theorem cmp_gt {x y : Int64} : 0 < lg_cmp x y ↔ y < x := by
  unfold lg_cmp
  by_cases h : x > y
  · rw [if_pos h]
    exact ⟨fun _ => h, fun _ => by decide⟩
  · rw [if_neg h]
    by_cases e : x = y
    · rw [if_pos e]
      exact ⟨fun z => absurd z (by decide), fun z => absurd z h⟩
    · rw [if_neg e]
      exact ⟨fun z => absurd z (by decide), fun z => absurd z h⟩
theorem cmp_eq {x : Int64} : lg_cmp x x = 0 := by
  unfold lg_cmp
  rw [if_neg (fun h : x > x => by have h1 : x < x := h; rw [Int64.lt_iff_toInt_lt] at h1; omega), if_pos rfl]
theorem m_inN {a b c : Nat} (ha : a < 2 ^ 31) (hb : b < 2 ^ 31) (hc : c < 2 ^ 31) {Z : Int32 → Prop} (hz : Z (bI (decide (b ≤ a) && decide (a ≤ c)))) : pX6_in (lN a) (lN b) (lN c) Z := by
  unfold pX6_in
  by_cases h1 : b ≤ a
  · rw [if_neg (fun z => by have := (lN_lt ha hb).mp (cmp_lt.mp z); omega)]
    by_cases h2 : a ≤ c
    · rw [if_neg (fun z => by have := (lN_lt hc ha).mp (cmp_gt.mp z); omega)]
      rw [decide_eq_true h1, decide_eq_true h2] at hz
      exact hz
    · rw [if_pos (cmp_gt.mpr ((lN_lt hc ha).mpr (by omega)))]
      rw [decide_eq_false h2, Bool.and_false] at hz
      exact hz
  · rw [if_pos (cmp_lt.mpr ((lN_lt ha hb).mpr (by omega)))]
    rw [decide_eq_false h1] at hz
    exact hz
theorem m_inS {x : Int32} {y : Int64} {Z : Int32 → Prop} (hx : x < 0) (hz : Z 0) : pX6_in x.toInt64 0 y Z := by
  unfold pX6_in
  rw [if_pos]
  · exact hz
  · refine cmp_lt.mpr ?_
    rw [Int64.lt_iff_toInt_lt, Int32.toInt_toInt64]
    rw [Int32.lt_iff_toInt_lt] at hx
    exact hx
/-- an argument that has to lie below n: what both ask -/
theorem ix3 (x : Int32) {n : Nat} (hn : n < 2 ^ 31) : (x < 0) ∨ (¬ x < 0 ∧ ¬ x < nI n ∧ ∃ j, n ≤ j ∧ j < 2 ^ 31 ∧ x = nI j) ∨ ∃ j, j < n ∧ x = nI j := by
  by_cases h : x < 0
  · exact Or.inl h
  · obtain ⟨j, hj, rfl⟩ := nI_of h
    by_cases h2 : j < n
    · exact Or.inr (Or.inr ⟨j, h2, rfl⟩)
    · exact Or.inr (Or.inl ⟨h, fun z => h2 ((nI_ltI hj hn).mp z), j, by omega, hj, rfl⟩)
