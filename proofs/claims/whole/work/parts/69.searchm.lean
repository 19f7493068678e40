/-! the model's search: a stack of options, best values and held gifts -/
def popE (K17 : Int32 → SM → Prop) (v1 : Int32) (u : SM) : Prop :=
  (vp_in v1 10 ∧ (∀ x10 : Int32, x10 = (u.2.2.2.2.2.2.1 (v1).toNatClampNeg) → (∀ x11 : Int32, x11 = (v1 + (-1)) → (if x11 < 0 then (K17 x11 u) else (vp_in x11 10 ∧ (if (u.2.2.2.2.2.2.2.1 (x11).toNatClampNeg) = 0 then (vp_in x11 10 ∧ (∀ x23 : Int32, x23 = (u.2.2.2.2.2.2.2.1 (x11).toNatClampNeg) → (vp_in x11 10 ∧ (vp_in x11 10 ∧ (vp_in (0 + (u.2.2.2.2.2.1 (x11).toNatClampNeg)) 21 ∧ (∀ x28 : Int32, x28 = ((upd u.1 16 x23) ((0 + (u.2.2.2.2.2.1 (x11).toNatClampNeg))).toNatClampNeg) → (vp_in (0 + (u.2.2.2.2.2.1 (x11).toNatClampNeg)) 21 ∧ (pX6_keeps x11 (-x10) ((upd (upd u.1 16 x23) ((0 + (u.2.2.2.2.2.1 (x11).toNatClampNeg))).toNatClampNeg x28), u.2.1, u.2.2.1, u.2.2.2.1, u.2.2.2.2.1, u.2.2.2.2.2.1, u.2.2.2.2.2.2.1, u.2.2.2.2.2.2.2.1, u.2.2.2.2.2.2.2.2.1, u.2.2.2.2.2.2.2.2.2.1, u.2.2.2.2.2.2.2.2.2.2.1, u.2.2.2.2.2.2.2.2.2.2.2.1, u.2.2.2.2.2.2.2.2.2.2.2.2.1, u.2.2.2.2.2.2.2.2.2.2.2.2.2.1, u.2.2.2.2.2.2.2.2.2.2.2.2.2.2.1, u.2.2.2.2.2.2.2.2.2.2.2.2.2.2.2.1, u.2.2.2.2.2.2.2.2.2.2.2.2.2.2.2.2.1, u.2.2.2.2.2.2.2.2.2.2.2.2.2.2.2.2.2) (fun w31 => (K17 x11 w31)))))))))) else (vp_in x11 10 ∧ (∀ x16 : Int32, x16 = (u.2.2.2.2.2.2.2.1 (x11).toNatClampNeg) → (vp_in x11 10 ∧ (vp_in (0 + (u.2.2.2.2.2.1 (x11).toNatClampNeg)) 21 ∧ (pX6_keeps x11 x10 ((upd (upd u.1 16 x16) ((0 + (u.2.2.2.2.2.1 (x11).toNatClampNeg))).toNatClampNeg 0), u.2.1, u.2.2.1, u.2.2.2.1, u.2.2.2.2.1, u.2.2.2.2.2.1, u.2.2.2.2.2.2.1, u.2.2.2.2.2.2.2.1, u.2.2.2.2.2.2.2.2.1, u.2.2.2.2.2.2.2.2.2.1, u.2.2.2.2.2.2.2.2.2.2.1, u.2.2.2.2.2.2.2.2.2.2.2.1, u.2.2.2.2.2.2.2.2.2.2.2.2.1, u.2.2.2.2.2.2.2.2.2.2.2.2.2.1, u.2.2.2.2.2.2.2.2.2.2.2.2.2.2.1, u.2.2.2.2.2.2.2.2.2.2.2.2.2.2.2.1, u.2.2.2.2.2.2.2.2.2.2.2.2.2.2.2.2.1, u.2.2.2.2.2.2.2.2.2.2.2.2.2.2.2.2.2) (fun w21 => (K17 x11 w21)))))))))))))
def mkE (K17 : Int32 → SM → Prop) (v1 : Int32) (u : SM) : Prop :=
  (vp_in v1 10 ∧ (∀ x35 : Int32, x35 = (u.2.2.2.2.2.1 (v1).toNatClampNeg) → (∀ x36 : Int32, x36 = (u.1 16) → (vp_in v1 10 ∧ (if (u.1 16) = 0 then (∀ x66 : Int32, x66 = (x35 + 1) → (∀ x68 : Int32, x68 = (v1 + 1) → (vp_in x68 10 ∧ (vp_in x68 10 ∧ (K17 x68 ((upd u.1 16 x66), u.2.1, u.2.2.1, u.2.2.2.1, u.2.2.2.2.1, (upd u.2.2.2.2.2.1 (x68).toNatClampNeg (-1)), (upd u.2.2.2.2.2.2.1 (x68).toNatClampNeg (-2)), (upd u.2.2.2.2.2.2.2.1 (v1).toNatClampNeg x36), u.2.2.2.2.2.2.2.2.1, u.2.2.2.2.2.2.2.2.2.1, u.2.2.2.2.2.2.2.2.2.2.1, u.2.2.2.2.2.2.2.2.2.2.2.1, u.2.2.2.2.2.2.2.2.2.2.2.2.1, u.2.2.2.2.2.2.2.2.2.2.2.2.2.1, u.2.2.2.2.2.2.2.2.2.2.2.2.2.2.1, u.2.2.2.2.2.2.2.2.2.2.2.2.2.2.2.1, u.2.2.2.2.2.2.2.2.2.2.2.2.2.2.2.2.1, u.2.2.2.2.2.2.2.2.2.2.2.2.2.2.2.2.2)))))) else (∀ x39 : Int32, x39 = (u.1 16) → (vp_in (0 + x35) 21 ∧ (pX6_won ((upd (upd u.1 ((0 + x35)).toNatClampNeg x39) 16 0), u.2.1, u.2.2.1, u.2.2.2.1, u.2.2.2.2.1, u.2.2.2.2.2.1, u.2.2.2.2.2.2.1, (upd u.2.2.2.2.2.2.2.1 (v1).toNatClampNeg x36), u.2.2.2.2.2.2.2.2.1, u.2.2.2.2.2.2.2.2.2.1, u.2.2.2.2.2.2.2.2.2.2.1, u.2.2.2.2.2.2.2.2.2.2.2.1, u.2.2.2.2.2.2.2.2.2.2.2.2.1, u.2.2.2.2.2.2.2.2.2.2.2.2.2.1, u.2.2.2.2.2.2.2.2.2.2.2.2.2.2.1, u.2.2.2.2.2.2.2.2.2.2.2.2.2.2.2.1, u.2.2.2.2.2.2.2.2.2.2.2.2.2.2.2.2.1, u.2.2.2.2.2.2.2.2.2.2.2.2.2.2.2.2.2) (fun r41 => (if r41 ≤ 0 then (pX6_count ((upd (upd u.1 ((0 + x35)).toNatClampNeg x39) 16 0), u.2.1, u.2.2.1, u.2.2.2.1, u.2.2.2.2.1, u.2.2.2.2.2.1, u.2.2.2.2.2.2.1, (upd u.2.2.2.2.2.2.2.1 (v1).toNatClampNeg x36), u.2.2.2.2.2.2.2.2.1, u.2.2.2.2.2.2.2.2.2.1, u.2.2.2.2.2.2.2.2.2.2.1, u.2.2.2.2.2.2.2.2.2.2.2.1, u.2.2.2.2.2.2.2.2.2.2.2.2.1, u.2.2.2.2.2.2.2.2.2.2.2.2.2.1, u.2.2.2.2.2.2.2.2.2.2.2.2.2.2.1, u.2.2.2.2.2.2.2.2.2.2.2.2.2.2.2.1, u.2.2.2.2.2.2.2.2.2.2.2.2.2.2.2.2.1, u.2.2.2.2.2.2.2.2.2.2.2.2.2.2.2.2.2) (fun r44 => (if r44 = 16 then (vp_in (0 + x35) 21 ∧ (vp_in v1 10 ∧ (∀ x54 : Int32, x54 = ((upd u.2.2.2.2.2.2.2.1 (v1).toNatClampNeg x36) (v1).toNatClampNeg) → (pX6_keeps v1 0 ((upd (upd (upd (upd u.1 ((0 + x35)).toNatClampNeg x39) 16 0) ((0 + x35)).toNatClampNeg 0) 16 x54), u.2.1, u.2.2.1, u.2.2.2.1, u.2.2.2.2.1, u.2.2.2.2.2.1, u.2.2.2.2.2.2.1, (upd u.2.2.2.2.2.2.2.1 (v1).toNatClampNeg x36), u.2.2.2.2.2.2.2.2.1, u.2.2.2.2.2.2.2.2.2.1, u.2.2.2.2.2.2.2.2.2.2.1, u.2.2.2.2.2.2.2.2.2.2.2.1, u.2.2.2.2.2.2.2.2.2.2.2.2.1, u.2.2.2.2.2.2.2.2.2.2.2.2.2.1, u.2.2.2.2.2.2.2.2.2.2.2.2.2.2.1, u.2.2.2.2.2.2.2.2.2.2.2.2.2.2.2.1, u.2.2.2.2.2.2.2.2.2.2.2.2.2.2.2.2.1, u.2.2.2.2.2.2.2.2.2.2.2.2.2.2.2.2.2) (fun w56 => (K17 v1 w56)))))) else (∀ x48 : Int32, x48 = (v1 + 1) → (vp_in x48 10 ∧ (vp_in x48 10 ∧ (K17 x48 ((upd (upd u.1 ((0 + x35)).toNatClampNeg x39) 16 0), u.2.1, u.2.2.1, u.2.2.2.1, u.2.2.2.2.1, (upd u.2.2.2.2.2.1 (x48).toNatClampNeg (-1)), (upd u.2.2.2.2.2.2.1 (x48).toNatClampNeg (-2)), (upd u.2.2.2.2.2.2.2.1 (v1).toNatClampNeg x36), u.2.2.2.2.2.2.2.2.1, u.2.2.2.2.2.2.2.2.2.1, u.2.2.2.2.2.2.2.2.2.2.1, u.2.2.2.2.2.2.2.2.2.2.2.1, u.2.2.2.2.2.2.2.2.2.2.2.2.1, u.2.2.2.2.2.2.2.2.2.2.2.2.2.1, u.2.2.2.2.2.2.2.2.2.2.2.2.2.2.1, u.2.2.2.2.2.2.2.2.2.2.2.2.2.2.2.1, u.2.2.2.2.2.2.2.2.2.2.2.2.2.2.2.2.1, u.2.2.2.2.2.2.2.2.2.2.2.2.2.2.2.2.2)))))))) else (vp_in (0 + x35) 21 ∧ (vp_in v1 10 ∧ (∀ x62 : Int32, x62 = ((upd u.2.2.2.2.2.2.2.1 (v1).toNatClampNeg x36) (v1).toNatClampNeg) → (pX6_keeps v1 1 ((upd (upd (upd (upd u.1 ((0 + x35)).toNatClampNeg x39) 16 0) ((0 + x35)).toNatClampNeg 0) 16 x62), u.2.1, u.2.2.1, u.2.2.2.1, u.2.2.2.2.1, u.2.2.2.2.2.1, u.2.2.2.2.2.2.1, (upd u.2.2.2.2.2.2.2.1 (v1).toNatClampNeg x36), u.2.2.2.2.2.2.2.2.1, u.2.2.2.2.2.2.2.2.2.1, u.2.2.2.2.2.2.2.2.2.2.1, u.2.2.2.2.2.2.2.2.2.2.2.1, u.2.2.2.2.2.2.2.2.2.2.2.2.1, u.2.2.2.2.2.2.2.2.2.2.2.2.2.1, u.2.2.2.2.2.2.2.2.2.2.2.2.2.2.1, u.2.2.2.2.2.2.2.2.2.2.2.2.2.2.2.1, u.2.2.2.2.2.2.2.2.2.2.2.2.2.2.2.2.1, u.2.2.2.2.2.2.2.2.2.2.2.2.2.2.2.2.2) (fun w64 => (K17 v1 w64))))))))))))))))
def sS (u : SM) (A O B H : Nat → Int32) (F : Int32) : SM := (A, u.2.1, u.2.2.1, u.2.2.2.1, u.2.2.2.2.1, O, B, H, u.2.2.2.2.2.2.2.2.1, u.2.2.2.2.2.2.2.2.2.1, u.2.2.2.2.2.2.2.2.2.2.1, u.2.2.2.2.2.2.2.2.2.2.2.1, u.2.2.2.2.2.2.2.2.2.2.2.2.1, u.2.2.2.2.2.2.2.2.2.2.2.2.2.1, u.2.2.2.2.2.2.2.2.2.2.2.2.2.2.1, u.2.2.2.2.2.2.2.2.2.2.2.2.2.2.2.1, u.2.2.2.2.2.2.2.2.2.2.2.2.2.2.2.2.1, F)
def goF (ok : Nat → Bool) (val : Nat → Int32) : Nat → Nat → Int32 → Int32 → Int32
  | 0, _, _, F => F
  | k + 1, j, acc, F => if acc = 1 then F else goF ok val k (j + 1) (if ok j = true then mxI acc (val j) else acc) (if ok j = true ∧ acc < val j then nI j else F)
theorem go_1 (ok : Nat → Bool) (val : Nat → Int32) : ∀ k j, go ok val k j 1 = 1
  | 0, _ => rfl
  | k + 1, j => by rw [go, if_pos rfl]
theorem goF_1 (ok : Nat → Bool) (val : Nat → Int32) : ∀ k j F, goF ok val k j 1 F = F
  | 0, _, _ => rfl
  | k + 1, j, F => by rw [goF, if_pos rfl]
theorem le_nlt {x a : Int32} : x ≤ a ↔ ¬ a < x := by
  rw [Int32.le_iff_toInt_le, Int32.lt_iff_toInt_lt]
  omega
def S17 (Z : Int32 → SM → Prop) (u : SM) (x : Int32) (A O B H : Nat → Int32) (F : Int32) : Prop := ∃ n, pX6_searches_17 Z n x (sS u A O B H F)
def kB (B : Nat → Int32) (e : Nat) (x : Int32) : Nat → Int32 := if x ≤ B e then B else upd B e x
def kF (O B : Nat → Int32) (e : Nat) (x F : Int32) : Int32 := if x ≤ B e then F else if e = 0 then O 0 else F
theorem kB_s (B : Nat → Int32) (e : Nat) (x : Int32) : kB B e x e = mxI (B e) x := by
  unfold kB mxI
  by_cases h : x ≤ B e
  · rw [if_pos h, if_neg (le_nlt.mp h)]
  · rw [if_neg h, pk_us, if_pos]
    rw [Int32.le_iff_toInt_le] at h
    rw [Int32.lt_iff_toInt_lt]
    omega
theorem kB_n {B : Nat → Int32} {e k : Nat} {x : Int32} (h : k ≠ e) : kB B e x k = B k := by
  unfold kB
  split
  · rfl
  · exact pk_un h
theorem kF_e {O B : Nat → Int32} {e : Nat} {x F : Int32} : kF O B e x F = if e = 0 ∧ B e < x then O 0 else F := by
  unfold kF
  by_cases h : x ≤ B e
  · rw [if_pos h, if_neg (fun z => le_nlt.mp h z.2)]
  · have h2 : B e < x := by
      rw [Int32.le_iff_toInt_le] at h
      rw [Int32.lt_iff_toInt_lt]
      omega
    rw [if_neg h]
    by_cases z : e = 0
    · rw [if_pos z, if_pos ⟨z, h2⟩]
    · rw [if_neg z, if_neg (fun y => z y.1)]
section SearchM
variable {u : SM} {q : PG} {A O B H : Nat → Int32} {F : Int32}
theorem m_keeps {e : Nat} (he : e < 10) {x : Int32} {Z : SM → Prop} (hz : Z (sS u A O (kB B e x) H (kF O B e x F))) : pX6_keeps (nI e) x (sS u A O B H F) Z := by
  unfold pX6_keeps
  rw [nI_clamp (by omega)]
  refine ⟨vp_in_nI he (by omega), ?_⟩
  unfold kB kF at hz
  by_cases c : x ≤ B e
  · rw [if_pos c, if_pos c] at hz
    exact ifp c hz
  · rw [if_neg c, if_neg c] at hz
    refine ifn c ⟨vp_in_nI he (by omega), ?_⟩
    by_cases z : e = 0
    · rw [if_pos z] at hz
      refine ifp (by rw [z]; rfl) ?_
      intro x5 e5
      rw [e5]
      exact hz
    · rw [if_neg z] at hz
      exact ifn (nI_ne0 (by omega) (by omega)) hz
theorem m_canMake (h : RA u.1 q) (ho : WB q.1) (hg : q.2.1 ≤ 16) {j : Nat} (hj : j < 16) {Z : Int32 → Prop} (hz : Z (bI (mvOk q j))) : pX6_canMake (nI j) u Z := by
  unfold pX6_canMake
  have hb := ho.1 j hj
  unfold mvOk at hz
  rw [h.2.1]
  by_cases e : q.2.1 = 0
  · rw [if_pos e] at hz
    refine ifp ((ige 0 (k := 0) rfl (by omega) (by omega)).mpr (by omega)) (m_cell h ho hj ?_)
    cases e3 : hp q.1 j
    · rw [e3] at hz
      exact ifp (cell_hp.mpr e3) hz
    · rw [e3] at hz
      exact ifn (fun z => by rw [cell_hp.mp z] at e3; cases e3) hz
  · rw [if_neg e] at hz
    refine ifn (mt (ige 0 (k := 0) rfl (by omega) (by omega)).mp (by omega)) ?_
    rw [z0, nI_clamp (by omega), h.1 j hj]
    refine ⟨vp_in_nI (by omega) (by omega), ?_⟩
    by_cases e3 : q.1 j = 0
    · rw [show (q.1 j == 0) = true by simp [e3]] at hz
      exact ifp ((ieq 0 (k := 0) rfl (by omega) (by omega)).mpr e3) hz
    · rw [show (q.1 j == 0) = false by simp [e3]] at hz
      exact ifn (mt (ieq 0 (k := 0) rfl (by omega) (by omega)).mp e3) hz
/-- what follows when a depth is left -/
def PopK (Z : Int32 → SM → Prop) (u : SM) (d : Nat) (A O B H : Nat → Int32) (F : Int32) : Prop := match d with
  | 0 => S17 Z u (-1) A O B H F
  | e + 1 => ∃ j, O e = nI j ∧ j < 16 ∧ (H e = 0 → S17 Z u (nI e) (upd A 16 0) O (kB B e (-(B (e + 1)))) H (kF O B e (-(B (e + 1))) F)) ∧ (H e ≠ 0 → S17 Z u (nI e) (upd (upd A 16 (H e)) j 0) O (kB B e (B (e + 1))) H (kF O B e (B (e + 1)) F))
theorem upd_same {f : Nat → Int32} {k : Nat} : upd f k (f k) = f := funext fun i => by
  by_cases e : i = k
  · rw [e, pk_us]
  · rw [pk_un e]
theorem m_pop {Z : Int32 → SM → Prop} {d : Nat} (hd : d < 10) (h : PopK Z u d A O B H F) : ∃ n, popE (pX6_searches_17 Z n) (nI d) (sS u A O B H F) := by
  cases d with
  | zero =>
    obtain ⟨n, hn⟩ := h
    refine ⟨n, vp_in_nI hd (by omega), fun x10 e10 x11 e11 => ?_⟩
    have e11 : x11 = -1 := e11
    rw [e11]
    exact ifp (by decide) hn
  | succ e =>
    obtain ⟨j, hj, hj16, h0, h1⟩ := h
    by_cases z : H e = 0
    · obtain ⟨n, hn⟩ := h0 z
      refine ⟨n, vp_in_nI hd (by omega), fun x10 e10 x11 e11 => ?_⟩
      rw [pk_m1] at e11
      rw [nI_clamp (by omega)] at e10
      have e10 : x10 = B (e + 1) := e10
      rw [e11, e10]
      refine ifn (nI_pos (by omega)) ⟨vp_in_nI (by omega) (by omega), ?_⟩
      rw [nI_clamp (by omega)]
      refine ifp z ⟨vp_in_nI (by omega) (by omega), fun x23 e23 => ?_⟩
      have e23 : x23 = H e := e23
      rw [z] at e23
      have e5 : (0 : Int32) + (sS u A O B H F).2.2.2.2.2.1 e = nI j := by
        show 0 + O e = nI j
        rw [hj, z0]
      rw [e23, e5, nI_clamp (by omega)]
      refine ⟨vp_in_nI (by omega) (by omega), vp_in_nI (by omega) (by omega), vp_in_nI (by omega) (by omega), fun x28 e28 => ⟨vp_in_nI (by omega) (by omega), ?_⟩⟩
      have e28 : x28 = upd A 16 0 j := e28
      rw [e28]
      refine m_keeps (A := upd (upd A 16 0) j (upd A 16 0 j)) (by omega) ?_
      rw [upd_same]
      exact hn
    · obtain ⟨n, hn⟩ := h1 z
      refine ⟨n, vp_in_nI hd (by omega), fun x10 e10 x11 e11 => ?_⟩
      rw [pk_m1] at e11
      rw [nI_clamp (by omega)] at e10
      have e10 : x10 = B (e + 1) := e10
      rw [e11, e10]
      refine ifn (nI_pos (by omega)) ⟨vp_in_nI (by omega) (by omega), ?_⟩
      rw [nI_clamp (by omega)]
      refine ifn z ⟨vp_in_nI (by omega) (by omega), fun x16 e16 => ?_⟩
      have e16 : x16 = H e := e16
      have e5 : (0 : Int32) + (sS u A O B H F).2.2.2.2.2.1 e = nI j := by
        show 0 + O e = nI j
        rw [hj, z0]
      rw [e16, e5, nI_clamp (by omega)]
      refine ⟨vp_in_nI (by omega) (by omega), vp_in_nI (by omega) (by omega), ?_⟩
      exact m_keeps (A := upd (upd A 16 (H e)) j 0) (by omega) hn
theorem upd_un4 {f : Nat → Int32} {j : Nat} {x y : Int32} (hj : j < 16) (h0 : f j = 0) (h1 : f 16 = y) : upd (upd (upd (upd f j x) 16 0) j 0) 16 y = f := funext fun i => by
  by_cases e : i = 16
  · rw [e, pk_us, h1]
  · rw [pk_un e]
    by_cases e2 : i = j
    · rw [e2, pk_us, h0]
    · rw [pk_un e2, pk_un e, pk_un e2]
theorem m_mk {Z : Int32 → SM → Prop} {d j : Nat} (hd : d < 10) (hj : j < 16) (hO : O d = nI j) (hA : RA A q) (hwb : WB q.1) (hr : q.2.2.1 ≤ 1) (hg : q.2.1 ≤ 16) (hf : q.2.1 ≠ 0 → hp q.1 (q.2.1 - 1) = false) (hok : mvOk q j = true) (hd1 : q.2.1 = 0 ∨ ct (fu q.1 j q.2.1) ≠ 16 → d + 1 < 10)
    (h0 : q.2.1 = 0 → S17 Z u (nI (d + 1)) (upd A 16 (nI (j + 1))) (upd O (d + 1) (-1)) (upd B (d + 1) (-2)) (upd H d 0) F)
    (h1 : q.2.1 ≠ 0 → hw (fu q.1 j q.2.1) q.2.2.1 = true → S17 Z u (nI d) A O (kB B d 1) (upd H d (nI q.2.1)) (kF O B d 1 F))
    (h2 : q.2.1 ≠ 0 → hw (fu q.1 j q.2.1) q.2.2.1 = false → ct (fu q.1 j q.2.1) = 16 → S17 Z u (nI d) A O (kB B d 0) (upd H d (nI q.2.1)) (kF O B d 0 F))
    (h3 : q.2.1 ≠ 0 → hw (fu q.1 j q.2.1) q.2.2.1 = false → ct (fu q.1 j q.2.1) ≠ 16 → S17 Z u (nI (d + 1)) (upd (upd A j (nI q.2.1)) 16 0) (upd O (d + 1) (-1)) (upd B (d + 1) (-2)) (upd H d (nI q.2.1)) F) : ∃ n, mkE (pX6_searches_17 Z n) (nI d) (sS u A O B H F) := by
  have hvd : vp_in (nI d) 10 := vp_in_nI hd (by omega)
  have hO2 : ∀ x : Int32, x = (sS u A O B H F).2.2.2.2.2.1 (nI d).toNatClampNeg → x = nI j := fun x ex => by
    rw [ex, nI_clamp (by omega)]
    exact hO
  by_cases e : q.2.1 = 0
  · obtain ⟨n, hn⟩ := h0 e
    have hd2 := hd1 (Or.inl e)
    have hA16 : A 16 = 0 := hA.2.1.trans (by rw [e]; rfl)
    refine ⟨n, hvd, fun x35 e35 x36 e36 => ⟨hvd, ?_⟩⟩
    have e35 := hO2 x35 e35
    have e36 : x36 = 0 := (show x36 = A 16 from e36).trans hA16
    refine ifp hA16 fun x66 e66 x68 e68 => ?_
    rw [e35, nI_1] at e66
    rw [nI_1] at e68
    rw [e66, e68, e36, nI_clamp (by omega), nI_clamp (by omega)]
    exact ⟨vp_in_nI (by omega) (by omega), vp_in_nI (by omega) (by omega), hn⟩
  · have hA16 : A 16 = nI q.2.1 := hA.2.1
    have hok2 : q.1 j = 0 := by
      unfold mvOk at hok
      rw [if_neg e] at hok
      simpa using hok
    have hAj : A j = 0 := (hA.1 j hj).trans (by rw [hok2]; rfl)
    have hct : ct (fu q.1 j q.2.1) = ct q.1 + 1 := by
      have := ct_put (p := q.2.1 - 1) hj hok2
      rw [show q.2.1 - 1 + 1 = q.2.1 by omega] at this
      exact this
    have hW : WB (fu q.1 j q.2.1) := by
      have := WB_put (c := j) hwb (hf e) (by omega)
      rw [show q.2.1 - 1 + 1 = q.2.1 by omega] at this
      exact this
    have hA1 : RA (upd (upd A j (nI q.2.1)) 16 0) (fu q.1 j q.2.1, 0, q.2.2) := RA_gift (q := (fu q.1 j q.2.1, q.2)) (RA_cell hA hj) 0
    have hc16 := ct_le (fu q.1 j q.2.1)
    have start : ∀ n, (∀ x36 : Int32, x36 = nI q.2.1 → pX6_won (sS u (upd (upd A j (nI q.2.1)) 16 0) O B (upd H d x36) F) (fun r41 => (if r41 ≤ 0 then pX6_count (sS u (upd (upd A j (nI q.2.1)) 16 0) O B (upd H d x36) F) (fun r44 => (if r44 = 16 then (vp_in (nI j) 21 ∧ (vp_in (nI d) 10 ∧ (∀ x54 : Int32, x54 = upd H d x36 d → pX6_keeps (nI d) 0 (sS u (upd (upd (upd (upd A j (nI q.2.1)) 16 0) j 0) 16 x54) O B (upd H d x36) F) (fun w56 => pX6_searches_17 Z n (nI d) w56)))) else (∀ x48 : Int32, x48 = nI d + 1 → (vp_in x48 10 ∧ (vp_in x48 10 ∧ pX6_searches_17 Z n x48 (sS u (upd (upd A j (nI q.2.1)) 16 0) (upd O x48.toNatClampNeg (-1)) (upd B x48.toNatClampNeg (-2)) (upd H d x36) F)))))) else (vp_in (nI j) 21 ∧ (vp_in (nI d) 10 ∧ (∀ x62 : Int32, x62 = upd H d x36 d → pX6_keeps (nI d) 1 (sS u (upd (upd (upd (upd A j (nI q.2.1)) 16 0) j 0) 16 x62) O B (upd H d x36) F) (fun w64 => pX6_searches_17 Z n (nI d) w64))))))) → mkE (pX6_searches_17 Z n) (nI d) (sS u A O B H F) := fun n hh => by
      refine ⟨hvd, fun x35 e35 x36 e36 => ⟨hvd, ?_⟩⟩
      have e35 := hO2 x35 e35
      have e36 : x36 = nI q.2.1 := (show x36 = A 16 from e36).trans hA16
      refine ifn (show ¬ A 16 = 0 by rw [hA16]; exact nI_ne0 (by omega) (by omega)) fun x39 e39 => ?_
      have e39 : x39 = nI q.2.1 := (show x39 = A 16 from e39).trans hA16
      rw [e35, e39, z0, nI_clamp (by omega), nI_clamp (by omega)]
      exact ⟨vp_in_nI (by omega) (by omega), hh x36 e36⟩
    cases e2 : hw (fu q.1 j q.2.1) q.2.2.1
    · by_cases e3 : ct (fu q.1 j q.2.1) = 16
      · obtain ⟨n, hn⟩ := h2 e e2 e3
        refine ⟨n, start n fun x36 e36 => m_won (q := (fu q.1 j q.2.1, 0, q.2.2)) hA1 hW hr (ifp (wC_0.mpr e2) (m_count (q := (fu q.1 j q.2.1, 0, q.2.2)) hA1 hW (ifp ((ieq 16 (k := 16) (j := ct (fu q.1 j q.2.1)) rfl (by omega) (by omega)).mpr e3) ⟨vp_in_nI (by omega) (by omega), hvd, fun x54 e54 => ?_⟩)))⟩
        rw [pk_us] at e54
        rw [e54, e36, upd_un4 hj hAj hA16]
        exact m_keeps hd hn
      · obtain ⟨n, hn⟩ := h3 e e2 e3
        have hd2 := hd1 (Or.inr e3)
        refine ⟨n, start n fun x36 e36 => m_won (q := (fu q.1 j q.2.1, 0, q.2.2)) hA1 hW hr (ifp (wC_0.mpr e2) (m_count (q := (fu q.1 j q.2.1, 0, q.2.2)) hA1 hW (ifn (mt (ieq 16 (k := 16) (j := ct (fu q.1 j q.2.1)) rfl (by omega) (by omega)).mp e3) fun x48 e48 => ?_)))⟩
        rw [nI_1] at e48
        rw [e48, e36, nI_clamp (by omega)]
        exact ⟨vp_in_nI (by omega) (by omega), vp_in_nI (by omega) (by omega), hn⟩
    · obtain ⟨n, hn⟩ := h1 e e2
      refine ⟨n, start n fun x36 e36 => m_won (q := (fu q.1 j q.2.1, 0, q.2.2)) hA1 hW hr (ifn (fun z => by have := wC_0.mp z; rw [show hw (fu q.1 j q.2.1, 0, q.2.2).1 (fu q.1 j q.2.1, 0, q.2.2).2.2.1 = true from e2] at this; cases this) ⟨vp_in_nI (by omega) (by omega), hvd, fun x62 e62 => ?_⟩)⟩
      rw [pk_us] at e62
      rw [e62, e36, upd_un4 hj hAj hA16]
      exact m_keeps hd hn
end SearchM
