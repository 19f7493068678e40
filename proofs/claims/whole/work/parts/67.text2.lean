/-! the class tries a text -/
theorem p_len {t : ST} {Z : Int32 → Prop} (h : Z t.1) : pX4_length t Z := h
theorem p_tryMove {s : SG} {q : PG} (h : RG s q) (ho : OG q) {N : Nat} (hN : N < 16) (g : Bool) {Z : Int32 → SG → Prop} (h0 : (if g = true then cg N q else cp N q) = false → Z 0 s) (h1 : (if g = true then cg N q else cp N q) = true → ∀ w, RG w (if g = true then gv N q else pt N q) → Z 1 w) : pX2_tryMove (bI g) (nI N) s Z := by
  unfold pX2_tryMove
  cases g
  · rw [if_neg (by simp)] at h0
    rw [if_neg (by simp), if_neg (by simp)] at h1
    refine ifp rfl (p_canPut h ho hN ?_)
    cases e : cp N q
    · exact ifp rfl (h0 e)
    · exact ifn (by decide) (p_putGift h ho hN e fun w hw => h1 e w hw)
  · rw [if_pos rfl] at h0
    rw [if_pos rfl, if_pos rfl] at h1
    refine ifn (by decide) (p_canGive h ho hN ?_)
    cases e : cg N q
    · exact ifp rfl (h0 e)
    · exact ifn (by decide) (p_setGift h fun w hw => h1 e w hw)
theorem p_try (u : SX) (c : Nat → Nat) (m : Nat) (hT : RT u.2.2.2.2.2 c m) (Z : Int32 → SX → Prop) : ∀ k i q d w, VT c m k i → i ≤ m → OG q → RG w q → (∀ w', RG w' (rn c m k i q d).2 → Z (oI (rn c m k i q d).1) (u.1, u.2.1, w', u.2.2.2)) → ∀ n, m + 2 ≤ n + i → pX5_tryText_17 Z n (nI d) (nI i) (nI i) (u.1, u.2.1, w, u.2.2.2)
  | 0, _, _, _, _, h, _, _, _, _ => h.elim
  | k + 1, i, q, d, w, h, hi, ho, hw, hz => by
    have hm := hT.2.1
    have he := ed_le h.2.1
    have hnl : ∀ j, j ≤ m → ¬ u.2.2.2.2.2.1 < nI j := fun j hj => by
      rw [hT.1]
      exact mt (nI_ltI (by omega) (by omega)).mp (by omega)
    have skip : ∀ n j, i ≤ j → j < ed c m i → pX5_tryText_17 Z n (nI d) (nI i) (nI (j + 1)) (u.1, u.2.1, w, u.2.2.2) → pX5_tryText_17 Z (n + 1) (nI d) (nI i) (nI j) (u.1, u.2.1, w, u.2.2.2) := fun n j h1 h2 hn => by
      rw [pX5_tryText_17]
      refine p_len (ifn (hnl j (by omega)) (p_endsMove hT (by omega) ?_))
      rw [em_in h.1 h.2.1 h1 h2]
      refine ifp rfl ?_
      intro x6 e6
      rw [e6, nI_1]
      exact hn
    have last : ∀ n, m + 2 ≤ n + ed c m i → pX5_tryText_17 Z n (nI d) (nI i) (nI (ed c m i)) (u.1, u.2.1, w, u.2.2.2) := by
      intro n hn
      have kk := kd_iff.mp h.1
      have z1 : em c m (ed c m i) = true := em_ed (h.2.2.imp id fun y => y.2.1)
      rw [rn] at hz
      have body : ∀ n, (mkB c m i q = true → ∀ w', RG w' (mkG c m i q) → pX5_tryText_17 Z n (nI (d + 1)) (nI (ed c m i + 1)) (nI (ed c m i + 1)) (u.1, u.2.1, w', u.2.2.2)) → pX5_tryText_17 Z (n + 1) (nI d) (nI i) (nI (ed c m i)) (u.1, u.2.1, w, u.2.2.2) := fun n hn => by
        rw [pX5_tryText_17]
        refine p_len (ifn (hnl _ he.2.2) (p_endsMove hT he.2.2 ?_))
        rw [z1]
        refine ifn (by decide) (p_isGift hT kk.1 (p_number hT h.2.1 (p_tryMove hw ho (nv_lt h.2.1) (c i == 103) ?_ ?_)))
        · intro e
          have e2 : mkB c m i q = false := by
            unfold mkB
            by_cases z : c i = 103
            · rw [if_pos z]; rw [if_pos (by simp [z])] at e; exact e
            · rw [if_neg z]; rw [if_neg (by simp [z])] at e; exact e
          rw [if_neg (by rw [e2]; decide)] at hz
          exact ifp rfl (hz w hw)
        · intro e w' hw'
          have e2 : mkB c m i q = true := by
            unfold mkB
            by_cases z : c i = 103
            · rw [if_pos z]; rw [if_pos (by simp [z])] at e; exact e
            · rw [if_neg z]; rw [if_neg (by simp [z])] at e; exact e
          have e3 : RG w' (mkG c m i q) := by
            unfold mkG
            by_cases z : c i = 103
            · rw [if_pos z]; rw [if_pos (by simp [z])] at hw'; exact hw'
            · rw [if_neg z]; rw [if_neg (by simp [z])] at hw'; exact hw'
          refine ifn (by decide) ?_
          intro x11 e11 x12 e12 x13 e13
          rw [e11, e12, e13, nI_1, nI_1]
          exact hn e2 w' e3
      obtain ⟨n, rfl⟩ : ∃ n', n = n' + 1 := ⟨n - 1, by omega⟩
      by_cases e2 : mkB c m i q = true
      · rw [if_pos e2] at hz
        by_cases e : ed c m i = m
        · rw [if_pos e] at hz
          obtain ⟨n, rfl⟩ : ∃ n', n = n' + 1 := ⟨n - 1, by omega⟩
          refine body _ fun _ w' hw' => ?_
          rw [pX5_tryText_17]
          refine p_len (ifp ?_ (hz w' hw'))
          show u.2.2.2.2.2.1 < nI (ed c m i + 1)
          rw [hT.1]
          exact (nI_ltI (by omega) (by omega)).mpr (by omega)
        · rw [if_neg e] at hz
          have h2 := h.2.2.resolve_left e
          exact body n fun _ w' hw' => p_try u c m hT Z k _ _ _ w' h2.2.2 (by omega) (OG_mk h.2.1 ho e2) hw' hz n (by omega)
      · exact body n fun z => absurd z e2
    intro n hn
    obtain ⟨n, rfl⟩ : ∃ n', n = n' + 2 := ⟨n - 2, by omega⟩
    rcases (show ed c m i = i + 2 ∨ ed c m i = i + 3 by omega) with e | e
    · rw [e] at last
      exact skip _ i (by omega) (by omega) (skip _ (i + 1) (by omega) (by omega) (last _ (by omega)))
    · rw [e] at last
      obtain ⟨n, rfl⟩ : ∃ n', n = n' + 1 := ⟨n - 1, by omega⟩
      exact skip _ i (by omega) (by omega) (skip _ (i + 1) (by omega) (by omega) (skip _ (i + 2) (by omega) (by omega) (last _ (by omega))))
/-! the model reads a text -/
/-- other values of the model's reading fields: all, at, sign, number, done, isAll -/
def sT (w : SM) (a : Nat → Int32) (at_ sg nu dn ia : Int32) : SM := (a, w.2.1, w.2.2.1, w.2.2.2.1, w.2.2.2.2.1, w.2.2.2.2.2.1, w.2.2.2.2.2.2.1, w.2.2.2.2.2.2.2.1, w.2.2.2.2.2.2.2.2.1, w.2.2.2.2.2.2.2.2.2.1, w.2.2.2.2.2.2.2.2.2.2.1, w.2.2.2.2.2.2.2.2.2.2.2.1, at_, sg, nu, dn, ia, w.2.2.2.2.2.2.2.2.2.2.2.2.2.2.2.2.2)
section TextM
variable {w : SM} {c : Nat → Nat} {m : Nat} {a : Nat → Int32} {sg nu dn ia : Int32}
theorem m_isHere (h : RTm w c m) {i lo hi : Nat} (hi60 : i ≤ 60) (hlo : lo < 65536) (hhi : hi < 65536) {p0 p1 : Int32} (e0 : p0 = nI lo) (e1 : p1 = nI hi) {Z : Int32 → Prop} (hz : Z (bI (hr c m lo hi i))) : pX6_isHere p0 p1 (sT w a (nI i) sg nu dn ia) Z := by
  subst e0 e1
  have hm := h.2.1
  unfold pX6_isHere
  by_cases e : i < m
  · have hc := h.2.2 i e
    refine ifn (c := w.2.2.2.2.2.2.2.2.2.2.2.1 ≤ nI i) (by rw [h.1]; exact mt (nI_leI (by omega) (by omega)).mp (by omega)) ⟨vp_in_nI (show i < 60 by omega) (by omega), ?_⟩
    show pX6_in (w.2.2.2.2.1 (nI i).toNatClampNeg).toInt64 (nI lo).toInt64 (nI hi).toInt64 _
    rw [nI_clamp (by omega), hc.2, nI_l (by omega), nI_l (by omega), nI_l (by omega)]
    refine m_inN (by omega) (by omega) (by omega) ?_
    unfold hr at hz
    rw [decide_eq_true e, Bool.true_and] at hz
    cases z : decide (lo ≤ c i) && decide (c i ≤ hi)
    · rw [z] at hz
      exact ifp rfl hz
    · rw [z] at hz
      exact ifn (by decide) hz
  · refine ifp (c := w.2.2.2.2.2.2.2.2.2.2.2.1 ≤ nI i) (by rw [h.1]; exact (nI_leI (by omega) (by omega)).mpr (by omega)) ?_
    unfold hr at hz
    rw [decide_eq_false e] at hz
    exact hz
theorem m_takesOne (h : RTm w c m) {i ch : Nat} (hi60 : i ≤ 60) (hch : ch < 65536) {p0 : Int32} (e0 : p0 = nI ch) {Z : Int32 → SM → Prop} (h0 : hr c m ch ch i = false → Z 0 (sT w a (nI i) sg nu dn ia)) (h1 : hr c m ch ch i = true → Z 1 (sT w a (nI (i + 1)) sg nu dn ia)) : pX6_takesOne p0 (sT w a (nI i) sg nu dn ia) Z := by
  unfold pX6_takesOne
  refine m_isHere h hi60 hch hch e0 e0 ?_
  cases e : hr c m ch ch i
  · refine ifp rfl ?_
    intro x3 e3
    have e3 : x3 = nI i + 0 := e3
    rw [Int32.add_zero] at e3
    rw [e3]
    exact ⟨bI_n false, h0 e⟩
  · refine ifn (by decide) ?_
    intro x4 e4
    have e4 : x4 = nI i + 1 := e4
    rw [nI_1] at e4
    rw [e4]
    exact ⟨bI_n true, h1 e⟩
/-- what reading one move from i on can come to: success, index behind, sign, number -/
def RM (c : Nat → Nat) (m i : Nat) (r : Int32) (j : Nat) (sg nu : Int32) : Prop :=
  (r = 0 ∧ kd c m i = false ∧ j = i) ∨ (r = 0 ∧ kd c m i = true ∧ hr c m 48 57 (i + 1) = false ∧ j = i + 1) ∨ (r = 1 ∧ kd c m i = true ∧ hr c m 48 57 (i + 1) = true ∧ j = ed c m i ∧ sg = nI (c i) ∧ nu = nI (nv c m i))
/-- the reading of the number -/
def rdT (w : SM) (Z : Int32 → SM → Prop) : Prop := pX6_isHere 48 57 w (fun r4 => (if r4 = 0 then Z 0 w else (vp_in w.2.2.2.2.2.2.2.2.2.2.2.2.1 60 ∧ (∀ x7 : Int32, x7 = ((w.2.2.2.2.1 (w.2.2.2.2.2.2.2.2.2.2.2.2.1).toNatClampNeg) - 48) → (∀ x8 : Int32, x8 = (w.2.2.2.2.2.2.2.2.2.2.2.2.1 + 1) → (if x7 = 1 then (pX6_isHere 48 53 (sT w w.1 x8 w.2.2.2.2.2.2.2.2.2.2.2.2.2.1 x7 w.2.2.2.2.2.2.2.2.2.2.2.2.2.2.2.1 w.2.2.2.2.2.2.2.2.2.2.2.2.2.2.2.2.1) (fun r10 => (if r10 = 0 then Z 1 (sT w w.1 x8 w.2.2.2.2.2.2.2.2.2.2.2.2.2.1 x7 w.2.2.2.2.2.2.2.2.2.2.2.2.2.2.2.1 w.2.2.2.2.2.2.2.2.2.2.2.2.2.2.2.2.1) else (vp_in x8 60 ∧ (∀ x13 : Int32, x13 = ((10 + (w.2.2.2.2.1 (x8).toNatClampNeg)) - 48) → (∀ x14 : Int32, x14 = (x8 + 1) → Z 1 (sT w w.1 x14 w.2.2.2.2.2.2.2.2.2.2.2.2.2.1 x13 w.2.2.2.2.2.2.2.2.2.2.2.2.2.2.2.1 w.2.2.2.2.2.2.2.2.2.2.2.2.2.2.2.2.1))))))) else Z 1 (sT w w.1 x8 w.2.2.2.2.2.2.2.2.2.2.2.2.2.1 x7 w.2.2.2.2.2.2.2.2.2.2.2.2.2.2.2.1 w.2.2.2.2.2.2.2.2.2.2.2.2.2.2.2.2.1)))))))
theorem m_rdT (h : RTm w c m) {i : Nat} (hi : i < m) (hk : kd c m i = true) {Z : Int32 → SM → Prop} (hz : ∀ r j nu', RM c m i r j (nI (c i)) nu' → Z r (sT w a (nI j) (nI (c i)) nu' dn ia)) : rdT (sT w a (nI (i + 1)) (nI (c i)) nu dn ia) Z := by
  have hm := h.2.1
  unfold rdT
  refine m_isHere (lo := 48) (hi := 57) h (by omega) (by omega) (by omega) rfl rfl ?_
  cases d : hr c m 48 57 (i + 1)
  · exact ifp rfl (hz 0 (i + 1) nu (Or.inr (Or.inl ⟨rfl, hk, d, rfl⟩)))
  · have d1 := hr_iff.mp d
    have he := ed_le d
    refine ifn (by decide) ⟨vp_in_nI (show i + 1 < 60 by omega) (by omega), fun x7 e7 x8 e8 => ?_⟩
    have e7 : x7 = w.2.2.2.2.1 (nI (i + 1)).toNatClampNeg - 48 := e7
    have e8 : x8 = nI (i + 1) + 1 := e8
    rw [nI_clamp (by omega), (h.2.2 (i + 1) d1.1).2, show (48 : Int32) = nI 48 from rfl, pk_sub d1.2.1] at e7
    rw [nI_1] at e8
    rw [e7, e8]
    have hc1 := (h.2.2 (i + 1) d1.1).1
    by_cases o : c (i + 1) = 49
    · refine ifp (by rw [o]; rfl) ?_
      refine m_isHere (lo := 48) (hi := 53) h (by omega) (by omega) (by omega) rfl rfl ?_
      have fin : ∀ r j nu', RM c m i r j (nI (c i)) nu' → Z r (sT w a (nI j) (nI (c i)) nu' dn ia) := hz
      cases s5 : hr c m 48 53 (i + 2)
      · have s : sd c m i = false := by unfold sd; rw [s5, Bool.and_false]
        have e1 : ed c m i = i + 2 := by unfold ed; rw [s]; rfl
        have e2 : nv c m i = c (i + 1) - 48 := by unfold nv; rw [s]; rfl
        exact ifp rfl (fin 1 (i + 2) (nI (c (i + 1) - 48)) (Or.inr (Or.inr ⟨rfl, hk, d, e1.symm, rfl, by rw [e2]⟩)))
      · have s : sd c m i = true := by unfold sd; rw [s5, o]; rfl
        have s1 := sd_iff.mp s
        have e1 : ed c m i = i + 3 := by unfold ed; rw [s]; rfl
        have e2 : nv c m i = c (i + 2) - 38 := by unfold nv; rw [s]; rfl
        refine ifn (by decide) ⟨vp_in_nI (show i + 2 < 60 by omega) (by omega), fun x13 e13 x14 e14 => ?_⟩
        have e13 : x13 = (10 + w.2.2.2.2.1 (nI (i + 1 + 1)).toNatClampNeg) - 48 := e13
        rw [nI_clamp (by omega), (h.2.2 (i + 2) s1.2.1).2, show (48 : Int32) = nI 48 from rfl, show (10 : Int32) = nI 10 from rfl, nI_add, pk_sub (by omega)] at e13
        rw [nI_1] at e14
        rw [e13, e14]
        exact fin 1 (i + 3) _ (Or.inr (Or.inr ⟨rfl, hk, d, e1.symm, rfl, by rw [e2]; exact congrArg nI (by omega)⟩))
    · have s : sd c m i = false := by unfold sd; rw [show (c (i + 1) == 49) = false by simp [o]]; rfl
      have e1 : ed c m i = i + 2 := by unfold ed; rw [s]; rfl
      have e2 : nv c m i = c (i + 1) - 48 := by unfold nv; rw [s]; rfl
      refine ifn (mt (ieq 1 (k := 1) rfl (by omega) (by omega)).mp (by omega)) ?_
      exact hz 1 (i + 2) (nI (c (i + 1) - 48)) (Or.inr (Or.inr ⟨rfl, hk, d, e1.symm, rfl, by rw [e2]⟩))
theorem hr_1 {c : Nat → Nat} {m ch i : Nat} : hr c m ch ch i = true ↔ i < m ∧ c i = ch := by
  rw [hr_iff]
  omega
theorem m_readsMove (h : RTm w c m) {i : Nat} (hi : i ≤ m) {Z : Int32 → SM → Prop} (hz : ∀ r j sg' nu', RM c m i r j sg' nu' → Z r (sT w a (nI j) sg' nu' dn ia)) : pX6_readsMove (sT w a (nI i) sg nu dn ia) Z := by
  have hm := h.2.1
  unfold pX6_readsMove
  by_cases e : i < m
  · have hc := h.2.2 i e
    refine ifn (c := w.2.2.2.2.2.2.2.2.2.2.2.1 ≤ nI i) (by rw [h.1]; exact mt (nI_leI (by omega) (by omega)).mp (by omega)) ⟨vp_in_nI (show i < 60 by omega) (by omega), fun x29 e29 => ?_⟩
    have e29 : x29 = w.2.2.2.2.1 (nI i).toNatClampNeg := e29
    rw [nI_clamp (by omega), hc.2] at e29
    rw [e29]
    refine m_takesOne (w := w) (a := a) (sg := nI (c i)) (nu := nu) (dn := dn) (ia := ia) h (i := i) (by omega) (ch := 103) (by omega) rfl (fun h103 => ifp rfl ?_) (fun h103 => ifn (by decide) ?_)
    · refine m_takesOne (w := w) (a := a) (sg := nI (c i)) (nu := nu) (dn := dn) (ia := ia) h (i := i) (by omega) (ch := 112) (by omega) rfl (fun h112 => ifp rfl ?_) (fun h112 => ifn (by decide) ?_)
      · refine hz 0 i (nI (c i)) nu (Or.inl ⟨rfl, Bool.eq_false_iff.mpr fun z => ?_, rfl⟩)
        rcases (kd_iff.mp z).2 with y | y
        · rw [hr_1.mpr ⟨e, y⟩] at h103
          cases h103
        · rw [hr_1.mpr ⟨e, y⟩] at h112
          cases h112
      · exact (m_rdT (a := a) (nu := nu) (dn := dn) (ia := ia) h e (kd_iff.mpr ⟨e, Or.inr (hr_1.mp h112).2⟩) fun r j nu' hr => hz r j _ nu' hr : rdT (sT w a (nI (i + 1)) (nI (c i)) nu dn ia) Z)
    · exact (m_rdT (a := a) (nu := nu) (dn := dn) (ia := ia) h e (kd_iff.mpr ⟨e, Or.inl (hr_1.mp h103).2⟩) fun r j nu' hr => hz r j _ nu' hr : rdT (sT w a (nI (i + 1)) (nI (c i)) nu dn ia) Z)
  · have e9 : ∀ ch, hr c m ch ch i = true → False := fun ch z => e (hr_1.mp z).1
    refine ifp (c := w.2.2.2.2.2.2.2.2.2.2.2.1 ≤ nI i) (by rw [h.1]; exact (nI_leI (by omega) (by omega)).mpr (by omega)) ?_
    refine m_takesOne (w := w) (a := a) (sg := 0) (nu := nu) (dn := dn) (ia := ia) h (i := i) (by omega) (ch := 103) (by omega) rfl (fun h103 => ifp rfl ?_) (fun h103 => (e9 _ h103).elim)
    refine m_takesOne (w := w) (a := a) (sg := 0) (nu := nu) (dn := dn) (ia := ia) h (i := i) (by omega) (ch := 112) (by omega) rfl (fun h112 => ifp rfl ?_) (fun h112 => (e9 _ h112).elim)
    exact hz 0 i 0 nu (Or.inl ⟨rfl, Bool.eq_false_iff.mpr fun z => e (kd_iff.mp z).1, rfl⟩)
theorem m_err (h : RTm w c m) {Z : Int32 → SM → Prop} : ∀ k i sg nu, i ≤ m → m - i < k → (∀ j sg' nu', Z (fe c m (m - i) i 0) (sT w a (nI j) sg' nu' dn ia)) → ∀ n, k + 1 ≤ n → pX6_errorOfText_7 Z n 1 (sT w a (nI i) sg nu dn ia)
  | 0, i, sg, nu, _, hk, _, _, _ => absurd hk (by omega)
  | k + 1, i, sg, nu, hi, hk, hz, n, hn => by
    have hm := h.2.1
    obtain ⟨n, rfl⟩ : ∃ n', n = n' + 2 := ⟨n - 2, by omega⟩
    rw [fe_step c m hi] at hz
    rw [pX6_errorOfText_7]
    refine ifn (by decide) (m_readsMove h hi fun r j sg' nu' hr => ?_)
    rcases hr with ⟨rfl, k1, rfl⟩ | ⟨rfl, k1, d, rfl⟩ | ⟨rfl, k1, d, rfl, -, -⟩
    · rw [if_neg (by rw [k1]; decide)] at hz
      exact ifp rfl (hz _ _ _)
    · rw [if_pos k1, if_neg (by rw [d]; decide)] at hz
      exact ifp rfl (hz _ _ _)
    · rw [if_pos k1, if_pos d] at hz
      have he := ed_le d
      refine ifn (by decide) (m_takesOne (w := w) (a := a) h (i := ed c m i) (by omega) (ch := 59) (by omega) rfl (fun h59 => ?_) (fun h59 => ?_))
      · rw [pX6_errorOfText_7]
        refine ifp rfl ?_
        by_cases e : ed c m i = m
        · rw [if_pos e] at hz
          refine ifp (c := nI (ed c m i) = w.2.2.2.2.2.2.2.2.2.2.2.1) (by rw [h.1, e]) (hz _ _ _)
        · rw [if_neg e, if_neg (fun y => by rw [hr_1.mpr ⟨by omega, y⟩] at h59; cases h59)] at hz
          refine ifn (c := nI (ed c m i) = w.2.2.2.2.2.2.2.2.2.2.2.1) (by rw [h.1]; exact fun y => e ((nI_eq (by omega) (by omega)).mp y)) (hz _ _ _)
      · have h5 := hr_1.mp h59
        rw [if_neg (by omega), if_pos h5.2] at hz
        exact m_err h k _ _ _ (by omega) (by omega) hz _ (by omega)
theorem sT_self (w : SM) : sT w w.1 w.2.2.2.2.2.2.2.2.2.2.2.2.1 w.2.2.2.2.2.2.2.2.2.2.2.2.2.1 w.2.2.2.2.2.2.2.2.2.2.2.2.2.2.1 w.2.2.2.2.2.2.2.2.2.2.2.2.2.2.2.1 w.2.2.2.2.2.2.2.2.2.2.2.2.2.2.2.2.1 = w := rfl
theorem m_errorOfText (h : RTm w c m) {Z : Int32 → SM → Prop} (hz : ∀ j sg' nu', Z (fe c m m 0 0) (sT w w.1 (nI j) sg' nu' w.2.2.2.2.2.2.2.2.2.2.2.2.2.2.2.1 w.2.2.2.2.2.2.2.2.2.2.2.2.2.2.2.2.1)) : pX6_errorOfText w Z := by
  unfold pX6_errorOfText
  exact ⟨m + 2, m_err (a := w.1) (dn := w.2.2.2.2.2.2.2.2.2.2.2.2.2.2.2.1) (ia := w.2.2.2.2.2.2.2.2.2.2.2.2.2.2.2.2.1) h (m + 1) 0 _ _ (Nat.zero_le _) (by omega) hz (m + 2) (Nat.le_refl _)⟩
/-- the model makes the moves of a valid text -/
theorem m_make (h : RTm w c m) {Z : SM → Prop} : ∀ k i q d a sg nu, VT c m k i → i ≤ m → OG q → RA a q → (∀ a' j sg' nu', RA a' (rn c m k i q d).2 → ((rn c m k i q d).1 = none → Z (sT w a' j sg' nu' (nI (d + nm c m k i)) 1)) ∧ ∀ e, (rn c m k i q d).1 = some e → Z (sT w a' j sg' nu' (nI e) 0)) → ∀ n, k + 1 ≤ n → pX6_makesAll_17 Z n 1 (sT w a (nI i) sg nu (nI d) 0)
  | 0, _, _, _, _, _, _, hv, _, _, _, _, _, _ => hv.elim
  | k + 1, i, q, d, a, sg, nu, hv, hi, ho, hA, hz, n, hn => by
    have hm := h.2.1
    have he := ed_le hv.2.1
    have kk := kd_iff.mp hv.1
    have hc := (h.2.2 i kk.1).1
    obtain ⟨n, rfl⟩ : ∃ n', n = n' + 2 := ⟨n - 2, by omega⟩
    rw [rn, nm] at hz
    rw [pX6_makesAll_17]
    refine ifn (by decide) (m_readsMove h hi fun r j sg' nu' hr => ?_)
    rcases hr with ⟨-, k1, -⟩ | ⟨-, k1, d9, -⟩ | ⟨rfl, k1, d9, rfl, rfl, rfl⟩
    · rw [hv.1] at k1
      cases k1
    · rw [hv.2.1] at d9
      cases d9
    · refine ifn (by decide) ?_
      have fin : mkB c m i q = true → ∀ a', RA a' (mkG c m i q) → ∀ x : Int32, x = nI d + 1 → pX6_takesOne 59 (sT w a' (nI (ed c m i)) (nI (c i)) (nI (nv c m i)) x 0) (fun r w => pX6_makesAll_17 Z (n + 1) r w) := fun hb a' ha' x ex => by
        rw [nI_1] at ex
        rw [ex]
        rw [if_pos hb] at hz
        refine m_takesOne (w := w) (a := a') h (i := ed c m i) (by omega) (ch := 59) (by omega) rfl (fun h59 => ?_) (fun h59 => ?_)
        · by_cases e : ed c m i = m
          · rw [if_pos e, if_pos e] at hz
            rw [pX6_makesAll_17]
            exact ifp rfl ((hz a' _ _ _ ha').1 rfl)
          · have h2 := (hv.2.2.resolve_left e)
            rw [hr_1.mpr ⟨h2.1, h2.2.1⟩] at h59
            cases h59
        · have h5 := hr_1.mp h59
          rw [if_neg (by omega), if_neg (by omega)] at hz
          have h2 := (hv.2.2.resolve_left (by omega)).2.2
          refine m_make h k _ _ _ a' _ _ h2 (by omega) (OG_mk hv.2.1 ho hb) ha' (fun a2 j2 s2 n2 ha2 => ?_) _ (by omega)
          rw [show d + 1 + nm c m k (ed c m i + 1) = d + (nm c m k (ed c m i + 1) + 1) by omega]
          exact hz a2 j2 s2 n2 ha2
      have bad : mkB c m i q = false → Z (sT w a (nI (ed c m i)) (nI (c i)) (nI (nv c m i)) (nI d) 0) := fun hb => by
        rw [if_neg (by rw [hb]; decide)] at hz
        exact (hz a _ _ _ hA).2 d rfl
      unfold mkB mkG at fin
      unfold mkB at bad
      by_cases e : c i = 103
      · rw [if_pos e, if_pos e] at fin
        rw [if_pos e] at bad
        have e1 : nI (c i) = 103 := by rw [e]; rfl
        refine ifp e1 (m_canGive (q := q) hA ho (nv_lt hv.2.1) ?_)
        cases g : cg (nv c m i) q
        · exact ifp rfl (bad g)
        · refine ifn (by decide) (ifp e1 (m_gives (q := q) hA ho (nv_lt hv.2.1) g fun a' ha' => ?_))
          have hm1 := mvN_le (gv (nv c m i) q)
          exact ifn (nI_pos (by omega)) fun x ex => fin g a' ha' x ex
      · rw [if_neg e, if_neg e] at fin
        rw [if_neg e] at bad
        have e1 : ¬ nI (c i) = 103 := mt (ieq 103 (k := 103) rfl (by omega) (by omega)).mp e
        refine ifn e1 (m_canPlace (q := q) hA ho (nv_lt hv.2.1) ?_)
        cases g : cp (nv c m i) q
        · exact ifp rfl (bad g)
        · exact ifn (by decide) (ifn e1 (m_places (q := q) hA ho (nv_lt hv.2.1) g fun a' ha' x ex => fin g a' ha' x ex))
end TextM
