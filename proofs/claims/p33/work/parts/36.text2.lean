/-! the class tries a text -/
theorem p_len {t : ST} {Z : Int32 → Prop} (h : Z t.1) : pX4_length t Z := h
theorem p_tryMove {s : SG} {q : PG} (h : RG s q) (ho : OG q) {N : Nat} (hN : N < 16) (g : Bool) {Z : Int32 → SG → Prop} (h0 : (if g = true then cg N q else cp N q) = false → Z 0 s) (h1 : (if g = true then cg N q else cp N q) = true → ∀ w, RG w (if g = true then gv N q else pt N q) → Z 1 w) : pX2_tryMove (bI g) (nI N) s Z := by
  unfold pX2_tryMove
  cases g
  · rw [if_neg (by simp)] at h0
    rw [if_neg (by simp), if_neg (by simp)] at h1
    refine ifp rfl (p_canPut h ho hN ?_)
    cases e : cp N q
    · exact ifp rfl (h0 e)
    · exact ifn (by decide) (p_putGift h ho hN e fun w hw => h1 e w hw)
  · rw [if_pos rfl] at h0
    rw [if_pos rfl, if_pos rfl] at h1
    refine ifn (by decide) (p_canGive h ho hN ?_)
    cases e : cg N q
    · exact ifp rfl (h0 e)
    · exact ifn (by decide) (p_setGift h fun w hw => h1 e w hw)
theorem p_try (u : SX) (c : Nat → Nat) (m : Nat) (hT : RT u.2.2.2.2.2 c m) (Z : Int32 → SX → Prop) : ∀ k i q d w, VT c m k i → i ≤ m → OG q → RG w q → (∀ w', RG w' (rn c m k i q d).2 → Z (oI (rn c m k i q d).1) (u.1, u.2.1, w', u.2.2.2)) → ∀ n, m + 2 ≤ n + i → pX5_tryText_17 Z n (nI d) (nI i) (nI i) (u.1, u.2.1, w, u.2.2.2)
  | 0, _, _, _, _, h, _, _, _, _ => h.elim
  | k + 1, i, q, d, w, h, hi, ho, hw, hz => by
    have hm := hT.2.1
    have he := ed_le h.2.1
    have hnl : ∀ j, j ≤ m → ¬ u.2.2.2.2.2.1 < nI j := fun j hj => by
      rw [hT.1]
      exact mt (nI_ltI (by omega) (by omega)).mp (by omega)
    have skip : ∀ n j, i ≤ j → j < ed c m i → pX5_tryText_17 Z n (nI d) (nI i) (nI (j + 1)) (u.1, u.2.1, w, u.2.2.2) → pX5_tryText_17 Z (n + 1) (nI d) (nI i) (nI j) (u.1, u.2.1, w, u.2.2.2) := fun n j h1 h2 hn => by
      rw [pX5_tryText_17]
      refine p_len (ifn (hnl j (by omega)) (p_endsMove hT (by omega) ?_))
      rw [em_in h.1 h.2.1 h1 h2]
      refine ifp rfl ?_
      intro x6 e6
      rw [e6, nI_1]
      exact hn
    have last : ∀ n, m + 2 ≤ n + ed c m i → pX5_tryText_17 Z n (nI d) (nI i) (nI (ed c m i)) (u.1, u.2.1, w, u.2.2.2) := by
      intro n hn
      have kk := kd_iff.mp h.1
      have z1 : em c m (ed c m i) = true := em_ed (h.2.2.imp id fun y => y.2.1)
      rw [rn] at hz
      have body : ∀ n, (mkB c m i q = true → ∀ w', RG w' (mkG c m i q) → pX5_tryText_17 Z n (nI (d + 1)) (nI (ed c m i + 1)) (nI (ed c m i + 1)) (u.1, u.2.1, w', u.2.2.2)) → pX5_tryText_17 Z (n + 1) (nI d) (nI i) (nI (ed c m i)) (u.1, u.2.1, w, u.2.2.2) := fun n hn => by
        rw [pX5_tryText_17]
        refine p_len (ifn (hnl _ he.2.2) (p_endsMove hT he.2.2 ?_))
        rw [z1]
        refine ifn (by decide) (p_isGift hT kk.1 (p_number hT h.2.1 (p_tryMove hw ho (nv_lt h.2.1) (c i == 103) ?_ ?_)))
        · intro e
          have e2 : mkB c m i q = false := by
            unfold mkB
            by_cases z : c i = 103
            · rw [if_pos z]; rw [if_pos (by simp [z])] at e; exact e
            · rw [if_neg z]; rw [if_neg (by simp [z])] at e; exact e
          rw [if_neg (by rw [e2]; decide)] at hz
          exact ifp rfl (hz w hw)
        · intro e w' hw'
          have e2 : mkB c m i q = true := by
            unfold mkB
            by_cases z : c i = 103
            · rw [if_pos z]; rw [if_pos (by simp [z])] at e; exact e
            · rw [if_neg z]; rw [if_neg (by simp [z])] at e; exact e
          have e3 : RG w' (mkG c m i q) := by
            unfold mkG
            by_cases z : c i = 103
            · rw [if_pos z]; rw [if_pos (by simp [z])] at hw'; exact hw'
            · rw [if_neg z]; rw [if_neg (by simp [z])] at hw'; exact hw'
          refine ifn (by decide) ?_
          intro x11 e11 x12 e12 x13 e13
          rw [e11, e12, e13, nI_1, nI_1]
          exact hn e2 w' e3
      obtain ⟨n, rfl⟩ : ∃ n', n = n' + 1 := ⟨n - 1, by omega⟩
      by_cases e2 : mkB c m i q = true
      · rw [if_pos e2] at hz
        by_cases e : ed c m i = m
        · rw [if_pos e] at hz
          obtain ⟨n, rfl⟩ : ∃ n', n = n' + 1 := ⟨n - 1, by omega⟩
          refine body _ fun _ w' hw' => ?_
          rw [pX5_tryText_17]
          refine p_len (ifp ?_ (hz w' hw'))
          show u.2.2.2.2.2.1 < nI (ed c m i + 1)
          rw [hT.1]
          exact (nI_ltI (by omega) (by omega)).mpr (by omega)
        · rw [if_neg e] at hz
          have h2 := h.2.2.resolve_left e
          exact body n fun _ w' hw' => p_try u c m hT Z k _ _ _ w' h2.2.2 (by omega) (OG_mk h.2.1 ho e2) hw' hz n (by omega)
      · exact body n fun z => absurd z e2
    intro n hn
    obtain ⟨n, rfl⟩ : ∃ n', n = n' + 2 := ⟨n - 2, by omega⟩
    rcases (show ed c m i = i + 2 ∨ ed c m i = i + 3 by omega) with e | e
    · rw [e] at last
      exact skip _ i (by omega) (by omega) (skip _ (i + 1) (by omega) (by omega) (last _ (by omega)))
    · rw [e] at last
      obtain ⟨n, rfl⟩ : ∃ n', n = n' + 1 := ⟨n - 1, by omega⟩
      exact skip _ i (by omega) (by omega) (skip _ (i + 1) (by omega) (by omega) (skip _ (i + 2) (by omega) (by omega) (last _ (by omega))))
