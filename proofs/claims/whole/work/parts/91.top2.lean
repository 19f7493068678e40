/-! texts: tried and carried out -/
section Tries
variable {w : SM} {c : Nat → Nat} {m : Nat} {q : PG}
theorem m_makesAll (h : RTm w c m) (hA : RA w.1 q) (ho : OG q) (hv : VT c m (m + 1) 0) {Z : SM → Prop} (hz : ∀ a' j sg' nu', RA a' (rn c m (m + 1) 0 q 0).2 → ((rn c m (m + 1) 0 q 0).1 = none → Z (sT w a' j sg' nu' (nI (nm c m (m + 1) 0)) 1)) ∧ ∀ e, (rn c m (m + 1) 0 q 0).1 = some e → Z (sT w a' j sg' nu' (nI e) 0)) : pX6_makesAll w Z := by
  unfold pX6_makesAll
  refine ⟨m + 2, m_make (Z := Z) h (m + 1) 0 q 0 w.1 _ _ hv (Nat.zero_le _) ho hA (fun a' j sg' nu' ha' => ?_) (m + 2) (Nat.le_refl _)⟩
  rw [Nat.zero_add]
  exact hz a' j sg' nu' ha'
theorem m_tries (h : RTm w c m) (hA : RA w.1 q) (ho : OG q) (hv : VT c m (m + 1) 0) {Z : SM → Prop} (hz : ∀ kp a' j sg' nu', RA a' q → ((rn c m (m + 1) 0 q 0).1 = none → Z (sT (w.1, kp, w.2.2) a' j sg' nu' (nI (nm c m (m + 1) 0)) 1)) ∧ ∀ e, (rn c m (m + 1) 0 q 0).1 = some e → Z (sT (w.1, kp, w.2.2) a' j sg' nu' (nI e) 0)) : pX6_tries w Z := by
  unfold pX6_tries
  refine pk_loop (fun n i s => pX6_tries_2 Z n (nI i) (w.1, s, w.2.2)) (fun i s => ∀ k, k < i → s k = w.1 k) 21 0 w.2.1 (by omega) (fun k hk => absurd hk (by omega)) ?_ ?_
  · intro n s hs
    show pX6_tries_2 Z (n + 1) (nI 21) (w.1, s, w.2.2)
    rw [pX6_tries_2, if_pos ((ile 21 (k := 21) rfl (by omega) (by omega)).mpr (by omega))]
    have back : ∀ a j sg nu dn ia, (∀ a', RA a' q → Z (sT (w.1, s, w.2.2) a' j sg nu dn ia)) → ∃ n9, pX6_tries_32 Z n9 0 (sT (w.1, s, w.2.2) a j sg nu dn ia) := fun a j sg nu dn ia hz => by
      refine pk_loop (fun n i t => pX6_tries_32 Z n (nI i) (sT (w.1, s, w.2.2) t j sg nu dn ia)) (fun i t => ∀ k, k < i → t k = s k) 21 0 a (by omega) (fun k hk => absurd hk (by omega)) ?_ ?_
      · intro n t ht
        show pX6_tries_32 Z (n + 1) (nI 21) (sT (w.1, s, w.2.2) t j sg nu dn ia)
        rw [pX6_tries_32, if_pos ((ile 21 (k := 21) rfl (by omega) (by omega)).mpr (by omega))]
        exact hz t (RA_of (fun k hk => (ht k hk).trans (hs k hk)) hA)
      · intro n i t hi ht hk
        show pX6_tries_32 Z (n + 1) (nI i) (sT (w.1, s, w.2.2) t j sg nu dn ia)
        rw [pX6_tries_32, if_neg (mt (ile 21 (k := 21) rfl (by omega) (by omega)).mp (by omega))]
        refine ⟨vp_in_nI (by omega) (by omega), fun x5 e5 => ⟨vp_in_nI (by omega) (by omega), fun x7 e7 => ?_⟩⟩
        rw [nI_clamp (by omega)] at e5
        have e5 : x5 = s i := e5
        rw [nI_clamp (by omega), e7, nI_1]
        refine hk (upd t i x5) fun k hk2 => ?_
        by_cases e : k = i
        · rw [e, pk_us, e5]
        · rw [pk_un e]
          exact ht k (by omega)
    refine m_makesAll (w := (w.1, s, w.2.2)) h hA ho hv fun a' j sg' nu' ha' => ⟨fun e => ?_, fun k e => ?_⟩
    · exact back a' j sg' nu' _ _ fun a2 h2 => (hz s a2 j sg' nu' h2).1 e
    · exact back a' j sg' nu' _ _ fun a2 h2 => (hz s a2 j sg' nu' h2).2 k e
  · intro n i s hi hs hk
    show pX6_tries_2 Z (n + 1) (nI i) (w.1, s, w.2.2)
    rw [pX6_tries_2, if_neg (mt (ile 21 (k := 21) rfl (by omega) (by omega)).mp (by omega))]
    refine ⟨vp_in_nI (by omega) (by omega), fun x9 e9 => ⟨vp_in_nI (by omega) (by omega), fun x11 e11 => ?_⟩⟩
    rw [nI_clamp (by omega)] at e9
    have e9 : x9 = w.1 i := e9
    rw [nI_clamp (by omega), e11, nI_1]
    refine hk (upd s i x9) fun k hk2 => ?_
    by_cases e : k = i
    · rw [e, pk_us, e9]
    · rw [pk_un e]
      exact hs k (by omega)
end Tries
section Top2
variable {u : SX} {v : SM} {q qs : PG} {L : Nat → PG} {n m : Nat} {c : Nat → Nat} {v4 k1 : Int32} {f : Nat → Int64}
theorem t_type (h : Rs u v q qs L n m c) : pL_c3 v4 k1 u v f KK := by
  obtain ⟨hT, hM⟩ := h.2.2.2
  have hm := hT.2.1
  have hvc := pk_vc k1
  unfold pL_c3
  rw [pk_char] at hvc ⊢
  have hch : k1.toBitVec.toNat % 65536 < 65536 := Nat.mod_lt _ (by omega)
  generalize k1.toBitVec.toNat % 65536 = ch at hvc hch ⊢
  unfold pL_type pX5_type pX4_isFull pX6_type
  by_cases e : m = 60
  · refine ifn (by rw [hT.1]; exact mt (ilt 60 (k := 60) rfl (by omega) (by omega)).mp (by omega)) (ifn (by decide) (ifp rfl ?_))
    exact ifp (by rw [hM.1, e]; rfl) (m_fails (m_thr (cl rfl (fun z => absurd z (by decide)) ⟨q, qs, L, n, m, c, h⟩)))
  · refine ifp (by rw [hT.1]; exact (ilt 60 (k := 60) rfl (by omega) (by omega)).mpr (by omega)) (ifp rfl ?_)
    unfold pX4_append
    have t1 : u.2.2.2.2.2.1 = nI m := hT.1
    refine ifn (by rw [t1]; exact nI_pos (by omega)) (ifn (by rw [t1]; exact mt (ile 60 (k := 60) rfl (by omega) (by omega)).mp (by omega)) ⟨by rw [t1]; exact vp_in_nI (by omega) (by omega), fun x4 e4 => ?_⟩)
    rw [t1, nI_1] at e4
    refine p_len ?_
    refine ifn (by rw [hM.1]; exact mt (ieq 60 (k := 60) rfl (by omega) (by omega)).mp e) ⟨by rw [hM.1]; exact vp_in_nI (by omega) (by omega), fun x3 e3 => ?_⟩
    rw [hM.1, nI_1] at e3
    refine m_thr (cl rfl (fun _ => ?_) ?_)
    · show vp_updL f 0 x4.toInt64 0 = x3.toInt64
      rw [pk_uLs, e3, e4]
    · refine ⟨q, qs, L, n, m + 1, fu c m ch, h.1, h.2.1, h.2.2.1, ⟨e4, by omega, fun i hi => ?_⟩, ⟨e3, by omega, fun i hi => ?_⟩⟩
      · show fu c m ch i < 65536 ∧ upd u.2.2.2.2.2.2 (u.2.2.2.2.2.1).toNatClampNeg (vp_nar .char (nI ch)) i = nI (fu c m ch i)
        rw [t1, nI_clamp (by omega), hvc]
        by_cases z : i = m
        · rw [z, fu_s, pk_us]
          exact ⟨hch, rfl⟩
        · rw [fu_n z, pk_un z]
          exact hT.2.2 i (by omega)
      · show fu c m ch i < 65536 ∧ upd v.2.2.2.2.1 (v.2.2.2.2.2.2.2.2.2.2.2.1).toNatClampNeg (nI ch) i = nI (fu c m ch i)
        rw [hM.1, nI_clamp (by omega)]
        by_cases z : i = m
        · rw [z, fu_s, pk_us]
          exact ⟨hch, rfl⟩
        · rw [fu_n z, pk_un z]
          exact hM.2.2 i (by omega)
theorem t_clear (h : Rs u v q qs L n m c) : pL_c4 v4 k1 u v f KK := by
  obtain ⟨hT, hM⟩ := h.2.2.2
  unfold pL_c4 pX5_clearText pX6_clearText
  refine p_len (cl2 (hT.1.trans hM.1.symm) ?_)
  exact ⟨q, qs, L, n, 0, c, h.1, h.2.1, h.2.2.1, ⟨rfl, by omega, fun i hi => absurd hi (by omega)⟩, ⟨rfl, by omega, fun i hi => absurd hi (by omega)⟩⟩
theorem t_error (h : Rs u v q qs L n m c) : pL_c5 v4 k1 u v f KK := by
  obtain ⟨hT, hM⟩ := h.2.2.2
  unfold pL_c5 pX5_textError pX6_textError
  exact p_firstError hT (m_errorOfText hM fun j sg' nu' => m_told (cl2 rfl ⟨q, qs, L, n, m, c, h⟩))
theorem fe_VT (hm : m ≤ 60) (hf : fe c m m 0 0 = -1) : VT c m (m + 1) 0 := VT_of c m hm (m + 1) 0 (Nat.zero_le _) (by omega) hf
theorem t_impossible (h : Rs u v q qs L n m c) : pL_c6 v4 k1 u v f KK := by
  obtain ⟨hT, hM⟩ := h.2.2.2
  have ho := h.1.2.2
  unfold pL_c6 pL_impossibleMove pX5_impossibleMove pX5_requireValidText pX6_impossibleMove
  refine p_firstError hT ?_
  by_cases hf : fe c m m 0 0 = -1
  · have hv := fe_VT hT.2.1 hf
    refine ifp hf ?_
    unfold pX5_tryText
    refine p_copyG h.1.1 fun w1 h1 => ⟨m + 2, p_try u c m hT _ (m + 1) 0 q 0 w1 hv (Nat.zero_le _) ho h1 (fun w' hw' => ?_) (m + 2) (by omega)⟩
    refine m_errorOfText hM fun j sg' nu' => ifp hf ?_
    refine m_tries (w := sT v v.1 (nI j) sg' nu' v.2.2.2.2.2.2.2.2.2.2.2.2.2.2.2.1 v.2.2.2.2.2.2.2.2.2.2.2.2.2.2.2.2.1) hM h.1.2.1 ho hv fun kp a' j2 s2 n2 ha' => ⟨fun e => ?_, fun k e => ?_⟩
    · rw [e]
      refine ifn (show ¬ (1 : Int32) = 0 by decide) (m_told (m_thr (cl rfl (fun _ => uL0 f _) ?_)))
      exact ⟨q, qs, L, n, m, c, ⟨h.1.1, ha', ho⟩, h.2⟩
    · rw [e]
      refine ifp (show (0 : Int32) = 0 from rfl) (m_told (m_thr (cl rfl (fun _ => uL0 f _) ?_)))
      exact ⟨q, qs, L, n, m, c, ⟨h.1.1, ha', ho⟩, h.2⟩
  · refine ifn hf (ifp rfl (m_errorOfText hM fun j sg' nu' => ifn hf ?_))
    exact m_fails (m_thr (cl rfl (fun z => absurd z (by decide)) ⟨q, qs, L, n, m, c, h⟩))
theorem t_carry (h : Rs u v q qs L n m c) : pL_c7 v4 k1 u v f KK := by
  obtain ⟨hT, hM⟩ := h.2.2.2
  have ho := h.1.2.2
  unfold pL_c7 pL_carryOut pX5_carryOut pX5_requireValidText pX6_carryOut
  refine p_firstError hT ?_
  by_cases hf : fe c m m 0 0 = -1
  · have hv := fe_VT hT.2.1 hf
    refine ifp hf ?_
    unfold pX5_tryText
    refine p_copyG h.1.1 fun w1 h1 => ⟨m + 2, p_try u c m hT _ (m + 1) 0 q 0 w1 hv (Nat.zero_le _) ho h1 (fun w' hw' => ?_) (m + 2) (by omega)⟩
    cases e : (rn c m (m + 1) 0 q 0).1 with
    | none =>
      refine ifp rfl (p_record h.2.1.1 h.1.1 fun h' hh' => p_copyG hw' fun g2 hg2 => p_moves hT ?_)
      refine m_errorOfText hM fun j sg' nu' => ifp hf ?_
      refine m_tries (w := sT v v.1 (nI j) sg' nu' v.2.2.2.2.2.2.2.2.2.2.2.2.2.2.2.1 v.2.2.2.2.2.2.2.2.2.2.2.2.2.2.2.2.1) hM h.1.2.1 ho hv fun kp a' j2 s2 n2 ha' => ⟨fun _ => ?_, fun k e2 => ?_⟩
      · refine ifn (show ¬ (1 : Int32) = 0 by decide) ?_
        have hrec : ∀ (w : SM), RA w.1 q → w.2.2.1 = v.2.2.1 → w.2.2.2.2.2.2.2.2.1 = v.2.2.2.2.2.2.2.2.1 → ∀ Z : SM → Prop, (∀ s, RHm s (psh q L) (min (n + 1) 4) → Z (sRec w s (nI (min (n + 1) 4)) 0)) → pX6_records w Z := fun w w1 w2 w3 Z hz => m_records w1 (by rw [w2]; exact h.2.1.2.1) (w3.trans h.2.1.2.2.1) hz
        have hmk : ∀ (w : SM), RTm w c m → RA w.1 q → ∀ Z : SM → Prop, (∀ a' j sg' nu', RA a' (rn c m (m + 1) 0 q 0).2 → ((rn c m (m + 1) 0 q 0).1 = none → Z (sT w a' j sg' nu' (nI (nm c m (m + 1) 0)) 1)) ∧ ∀ e, (rn c m (m + 1) 0 q 0).1 = some e → Z (sT w a' j sg' nu' (nI e) 0)) → pX6_makesAll w Z := fun w w1 w2 Z hz => m_makesAll w1 w2 ho hv hz
        refine hrec _ ?_ ?_ ?_ _ fun s hs => ?_
        · exact ha'
        · rfl
        · rfl
        refine hmk _ ?_ ?_ _ fun a3 j3 s3 n3 ha3 => ⟨fun _ => ?_, fun k e2 => ?_⟩
        · exact hM
        · exact ha'
        · refine m_thr (cl rfl (fun _ => ?_) ?_)
          · show vp_updL f 0 (nI (cN (em c m) (m + 1))).toInt64 0 = (nI (nm c m (m + 1) 0)).toInt64
            rw [pk_uLs, nm_c c m (m + 1) 0 hv]
            show (nI (0 + _)).toInt64 = _
            rw [Nat.zero_add]
          · exact ⟨(rn c m (m + 1) 0 q 0).2, qs, psh q L, min (n + 1) 4, m, c, ⟨hg2, ha3, OG_rn c m (m + 1) 0 q 0 hv ho⟩, ⟨hh', hs, rfl, OG_psh ho h.2.1.2.2.2⟩, h.2.2.1, h.2.2.2⟩
        · rw [e] at e2
          cases e2
      · rw [e] at e2
        cases e2
    | some k0 =>
      have hk0 : ¬ oI (some k0) = -1 := by
        have hle : ∀ k i (q : PG) d e, (rn c m k i q d).1 = some e → e < d + k := by
          intro k
          induction k with
          | zero => intro i q d e h; cases h
          | succ k ih =>
            intro i q d e h
            rw [rn] at h
            by_cases b : mkB c m i q = true
            · rw [if_pos b] at h
              by_cases y : ed c m i = m
              · rw [if_pos y] at h
                cases h
              · rw [if_neg y] at h
                have := ih _ _ _ _ h
                omega
            · rw [if_neg b] at h
              cases h
              omega
        have := hle _ _ _ _ _ e
        have := hT.2.1
        exact nI_m1 (by omega)
      refine ifn hk0 (ifp rfl ?_)
      refine m_errorOfText hM fun j sg' nu' => ifp hf ?_
      refine m_tries (w := sT v v.1 (nI j) sg' nu' v.2.2.2.2.2.2.2.2.2.2.2.2.2.2.2.1 v.2.2.2.2.2.2.2.2.2.2.2.2.2.2.2.2.1) hM h.1.2.1 ho hv fun kp a' j2 s2 n2 ha' => ⟨fun e2 => ?_, fun k e2 => ?_⟩
      · rw [e] at e2
        cases e2
      · refine ifp (show (0 : Int32) = 0 from rfl) (m_fails (m_thr (cl rfl (fun z => absurd z (by decide)) ?_)))
        exact ⟨q, qs, L, n, m, c, ⟨h.1.1, ha', ho⟩, h.2⟩
  · refine ifn hf (ifp rfl (m_errorOfText hM fun j sg' nu' => ifn hf ?_))
    exact m_fails (m_thr (cl rfl (fun z => absurd z (by decide)) ⟨q, qs, L, n, m, c, h⟩))
theorem t_undo (h : Rs u v q qs L n m c) : pL_c8 v4 k1 u v f KK := by
  have hn4 := h.2.1.2.1.1
  unfold pL_c8 pL_undo pX5_undo pX3_size
  have hsz : u.2.2.2.2.1.2.1 = nI n := by
    obtain ⟨x, _, _, e2, _⟩ := h.2.1.1
    exact e2
  cases n with
  | zero =>
    refine ifp hsz (ifp rfl ?_)
    unfold pX6_undo
    exact ifp h.2.1.2.2.1 (m_fails (m_thr (cl rfl (fun z => absurd z (by decide)) ⟨q, qs, L, 0, m, c, h⟩)))
  | succ n =>
    refine ifn (by rw [hsz]; exact nI_ne0 (by omega) (by omega)) (p_takeBack h.2.1.1 fun h' s' hh' hs' => ?_)
    have hsz2 : h'.2.1 = nI n := by
      obtain ⟨x, _, _, e2, _⟩ := hh'
      exact e2
    refine m_undo h.2.1.2.1 h.2.1.2.2.1 fun a ha => m_thr (cl rfl (fun _ => ?_) ?_)
    · show vp_updL f 0 (h'.2.1).toInt64 0 = (nI n).toInt64
      rw [pk_uLs, hsz2]
    · refine ⟨L 0, qs, fun j => L (j + 1), n, m, c, ⟨hs', ha, h.2.1.2.2.2 0 (by omega)⟩, ⟨hh', ⟨by omega, fun j hj => ?_⟩, rfl, fun j hj => h.2.1.2.2.2 (j + 1) (by omega)⟩, h.2.2.1, h.2.2.2⟩
      have := h.2.1.2.1.2 (j + 1) (by omega)
      rw [show n + 1 - 1 - (j + 1) = n - 1 - j by omega] at this
      exact this
theorem t_take (h : Rs u v q qs L n m c) : pL_c9 v4 k1 u v f KK := by
  unfold pL_c9 pX5_takeSnapshot
  refine p_copyG h.1.1 fun w1 h1 => p_count h.1.1.2.2.2.2 (m_takeSnapshot h.1.2.1 h.1.2.2.1 fun s hs => cl2 rfl ?_)
  exact ⟨q, q, L, n, m, c, h.1, h.2.1, ⟨rfl, fun _ => ⟨h1, hs, h.1.2.2⟩⟩, h.2.2.2⟩
theorem t_restore (h : Rs u v q qs L n m c) : pL_c10 v4 k1 u v f KK := by
  unfold pL_c10 pL_restoreSnapshot pX5_restoreSnapshot pX6_restoreSnapshot
  obtain ⟨hk, hs⟩ := h.2.2.1
  by_cases e : u.1 = 0
  · exact ifp e (ifp rfl (ifp (hk.symm.trans e) (m_fails (m_thr (cl rfl (fun z => absurd z (by decide)) ⟨q, qs, L, n, m, c, h⟩)))))
  · obtain ⟨s1, s2, s3⟩ := hs e
    refine ifn e (p_record h.2.1.1 h.1.1 fun h' hh' => p_copyG s1 fun w3 h3 => p_count h3.2.2.2.2 ?_)
    refine ifn (fun z => e (hk.trans z)) (m_records h.1.2.1 h.2.1.2.1 h.2.1.2.2.1 fun s hs' => m_restoreAll (u := sRec v s (nI (min (n + 1) 4)) 0) s2 s3.1 fun a ha => m_thr (cl rfl (fun _ => uL0 f _) ?_))
    exact ⟨qs, qs, psh q L, min (n + 1) 4, m, c, ⟨h3, ha, s3⟩, ⟨hh', hs', rfl, OG_psh h.1.2.2 h.2.1.2.2.2⟩, ⟨hk, fun _ => ⟨s1, s2, s3⟩⟩, h.2.2.2⟩
end Top2
