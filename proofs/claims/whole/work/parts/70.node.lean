/-! the model's search at a node: the value, and the first best move at the root -/
def ND (q : PG) (n : Nat) : Prop := WB q.1 ∧ q.2.2.1 ≤ 1 ∧ q.2.1 ≤ 16 ∧ (q.2.1 ≠ 0 → hp q.1 (q.2.1 - 1) = false) ∧ ct q.1 + n + 1 = 16 ∧ n ≤ 3
def Ag (d : Nat) (O0 B0 H0 O B H : Nat → Int32) : Prop := ∀ e, e < d → O e = O0 e ∧ B e = B0 e ∧ H e = H0 e
def Nd (Z : Int32 → SM → Prop) (u : SM) (n : Nat) (g : Bool) : Prop := ∀ (q : PG) (d : Nat) (A O B H : Nat → Int32) (F : Int32), ND q n → (q.2.1 = 0 ↔ g = true) → d + 2 * n + (if g = true then 1 else 0) ≤ 9 → RA A q → O d = -1 → B d = -2 → (∀ A' O' B' H' F', RA A' q → Ag d O B H O' B' H' → B' d = vO q n → F' = (if d = 0 then goF (mvOk q) (mvV q n) 16 0 (-2) F else F) → PopK Z u d A' O' B' H' F') → S17 Z u (nI d) A O B H F
section Node
variable {Z : Int32 → SM → Prop} {u : SM} {q : PG} {A O B H : Nat → Int32} {F : Int32}
theorem s17_of {d j : Nat} (hd : d < 10) (hO : O d + 1 = nI j) (h : ∃ n n9, pX6_searches_31 Z (pX6_searches_17 Z n) (nI d) n9 (sS u A (upd O d (nI j)) B H F)) : S17 Z u (nI d) A O B H F := by
  obtain ⟨n, n9, hn⟩ := h
  refine ⟨n + 1, ?_⟩
  rw [pX6_searches_17]
  refine ifn (nI_pos (by omega)) ⟨vp_in_nI hd (by omega), fun x3 e3 => ⟨vp_in_nI hd (by omega), n9, ?_⟩⟩
  rw [nI_clamp (by omega)] at e3 ⊢
  have e3 : x3 = O d + 1 := e3
  rw [e3, hO]
  exact hn
theorem m_canMake' (h : RA A q) (ho : WB q.1) (hg : q.2.1 ≤ 16) {x : Int32} {j : Nat} (ex : x = nI j) (hj : j < 16) {Z : Int32 → Prop} (hz : Z (bI (mvOk q j))) : pX6_canMake x (sS u A O B H F) Z := by
  rw [ex]
  exact m_canMake (u := sS u A O B H F) h ho hg hj hz
theorem nd_loop {n d : Nat} (hd : d < 10) (hnd : ND q n) (R RF : Int32) (O0 B0 H0 : Nat → Int32)
    (hc : ∀ A O B H F, RA A q → Ag d O0 B0 H0 O B H → B d = R → F = RF → PopK Z u d A O B H F)
    (hch : ∀ A O B H F j, j < 16 → mvOk q j = true → RA A q → Ag d O0 B0 H0 O B H → O d = nI j → (∀ A' O' B' H' F', RA A' q → Ag d O0 B0 H0 O' B' H' → O' d = nI j → B' d = mxI (B d) (mvV q n j) → F' = (if d = 0 ∧ B d < mvV q n j then nI j else F) → S17 Z u (nI d) A' O' B' H' F') → ∃ n', mkE (pX6_searches_17 Z n') (nI d) (sS u A O B H F)) :
    ∀ k j, j + k = 16 → ∀ A O B H F, RA A q → Ag d O0 B0 H0 O B H → O d = nI j → go (mvOk q) (mvV q n) k j (B d) = R → (if d = 0 then goF (mvOk q) (mvV q n) k j (B d) F else F) = RF → ∃ n1 n9, pX6_searches_31 Z (pX6_searches_17 Z n1) (nI d) n9 (sS u A O B H F)
  | 0, j, hj, A, O, B, H, F, hA, hag, hO, hR, hF => by
    have hv : vp_in (nI d) 10 := vp_in_nI hd (by omega)
    have hO2 : (sS u A O B H F).2.2.2.2.2.1 (nI d).toNatClampNeg = nI j := (congrArg O (nI_clamp (by omega))).trans hO
    have c : (16 : Int32) ≤ (sS u A O B H F).2.2.2.2.2.1 (nI d).toNatClampNeg := by
      rw [hO2]
      exact (ile 16 (k := 16) rfl (by omega) (by omega)).mpr (by omega)
    have hF2 : F = RF := by
      by_cases z : d = 0
      · rw [if_pos z] at hF
        exact hF
      · rw [if_neg z] at hF
        exact hF
    obtain ⟨n1, hn⟩ := m_pop hd (hc A O B H F hA hag hR hF2)
    refine ⟨n1, 1, ?_⟩
    rw [pX6_searches_31]
    exact ⟨hv, ifp c ⟨hv, ifp c hn⟩⟩
  | k + 1, j, hj, A, O, B, H, F, hA, hag, hO, hR, hF => by
    have hv : vp_in (nI d) 10 := vp_in_nI hd (by omega)
    have hO2 : (sS u A O B H F).2.2.2.2.2.1 (nI d).toNatClampNeg = nI j := (congrArg O (nI_clamp (by omega))).trans hO
    have c : ¬ (16 : Int32) ≤ (sS u A O B H F).2.2.2.2.2.1 (nI d).toNatClampNeg := by
      rw [hO2]
      exact mt (ile 16 (k := 16) rfl (by omega) (by omega)).mp (by omega)
    have hB2 : (sS u A O B H F).2.2.2.2.2.2.1 (nI d).toNatClampNeg = B d := congrArg B (nI_clamp (by omega))
    rw [go] at hR
    rw [goF] at hF
    cases hok : mvOk q j
    · rw [hok, if_neg (show ¬ false = true by decide)] at hR
      rw [hok, if_neg (show ¬ false = true by decide), if_neg (show ¬ (false = true ∧ B d < mvV q n j) from fun z => by cases z.1)] at hF
      have hR2 : go (mvOk q) (mvV q n) k (j + 1) (B d) = R := by
        by_cases b1 : B d = 1
        · rw [if_pos b1] at hR
          rw [b1, go_1, ← hR, b1]
        · rw [if_neg b1] at hR
          exact hR
      have hF2 : (if d = 0 then goF (mvOk q) (mvV q n) k (j + 1) (B d) F else F) = RF := by
        by_cases b1 : B d = 1
        · rw [if_pos b1] at hF
          rw [b1, goF_1]
          exact hF
        · rw [if_neg b1] at hF
          exact hF
      obtain ⟨n1, n9, hn⟩ := nd_loop hd hnd R RF O0 B0 H0 hc hch k (j + 1) (by omega) A (upd O d (nI (j + 1))) B H F hA (fun e he => ⟨(pk_un (by omega)).trans (hag e he).1, (hag e he).2⟩) pk_us hR2 hF2
      refine ⟨n1, n9 + 1, ?_⟩
      rw [pX6_searches_31]
      refine ⟨hv, ifn c ⟨hv, m_canMake' hA hnd.1 hnd.2.2.1 hO2 (by omega) ?_⟩⟩
      rw [hok]
      refine ifp rfl ⟨hv, fun x185 e185 => ⟨hv, ?_⟩⟩
      rw [hO2, nI_1] at e185
      rw [e185, nI_clamp (by omega)]
      exact hn
    · rw [hok, if_pos (rfl : true = true)] at hR
      rw [hok, if_pos (rfl : true = true)] at hF
      by_cases b1 : B d = 1
      · rw [if_pos b1] at hR hF
        have hF2 : F = RF := by
          by_cases z : d = 0
          · rw [if_pos z] at hF
            exact hF
          · rw [if_neg z] at hF
            exact hF
        obtain ⟨n1, hn⟩ := m_pop hd (hc A O B H F hA hag hR hF2)
        refine ⟨n1, 1, ?_⟩
        rw [pX6_searches_31]
        refine ⟨hv, ifn c ⟨hv, m_canMake' hA hnd.1 hnd.2.2.1 hO2 (by omega) ?_⟩⟩
        rw [hok]
        exact ifn (by decide) ⟨hv, ifn c ⟨hv, ifp (hB2.trans b1) hn⟩⟩
      · rw [if_neg b1] at hR hF
        obtain ⟨n1, hn⟩ := hch A O B H F j (by omega) hok hA hag hO (fun A' O' B' H' F' hA' hag' hO' hB' hF' => by
          refine s17_of hd (by rw [hO', nI_1]) (nd_loop hd hnd R RF O0 B0 H0 hc hch k (j + 1) (by omega) A' (upd O' d (nI (j + 1))) B' H' F' hA' (fun e he => ⟨(pk_un (by omega)).trans (hag' e he).1, (hag' e he).2⟩) pk_us ?_ ?_)
          · rw [hB']
            exact hR
          · rw [hB']
            by_cases z : d = 0
            · rw [if_pos z] at hF ⊢
              rw [hF', ← hF]
              by_cases y : B d < mvV q n j
              · rw [if_pos ⟨z, y⟩, if_pos ⟨rfl, y⟩]
              · rw [if_neg (fun x => y x.2), if_neg (fun x => y x.2)]
            · rw [if_neg z] at hF ⊢
              rw [hF', if_neg (fun x => z x.1)]
              exact hF)
        refine ⟨n1, 1, ?_⟩
        rw [pX6_searches_31]
        refine ⟨hv, ifn c ⟨hv, m_canMake' hA hnd.1 hnd.2.2.1 hO2 (by omega) ?_⟩⟩
        rw [hok]
        exact ifn (by decide) ⟨hv, ifn c ⟨hv, ifn (fun z => b1 (hB2.symm.trans z)) hn⟩⟩
theorem nd_main {n : Nat} {g : Bool} (hch : ∀ (q : PG) (d : Nat), ND q n → (q.2.1 = 0 ↔ g = true) → d + 2 * n + (if g = true then 1 else 0) ≤ 9 → ∀ O0 B0 H0 A O B H F j, j < 16 → mvOk q j = true → RA A q → Ag d O0 B0 H0 O B H → O d = nI j → (∀ A' O' B' H' F', RA A' q → Ag d O0 B0 H0 O' B' H' → O' d = nI j → B' d = mxI (B d) (mvV q n j) → F' = (if d = 0 ∧ B d < mvV q n j then nI j else F) → S17 Z u (nI d) A' O' B' H' F') → ∃ n', mkE (pX6_searches_17 Z n') (nI d) (sS u A O B H F)) : Nd Z u n g := by
  intro q d A O B H F hnd hg hd hA hO hB hc
  have hd10 : d < 10 := by omega
  have hct : ct q.1 < 16 := by
    have := hnd.2.2.2.2.1
    omega
  refine s17_of (j := 0) hd10 (by rw [hO]; decide) (nd_loop hd10 hnd (vO q n) (if d = 0 then goF (mvOk q) (mvV q n) 16 0 (-2) F else F) O B H (fun A' O' B' H' F' h1 h2 h3 h4 => hc A' O' B' H' F' h1 h2 h3 h4) (hch q d hnd hg hd O B H) 16 0 rfl A (upd O d (nI 0)) B H F hA (fun e he => ⟨pk_un (by omega), rfl, rfl⟩) pk_us ?_ ?_)
  · rw [hB]
    exact go_2 (T3_mvV q n) 16 0 (mvOk_ex hct)
  · rw [hB]
theorem nd_gp {n : Nat} (ih : Nd Z u n false) : Nd Z u n true := by
  refine nd_main fun q d hnd hg hd O0 B0 H0 A O B H F j hj hok hA hag hO hcont => ?_
  have e : q.2.1 = 0 := hg.mpr rfl
  have hd : d + 2 * n + 1 ≤ 9 := hd
  refine m_mk (q := q) (by omega) hj hO hA hnd.1 hnd.2.1 hnd.2.2.1 hnd.2.2.2.1 hok (fun _ => by omega) (fun _ => ?_) (fun z => absurd e z) (fun z => absurd e z) (fun z => absurd e z)
  have hok2 : hp q.1 j = false := by
    unfold mvOk at hok
    rw [if_pos e] at hok
    simpa using hok
  refine ih (gv j q) (d + 1) _ _ _ _ F ⟨hnd.1, hnd.2.1, (show j + 1 ≤ 16 by omega), fun _ => hok2, hnd.2.2.2.2.1, hnd.2.2.2.2.2⟩ ⟨fun z => absurd z (Nat.succ_ne_zero j), fun z => by cases z⟩ (show d + 1 + 2 * n + 0 ≤ 9 by omega) (RA_gift hA (j + 1)) pk_us pk_us fun A' O' B' H' F' hA' hag' hB' hF' => ?_
  have h1 := hag' d (by omega)
  have hO' : O' d = nI j := h1.1.trans ((pk_un (by omega)).trans hO)
  have hBd : B' d = B d := h1.2.1.trans (pk_un (by omega))
  have hHd : H' d = 0 := h1.2.2.trans pk_us
  have hF2 : F' = F := by rw [hF', if_neg (by omega)]
  have hval : -(B' (d + 1)) = mvV q n j := by
    rw [hB', vO_1 (show ¬ (gv j q).2.1 = 0 from Nat.succ_ne_zero j)]
    unfold mvV
    rw [if_pos e]
    rfl
  refine ⟨j, hO', hj, fun _ => ?_, fun z => absurd hHd z⟩
  rw [hval]
  refine hcont _ _ _ _ _ ?_ (fun k hk => ?_) hO' ?_ ?_
  · have h2 : RA (upd A' 16 0) (q.1, 0, q.2.2) := RA_gift hA' 0
    exact ⟨h2.1, by rw [e]; exact h2.2.1, h2.2.2⟩
  · have h2 := hag' k (by omega)
    exact ⟨h2.1.trans ((pk_un (by omega)).trans (hag k hk).1), (kB_n (by omega)).trans (h2.2.1.trans ((pk_un (by omega)).trans (hag k hk).2.1)), h2.2.2.trans ((pk_un (by omega)).trans (hag k hk).2.2)⟩
  · rw [kB_s, hBd]
  · rw [kF_e, hBd, hF2]
    by_cases z : d = 0 ∧ B d < mvV q n j
    · rw [if_pos z, if_pos z]
      obtain ⟨rfl, _⟩ := z
      exact hO'
    · rw [if_neg z, if_neg z]
theorem nd_pp {n : Nat} (ih : ∀ n', n = n' + 1 → Nd Z u n' true) : Nd Z u n false := by
  refine nd_main fun q d hnd hg hd O0 B0 H0 A O B H F j hj hok hA hag hO hcont => ?_
  have e : ¬ q.2.1 = 0 := fun z => by have := hg.mp z; cases this
  have hd : d + 2 * n + 0 ≤ 9 := hd
  have hok2 : q.1 j = 0 := by
    unfold mvOk at hok
    rw [if_neg e] at hok
    simpa using hok
  have hg16 := hnd.2.2.1
  have hgs : q.2.1 - 1 + 1 = q.2.1 := by omega
  have hct : ct (fu q.1 j q.2.1) = ct q.1 + 1 := by
    have := ct_put (p := q.2.1 - 1) hj hok2
    rw [hgs] at this
    exact this
  have hW : WB (fu q.1 j q.2.1) := by
    have := WB_put (c := j) hnd.1 (hnd.2.2.2.1 e) (by omega)
    rw [hgs] at this
    exact this
  have hcn := hnd.2.2.2.2.1
  have hval : mvV q n j = if hw (fu q.1 j q.2.1) q.2.2.1 = true then 1 else vG q.2.2.1 n (fu q.1 j q.2.1) := by
    unfold mvV vX
    rw [if_neg e, hgs]
  have fin : ∀ x : Int32, mvV q n j = x → S17 Z u (nI d) A O (kB B d x) (upd H d (nI q.2.1)) (kF O B d x F) := fun x hx => by
    refine hcont A O _ _ _ hA (fun k hk => ⟨(hag k hk).1, (kB_n (by omega)).trans (hag k hk).2.1, (pk_un (by omega)).trans (hag k hk).2.2⟩) hO (by rw [kB_s, hx]) ?_
    rw [kF_e, hx]
    by_cases z : d = 0 ∧ B d < x
    · rw [if_pos z, if_pos z]
      obtain ⟨rfl, _⟩ := z
      exact hO
    · rw [if_neg z, if_neg z]
  refine m_mk (q := q) (by omega) hj hO hA hnd.1 hnd.2.1 hg16 hnd.2.2.2.1 hok ?_ (fun z => absurd z e) (fun _ h1 => fin 1 ?_) (fun _ h1 h2 => fin 0 ?_) (fun _ h1 h2 => ?_)
  · rintro (z | z)
    · exact absurd z e
    · omega
  · rw [hval, if_pos h1]
  · obtain rfl : n = 0 := by omega
    rw [hval, if_neg (by rw [h1]; decide)]
    rfl
  · obtain ⟨n', rfl⟩ : ∃ n', n = n' + 1 := ⟨n - 1, by omega⟩
    have hA1 : RA (upd (upd A j (nI q.2.1)) 16 0) (fu q.1 j q.2.1, 0, q.2.2) := RA_gift (q := (fu q.1 j q.2.1, q.2)) (RA_cell hA hj) 0
    refine ih n' rfl (fu q.1 j q.2.1, 0, q.2.2) (d + 1) _ _ _ _ F ⟨hW, hnd.2.1, Nat.zero_le _, fun z => absurd rfl z, (show ct (fu q.1 j q.2.1) + n' + 1 = 16 by omega), by have := hnd.2.2.2.2.2; omega⟩ ⟨fun _ => rfl, fun _ => rfl⟩ (show d + 1 + 2 * n' + 1 ≤ 9 by omega) hA1 pk_us pk_us fun A' O' B' H' F' hA' hag' hB' hF' => ?_
    have h3 := hag' d (by omega)
    have hO' : O' d = nI j := h3.1.trans ((pk_un (by omega)).trans hO)
    have hBd : B' d = B d := h3.2.1.trans (pk_un (by omega))
    have hHd : H' d = nI q.2.1 := h3.2.2.trans pk_us
    have hF2 : F' = F := by rw [hF', if_neg (by omega)]
    have hv2 : B' (d + 1) = mvV q (n' + 1) j := by
      rw [hB', vO_0 (show (fu q.1 j q.2.1, 0, q.2.2).2.1 = 0 from rfl), hval, if_neg (by rw [h1]; decide)]
    refine ⟨j, hO', hj, fun z => ?_, fun _ => ?_⟩
    · rw [hHd] at z
      exact absurd z (nI_ne0 (by omega) (by omega))
    · rw [hv2, hHd]
      refine hcont _ _ _ _ _ ?_ (fun k hk => ?_) hO' ?_ ?_
      · have h4 : RA (upd (upd A' 16 (nI q.2.1)) j (nI 0)) (fu (fu q.1 j q.2.1) j 0, q.2.1, q.2.2) := RA_cell (q := (fu q.1 j q.2.1, q.2.1, q.2.2)) (RA_gift hA' q.2.1) hj
        rw [fu_undo hok2] at h4
        exact h4
      · have h2 := hag' k (by omega)
        exact ⟨h2.1.trans ((pk_un (by omega)).trans (hag k hk).1), (kB_n (by omega)).trans (h2.2.1.trans ((pk_un (by omega)).trans (hag k hk).2.1)), h2.2.2.trans ((pk_un (by omega)).trans (hag k hk).2.2)⟩
      · rw [kB_s, hBd]
      · rw [kF_e, hBd, hF2]
        by_cases z : d = 0 ∧ B d < mvV q (n' + 1) j
        · rw [if_pos z, if_pos z]
          obtain ⟨rfl, _⟩ := z
          exact hO'
        · rw [if_neg z, if_neg z]
theorem nd_all : ∀ n, Nd Z u n false ∧ Nd Z u n true
  | 0 => by
    have h : Nd Z u 0 false := nd_pp fun n' z => by cases z
    exact ⟨h, nd_gp h⟩
  | n + 1 => by
    have h : Nd Z u (n + 1) false := nd_pp fun n' z => by
      obtain rfl : n = n' := by omega
      exact (nd_all n).2
    exact ⟨h, nd_gp h⟩
end Node
/-! the first best move -/
theorem t3 {x : Int32} (h : T3 x) : -1 ≤ x.toInt ∧ x.toInt ≤ 1 := by
  rcases h with rfl | rfl | rfl <;> decide
theorem mxI_toInt (a b : Int32) : (mxI a b).toInt = max a.toInt b.toInt := by
  unfold mxI
  by_cases h : a < b
  · rw [if_pos h]
    rw [Int32.lt_iff_toInt_lt] at h
    omega
  · rw [if_neg h]
    rw [Int32.lt_iff_toInt_lt] at h
    omega
theorem go_ge {ok : Nat → Bool} {val : Nat → Int32} : ∀ k j acc, acc.toInt ≤ (go ok val k j acc).toInt
  | 0, _, acc => Int.le_refl _
  | k + 1, j, acc => by
    rw [go]
    split
    · exact Int.le_refl _
    · refine Int.le_trans ?_ (go_ge k (j + 1) _)
      split
      · rw [mxI_toInt]
        omega
      · exact Int.le_refl _
theorem goF_spec {ok : Nat → Bool} {val : Nat → Int32} (hv : ∀ i, T3 (val i)) : ∀ k j acc F, acc.toInt ≤ 1 → (acc < go ok val k j acc → goF ok val k j acc F = oI (fU (fun N => ok N && decide (val N = go ok val k j acc)) k j)) ∧ (acc = go ok val k j acc → goF ok val k j acc F = F)
  | 0, j, acc, F, _ => ⟨fun h => by
      have h : acc < acc := h
      rw [Int32.lt_iff_toInt_lt] at h
      omega, fun _ => rfl⟩
  | k + 1, j, acc, F, ha => by
    by_cases b1 : acc = 1
    · rw [go, goF, if_pos b1, if_pos b1]
      exact ⟨fun h => by rw [Int32.lt_iff_toInt_lt] at h; omega, fun _ => rfl⟩
    · have eg : go ok val (k + 1) j acc = go ok val k (j + 1) (if ok j = true then mxI acc (val j) else acc) := by rw [go, if_neg b1]
      have ef : goF ok val (k + 1) j acc F = goF ok val k (j + 1) (if ok j = true then mxI acc (val j) else acc) (if ok j = true ∧ acc < val j then nI j else F) := by rw [goF, if_neg b1]
      rw [eg, ef, fU]
      cases hok : ok j
      · rw [if_neg (show ¬ false = true by decide), if_neg (show ¬ (false = true ∧ acc < val j) from fun z => by cases z.1), if_neg (show ¬ ((false && _) = true) from fun z => by cases z)]
        exact goF_spec hv k (j + 1) acc F ha
      · rw [if_pos (rfl : true = true)]
        have hvj := t3 (hv j)
        by_cases c : acc < val j
        · have em : mxI acc (val j) = val j := if_pos c
          rw [em, if_pos ⟨rfl, c⟩]
          have ih := goF_spec (ok := ok) hv k (j + 1) (val j) (nI j) hvj.2
          have hge := go_ge (ok := ok) (val := val) k (j + 1) (val j)
          rw [Int32.lt_iff_toInt_lt] at c
          refine ⟨fun h => ?_, fun h => ?_⟩
          · by_cases z : val j = go ok val k (j + 1) (val j)
            · rw [if_pos (show (true && decide (val j = go ok val k (j + 1) (val j))) = true by rw [decide_eq_true z]; rfl)]
              exact ih.2 z
            · rw [if_neg (show ¬ (true && decide (val j = go ok val k (j + 1) (val j))) = true by rw [decide_eq_false z]; decide)]
              refine ih.1 ?_
              rw [Int32.lt_iff_toInt_lt]
              have : ¬ (val j).toInt = (go ok val k (j + 1) (val j)).toInt := fun y => z (Int32.toInt_inj.mp y)
              omega
          · have h2 : acc.toInt = (go ok val k (j + 1) (val j)).toInt := congrArg Int32.toInt h
            omega
        · have em : mxI acc (val j) = acc := if_neg c
          rw [em, if_neg (fun z => c z.2)]
          have ih := goF_spec (ok := ok) hv k (j + 1) acc F ha
          refine ⟨fun h => ?_, ih.2⟩
          rw [if_neg]
          · exact ih.1 h
          · intro z
            have z : (true && decide (val j = go ok val k (j + 1) acc)) = true := z
            rw [Bool.true_and, decide_eq_true_iff] at z
            rw [z] at c
            exact c h
section Searches
variable {v : SM} {q : PG} {n : Nat}
theorem m_searches (h : RA v.1 q) (hnd : ND q n) {Z : Int32 → SM → Prop} (hz : ∀ A O B H, RA A q → Z (vO q n) (sS v A O B H (oI (fU (bM q n) 16 0)))) : pX6_searches v Z := by
  unfold pX6_searches
  have hct : ct q.1 < 16 := by
    have := hnd.2.2.2.2.1
    omega
  have hn3 := hnd.2.2.2.2.2
  have hpop : ∀ F, ∀ A' O' B' H' F', RA A' q → Ag 0 (upd v.2.2.2.2.2.1 0 (-1)) (upd v.2.2.2.2.2.2.1 0 (-2)) v.2.2.2.2.2.2.2.1 O' B' H' → B' 0 = vO q n → F' = (if 0 = 0 then goF (mvOk q) (mvV q n) 16 0 (-2) F else F) → PopK Z v 0 A' O' B' H' F' := fun F A' O' B' H' F' hA' _ hB' hF' => by
    refine ⟨1, ?_⟩
    rw [pX6_searches_17]
    refine ifp (by decide) ?_
    have e1 : (sS v A' O' B' H' F').2.2.2.2.2.2.1 0 = vO q n := hB'
    rw [e1]
    have e2 : F' = oI (fU (bM q n) 16 0) := by
      rw [hF', if_pos rfl]
      have hs := (goF_spec (ok := mvOk q) (T3_mvV q n) 16 0 (-2) F (by decide)).1
      have e3 : go (mvOk q) (mvV q n) 16 0 (-2) = vO q n := go_2 (T3_mvV q n) 16 0 (mvOk_ex hct)
      rw [e3] at hs
      refine hs ?_
      have e4 := t3 (T3_go (ok := mvOk q) (T3_mvV q n) 16 0 (-1) (Or.inl rfl))
      have e5 : vO q n = go (mvOk q) (mvV q n) 16 0 (-1) := rfl
      rw [e5, Int32.lt_iff_toInt_lt, show (-2 : Int32).toInt = -2 by decide]
      omega
    rw [e2]
    exact hz A' O' B' H' hA'
  by_cases e : q.2.1 = 0
  · exact (nd_all (Z := Z) (u := v) n).2 q 0 v.1 (upd v.2.2.2.2.2.1 0 (-1)) (upd v.2.2.2.2.2.2.1 0 (-2)) v.2.2.2.2.2.2.2.1 v.2.2.2.2.2.2.2.2.2.2.2.2.2.2.2.2.2 hnd ⟨fun _ => rfl, fun _ => e⟩ (show 0 + 2 * n + 1 ≤ 9 by omega) h pk_us pk_us (hpop _)
  · exact (nd_all (Z := Z) (u := v) n).1 q 0 v.1 (upd v.2.2.2.2.2.1 0 (-1)) (upd v.2.2.2.2.2.2.1 0 (-2)) v.2.2.2.2.2.2.2.1 v.2.2.2.2.2.2.2.2.2.2.2.2.2.2.2.2.2 hnd ⟨fun z => absurd z e, fun z => by cases z⟩ (show 0 + 2 * n + 0 ≤ 9 by omega) h pk_us pk_us (hpop _)
end Searches
