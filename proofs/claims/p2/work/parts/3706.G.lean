/-! The same of the reference: constants, islands. -/
def dst (a b : Nat) : Nat := a - b + (b - a)
theorem far_nI {a b : Nat} (ha : a < 4096) (hb : b < 4096) : farI (nI a) (nI b) = nI (dst a b) := by
  unfold farI dst
  by_cases h : b ≤ a
  · rw [if_pos (nI_le h (by omega)), pk_sub h, show a - b + (b - a) = a - b by omega]
  · rw [if_neg (nI_ge (by omega) (by omega)), pk_sub (by omega), show a - b + (b - a) = b - a by omega]
theorem dst_lt {a b : Nat} (ha : a < 4096) (hb : b < 4096) : dst a b < 4096 := by unfold dst; omega
/-- addresses are small -/
def Bd (f : Nat → Int32) (n : Nat) : Prop := ∀ k, k < n → ∃ A, A < 4096 ∧ f k = nI A
/-- what is left from the best so far -/
theorem islS_inv {nm ad : Nat → Int32} {to r1 frm lb : Int32} {F T : Nat} (hF : F < 4096) (hT : T < 4096) (ef : frm = nI F) (et : to = nI T) : ∀ (k : Nat), Bd ad k → ∃ P, (islS nm ad to r1 frm lb k).2 = nI P ∧ P < 4096 ∧ (((islS nm ad to r1 frm lb k).1 = -1 ∧ P = dst F T) ∨ (∃ j, j < k ∧ (islS nm ad to r1 frm lb k).1 = nI j ∧ nI P = farI (ad j) to ∧ P < dst F T)) := by
  intro k
  induction k with
  | zero => intro _; exact ⟨dst F T, by rw [← far_nI hF hT, ← ef, ← et]; rfl, dst_lt hF hT, Or.inl ⟨rfl, rfl⟩⟩
  | succ k ih =>
    intro hb
    obtain ⟨P, e2, hP, hc⟩ := ih (fun j hj => hb j (by omega))
    obtain ⟨A, hA, eA⟩ := hb k (by omega)
    unfold islS
    by_cases h : (nm k = lb ∧ ¬ r1 < farI (ad k) frm) ∧ (farI (ad k) to < (islS nm ad to r1 frm lb k).2 ∨ (¬ (islS nm ad to r1 frm lb k).1 = -1 ∧ farI (ad k) to = (islS nm ad to r1 frm lb k).2 ∧ ¬ ad (Int32.toNatClampNeg (islS nm ad to r1 frm lb k).1) ≤ ad k))
    · rw [if_pos h]
      have eL : farI (ad k) to = nI (dst A T) := by rw [eA, et]; exact far_nI hA hT
      have hL := dst_lt hA hT
      refine ⟨dst A T, eL, hL, Or.inr ⟨k, by omega, rfl, eL.symm, ?_⟩⟩
      rw [eL, e2] at h
      rcases h.2 with h2 | ⟨h2, h3, _⟩
      · have := (nI_ltI (by omega) (by omega)).mp h2
        rcases hc with ⟨_, e⟩ | ⟨_, _, _, _, e⟩ <;> omega
      · have := (nI_eq (by omega) (by omega)).mp h3
        rcases hc with ⟨e, _⟩ | ⟨_, _, _, _, e⟩
        · exact absurd e h2
        · omega
    · rw [if_neg h]
      refine ⟨P, e2, hP, ?_⟩
      rcases hc with hc | ⟨j, hj, q⟩
      · exact Or.inl hc
      · exact Or.inr ⟨j, by omega, q⟩
def Mi (τ : St) (n : Nat) : Prop := n ≤ 12 ∧ τ 48 0 = nI n ∧ Bd (τ 13) n
theorem islM_loop {τ : St} {n l F T : Nat} (hs : Mi τ n) (hl : l < 8) (hF : F < 4096) (hT : T < 4096) (eT : τ 17 l = nI T) : ∀ (d k N : Nat), k + d = n → d < N → fX6_islandFor_l5 τ N (nI F) (nI l) (islS (τ 8) (τ 13) (τ 17 l) (τ 4 1) (nI F) (nI l) k).1 (nI k) = some (islS (τ 8) (τ 13) (τ 17 l) (τ 4 1) (nI F) (nI l) n).1 := by
  obtain ⟨hn, hs2, hB⟩ := hs
  intro d
  induction d with
  | zero =>
    intro k N h hN
    obtain ⟨N, rfl⟩ : ∃ k, N = k + 1 := ⟨N - 1, by omega⟩
    have hk : k = n := by omega
    subst hk
    show fX6_islandFor_s5 τ (fX6_islandFor_l5 τ N) _ _ _ _ = _
    unfold fX6_islandFor_s5
    rw [hs2, if_pos (Int32.le_refl _)]
  | succ d ih =>
    intro k N h hN
    obtain ⟨N, rfl⟩ : ∃ k, N = k + 1 := ⟨N - 1, by omega⟩
    have hk : k < n := by omega
    obtain ⟨P, e2, hP, hc⟩ := islS_inv (nm := τ 8) (ad := τ 13) (to := τ 17 l) (r1 := τ 4 1) (frm := nI F) (lb := nI l) hF hT rfl eT k (fun j hj => hB j (by omega))
    have e := ih (k + 1) N (by omega) (by omega)
    rw [show islS (τ 8) (τ 13) (τ 17 l) (τ 4 1) (nI F) (nI l) (k + 1) = (if (τ 8 k = nI l ∧ ¬ τ 4 1 < farI (τ 13 k) (nI F)) ∧ (farI (τ 13 k) (τ 17 l) < (islS (τ 8) (τ 13) (τ 17 l) (τ 4 1) (nI F) (nI l) k).2 ∨ (¬ (islS (τ 8) (τ 13) (τ 17 l) (τ 4 1) (nI F) (nI l) k).1 = -1 ∧ farI (τ 13 k) (τ 17 l) = (islS (τ 8) (τ 13) (τ 17 l) (τ 4 1) (nI F) (nI l) k).2 ∧ ¬ τ 13 (Int32.toNatClampNeg (islS (τ 8) (τ 13) (τ 17 l) (τ 4 1) (nI F) (nI l) k).1) ≤ τ 13 k)) then (nI k, farI (τ 13 k) (τ 17 l)) else islS (τ 8) (τ 13) (τ 17 l) (τ 4 1) (nI F) (nI l) k) from rfl] at e
    show fX6_islandFor_s5 τ (fX6_islandFor_l5 τ N) _ _ _ _ = _
    generalize islS (τ 8) (τ 13) (τ 17 l) (τ 4 1) (nI F) (nI l) k = p at e2 hc e ⊢
    obtain ⟨A, hA, eA⟩ := hB k hk
    have eL : farI (τ 13 k) (τ 17 l) = nI (dst A T) := by rw [eA, eT]; exact far_nI hA hT
    have eD : farI (nI F) (τ 17 l) = nI (dst F T) := by rw [eT]; exact far_nI hF hT
    have hL := dst_lt hA hT
    have hD := dst_lt hF hT
    have c12 : ¬ (nI k < 0 ∨ 12 ≤ Int32.toNatClampNeg (nI k)) := ckN (by omega) (by omega)
    have c8 : ¬ (nI l < 0 ∨ 8 ≤ Int32.toNatClampNeg (nI l)) := ckN hl (by omega)
    unfold fX6_islandFor_s5
    rw [hs2, if_neg (nI_ge hk (by omega)), ck_t c12, ck_t c8, nI_clamp (n := k) (by omega), nI_clamp (n := l) (by omega), apart_eq, bd1_s, ck_t (show ¬ (nI k < 0 ∨ 12 ≤ k) from fun z => z.elim (nI_pos (by omega)) (by omega)), nI_1]
    by_cases h1 : τ 8 k = nI l
    · rw [if_pos h1, ck_t (show ¬ (nI k < 0 ∨ 12 ≤ k) from fun z => z.elim (nI_pos (by omega)) (by omega)), apart_eq, bd1_s, show Int32.toNatClampNeg (1 : Int32) = 1 from by decide]
      by_cases h2 : τ 4 1 < farI (τ 13 k) (nI F)
      · rw [if_pos h2]
        rw [if_neg (fun z => z.1.2 h2)] at e
        exact e
      · rw [if_neg h2, ck_t (show ¬ (nI l < 0 ∨ 8 ≤ l) from fun z => z.elim (nI_pos (by omega)) (by omega)), apart_eq, bd1_s, eL, eD]
        rw [eL, e2] at e
        by_cases h3 : dst F T ≤ dst A T
        · rw [if_pos (nI_le h3 (by omega))]
          rw [if_neg (fun z => by
            rcases z.2 with q | ⟨q1, q2, _⟩
            · have := (nI_ltI (by omega) (by omega)).mp q
              rcases hc with ⟨_, c⟩ | ⟨_, _, _, _, c⟩ <;> omega
            · have := (nI_eq (by omega) (by omega)).mp q2
              rcases hc with ⟨c, _⟩ | ⟨_, _, _, _, c⟩
              · exact absurd c q1
              · omega)] at e
          exact e
        · rw [if_neg (nI_ge (by omega) (by omega))]
          rcases hc with ⟨c1, c2⟩ | ⟨j, hj, c1, c2, c3⟩
          · rw [if_pos c1]
            unfold fX6_islandFor_b103 fX6_islandFor_b135
            rw [if_pos (show nI (dst A T) < (1048576 : Int32) from nI_lt (a := dst A T) (b := 1048576) (by omega) (by omega)), nI_1]
            rw [if_pos ⟨⟨h1, h2⟩, Or.inl (nI_lt (by omega) (by omega))⟩] at e
            exact e
          · have hj12 : j < 12 := by omega
            rw [if_neg (by rw [c1]; exact nI_m1 (by omega)), c1, ck_t (ckN hj12 (by omega)), ck_t (show ¬ (nI l < 0 ∨ 8 ≤ l) from fun z => z.elim (nI_pos (by omega)) (by omega)), nI_clamp (n := j) (by omega), apart_eq, bd1_s, ← c2]
            rw [c1, nI_clamp (n := j) (by omega)] at e
            unfold fX6_islandFor_b103 fX6_islandFor_b135
            rw [nI_1]
            by_cases h4 : nI (dst A T) < nI P
            · rw [if_pos h4]
              rw [if_pos ⟨⟨h1, h2⟩, Or.inl h4⟩] at e
              exact e
            · rw [if_neg h4]
              by_cases h5 : nI (dst A T) = nI P
              · rw [if_pos h5, ck_t c12, ck_t (ckN hj12 (by omega)), nI_clamp (n := k) (by omega), nI_clamp (n := j) (by omega)]
                by_cases h6 : τ 13 j ≤ τ 13 k
                · rw [if_pos h6]
                  rw [if_neg (fun z => z.2.elim h4 (fun q => q.2.2 h6)), c1] at e
                  exact e
                · rw [if_neg h6]
                  rw [if_pos ⟨⟨h1, h2⟩, Or.inr ⟨nI_m1 (by omega), h5, h6⟩⟩] at e
                  exact e
              · rw [if_neg h5]
                rw [if_neg (fun z => z.2.elim h4 (fun q => h5 q.2.1)), c1] at e
                exact e
    · rw [if_neg h1]
      rw [if_neg (fun z => h1 z.1.1)] at e
      exact e
theorem islM_eq {τ : St} {n l F T : Nat} (hs : Mi τ n) (hl : l < 8) (hF : F < 4096) (hT : T < 4096) (eT : τ 17 l = nI T) : fX6_islandFor τ (nI F) (nI l) = some (islS (τ 8) (τ 13) (τ 17 l) (τ 4 1) (nI F) (nI l) n).1 := by
  have hn := hs.1
  exact islM_loop hs hl hF hT eT n 0 FU (by omega) (by unfold FU; omega)
theorem reachM_in {τ : St} {l : Nat} {x : Int32} (h : l < 8) : fX6_reachesLabel τ x (nI l) = some (if τ 4 1 < farI x (τ 17 l) then 0 else 1) := by
  unfold fX6_reachesLabel
  rw [ck_t (ckN h (by omega)), nI_clamp (by omega), apart_eq, bd1_s, show Int32.toNatClampNeg (1 : Int32) = 1 from by decide]
  by_cases e : τ 4 1 < farI x (τ 17 l)
  · rw [if_pos e, if_pos e]
  · rw [if_neg e, if_neg e]
theorem goesM_in {τ : St} {n l F T : Nat} (hs : Mi τ n) (hl : l < 8) (hF : F < 4096) (hT : T < 4096) (eT : τ 17 l = nI T) : fX6_goesFrom τ (nI F) (nI l) = some (aimL (τ 8) (τ 13) (τ 17 l) (τ 4 1) (nI F) (nI l) n) := by
  have hn := hs.1
  unfold fX6_goesFrom aimL
  rw [reachM_in hl, bd1_s]
  by_cases h : τ 4 1 < farI (nI F) (τ 17 l)
  · rw [if_pos h, if_pos rfl, if_pos h, islM_eq hs hl hF hT eT, bd1_s]
    rcases islS_best (nm := τ 8) (ad := τ 13) (to := τ 17 l) (r1 := τ 4 1) (frm := nI F) (lb := nI l) n with e | ⟨j, hj, e⟩
    · rw [e, if_pos rfl, if_pos rfl]
    · rw [e, if_neg (nI_m1 (by omega)), if_neg (nI_m1 (by omega)), ck_t (ckN (by omega) (by omega)), nI_clamp (by omega)]
  · rw [if_neg h, if_neg d_1_0, if_neg h, ck_t (ckN hl (by omega)), nI_clamp (by omega)]
/-- what is read alone of islands below n decides -/
theorem islS_congr {nm ad nm' ad' : Nat → Int32} {to r1 frm lb : Int32} : ∀ {k : Nat}, k < 2 ^ 31 → (∀ i, i < k → nm i = nm' i ∧ ad i = ad' i) → islS nm ad to r1 frm lb k = islS nm' ad' to r1 frm lb k
  | 0, _, _ => rfl
  | k + 1, hk, h => by
    have ih := islS_congr (to := to) (r1 := r1) (frm := frm) (lb := lb) (show k < 2 ^ 31 by omega) (fun i (hi : i < k) => h i (by omega))
    have hb := islS_best (nm := nm) (ad := ad) (to := to) (r1 := r1) (frm := frm) (lb := lb) k
    unfold islS
    rw [← ih, (h k (by omega)).1, (h k (by omega)).2]
    rcases hb with e | ⟨j, hj, e⟩
    · rw [e]; simp
    · rw [e, nI_clamp (by omega), (h j (by omega)).2]
theorem aimL_congr {nm ad nm' ad' : Nat → Int32} {to r1 frm lb : Int32} {n : Nat} (hn : n < 2 ^ 31) (h : ∀ i, i < n → nm i = nm' i ∧ ad i = ad' i) : aimL nm ad to r1 frm lb n = aimL nm' ad' to r1 frm lb n := by
  unfold aimL
  rw [← islS_congr hn h]
  rcases islS_best (nm := nm) (ad := ad) (to := to) (r1 := r1) (frm := frm) (lb := lb) n with e | ⟨j, hj, e⟩
  · rw [e]; simp
  · rw [e, nI_clamp (by omega), (h j hj).2]
