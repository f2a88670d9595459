/-! The constant to which a load goes. -/
def conS (nm ad : Nat → Int32) (r2 frm v : Int32) : Nat → Int32
  | 0 => -1
  | k + 1 => if (nm k = v ∧ ¬ ad k ≤ frm ∧ ¬ r2 < ad k - frm) ∧ (conS nm ad r2 frm v k = -1 ∨ ¬ ad (Int32.toNatClampNeg (conS nm ad r2 frm v k)) ≤ ad k) then nI k else conS nm ad r2 frm v k
theorem conS_best {nm ad : Nat → Int32} {r2 frm v : Int32} : ∀ k, conS nm ad r2 frm v k = -1 ∨ ∃ j, j < k ∧ conS nm ad r2 frm v k = nI j
  | 0 => Or.inl rfl
  | k + 1 => by
    unfold conS
    by_cases h : (nm k = v ∧ ¬ ad k ≤ frm ∧ ¬ r2 < ad k - frm) ∧ (conS nm ad r2 frm v k = -1 ∨ ¬ ad (Int32.toNatClampNeg (conS nm ad r2 frm v k)) ≤ ad k)
    · rw [if_pos h]; exact Or.inr ⟨k, by omega, rfl⟩
    · rw [if_neg h]
      rcases conS_best (nm := nm) (ad := ad) (r2 := r2) (frm := frm) (v := v) k with e | ⟨j, hj, e⟩
      · exact Or.inl e
      · exact Or.inr ⟨j, by omega, e⟩
theorem conS_congr {nm ad nm' ad' : Nat → Int32} {r2 frm v : Int32} : ∀ {k : Nat}, k < 2 ^ 31 → (∀ i, i < k → nm i = nm' i ∧ ad i = ad' i) → conS nm ad r2 frm v k = conS nm' ad' r2 frm v k
  | 0, _, _ => rfl
  | k + 1, hk, h => by
    have ih := conS_congr (r2 := r2) (frm := frm) (v := v) (show k < 2 ^ 31 by omega) (fun i (hi : i < k) => h i (by omega))
    have hb := conS_best (nm := nm) (ad := ad) (r2 := r2) (frm := frm) (v := v) k
    unfold conS
    rw [← ih, (h k (by omega)).1, (h k (by omega)).2]
    rcases hb with e | ⟨j, hj, e⟩
    · rw [e]; simp
    · rw [e, nI_clamp (by omega), (h j (by omega)).2]
theorem loadR {σ : St} {x y : Int32} : fX2_isInLoadReach σ x y = some (if ¬ y ≤ x ∧ ¬ σ 10 2 < y - x then 1 else 0) := by
  unfold fX2_isInLoadReach
  rw [show Int32.toNatClampNeg (2 : Int32) = 2 from by decide]
  by_cases h : y ≤ x
  · rw [if_pos h, if_neg (fun z => z.1 h)]
  · rw [if_neg h]
    by_cases h2 : σ 10 2 < y - x
    · rw [if_pos h2, if_neg (fun z => z.2 h2)]
    · rw [if_neg h2, if_pos ⟨h, h2⟩]
theorem conC_loop {σ : St} {n : Nat} (hs : Sk_c σ n) {frm v : Int32} : ∀ (d k N : Nat), k + d = n → d < N → fX2_constantFor_l5 σ N frm v (conS (σ 19) (ad_c σ) (σ 10 2) frm v k) (nI k) = some (conS (σ 19) (ad_c σ) (σ 10 2) frm v n) := by
  have hn := hs.1
  intro d
  induction d with
  | zero =>
    intro k N h hN
    obtain ⟨N, rfl⟩ : ∃ k, N = k + 1 := ⟨N - 1, by omega⟩
    have hk : k = n := by omega
    subst hk
    show fX2_constantFor_s5 σ (fX2_constantFor_l5 σ N) _ _ _ _ = _
    unfold fX2_constantFor_s5
    rw [ssize_c hs, bd1_s, if_pos (Int32.le_refl _)]
  | succ d ih =>
    intro k N h hN
    obtain ⟨N, rfl⟩ : ∃ k, N = k + 1 := ⟨N - 1, by omega⟩
    have hk : k < n := by omega
    have hb := conS_best (nm := σ 19) (ad := ad_c σ) (r2 := σ 10 2) (frm := frm) (v := v) k
    have e := ih (k + 1) N (by omega) (by omega)
    rw [show conS (σ 19) (ad_c σ) (σ 10 2) frm v (k + 1) = (if (σ 19 k = v ∧ ¬ ad_c σ k ≤ frm ∧ ¬ σ 10 2 < ad_c σ k - frm) ∧ (conS (σ 19) (ad_c σ) (σ 10 2) frm v k = -1 ∨ ¬ ad_c σ (Int32.toNatClampNeg (conS (σ 19) (ad_c σ) (σ 10 2) frm v k)) ≤ ad_c σ k) then nI k else conS (σ 19) (ad_c σ) (σ 10 2) frm v k) from rfl] at e
    show fX2_constantFor_s5 σ (fX2_constantFor_l5 σ N) _ _ _ _ = _
    generalize conS (σ 19) (ad_c σ) (σ 10 2) frm v k = p at hb e ⊢
    unfold fX2_constantFor_s5
    rw [ssize_c hs, bd1_s, if_neg (nI_ge hk (by omega)), saddr_c hs hk, bd1_s, sname_c hs hk, bd1_s, nI_1]
    by_cases h1 : σ 19 k = v
    · rw [if_pos h1, loadR, bd1_s]
      by_cases h2 : ¬ ad_c σ k ≤ frm ∧ ¬ σ 10 2 < ad_c σ k - frm
      · rw [if_pos h2, if_neg d_1_0]
        rcases hb with ep | ⟨j, hj, ep⟩
        · rw [if_pos ep]
          rw [if_pos ⟨⟨h1, h2⟩, Or.inl ep⟩] at e
          exact e
        · rw [if_neg (by rw [ep]; exact nI_m1 (by omega)), ep, saddr_c hs (by omega), bd1_s]
          rw [ep, nI_clamp (n := j) (by omega)] at e
          by_cases h3 : ad_c σ j ≤ ad_c σ k
          · rw [if_pos h3]
            rw [if_neg (fun z => z.2.elim (fun q => nI_m1 (by omega) q) (fun q => q h3))] at e
            exact e
          · rw [if_neg h3]
            rw [if_pos ⟨⟨h1, h2⟩, Or.inr h3⟩] at e
            exact e
      · rw [if_neg h2, if_pos rfl]
        rw [if_neg (fun z => h2 z.1.2)] at e
        exact e
    · rw [if_neg h1]
      rw [if_neg (fun z => h1 z.1.1)] at e
      exact e
theorem conC_eq {σ : St} {n : Nat} (hs : Sk_c σ n) (frm v : Int32) : fX2_constantFor σ frm v = some (conS (σ 19) (ad_c σ) (σ 10 2) frm v n) := by
  have hn := hs.1
  exact conC_loop hs n 0 FU (by omega) (by unfold FU; omega)
def Mc (τ : St) (n : Nat) : Prop := n ≤ 16 ∧ τ 49 0 = nI n ∧ Bd (τ 14) n
theorem sub_le0 {a b : Nat} (ha : a < 4096) (hb : b < 4096) : nI a - nI b ≤ 0 ↔ nI a ≤ nI b := by
  rw [Int32.le_iff_toInt_le, pk_sub_toInt (by omega) (by omega), nI_leI (by omega) (by omega)]
  have : (0 : Int32).toInt = 0 := rfl
  omega
theorem sub_le {a b c : Nat} (ha : a < 4096) (hb : b < 4096) (hc : c < 4096) : nI a - nI b ≤ nI c - nI b ↔ nI a ≤ nI c := by
  rw [Int32.le_iff_toInt_le, pk_sub_toInt (by omega) (by omega), pk_sub_toInt (by omega) (by omega), nI_leI (by omega) (by omega)]
  omega
theorem conM_loop {τ : St} {n i F : Nat} (hs : Mc τ n) (hi : i < 24) (hF : F < 4096) (eF : τ 12 i = nI F) : ∀ (d k N : Nat), k + d = n → d < N → fX6_constantFor_l4 τ N (nI i) (conS (τ 10) (τ 14) (τ 4 2) (nI F) (τ 3 i) k) (nI k) = some (conS (τ 10) (τ 14) (τ 4 2) (nI F) (τ 3 i) n) := by
  obtain ⟨hn, hs2, hB⟩ := hs
  intro d
  induction d with
  | zero =>
    intro k N h hN
    obtain ⟨N, rfl⟩ : ∃ k, N = k + 1 := ⟨N - 1, by omega⟩
    have hk : k = n := by omega
    subst hk
    show fX6_constantFor_s4 τ (fX6_constantFor_l4 τ N) _ _ _ = _
    unfold fX6_constantFor_s4
    rw [hs2, if_pos (Int32.le_refl _)]
  | succ d ih =>
    intro k N h hN
    obtain ⟨N, rfl⟩ : ∃ k, N = k + 1 := ⟨N - 1, by omega⟩
    have hk : k < n := by omega
    have hb := conS_best (nm := τ 10) (ad := τ 14) (r2 := τ 4 2) (frm := nI F) (v := τ 3 i) k
    have e := ih (k + 1) N (by omega) (by omega)
    rw [show conS (τ 10) (τ 14) (τ 4 2) (nI F) (τ 3 i) (k + 1) = (if (τ 10 k = τ 3 i ∧ ¬ τ 14 k ≤ nI F ∧ ¬ τ 4 2 < τ 14 k - nI F) ∧ (conS (τ 10) (τ 14) (τ 4 2) (nI F) (τ 3 i) k = -1 ∨ ¬ τ 14 (Int32.toNatClampNeg (conS (τ 10) (τ 14) (τ 4 2) (nI F) (τ 3 i) k)) ≤ τ 14 k) then nI k else conS (τ 10) (τ 14) (τ 4 2) (nI F) (τ 3 i) k) from rfl] at e
    show fX6_constantFor_s4 τ (fX6_constantFor_l4 τ N) _ _ _ = _
    generalize conS (τ 10) (τ 14) (τ 4 2) (nI F) (τ 3 i) k = p at hb e ⊢
    obtain ⟨A, hA, eA⟩ := hB k hk
    have c16 : ¬ (nI k < 0 ∨ 16 ≤ Int32.toNatClampNeg (nI k)) := ckN (by omega) (by omega)
    have c24 : ¬ (nI i < 0 ∨ 24 ≤ Int32.toNatClampNeg (nI i)) := ckN hi (by omega)
    unfold fX6_constantFor_s4
    rw [hs2, if_neg (nI_ge hk (by omega)), ck_t c16, ck_t c24, ck_t c16, ck_t c24, nI_clamp (n := k) (by omega), nI_clamp (n := i) (by omega), eF, show Int32.toNatClampNeg (2 : Int32) = 2 from by decide, nI_1]
    by_cases h1 : τ 10 k = τ 3 i
    · rw [if_pos h1]
      by_cases h2 : τ 14 k ≤ nI F
      · rw [if_pos (by rw [eA] at h2 ⊢; exact (sub_le0 hA hF).mpr h2)]
        rw [if_neg (fun z => z.1.2.1 h2)] at e
        exact e
      · rw [if_neg (by rw [eA] at h2 ⊢; exact fun z => h2 ((sub_le0 hA hF).mp z))]
        by_cases h3 : τ 4 2 < τ 14 k - nI F
        · rw [if_pos h3]
          rw [if_neg (fun z => z.1.2.2 h3)] at e
          exact e
        · rw [if_neg h3]
          unfold fX6_constantFor_b81
          rw [nI_1]
          rcases hb with ep | ⟨j, hj, ep⟩
          · rw [if_pos ep]
            rw [if_pos ⟨⟨h1, h2, h3⟩, Or.inl ep⟩] at e
            exact e
          · obtain ⟨B, hB2, eB⟩ := hB j (by omega)
            have hj16 : j < 16 := by omega
            rw [if_neg (by rw [ep]; exact nI_m1 (by omega)), ep, ck_t (ckN hj16 (by omega)), ck_t (show ¬ (nI i < 0 ∨ 24 ≤ i) from fun z => z.elim (nI_pos (by omega)) (by omega)), nI_clamp (n := j) (by omega)]
            rw [ep, nI_clamp (n := j) (by omega)] at e
            by_cases h4 : τ 14 j ≤ τ 14 k
            · rw [if_pos (by rw [eA, eB] at h4 ⊢; exact (sub_le hB2 hF hA).mpr h4)]
              rw [if_neg (fun z => z.2.elim (fun q => nI_m1 (by omega) q) (fun q => q h4))] at e
              exact e
            · rw [if_neg (by rw [eA, eB] at h4 ⊢; exact fun z => h4 ((sub_le hB2 hF hA).mp z))]
              rw [if_pos ⟨⟨h1, h2, h3⟩, Or.inr h4⟩] at e
              exact e
    · rw [if_neg h1]
      rw [if_neg (fun z => h1 z.1.1)] at e
      exact e
theorem conM_eq {τ : St} {n i F : Nat} (hs : Mc τ n) (hi : i < 24) (hF : F < 4096) (eF : τ 12 i = nI F) : fX6_constantFor τ (nI i) = some (conS (τ 10) (τ 14) (τ 4 2) (nI F) (τ 3 i) n) := by
  have hn := hs.1
  exact conM_loop hs hi hF eF n 0 FU (by omega) (by unfold FU; omega)
