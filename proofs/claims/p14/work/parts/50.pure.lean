/-! The law: every call keeps what both have in common, and what is compared is alike. -/
theorem law_done {L y : Nat} (hL : L ≤ 1536) (hy : y ≤ 2000) : (Int32.ofNat L - (3 : Int32) < nI y) ↔ L < y + 3 := by
  rw [Int32.lt_iff_toInt_lt, show Int32.ofNat L - (3 : Int32) = nI L - nI 3 from rfl, pk_sub_toInt (by omega) (by omega), nI_toInt (by omega)]
  omega
set_option maxHeartbeats 4000000 in
theorem law_all {L : Nat} {xs : Nat → Int32} (hL : L ≤ 1536) : ∀ (d y N : Nat) (σ τ : St) (hh : Int64), y ≤ 1539 → L < y + 3 * d + 3 → d < N → Inv σ τ → fL_l18 L xs N σ τ hh (nI y) = some 1 := by
  intro d
  induction d with
  | zero =>
    intro y N σ τ hh hy hd hN hI
    obtain ⟨N, rfl⟩ : ∃ k, N = k + 1 := ⟨N - 1, by omega⟩
    show fL_s18 L xs (fL_l18 L xs N) σ τ hh (nI y) = some 1
    unfold fL_s18
    rw [if_pos ((law_done hL (by omega)).mpr (by omega))]
  | succ d ih =>
    intro y N σ τ hh hy hd hN hI
    obtain ⟨N, rfl⟩ : ∃ k, N = k + 1 := ⟨N - 1, by omega⟩
    show fL_s18 L xs (fL_l18 L xs N) σ τ hh (nI y) = some 1
    by_cases hz : L < y + 3
    · unfold fL_s18
      rw [if_pos ((law_done hL (by omega)).mpr hz)]
    · have go : ∀ (s t : St) (h2 : Int64), Inv s t → fL_l18 L xs N s t h2 (nI (y + 3)) = some 1 := fun s t h2 hJ => ih (y + 3) N s t h2 (by omega) (by omega) (by omega) hJ
      generalize fL_l18 L xs N = K at go ⊢
      have c1 : ¬ (nI (y + 1) < 0 ∨ L ≤ y + 1) := fun z => z.elim (nI_pos (by omega)) (by omega)
      have c2 : ¬ (nI (y + 2) < 0 ∨ L ≤ y + 2) := fun z => z.elim (nI_pos (by omega)) (by omega)
      unfold fL_s18
      rw [if_neg (fun z => hz ((law_done hL (by omega)).mp z)), ck_t (ckN (by omega) (by omega)), show nI y + (1 : Int32) = nI (y + 1) from nI_add y 1, show nI y + (2 : Int32) = nI (y + 2) from nI_add y 2, show nI y + (3 : Int32) = nI (y + 3) from nI_add y 3, nI_clamp (n := y) (by omega), nI_clamp (n := y + 1) (by omega), nI_clamp (n := y + 2) (by omega)]
      generalize xs (y + 1) = v
      generalize xs (y + 2) = w
      by_cases h0 : xs y &&& 15 = 0
      · obtain ⟨r, s, t, e1, e2, hJ⟩ := inv_letter hI v
        rw [if_pos h0, ck_t c1, e1, bd2_s, ck_t c1, e2, bd2_s]
        first | exact go _ _ _ hJ | (rw [if_pos rfl]; exact go _ _ _ hJ)
      rw [if_neg h0]
      by_cases h1 : xs y &&& 15 = 1
      · obtain ⟨r, s, t, e1, e2, hJ⟩ := inv_blank hI
        rw [if_pos h1, e1, bd2_s, e2, bd2_s]
        first | exact go _ _ _ hJ | (rw [if_pos rfl]; exact go _ _ _ hJ)
      rw [if_neg h1]
      by_cases h2 : xs y &&& 15 = 2
      · obtain ⟨r, q, s, t, e1, e2, hJ⟩ := inv_fault hI
        rw [if_pos h2, e1, bd2_s, e2, bd2_s]
        first | exact go _ _ _ hJ
      rw [if_neg h2]
      by_cases h3 : xs y &&& 15 = 3
      · obtain ⟨r, s, t, e1, e2, hJ⟩ := inv_code hI
        rw [if_pos h3, e1, bd2_s, e2, bd2_s]
        first | exact go _ _ _ hJ | (rw [if_pos rfl]; exact go _ _ _ hJ)
      rw [if_neg h3]
      by_cases h4 : xs y &&& 15 = 4
      · obtain ⟨r, s, t, e1, e2, hJ⟩ := inv_reach hI v w
        rw [if_pos h4, ck_t c1, ck_t c2, e1, bd2_s, ck_t c1, ck_t c2, e2, bd2_s]
        first | exact go _ _ _ hJ | (rw [if_pos rfl]; exact go _ _ _ hJ)
      rw [if_neg h4]
      by_cases h5 : xs y &&& 15 = 5
      · obtain ⟨r, s, t, e1, e2, hJ⟩ := inv_grow hI v w
        rw [if_pos h5, ck_t c1, ck_t c2, e1, bd2_s, ck_t c1, ck_t c2, e2, bd2_s]
        first | exact go _ _ _ hJ | (rw [if_pos rfl]; exact go _ _ _ hJ)
      rw [if_neg h5]
      by_cases h6 : xs y &&& 15 = 6
      · obtain ⟨r, e1, e2⟩ := eq_item hI v w
        rw [if_pos h6, ck_t c1, ck_t c2, e1, bd1_s, ck_t c1, ck_t c2, e2, bd1_s]
        first | exact go _ _ _ hI | (rw [if_pos rfl]; exact go _ _ _ hI)
      rw [if_neg h6]
      by_cases h7 : xs y &&& 15 = 7
      · obtain ⟨r, e1, e2⟩ := eq_island hI v w
        rw [if_pos h7, ck_t c1, ck_t c2, e1, bd1_s, ck_t c1, ck_t c2, e2, bd1_s]
        first | exact go _ _ _ hI | (rw [if_pos rfl]; exact go _ _ _ hI)
      rw [if_neg h7]
      by_cases h8 : xs y &&& 15 = 8
      · obtain ⟨r, e1, e2⟩ := eq_constant hI v w
        rw [if_pos h8, ck_t c1, ck_t c2, e1, bd1_s, ck_t c1, ck_t c2, e2, bd1_s]
        first | exact go _ _ _ hI | (rw [if_pos rfl]; exact go _ _ _ hI)
      rw [if_neg h8]
      by_cases h9 : xs y &&& 15 = 9
      · obtain ⟨r, e1, e2⟩ := eq_hops hI v
        rw [if_pos h9, ck_t c1, e1, bd1_s, ck_t c1, e2, bd1_s]
        first | exact go _ _ _ hI | (rw [if_pos rfl]; exact go _ _ _ hI)
      rw [if_neg h9]
      by_cases h10 : xs y &&& 15 = 10
      · obtain ⟨r, e1, e2⟩ := eq_placed hI v
        rw [if_pos h10, ck_t c1, e1, bd1_s, ck_t c1, e2, bd1_s]
        first | exact go _ _ _ hI | (rw [if_pos rfl]; exact go _ _ _ hI)
      rw [if_neg h10]
      by_cases h11 : xs y &&& 15 = 11
      · obtain ⟨r, e1, e2⟩ := eq_count hI v
        rw [if_pos h11, ck_t c1, e1, bd1_s, ck_t c1, e2, bd1_s]
        first | exact go _ _ _ hI | (rw [if_pos rfl]; exact go _ _ _ hI)
      rw [if_neg h11]
      by_cases h12 : xs y &&& 15 = 12
      · obtain ⟨r, e1, e2⟩ := eq_digest hI hh
        rw [if_pos h12, e1, bd1_s, e2, bd2_s]
        first | exact go _ _ _ hI | (rw [if_pos (by simp [lg_cmp])]; exact go _ _ _ hI)
      rw [if_neg h12]
      exact go _ _ _ hI
theorem pure_law {L : Nat} {xs : Nat → Int32} (hL : L ≤ 1536) : fL_l18 L xs FU sg0 ta0 0 0 = some 1 := law_all hL 600 0 FU sg0 ta0 0 (by omega) (by omega) (by unfold FU; omega) inv0
