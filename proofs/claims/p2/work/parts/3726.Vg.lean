/-! placed and count. -/
theorem lm_loop {τ : St} {m : Nat} (h24 : m ≤ 24) (h41 : τ 41 0 = nI m) (h7 : ∀ i, i < m → τ 7 i = 0 ∨ τ 7 i = 1) : ∀ (d i N : Nat), i + d = m → d < N → fX6_longMany_l4 τ N (nI (cntE (τ 7) 1 i)) (nI i) = some (nI (cntE (τ 7) 1 m)) := by
  intro d
  induction d with
  | zero =>
    intro i N h hN
    obtain ⟨N, rfl⟩ : ∃ k, N = k + 1 := ⟨N - 1, by omega⟩
    have hi : i = m := by omega
    subst hi
    show fX6_longMany_s4 τ (fX6_longMany_l4 τ N) (nI (cntE (τ 7) 1 i)) (nI i) = _
    unfold fX6_longMany_s4
    rw [h41, if_pos (Int32.le_refl _)]
  | succ d ih =>
    intro i N h hN
    obtain ⟨N, rfl⟩ : ∃ k, N = k + 1 := ⟨N - 1, by omega⟩
    have hi : i < m := by omega
    have e := ih (i + 1) N (by omega) (by omega)
    show fX6_longMany_s4 τ (fX6_longMany_l4 τ N) (nI (cntE (τ 7) 1 i)) (nI i) = _
    unfold fX6_longMany_s4
    rw [h41, if_neg (nI_ge hi (by omega)), ck_t (ckN (i := i) (N := 24) (by omega) (by omega)), nI_clamp (by omega)]
    rw [show cntE (τ 7) 1 (i + 1) = cntE (τ 7) 1 i + (if τ 7 i = 1 then 1 else 0) from rfl] at e
    rcases h7 i hi with q | q
    · rw [q, if_neg d_0_1, Nat.add_zero] at e
      rw [if_pos q, Int32.add_zero, nI_1 i]; exact e
    · rw [q, if_pos rfl] at e
      rw [if_neg (by rw [q]; exact d_1_0), nI_1 (cntE (τ 7) 1 i), nI_1 i]; exact e
theorem gp_loop {τ : St} {m : Nat} (h24 : m ≤ 24) (h41 : τ 41 0 = nI m) : ∀ (d i N : Nat), i + d = m → d < N → fX6_gaps_l4 τ N (nI (cnt5 (τ 2) i)) (nI i) = some (nI (cnt5 (τ 2) m)) := by
  intro d
  induction d with
  | zero =>
    intro i N h hN
    obtain ⟨N, rfl⟩ : ∃ k, N = k + 1 := ⟨N - 1, by omega⟩
    have hi : i = m := by omega
    subst hi
    show fX6_gaps_s4 τ (fX6_gaps_l4 τ N) (nI (cnt5 (τ 2) i)) (nI i) = _
    unfold fX6_gaps_s4
    rw [h41, if_pos (Int32.le_refl _)]
  | succ d ih =>
    intro i N h hN
    obtain ⟨N, rfl⟩ : ∃ k, N = k + 1 := ⟨N - 1, by omega⟩
    have hi : i < m := by omega
    have e := ih (i + 1) N (by omega) (by omega)
    show fX6_gaps_s4 τ (fX6_gaps_l4 τ N) (nI (cnt5 (τ 2) i)) (nI i) = _
    unfold fX6_gaps_s4
    rw [h41, if_neg (nI_ge hi (by omega)), ck_t (ckN (i := i) (N := 24) (by omega) (by omega)), nI_clamp (by omega)]
    rw [show cnt5 (τ 2) (i + 1) = cnt5 (τ 2) i + (if τ 2 i = 5 then 1 else 0) from rfl] at e
    by_cases q : τ 2 i = 5
    · rw [if_pos q] at e
      rw [if_pos q, nI_1 (cnt5 (τ 2) i), nI_1 i]; exact e
    · rw [if_neg q, Nat.add_zero] at e
      rw [if_neg q, Int32.add_zero, nI_1 i]; exact e
theorem qi_placed {σ τ : St} {m ni nc j : Nat} (hp : Pla σ τ m ni nc) (hj : j < 9) : ∃ r, fX5_placed σ (nI j) = some r ∧ fX6_placedNow τ (nI j) = some r := by
  obtain ⟨hl, hinj, ha, hia, h50, h51, h54, h55, h53, h0⟩ := hp
  obtain ⟨⟨wp, wq, bit, hre, hsi, hsc, h48, h49, hki, hkc, hg, hlb, hlB⟩, l25, b25, li, bi, lc, bc, le, l53, l52, lz⟩ := id hl
  have h24 := wq.1
  have h41 := wq.2.1
  have hlm : fX6_longMany τ = some (nI (cntE (τ 7) 1 m)) := by
    unfold fX6_longMany
    exact lm_loop h24 h41 (fun i hi => (bit i hi).2.2.2) m 0 FU (by omega) (by unfold FU; omega)
  unfold fX5_placed fX6_placedNow
  have hj' : j = 0 ∨ j = 1 ∨ j = 2 ∨ j = 3 ∨ j = 4 ∨ j = 5 ∨ j = 6 ∨ j = 7 ∨ j = 8 := by omega
  rcases hj' with rfl | rfl | rfl | rfl | rfl | rfl | rfl | rfl | rfl
  · by_cases q : σ 54 0 = 0
    · exact ⟨1, by rw [if_pos (show nI 0 = (0 : Int32) from by decide), if_pos q], by rw [if_pos (show nI 0 = (0 : Int32) from by decide), h53, if_pos q, if_neg d_1_0]⟩
    · exact ⟨0, by rw [if_pos (show nI 0 = (0 : Int32) from by decide), if_neg q], by rw [if_pos (show nI 0 = (0 : Int32) from by decide), h53, if_neg q, if_pos rfl]⟩
  · exact ⟨σ 51 0, by rw [if_neg (show ¬ nI 1 = (0 : Int32) from by decide), if_pos (show nI 1 = (1 : Int32) from by decide)], by rw [if_neg (show ¬ nI 1 = (0 : Int32) from by decide), if_pos (show nI 1 = (1 : Int32) from by decide), h51]⟩
  · by_cases q : m = 0
    · subst q
      exact ⟨0, by rw [if_neg (show ¬ nI 2 = (0 : Int32) from by decide), if_neg (show ¬ nI 2 = (1 : Int32) from by decide), if_pos (show nI 2 = (2 : Int32) from by decide), (h0 rfl).1], by rw [if_neg (show ¬ nI 2 = (0 : Int32) from by decide), if_neg (show ¬ nI 2 = (1 : Int32) from by decide), if_pos (show nI 2 = (2 : Int32) from by decide), h41, if_pos (show nI 0 ≤ (0 : Int32) from by decide)]⟩
    · exact ⟨σ 52 0, by rw [if_neg (show ¬ nI 2 = (0 : Int32) from by decide), if_neg (show ¬ nI 2 = (1 : Int32) from by decide), if_pos (show nI 2 = (2 : Int32) from by decide)], by rw [if_neg (show ¬ nI 2 = (0 : Int32) from by decide), if_neg (show ¬ nI 2 = (1 : Int32) from by decide), if_pos (show nI 2 = (2 : Int32) from by decide), h41, if_neg (nI_nle (by omega) (by omega)), l52]⟩
  · by_cases q : m = 0
    · subst q
      exact ⟨0, by rw [if_neg (show ¬ nI 3 = (0 : Int32) from by decide), if_neg (show ¬ nI 3 = (1 : Int32) from by decide), if_neg (show ¬ nI 3 = (2 : Int32) from by decide), if_pos (show nI 3 = (3 : Int32) from by decide), (h0 rfl).2], by rw [if_neg (show ¬ nI 3 = (0 : Int32) from by decide), if_neg (show ¬ nI 3 = (1 : Int32) from by decide), if_neg (show ¬ nI 3 = (2 : Int32) from by decide), if_pos (show nI 3 = (3 : Int32) from by decide), h41, if_pos (show nI 0 ≤ (0 : Int32) from by decide)]⟩
    · exact ⟨σ 53 0, by rw [if_neg (show ¬ nI 3 = (0 : Int32) from by decide), if_neg (show ¬ nI 3 = (1 : Int32) from by decide), if_neg (show ¬ nI 3 = (2 : Int32) from by decide), if_pos (show nI 3 = (3 : Int32) from by decide)], by rw [if_neg (show ¬ nI 3 = (0 : Int32) from by decide), if_neg (show ¬ nI 3 = (1 : Int32) from by decide), if_neg (show ¬ nI 3 = (2 : Int32) from by decide), if_pos (show nI 3 = (3 : Int32) from by decide), h41, if_neg (nI_nle (by omega) (by omega)), l53]⟩
  · exact ⟨σ 54 0, by rw [if_neg (show ¬ nI 4 = (0 : Int32) from by decide), if_neg (show ¬ nI 4 = (1 : Int32) from by decide), if_neg (show ¬ nI 4 = (2 : Int32) from by decide), if_neg (show ¬ nI 4 = (3 : Int32) from by decide), if_pos (show nI 4 = (4 : Int32) from by decide)], by rw [if_neg (show ¬ nI 4 = (0 : Int32) from by decide), if_neg (show ¬ nI 4 = (1 : Int32) from by decide), if_neg (show ¬ nI 4 = (2 : Int32) from by decide), if_neg (show ¬ nI 4 = (3 : Int32) from by decide), if_pos (show nI 4 = (4 : Int32) from by decide), h54]⟩
  · exact ⟨σ 55 0, by rw [if_neg (show ¬ nI 5 = (0 : Int32) from by decide), if_neg (show ¬ nI 5 = (1 : Int32) from by decide), if_neg (show ¬ nI 5 = (2 : Int32) from by decide), if_neg (show ¬ nI 5 = (3 : Int32) from by decide), if_neg (show ¬ nI 5 = (4 : Int32) from by decide), if_pos (show nI 5 = (5 : Int32) from by decide)], by rw [if_neg (show ¬ nI 5 = (0 : Int32) from by decide), if_neg (show ¬ nI 5 = (1 : Int32) from by decide), if_neg (show ¬ nI 5 = (2 : Int32) from by decide), if_neg (show ¬ nI 5 = (3 : Int32) from by decide), if_neg (show ¬ nI 5 = (4 : Int32) from by decide), if_pos (show nI 5 = (5 : Int32) from by decide), h55]⟩
  · exact ⟨nI ni, by rw [if_neg (show ¬ nI 6 = (0 : Int32) from by decide), if_neg (show ¬ nI 6 = (1 : Int32) from by decide), if_neg (show ¬ nI 6 = (2 : Int32) from by decide), if_neg (show ¬ nI 6 = (3 : Int32) from by decide), if_neg (show ¬ nI 6 = (4 : Int32) from by decide), if_neg (show ¬ nI 6 = (5 : Int32) from by decide), if_pos (show nI 6 = (6 : Int32) from by decide), ssize_i hsi, bd1_s], by rw [if_neg (show ¬ nI 6 = (0 : Int32) from by decide), if_neg (show ¬ nI 6 = (1 : Int32) from by decide), if_neg (show ¬ nI 6 = (2 : Int32) from by decide), if_neg (show ¬ nI 6 = (3 : Int32) from by decide), if_neg (show ¬ nI 6 = (4 : Int32) from by decide), if_neg (show ¬ nI 6 = (5 : Int32) from by decide), if_pos (show nI 6 = (6 : Int32) from by decide), h48]⟩
  · exact ⟨nI nc, by rw [if_neg (show ¬ nI 7 = (0 : Int32) from by decide), if_neg (show ¬ nI 7 = (1 : Int32) from by decide), if_neg (show ¬ nI 7 = (2 : Int32) from by decide), if_neg (show ¬ nI 7 = (3 : Int32) from by decide), if_neg (show ¬ nI 7 = (4 : Int32) from by decide), if_neg (show ¬ nI 7 = (5 : Int32) from by decide), if_neg (show ¬ nI 7 = (6 : Int32) from by decide), if_pos (show nI 7 = (7 : Int32) from by decide), ssize_c hsc, bd1_s], by rw [if_neg (show ¬ nI 7 = (0 : Int32) from by decide), if_neg (show ¬ nI 7 = (1 : Int32) from by decide), if_neg (show ¬ nI 7 = (2 : Int32) from by decide), if_neg (show ¬ nI 7 = (3 : Int32) from by decide), if_neg (show ¬ nI 7 = (4 : Int32) from by decide), if_neg (show ¬ nI 7 = (5 : Int32) from by decide), if_neg (show ¬ nI 7 = (6 : Int32) from by decide), if_pos (show nI 7 = (7 : Int32) from by decide), h49]⟩
  · exact ⟨nI (cntE (τ 7) 1 m), by rw [if_neg (show ¬ nI 8 = (0 : Int32) from by decide), if_neg (show ¬ nI 8 = (1 : Int32) from by decide), if_neg (show ¬ nI 8 = (2 : Int32) from by decide), if_neg (show ¬ nI 8 = (3 : Int32) from by decide), if_neg (show ¬ nI 8 = (4 : Int32) from by decide), if_neg (show ¬ nI 8 = (5 : Int32) from by decide), if_neg (show ¬ nI 8 = (6 : Int32) from by decide), if_neg (show ¬ nI 8 = (7 : Int32) from by decide), if_pos (show nI 8 = (8 : Int32) from by decide), h50], by rw [if_neg (show ¬ nI 8 = (0 : Int32) from by decide), if_neg (show ¬ nI 8 = (1 : Int32) from by decide), if_neg (show ¬ nI 8 = (2 : Int32) from by decide), if_neg (show ¬ nI 8 = (3 : Int32) from by decide), if_neg (show ¬ nI 8 = (4 : Int32) from by decide), if_neg (show ¬ nI 8 = (5 : Int32) from by decide), if_neg (show ¬ nI 8 = (6 : Int32) from by decide), if_neg (show ¬ nI 8 = (7 : Int32) from by decide), hlm, bd1_s]⟩
theorem eq_placed {σ τ : St} (h : Inv σ τ) (x : Int32) : ∃ r, fX5_placed σ x = some r ∧ fX6_placed τ x = some r := by
  obtain ⟨n, m, ni, nc, hg, hr, hp, _, _⟩ := h
  by_cases hy : ∃ j, j < 9 ∧ x = nI j
  · obtain ⟨j, hj, rfl⟩ := hy
    obtain ⟨r, e1, e2⟩ := qi_placed hp hj
    refine ⟨r, e1, ?_⟩
    unfold fX6_placed
    rw [win9_in hj, bd1_s, if_neg d_1_0, e2, bd1_s]
  · refine ⟨-1002, ?_, ?_⟩
    · unfold fX5_placed
      rw [if_neg (show ¬ x = (0 : Int32) from fun e => hy ⟨0, by omega, e⟩), if_neg (show ¬ x = (1 : Int32) from fun e => hy ⟨1, by omega, e⟩), if_neg (show ¬ x = (2 : Int32) from fun e => hy ⟨2, by omega, e⟩), if_neg (show ¬ x = (3 : Int32) from fun e => hy ⟨3, by omega, e⟩), if_neg (show ¬ x = (4 : Int32) from fun e => hy ⟨4, by omega, e⟩), if_neg (show ¬ x = (5 : Int32) from fun e => hy ⟨5, by omega, e⟩), if_neg (show ¬ x = (6 : Int32) from fun e => hy ⟨6, by omega, e⟩), if_neg (show ¬ x = (7 : Int32) from fun e => hy ⟨7, by omega, e⟩), if_neg (show ¬ x = (8 : Int32) from fun e => hy ⟨8, by omega, e⟩)]
    · unfold fX6_placed
      rw [win9_out hy, bd1_s, if_pos rfl]
theorem qi_count {σ τ : St} {n m ni nc j : Nat} (hg : RPg σ τ n) (hr : RPr σ τ m) (hp : Pla σ τ m ni nc) (h40 : σ 40 0 = τ 42 0) (h41 : σ 41 0 = τ 43 0) (hj : j < 8) : ∃ r, fX5_count σ (nI j) = some r ∧ fX6_howMany τ (nI j) = some r := by
  obtain ⟨⟨⟨_, _, _, hre, _⟩, _⟩, _⟩ := hp
  obtain ⟨h24, hs, ht, hit, hgp⟩ := hr
  obtain ⟨_, g42, g40, _⟩ := hg
  have hgs : fX6_gaps τ = some (nI (cnt5 (τ 2) m)) := by
    unfold fX6_gaps
    exact gp_loop h24 ht m 0 FU (by omega) (by unfold FU; omega)
  unfold fX5_count fX6_howMany fX6_howMany_b63
  have hj' : j = 0 ∨ j = 1 ∨ j = 2 ∨ j = 3 ∨ j = 4 ∨ j = 5 ∨ j = 6 ∨ j = 7 := by omega
  rcases hj' with rfl | rfl | rfl | rfl | rfl | rfl | rfl | rfl
  · exact ⟨nI m, by unfold fX0_size_p; rw [if_pos (show nI 0 = (0 : Int32) from by decide), bd1_s, hs], by rw [if_pos (show nI 0 = (0 : Int32) from by decide), ht]⟩
  · exact ⟨nI n, by unfold fX1_length; rw [if_neg (show ¬ nI 1 = (0 : Int32) from by decide), if_pos (show nI 1 = (1 : Int32) from by decide), bd1_s, g42], by rw [if_neg (show ¬ nI 1 = (0 : Int32) from by decide), if_pos (show nI 1 = (1 : Int32) from by decide), g40]⟩
  · exact ⟨σ 49 0, by unfold fX0_gaps_p; rw [if_neg (show ¬ nI 2 = (0 : Int32) from by decide), if_neg (show ¬ nI 2 = (1 : Int32) from by decide), if_pos (show nI 2 = (2 : Int32) from by decide), bd1_s], by rw [if_neg (show ¬ nI 2 = (0 : Int32) from by decide), if_neg (show ¬ nI 2 = (1 : Int32) from by decide), if_pos (show nI 2 = (2 : Int32) from by decide), hgs, bd1_s, hgp, cnt5_congr (fun i hi => (hit i hi).1)]⟩
  · exact ⟨σ 10 0, by rw [if_neg (show ¬ nI 3 = (0 : Int32) from by decide), if_neg (show ¬ nI 3 = (1 : Int32) from by decide), if_neg (show ¬ nI 3 = (2 : Int32) from by decide), if_pos (show nI 3 = (3 : Int32) from by decide), show Int32.toNatClampNeg (0 : Int32) = 0 from by decide], by rw [if_neg (show ¬ nI 3 = (0 : Int32) from by decide), if_neg (show ¬ nI 3 = (1 : Int32) from by decide), if_neg (show ¬ nI 3 = (2 : Int32) from by decide), if_pos (show nI 3 = (3 : Int32) from by decide), show nI 3 - (3 : Int32) = nI 0 from by decide, ck_t (ckN (i := 0) (N := 3) (by omega) (by omega)), nI_clamp (by omega), hre 0 (by omega)]⟩
  · exact ⟨σ 10 1, by rw [if_neg (show ¬ nI 4 = (0 : Int32) from by decide), if_neg (show ¬ nI 4 = (1 : Int32) from by decide), if_neg (show ¬ nI 4 = (2 : Int32) from by decide), if_neg (show ¬ nI 4 = (3 : Int32) from by decide), if_pos (show nI 4 = (4 : Int32) from by decide), show Int32.toNatClampNeg (1 : Int32) = 1 from by decide], by rw [if_neg (show ¬ nI 4 = (0 : Int32) from by decide), if_neg (show ¬ nI 4 = (1 : Int32) from by decide), if_neg (show ¬ nI 4 = (2 : Int32) from by decide), if_neg (show ¬ nI 4 = (3 : Int32) from by decide), if_pos (show nI 4 = (4 : Int32) from by decide), show nI 4 - (3 : Int32) = nI 1 from by decide, ck_t (ckN (i := 1) (N := 3) (by omega) (by omega)), nI_clamp (by omega), hre 1 (by omega)]⟩
  · exact ⟨σ 10 2, by rw [if_neg (show ¬ nI 5 = (0 : Int32) from by decide), if_neg (show ¬ nI 5 = (1 : Int32) from by decide), if_neg (show ¬ nI 5 = (2 : Int32) from by decide), if_neg (show ¬ nI 5 = (3 : Int32) from by decide), if_neg (show ¬ nI 5 = (4 : Int32) from by decide), if_pos (show nI 5 = (5 : Int32) from by decide), show Int32.toNatClampNeg (2 : Int32) = 2 from by decide], by rw [if_neg (show ¬ nI 5 = (0 : Int32) from by decide), if_neg (show ¬ nI 5 = (1 : Int32) from by decide), if_neg (show ¬ nI 5 = (2 : Int32) from by decide), if_neg (show ¬ nI 5 = (3 : Int32) from by decide), if_neg (show ¬ nI 5 = (4 : Int32) from by decide), if_pos (show nI 5 = (5 : Int32) from by decide), show nI 5 - (3 : Int32) = nI 2 from by decide, ck_t (ckN (i := 2) (N := 3) (by omega) (by omega)), nI_clamp (by omega), hre 2 (by omega)]⟩
  · exact ⟨σ 40 0, by rw [if_neg (show ¬ nI 6 = (0 : Int32) from by decide), if_neg (show ¬ nI 6 = (1 : Int32) from by decide), if_neg (show ¬ nI 6 = (2 : Int32) from by decide), if_neg (show ¬ nI 6 = (3 : Int32) from by decide), if_neg (show ¬ nI 6 = (4 : Int32) from by decide), if_neg (show ¬ nI 6 = (5 : Int32) from by decide), if_pos (show nI 6 = (6 : Int32) from by decide)], by rw [if_neg (show ¬ nI 6 = (0 : Int32) from by decide), if_neg (show ¬ nI 6 = (1 : Int32) from by decide), if_neg (show ¬ nI 6 = (2 : Int32) from by decide), if_neg (show ¬ nI 6 = (3 : Int32) from by decide), if_neg (show ¬ nI 6 = (4 : Int32) from by decide), if_neg (show ¬ nI 6 = (5 : Int32) from by decide), if_pos (show nI 6 = (6 : Int32) from by decide), h40]⟩
  · exact ⟨σ 41 0, by rw [if_neg (show ¬ nI 7 = (0 : Int32) from by decide), if_neg (show ¬ nI 7 = (1 : Int32) from by decide), if_neg (show ¬ nI 7 = (2 : Int32) from by decide), if_neg (show ¬ nI 7 = (3 : Int32) from by decide), if_neg (show ¬ nI 7 = (4 : Int32) from by decide), if_neg (show ¬ nI 7 = (5 : Int32) from by decide), if_neg (show ¬ nI 7 = (6 : Int32) from by decide), if_pos (show nI 7 = (7 : Int32) from by decide)], by rw [if_neg (show ¬ nI 7 = (0 : Int32) from by decide), if_neg (show ¬ nI 7 = (1 : Int32) from by decide), if_neg (show ¬ nI 7 = (2 : Int32) from by decide), if_neg (show ¬ nI 7 = (3 : Int32) from by decide), if_neg (show ¬ nI 7 = (4 : Int32) from by decide), if_neg (show ¬ nI 7 = (5 : Int32) from by decide), if_neg (show ¬ nI 7 = (6 : Int32) from by decide), if_pos (show nI 7 = (7 : Int32) from by decide), h41]⟩
theorem eq_count {σ τ : St} (h : Inv σ τ) (x : Int32) : ∃ r, fX5_count σ x = some r ∧ fX6_count τ x = some r := by
  obtain ⟨n, m, ni, nc, hg, hr, hp, h40, h41⟩ := h
  unfold fX6_count
  by_cases hy : ∃ j, j < 8 ∧ x = nI j
  · obtain ⟨j, hj, rfl⟩ := hy
    obtain ⟨r, e1, e2⟩ := qi_count hg hr hp h40 h41 hj
    exact ⟨r, e1, by rw [e2, bd1_s]⟩
  · refine ⟨-1002, ?_, ?_⟩
    · unfold fX5_count
      rw [if_neg (show ¬ x = (0 : Int32) from fun e => hy ⟨0, by omega, e⟩), if_neg (show ¬ x = (1 : Int32) from fun e => hy ⟨1, by omega, e⟩), if_neg (show ¬ x = (2 : Int32) from fun e => hy ⟨2, by omega, e⟩), if_neg (show ¬ x = (3 : Int32) from fun e => hy ⟨3, by omega, e⟩), if_neg (show ¬ x = (4 : Int32) from fun e => hy ⟨4, by omega, e⟩), if_neg (show ¬ x = (5 : Int32) from fun e => hy ⟨5, by omega, e⟩), if_neg (show ¬ x = (6 : Int32) from fun e => hy ⟨6, by omega, e⟩), if_neg (show ¬ x = (7 : Int32) from fun e => hy ⟨7, by omega, e⟩)]
    · unfold fX6_howMany
      rw [if_neg (show ¬ x = (0 : Int32) from fun e => hy ⟨0, by omega, e⟩), if_neg (show ¬ x = (1 : Int32) from fun e => hy ⟨1, by omega, e⟩), if_neg (show ¬ x = (2 : Int32) from fun e => hy ⟨2, by omega, e⟩), if_neg (show ¬ x = (3 : Int32) from fun e => hy ⟨3, by omega, e⟩), if_neg (show ¬ x = (4 : Int32) from fun e => hy ⟨4, by omega, e⟩), if_neg (show ¬ x = (5 : Int32) from fun e => hy ⟨5, by omega, e⟩), if_neg (show ¬ x = (6 : Int32) from fun e => hy ⟨6, by omega, e⟩), if_neg (show ¬ x = (7 : Int32) from fun e => hy ⟨7, by omega, e⟩), bd1_s]
