/-! What is asked: items, islands, constants. -/
theorem win4_in {τ : St} {j : Nat} (hj : j < 4) : fX6_within τ (nI j) 0 3 = some 1 := by
  have h := win_in (τ := τ) (n := 4) (i := j) (by omega) hj
  rwa [show nI 4 - (1 : Int32) = 3 from by decide] at h
theorem win4_out {τ : St} {x : Int32} (hx : ¬ ∃ j, j < 4 ∧ x = nI j) : fX6_within τ x 0 3 = some 0 := by
  have h := win_out (τ := τ) (n := 4) (x := x) (by omega) hx
  rwa [show nI 4 - (1 : Int32) = 3 from by decide] at h
theorem win6_in {τ : St} {j : Nat} (hj : j < 6) : fX6_within τ (nI j) 0 5 = some 1 := by
  have h := win_in (τ := τ) (n := 6) (i := j) (by omega) hj
  rwa [show nI 6 - (1 : Int32) = 5 from by decide] at h
theorem win6_out {τ : St} {x : Int32} (hx : ¬ ∃ j, j < 6 ∧ x = nI j) : fX6_within τ x 0 5 = some 0 := by
  have h := win_out (τ := τ) (n := 6) (x := x) (by omega) hx
  rwa [show nI 6 - (1 : Int32) = 5 from by decide] at h
theorem win9_in {τ : St} {j : Nat} (hj : j < 9) : fX6_within τ (nI j) 0 8 = some 1 := by
  have h := win_in (τ := τ) (n := 9) (i := j) (by omega) hj
  rwa [show nI 9 - (1 : Int32) = 8 from by decide] at h
theorem win9_out {τ : St} {x : Int32} (hx : ¬ ∃ j, j < 9 ∧ x = nI j) : fX6_within τ x 0 8 = some 0 := by
  have h := win_out (τ := τ) (n := 9) (x := x) (by omega) hx
  rwa [show nI 9 - (1 : Int32) = 8 from by decide] at h
theorem qi_item {σ τ : St} {m ni nc i j : Nat} (hr : RPr σ τ m) (hp : Pla σ τ m ni nc) (hi : i < m) (hj : j < 6) : ∃ r, fX5_item σ (nI i) (nI j) = some r ∧ fX6_itemNow τ (nI i) (nI j) = some r := by
  obtain ⟨h24, hs, ht, hit, hgp⟩ := hr
  obtain ⟨hl, hinj, ha, hia, h50, h51, h54, h55, h53, h0⟩ := hp
  obtain ⟨⟨wp, wq, bit, hre, hsi, hsc, h48, h49, hki, hkc, hg, hlb, hlB⟩, l25, b25, li, bi, lc, bc, le, l53, l52, lz⟩ := id hl
  have hh := has_in_p hs h24 hi
  have c1 := ckN (i := i) (N := 24) (by omega) (by omega)
  have hi24 : i < 24 := by omega
  unfold fX5_item fX6_itemNow
  rw [hh, bd1_s, if_neg d_1_0]
  have hj' : j = 0 ∨ j = 1 ∨ j = 2 ∨ j = 3 ∨ j = 4 ∨ j = 5 := by omega
  rcases hj' with rfl | rfl | rfl | rfl | rfl | rfl
  · exact ⟨σ 8 i, by rw [if_pos (show nI 0 = (0 : Int32) from by decide), kind_in_p hs h24 hi, bd1_s], by rw [if_pos (show nI 0 = (0 : Int32) from by decide), ck_t c1, nI_clamp (by omega), (hit i hi).1]⟩
  · exact ⟨σ 9 i, by rw [if_neg (show ¬ nI 1 = (0 : Int32) from by decide), if_pos (show nI 1 = (1 : Int32) from by decide), told_in_p hs h24 hi, bd1_s], by rw [if_neg (show ¬ nI 1 = (0 : Int32) from by decide), if_pos (show nI 1 = (1 : Int32) from by decide), ck_t c1, nI_clamp (by omega), (hit i hi).2.1]⟩
  · exact ⟨σ 25 i, by rw [if_neg (show ¬ nI 2 = (0 : Int32) from by decide), if_neg (show ¬ nI 2 = (1 : Int32) from by decide), if_pos (show nI 2 = (2 : Int32) from by decide), addressOf_in hi24, bd1_s], by rw [if_neg (show ¬ nI 2 = (0 : Int32) from by decide), if_neg (show ¬ nI 2 = (1 : Int32) from by decide), if_pos (show nI 2 = (2 : Int32) from by decide), ck_t c1, nI_clamp (by omega), l25 i hi]⟩
  · obtain ⟨A, hA, eA, eS⟩ := lz i hi
    exact ⟨σ 26 i, by rw [if_neg (show ¬ nI 3 = (0 : Int32) from by decide), if_neg (show ¬ nI 3 = (1 : Int32) from by decide), if_neg (show ¬ nI 3 = (2 : Int32) from by decide), if_pos (show nI 3 = (3 : Int32) from by decide), sizeOf_in hi24, bd1_s], by rw [if_neg (show ¬ nI 3 = (0 : Int32) from by decide), if_neg (show ¬ nI 3 = (1 : Int32) from by decide), if_neg (show ¬ nI 3 = (2 : Int32) from by decide), if_pos (show nI 3 = (3 : Int32) from by decide), ck_t c1, nI_clamp (by omega), ← l25 i hi, eA, sizeM_eq (wq.2.2 i hi) hi24 hA, bd1_s, eS, (bit i hi).1, (bit i hi).2.1, (bit i hi).2.2.1]⟩
  · by_cases q : σ 24 i = 0
    · exact ⟨0, by rw [if_neg (show ¬ nI 4 = (0 : Int32) from by decide), if_neg (show ¬ nI 4 = (1 : Int32) from by decide), if_neg (show ¬ nI 4 = (2 : Int32) from by decide), if_neg (show ¬ nI 4 = (3 : Int32) from by decide), if_pos (show nI 4 = (4 : Int32) from by decide), isLong_in hi24, bd1_s, if_pos q, if_pos rfl], by rw [if_neg (show ¬ nI 4 = (0 : Int32) from by decide), if_neg (show ¬ nI 4 = (1 : Int32) from by decide), if_neg (show ¬ nI 4 = (2 : Int32) from by decide), if_neg (show ¬ nI 4 = (3 : Int32) from by decide), if_pos (show nI 4 = (4 : Int32) from by decide), ck_t c1, nI_clamp (by omega), ← (bit i hi).2.2.1, if_pos q]⟩
    · exact ⟨1, by rw [if_neg (show ¬ nI 4 = (0 : Int32) from by decide), if_neg (show ¬ nI 4 = (1 : Int32) from by decide), if_neg (show ¬ nI 4 = (2 : Int32) from by decide), if_neg (show ¬ nI 4 = (3 : Int32) from by decide), if_pos (show nI 4 = (4 : Int32) from by decide), isLong_in hi24, bd1_s, if_neg q, if_neg d_1_0], by rw [if_neg (show ¬ nI 4 = (0 : Int32) from by decide), if_neg (show ¬ nI 4 = (1 : Int32) from by decide), if_neg (show ¬ nI 4 = (2 : Int32) from by decide), if_neg (show ¬ nI 4 = (3 : Int32) from by decide), if_pos (show nI 4 = (4 : Int32) from by decide), ck_t c1, nI_clamp (by omega), ← (bit i hi).2.2.1, if_neg q]⟩
  · exact ⟨σ 28 i, by rw [if_neg (show ¬ nI 5 = (0 : Int32) from by decide), if_neg (show ¬ nI 5 = (1 : Int32) from by decide), if_neg (show ¬ nI 5 = (2 : Int32) from by decide), if_neg (show ¬ nI 5 = (3 : Int32) from by decide), if_neg (show ¬ nI 5 = (4 : Int32) from by decide), if_pos (show nI 5 = (5 : Int32) from by decide), aimOf_in hi24, bd1_s], by rw [if_neg (show ¬ nI 5 = (0 : Int32) from by decide), if_neg (show ¬ nI 5 = (1 : Int32) from by decide), if_neg (show ¬ nI 5 = (2 : Int32) from by decide), if_neg (show ¬ nI 5 = (3 : Int32) from by decide), if_neg (show ¬ nI 5 = (4 : Int32) from by decide), goesTo_eq h24 wq.2.2 (LL_Mi hl) (LL_Mc hl) (LL_B12 hl) (LL_B17 hl) hi, bd1_s, ha i hi]⟩
theorem eq_item {σ τ : St} (h : Inv σ τ) (x1 x2 : Int32) : ∃ r, fX5_item σ x1 x2 = some r ∧ fX6_item τ x1 x2 = some r := by
  obtain ⟨n, m, ni, nc, hg, hr, hp, _, _⟩ := h
  obtain ⟨h24, hs, ht, hit, hgp⟩ := id hr
  by_cases hx : ∃ i, i < m ∧ x1 = nI i
  · obtain ⟨i, hi, rfl⟩ := hx
    by_cases hy : ∃ j, j < 6 ∧ x2 = nI j
    · obtain ⟨j, hj, rfl⟩ := hy
      obtain ⟨r, e1, e2⟩ := qi_item hr hp hi hj
      refine ⟨r, e1, ?_⟩
      unfold fX6_item
      rw [isItem_in h24 ht hi, bd1_s, if_neg d_1_0, win6_in hj, bd1_s, if_neg d_1_0, e2, bd1_s]
    · refine ⟨-1002, ?_, ?_⟩
      · unfold fX5_item
        rw [has_in_p hs h24 hi, bd1_s, if_neg d_1_0, if_neg (show ¬ x2 = (0 : Int32) from fun e => hy ⟨0, by omega, e⟩), if_neg (show ¬ x2 = (1 : Int32) from fun e => hy ⟨1, by omega, e⟩), if_neg (show ¬ x2 = (2 : Int32) from fun e => hy ⟨2, by omega, e⟩), if_neg (show ¬ x2 = (3 : Int32) from fun e => hy ⟨3, by omega, e⟩), if_neg (show ¬ x2 = (4 : Int32) from fun e => hy ⟨4, by omega, e⟩), if_neg (show ¬ x2 = (5 : Int32) from fun e => hy ⟨5, by omega, e⟩)]
      · unfold fX6_item
        rw [isItem_in h24 ht hi, bd1_s, if_neg d_1_0, win6_out hy, bd1_s, if_pos rfl]
  · refine ⟨-1001, ?_, ?_⟩
    · unfold fX5_item
      rw [has_out_p hs h24 hx, bd1_s, if_pos rfl]
    · unfold fX6_item
      rw [isItem_out h24 ht hx, bd1_s, if_pos rfl]
theorem qi_island {σ τ : St} {m ni nc k j : Nat} (hp : Pla σ τ m ni nc) (hk : k < ni) (hj : j < 4) : ∃ r, fX5_island σ (nI k) (nI j) = some r ∧ fX6_islandNow τ (nI k) (nI j) = some r := by
  obtain ⟨hl, hinj, ha, hia, h50, h51, h54, h55, h53, h0⟩ := hp
  obtain ⟨⟨wp, wq, bit, hre, hsi, hsc, h48, h49, hki, hkc, hg, hlb, hlB⟩, l25, b25, li, bi, lc, bc, le, l53, l52, lz⟩ := id hl
  have hni := hsi.1
  have c1 := ckN (i := k) (N := 12) (by omega) (by omega)
  obtain ⟨k1, k2, ⟨l, h8, el⟩, _⟩ := hki k hk
  unfold fX5_island fX6_islandNow
  rw [shas_in_i hsi hk, bd1_s, if_neg d_1_0]
  have hj' : j = 0 ∨ j = 1 ∨ j = 2 ∨ j = 3 := by omega
  rcases hj' with rfl | rfl | rfl | rfl
  · exact ⟨σ 13 k, by rw [if_pos (show nI 0 = (0 : Int32) from by decide), sname_i hsi hk, bd1_s], by rw [if_pos (show nI 0 = (0 : Int32) from by decide), ck_t c1, nI_clamp (by omega), k1]⟩
  · exact ⟨σ 14 k, by rw [if_neg (show ¬ nI 1 = (0 : Int32) from by decide), if_pos (show nI 1 = (1 : Int32) from by decide), sret_i hsi hk, bd1_s], by rw [if_neg (show ¬ nI 1 = (0 : Int32) from by decide), if_pos (show nI 1 = (1 : Int32) from by decide), ck_t c1, nI_clamp (by omega), k2]⟩
  · exact ⟨ad_i σ k, by rw [if_neg (show ¬ nI 2 = (0 : Int32) from by decide), if_neg (show ¬ nI 2 = (1 : Int32) from by decide), if_pos (show nI 2 = (2 : Int32) from by decide), saddr_i hsi hk, bd1_s], by rw [if_neg (show ¬ nI 2 = (0 : Int32) from by decide), if_neg (show ¬ nI 2 = (1 : Int32) from by decide), if_pos (show nI 2 = (2 : Int32) from by decide), ck_t c1, nI_clamp (by omega), li k hk]⟩
  · obtain ⟨F, hF, eF⟩ := (LL_Mi hl).2.2 k hk
    obtain ⟨T, hT, eT⟩ := LL_B17 hl l h8
    have em : τ 8 k = nI l := by rw [← k1]; exact el
    have e : iaimM τ ni k = aimL (τ 8) (τ 13) (τ 17 l) (τ 4 1) (nI F) (nI l) ni := by
      unfold iaimM
      rw [em, eF, nI_clamp (by omega)]
    refine ⟨σ 29 k, by rw [if_neg (show ¬ nI 3 = (0 : Int32) from by decide), if_neg (show ¬ nI 3 = (1 : Int32) from by decide), if_neg (show ¬ nI 3 = (2 : Int32) from by decide), if_pos (show nI 3 = (3 : Int32) from by decide), islandAimOf_in (by omega), bd1_s], ?_⟩
    rw [if_neg (show ¬ nI 3 = (0 : Int32) from by decide), if_neg (show ¬ nI 3 = (1 : Int32) from by decide), if_neg (show ¬ nI 3 = (2 : Int32) from by decide), ck_t c1, ck_t c1, nI_clamp (by omega), em, eF, goesM_in (LL_Mi hl) h8 hF hT eT, bd1_s, hia k hk, e]
theorem eq_island {σ τ : St} (h : Inv σ τ) (x1 x2 : Int32) : ∃ r, fX5_island σ x1 x2 = some r ∧ fX6_island τ x1 x2 = some r := by
  obtain ⟨n, m, ni, nc, hg, hr, hp, _, _⟩ := h
  obtain ⟨⟨⟨wp, wq, bit, hre, hsi, hsc, h48, h49, _⟩, _⟩, _⟩ := id hp
  have hcap := hsi.1
  by_cases hx : ∃ i, i < ni ∧ x1 = nI i
  · obtain ⟨i, hi, rfl⟩ := hx
    by_cases hy : ∃ j, j < 4 ∧ x2 = nI j
    · obtain ⟨j, hj, rfl⟩ := hy
      obtain ⟨r, e1, e2⟩ := qi_island hp hi hj
      refine ⟨r, e1, ?_⟩
      unfold fX6_island
      rw [h48, win_in (by omega) hi, bd1_s, if_neg d_1_0, win4_in hj, bd1_s, if_neg d_1_0, e2, bd1_s]
    · refine ⟨-1002, ?_, ?_⟩
      · unfold fX5_island
        rw [shas_in_i hsi hi, bd1_s, if_neg d_1_0, if_neg (show ¬ x2 = (0 : Int32) from fun e => hy ⟨0, by omega, e⟩), if_neg (show ¬ x2 = (1 : Int32) from fun e => hy ⟨1, by omega, e⟩), if_neg (show ¬ x2 = (2 : Int32) from fun e => hy ⟨2, by omega, e⟩), if_neg (show ¬ x2 = (3 : Int32) from fun e => hy ⟨3, by omega, e⟩)]
      · unfold fX6_island
        rw [h48, win_in (by omega) hi, bd1_s, if_neg d_1_0, win4_out hy, bd1_s, if_pos rfl]
  · refine ⟨-1001, ?_, ?_⟩
    · unfold fX5_island
      rw [shas_out_i hsi hx, bd1_s, if_pos rfl]
    · unfold fX6_island
      rw [h48, win_out (by omega) hx, bd1_s, if_pos rfl]
def ldS (P : Nat → Bool) (i : Nat) : Nat → Nat
  | 0 => 0
  | d + 1 => (if P i = true then 1 else 0) + ldS P (i + 1) d
theorem ldS_congr {P Q : Nat → Bool} : ∀ {d i : Nat}, (∀ j, i ≤ j → j < i + d → P j = Q j) → ldS P i d = ldS Q i d
  | 0, _, _ => rfl
  | d + 1, i, h => by
    show (if P i = true then 1 else 0) + ldS P (i + 1) d = (if Q i = true then 1 else 0) + ldS Q (i + 1) d
    rw [h i (Nat.le_refl _) (by omega), ldS_congr (fun j h1 h2 => h j (by omega) (by omega))]
def ldC (σ : St) (adr : Int32) (i : Nat) : Bool := decide (σ 8 i = 1 ∧ σ 28 i = adr)
def ldM (τ : St) (nc k i : Nat) : Bool := decide (τ 2 i = 1 ∧ conS (τ 10) (τ 14) (τ 4 2) (τ 12 i) (τ 3 i) nc = nI k)
theorem ldC_loop {σ : St} {m : Nat} (hp : wfP σ m) {adr : Int32} : ∀ (d i N c : Nat), i + d = m → d < N → fX2_loadsOf_l14 σ N adr (nI c) (nI i) = some (nI (c + ldS (ldC σ adr) i d)) := by
  have hm := hp.1
  intro d
  induction d with
  | zero =>
    intro i N c h hN
    obtain ⟨N, rfl⟩ : ∃ k, N = k + 1 := ⟨N - 1, by omega⟩
    have hi : i = m := by omega
    subst hi
    show fX2_loadsOf_s14 σ (fX2_loadsOf_l14 σ N) adr (nI c) (nI i) = _
    unfold fX2_loadsOf_s14 fX0_size_p
    rw [hp.2.1, bd1_s, if_pos (Int32.le_refl _)]
    rfl
  | succ d ih =>
    intro i N c h hN
    obtain ⟨N, rfl⟩ : ∃ k, N = k + 1 := ⟨N - 1, by omega⟩
    have hi : i < m := by omega
    show fX2_loadsOf_s14 σ (fX2_loadsOf_l14 σ N) adr (nI c) (nI i) = some (nI (c + ((if ldC σ adr i = true then 1 else 0) + ldS (ldC σ adr) (i + 1) d)))
    unfold fX2_loadsOf_s14
    rw [show fX0_size_p σ = some (nI m) from by unfold fX0_size_p; rw [hp.2.1], bd1_s, if_neg (nI_ge hi (by omega)), kind_in_p hp.2.1 hm hi, bd1_s]
    by_cases k1 : σ 8 i = 1
    · rw [if_pos k1, aimOf_in (by omega), bd1_s]
      by_cases k2 : σ 28 i = adr
      · rw [if_pos k2, nI_1 c, nI_1 i, ih (i + 1) N (c + 1) (by omega) (by omega), if_pos (show ldC σ adr i = true from decide_eq_true ⟨k1, k2⟩), Nat.add_assoc]
      · rw [if_neg k2, nI_1 i, ih (i + 1) N c (by omega) (by omega), if_neg (show ¬ ldC σ adr i = true from fun e => k2 (of_decide_eq_true e).2), Nat.zero_add]
    · rw [if_neg k1, nI_1 i, ih (i + 1) N c (by omega) (by omega), if_neg (show ¬ ldC σ adr i = true from fun e => k1 (of_decide_eq_true e).1), Nat.zero_add]
theorem ldM_loop {τ : St} {m nc k : Nat} (hp : wfM τ m) (hc : Mc τ nc) (hB : Bd (τ 12) m) : ∀ (d i N c : Nat), i + d = m → d < N → fX6_loadsOf_l4 τ N (nI k) (nI c) (nI i) = some (nI (c + ldS (ldM τ nc k) i d)) := by
  have hm := hp.1
  intro d
  induction d with
  | zero =>
    intro i N c h hN
    obtain ⟨N, rfl⟩ : ∃ k, N = k + 1 := ⟨N - 1, by omega⟩
    have hi : i = m := by omega
    subst hi
    show fX6_loadsOf_s4 τ (fX6_loadsOf_l4 τ N) (nI k) (nI c) (nI i) = _
    unfold fX6_loadsOf_s4
    rw [hp.2.1, if_pos (Int32.le_refl _)]
    rfl
  | succ d ih =>
    intro i N c h hN
    obtain ⟨N, rfl⟩ : ∃ k, N = k + 1 := ⟨N - 1, by omega⟩
    have hi : i < m := by omega
    obtain ⟨F, hF, eF⟩ := hB i hi
    have eC : fX6_constantFor τ (nI i) = some (conS (τ 10) (τ 14) (τ 4 2) (τ 12 i) (τ 3 i) nc) := by
      rw [conM_eq hc (by omega) hF eF, eF]
    show fX6_loadsOf_s4 τ (fX6_loadsOf_l4 τ N) (nI k) (nI c) (nI i) = some (nI (c + ((if ldM τ nc k i = true then 1 else 0) + ldS (ldM τ nc k) (i + 1) d)))
    unfold fX6_loadsOf_s4 fX6_loadsOf_b36
    rw [hp.2.1, if_neg (nI_ge hi (by omega)), ck_t (ckN (i := i) (N := 24) (by omega) (by omega)), nI_clamp (by omega)]
    by_cases k1 : τ 2 i = 1
    · rw [if_pos k1, eC, bd1_s]
      by_cases k2 : conS (τ 10) (τ 14) (τ 4 2) (τ 12 i) (τ 3 i) nc = nI k
      · rw [if_pos k2, nI_1 c, nI_1 i, ih (i + 1) N (c + 1) (by omega) (by omega), if_pos (show ldM τ nc k i = true from decide_eq_true ⟨k1, k2⟩), Nat.add_assoc]
      · rw [if_neg k2, Int32.add_zero, nI_1 i, ih (i + 1) N c (by omega) (by omega), if_neg (show ¬ ldM τ nc k i = true from fun e => k2 (of_decide_eq_true e).2), Nat.zero_add]
    · rw [if_neg k1, Int32.add_zero, nI_1 i, ih (i + 1) N c (by omega) (by omega), if_neg (show ¬ ldM τ nc k i = true from fun e => k1 (of_decide_eq_true e).1), Nat.zero_add]
theorem loads_both {σ τ : St} {m ni nc k : Nat} (hp : Pla σ τ m ni nc) (hk : k < nc) : ∃ r, fX2_loadsOf σ (nI k) = some r ∧ fX6_loadsOf τ (nI k) = some r := by
  obtain ⟨hl, hinj, ha, hia, h50, h51, h54, h55, h53, h0⟩ := hp
  obtain ⟨⟨wp, wq, bit, hre, hsi, hsc, h48, h49, hki, hkc, hg, hlb, hlB⟩, l25, b25, li, bi, lc, bc, le, l53, l52, lz⟩ := id hl
  have hnc := hsc.1
  have hm := wp.1
  refine ⟨nI (0 + ldS (ldC σ (ad_c σ k)) 0 m), ?_, ?_⟩
  · unfold fX2_loadsOf
    rw [saddr_c hsc hk, bd1_s]
    exact ldC_loop wp m 0 FU 0 (by omega) (by unfold FU; omega)
  · unfold fX6_loadsOf
    have e : ldS (ldC σ (ad_c σ k)) 0 m = ldS (ldM τ nc k) 0 m := ldS_congr (fun i _ h2 => by
      have hi : i < m := by omega
      unfold ldC ldM
      refine decide_eq_decide.mpr ⟨fun ⟨q1, q2⟩ => ?_, fun ⟨q1, q2⟩ => ?_⟩
      · rw [(bit i hi).1] at q1
        refine ⟨q1, ?_⟩
        rw [ha i hi] at q2
        unfold aimM aimV at q2
        rw [if_pos q1] at q2
        rcases conS_best (nm := τ 10) (ad := τ 14) (r2 := τ 4 2) (frm := τ 12 i) (v := τ 3 i) nc with e | ⟨j, hj, e⟩
        · rw [if_pos e] at q2
          obtain ⟨A, hA, eA⟩ := bc k hk
          exact absurd (q2.trans eA).symm (nI_m1 (by omega))
        · rw [e, if_neg (nI_m1 (by omega)), nI_clamp (by omega), ← lc j hj] at q2
          rw [e, hinj j k hj hk q2]
      · refine ⟨by rw [(bit i hi).1]; exact q1, ?_⟩
        rw [ha i hi]
        unfold aimM aimV
        rw [if_pos q1, q2, if_neg (nI_m1 (by omega)), nI_clamp (by omega), lc k hk])
    rw [e]
    exact ldM_loop wq (LL_Mc hl) (LL_B12 hl) m 0 FU 0 (by omega) (by unfold FU; omega)
theorem qi_constant {σ τ : St} {m ni nc k j : Nat} (hp : Pla σ τ m ni nc) (hk : k < nc) (hj : j < 4) : ∃ r, fX5_constant σ (nI k) (nI j) = some r ∧ fX6_constantNow τ (nI k) (nI j) = some r := by
  obtain ⟨r3, q1, q2⟩ := loads_both hp hk
  obtain ⟨hl, hinj, ha, hia, h50, h51, h54, h55, h53, h0⟩ := hp
  obtain ⟨⟨wp, wq, bit, hre, hsi, hsc, h48, h49, hki, hkc, hg, hlb, hlB⟩, l25, b25, li, bi, lc, bc, le, l53, l52, lz⟩ := id hl
  have hnc := hsc.1
  have c1 := ckN (i := k) (N := 16) (by omega) (by omega)
  obtain ⟨k1, k2, _⟩ := hkc k hk
  unfold fX5_constant fX6_constantNow
  rw [shas_in_c hsc hk, bd1_s, if_neg d_1_0]
  have hj' : j = 0 ∨ j = 1 ∨ j = 2 ∨ j = 3 := by omega
  rcases hj' with rfl | rfl | rfl | rfl
  · exact ⟨σ 19 k, by rw [if_pos (show nI 0 = (0 : Int32) from by decide), sname_c hsc hk, bd1_s], by rw [if_pos (show nI 0 = (0 : Int32) from by decide), ck_t c1, nI_clamp (by omega), k1]⟩
  · exact ⟨σ 20 k, by rw [if_neg (show ¬ nI 1 = (0 : Int32) from by decide), if_pos (show nI 1 = (1 : Int32) from by decide), sret_c hsc hk, bd1_s], by rw [if_neg (show ¬ nI 1 = (0 : Int32) from by decide), if_pos (show nI 1 = (1 : Int32) from by decide), ck_t c1, nI_clamp (by omega), k2]⟩
  · exact ⟨ad_c σ k, by rw [if_neg (show ¬ nI 2 = (0 : Int32) from by decide), if_neg (show ¬ nI 2 = (1 : Int32) from by decide), if_pos (show nI 2 = (2 : Int32) from by decide), saddr_c hsc hk, bd1_s], by rw [if_neg (show ¬ nI 2 = (0 : Int32) from by decide), if_neg (show ¬ nI 2 = (1 : Int32) from by decide), if_pos (show nI 2 = (2 : Int32) from by decide), ck_t c1, nI_clamp (by omega), lc k hk]⟩
  · exact ⟨r3, by rw [if_neg (show ¬ nI 3 = (0 : Int32) from by decide), if_neg (show ¬ nI 3 = (1 : Int32) from by decide), if_neg (show ¬ nI 3 = (2 : Int32) from by decide), if_pos (show nI 3 = (3 : Int32) from by decide), q1, bd1_s], by rw [if_neg (show ¬ nI 3 = (0 : Int32) from by decide), if_neg (show ¬ nI 3 = (1 : Int32) from by decide), if_neg (show ¬ nI 3 = (2 : Int32) from by decide), q2, bd1_s]⟩
theorem eq_constant {σ τ : St} (h : Inv σ τ) (x1 x2 : Int32) : ∃ r, fX5_constant σ x1 x2 = some r ∧ fX6_constant τ x1 x2 = some r := by
  obtain ⟨n, m, ni, nc, hg, hr, hp, _, _⟩ := h
  obtain ⟨⟨⟨wp, wq, bit, hre, hsi, hsc, h48, h49, _⟩, _⟩, _⟩ := id hp
  have hcap := hsc.1
  by_cases hx : ∃ i, i < nc ∧ x1 = nI i
  · obtain ⟨i, hi, rfl⟩ := hx
    by_cases hy : ∃ j, j < 4 ∧ x2 = nI j
    · obtain ⟨j, hj, rfl⟩ := hy
      obtain ⟨r, e1, e2⟩ := qi_constant hp hi hj
      refine ⟨r, e1, ?_⟩
      unfold fX6_constant
      rw [h49, win_in (by omega) hi, bd1_s, if_neg d_1_0, win4_in hj, bd1_s, if_neg d_1_0, e2, bd1_s]
    · refine ⟨-1002, ?_, ?_⟩
      · unfold fX5_constant
        rw [shas_in_c hsc hi, bd1_s, if_neg d_1_0, if_neg (show ¬ x2 = (0 : Int32) from fun e => hy ⟨0, by omega, e⟩), if_neg (show ¬ x2 = (1 : Int32) from fun e => hy ⟨1, by omega, e⟩), if_neg (show ¬ x2 = (2 : Int32) from fun e => hy ⟨2, by omega, e⟩), if_neg (show ¬ x2 = (3 : Int32) from fun e => hy ⟨3, by omega, e⟩)]
      · unfold fX6_constant
        rw [h49, win_in (by omega) hi, bd1_s, if_neg d_1_0, win4_out hy, bd1_s, if_pos rfl]
  · refine ⟨-1001, ?_, ?_⟩
    · unfold fX5_constant
      rw [shas_out_c hsc hx, bd1_s, if_pos rfl]
    · unfold fX6_constant
      rw [h49, win_out (by omega) hx, bd1_s, if_pos rfl]
