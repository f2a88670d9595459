/-! What mending keeps: BB behind a branch made long, a constant or an island more. -/
theorem BB_long {σ τ s t : St} {m ni nc i : Nat} (h : BB σ τ m ni nc) (hi : i < m) (hs : ∀ j, j ≠ 24 → j ≠ 50 → s j = σ j) (h24 : s 24 = upd (σ 24) i 1) (ht : ∀ j, j ≠ 7 → t j = τ j) (h7 : t 7 = upd (τ 7) i 1) : BB s t m ni nc := by
  obtain ⟨hp, hq, hit, hre, hsi, hsc, h48, h49, hki, hkc, hg, hlb, hlB⟩ := h
  refine ⟨wfP_fr hp (hs 48 (by decide) (by decide)) (hs 8 (by decide) (by decide)) (hs 9 (by decide) (by decide)), ⟨hq.1, by rw [ht 41 (by decide)]; exact hq.2.1, fun j hj => by rw [ht 2 (by decide), ht 3 (by decide)]; exact hq.2.2 j hj⟩, fun j hj => ?_, fun j hj => by rw [hs 10 (by decide) (by decide), ht 4 (by decide)]; exact hre j hj, Sk_i_fr hsi (hs 56 (by decide) (by decide)) (hs 14 (by decide) (by decide)), Sk_c_fr hsc (hs 57 (by decide) (by decide)) (hs 20 (by decide) (by decide)), by rw [ht 48 (by decide)]; exact h48, by rw [ht 49 (by decide)]; exact h49, fun k hk => by rw [hs 13 (by decide) (by decide), hs 14 (by decide) (by decide), hs 15 (by decide) (by decide), hs 8 (by decide) (by decide), ht 8 (by decide), ht 9 (by decide)]; exact hki k hk, fun k hk => by rw [hs 19 (by decide) (by decide), hs 20 (by decide) (by decide), hs 21 (by decide) (by decide), hs 8 (by decide) (by decide), ht 10 (by decide), ht 11 (by decide)]; exact hkc k hk, fun r hr => by rw [hs 16 (by decide) (by decide), hs 22 (by decide) (by decide), hs 14 (by decide) (by decide), hs 20 (by decide) (by decide)]; exact hg r hr, fun l hl => by rw [hs 27 (by decide) (by decide), ht 17 (by decide)]; exact hlb l hl, by rw [hs 27 (by decide) (by decide)]; exact hlB⟩
  obtain ⟨a, b, c, d⟩ := hit j hj
  rw [hs 8 (by decide) (by decide), hs 9 (by decide) (by decide), ht 2 (by decide), ht 3 (by decide), h24, h7]
  by_cases q : j = i
  · subst q; rw [pk_us, pk_us]; exact ⟨a, b, rfl, Or.inr rfl⟩
  · rw [pk_un q, pk_un q]; exact ⟨a, b, c, d⟩
theorem cntE_upd {f : Nat → Int32} {v x : Int32} {n k : Nat} (h : k ≤ n) : cntE (upd f n x) v k = cntE f v k := cntE_congr (fun i hi => pk_un (by omega))
theorem cntE_upd1 {f : Nat → Int32} {v x : Int32} {n : Nat} : cntE (upd f n x) v (n + 1) = cntE f v n + (if x = v then 1 else 0) := by
  show cntE (upd f n x) v n + (if upd f n x n = v then 1 else 0) = _
  rw [cntE_upd (Nat.le_refl _), pk_us]
theorem BB_addC {σ τ : St} {m ni nc r : Nat} {v : Int32} (h : BB σ τ m ni nc) (hn : nc < 16) (hr : r < m) (h5 : σ 8 r = 5) : BB (addK_c σ nc v r) (si (sa (sa τ 10 nc v) 11 nc (nI r)) 49 (nI (nc + 1))) m ni (nc + 1) := by
  obtain ⟨hp, hq, hit, hre, hsi, hsc, h48, h49, hki, hkc, hg, hlb, hlB⟩ := h
  have hm := hp.1
  have hs : ∀ j, j ≠ 19 → j ≠ 20 → j ≠ 21 → j ≠ 22 → j ≠ 57 → addK_c σ nc v r j = σ j := fun j h1 h2 h3 h4 h5 => by unfold addK_c; rw [si_ne h5, sa_ne h4, sa_ne h3, sa_ne h2, sa_ne h1]
  have ht : ∀ j, j ≠ 10 → j ≠ 11 → j ≠ 49 → (si (sa (sa τ 10 nc v) 11 nc (nI r)) 49 (nI (nc + 1))) j = τ j := fun j h1 h2 h3 => by rw [si_ne h3, sa_ne h2, sa_ne h1]
  have s19 : addK_c σ nc v r 19 = upd (σ 19) nc v := by unfold addK_c; rw [si_ne (by decide), sa_ne (by decide), sa_ne (by decide), sa_ne (by decide), sa_at]
  have s20 : addK_c σ nc v r 20 = upd (σ 20) nc (nI r) := by unfold addK_c; rw [si_ne (by decide), sa_ne (by decide), sa_ne (by decide), sa_at, sa_ne (by decide)]
  have s21 : addK_c σ nc v r 21 = upd (σ 21) nc (σ 22 r) := by unfold addK_c; rw [si_ne (by decide), sa_ne (by decide), sa_at, sa_ne (by decide), sa_ne (by decide)]
  have s22 : addK_c σ nc v r 22 = upd (σ 22) r (σ 22 r + 1) := by unfold addK_c; rw [si_ne (by decide), sa_at, sa_ne (by decide), sa_ne (by decide), sa_ne (by decide)]
  have s57 : addK_c σ nc v r 57 0 = nI (nc + 1) := by unfold addK_c; rw [si_at]
  have t10 : (si (sa (sa τ 10 nc v) 11 nc (nI r)) 49 (nI (nc + 1))) 10 = upd (τ 10) nc v := by rw [si_ne (by decide), sa_ne (by decide), sa_at]
  have t11 : (si (sa (sa τ 10 nc v) 11 nc (nI r)) 49 (nI (nc + 1))) 11 = upd (τ 11) nc (nI r) := by rw [si_ne (by decide), sa_at, sa_ne (by decide)]
  have e8 := hs 8 (by decide) (by decide) (by decide) (by decide) (by decide)
  have e9 := hs 9 (by decide) (by decide) (by decide) (by decide) (by decide)
  have e14 := hs 14 (by decide) (by decide) (by decide) (by decide) (by decide)
  refine ⟨wfP_fr hp (hs 48 (by decide) (by decide) (by decide) (by decide) (by decide)) e8 e9, ⟨hq.1, by rw [ht 41 (by decide) (by decide) (by decide)]; exact hq.2.1, fun j hj => by rw [ht 2 (by decide) (by decide) (by decide), ht 3 (by decide) (by decide) (by decide)]; exact hq.2.2 j hj⟩, fun j hj => by rw [e8, e9, hs 24 (by decide) (by decide) (by decide) (by decide) (by decide), ht 2 (by decide) (by decide) (by decide), ht 3 (by decide) (by decide) (by decide), ht 7 (by decide) (by decide) (by decide)]; exact hit j hj, fun j hj => by rw [hs 10 (by decide) (by decide) (by decide) (by decide) (by decide), ht 4 (by decide) (by decide) (by decide)]; exact hre j hj, Sk_i_fr hsi (hs 56 (by decide) (by decide) (by decide) (by decide) (by decide)) e14, ⟨by omega, s57, fun k hk => ?_⟩, by rw [ht 48 (by decide) (by decide) (by decide)]; exact h48, si_at _ _ _ _, fun k hk => by rw [hs 13 (by decide) (by decide) (by decide) (by decide) (by decide), e14, hs 15 (by decide) (by decide) (by decide) (by decide) (by decide), e8, ht 8 (by decide) (by decide) (by decide), ht 9 (by decide) (by decide) (by decide)]; exact hki k hk, fun k hk => ?_, fun r' hr' => ?_, fun l hl => by rw [hs 27 (by decide) (by decide) (by decide) (by decide) (by decide), ht 17 (by decide) (by decide) (by decide)]; exact hlb l hl, by rw [hs 27 (by decide) (by decide) (by decide) (by decide) (by decide)]; exact hlB⟩
  · rw [s20]
    by_cases q : k = nc
    · subst q; rw [pk_us]; exact ⟨r, by omega, rfl⟩
    · rw [pk_un q]; exact hsc.2.2 k (by omega)
  · rw [s19, s20, s21, t10, t11, e8]
    by_cases q : k = nc
    · subst q
      rw [pk_us, pk_us, pk_us, pk_us, pk_us, cntE_upd (Nat.le_refl _)]
      exact ⟨rfl, rfl, ⟨r, hr, h5, rfl⟩, (hg r (by omega)).2⟩
    · rw [pk_un q, pk_un q, pk_un q, pk_un q, pk_un q, cntE_upd (by omega)]
      exact hkc k (by omega)
  · rw [hs 16 (by decide) (by decide) (by decide) (by decide) (by decide), e14, s22, s20, cntE_upd1]
    refine ⟨(hg r' hr').1, ?_⟩
    by_cases q : r' = r
    · subst q; rw [pk_us, if_pos rfl, (hg r' hr').2, nI_1]
    · rw [pk_un q, if_neg (fun e => q ((nI_eq (a := r) (b := r') (by omega) (by omega)).mp e).symm), (hg r' hr').2]; rfl
