/-! A round, as far as its mending. -/
theorem LL_fr {σ s τ : St} {m ni nc : Nat} (hl : LL σ τ m ni nc) (h : ∀ j, j ≠ 28 → j ≠ 29 → s j = σ j) : LL s τ m ni nc := by
  obtain ⟨⟨hp, hq, hit, hre, hsi, hsc, h48, h49, hki, hkc, hg, hlb, hlB⟩, l25, b25, li, bi, lc, bc, le, l53, l52, lz⟩ := hl
  have ai : ad_i s = ad_i σ := ad_i_fr (h 17 (by decide) (by decide)) (h 14 (by decide) (by decide)) (h 15 (by decide) (by decide))
  have ac : ad_c s = ad_c σ := ad_c_fr (h 23 (by decide) (by decide)) (h 20 (by decide) (by decide)) (h 21 (by decide) (by decide))
  have ei : endI s = endI σ := by funext r; unfold endI; rw [h 17 (by decide) (by decide), h 16 (by decide) (by decide)]
  have s8 := h 8 (by decide) (by decide)
  have s9 := h 9 (by decide) (by decide)
  have s24 := h 24 (by decide) (by decide)
  refine ⟨⟨wfP_fr hp (h 48 (by decide) (by decide)) s8 s9, hq, fun i hi => by rw [s8, s9, s24]; exact hit i hi, fun i hi => by rw [h 10 (by decide) (by decide)]; exact hre i hi, Sk_i_fr hsi (h 56 (by decide) (by decide)) (h 14 (by decide) (by decide)), Sk_c_fr hsc (h 57 (by decide) (by decide)) (h 20 (by decide) (by decide)), h48, h49, fun k hk => by rw [h 13 (by decide) (by decide), h 14 (by decide) (by decide), h 15 (by decide) (by decide), s8]; exact hki k hk, fun k hk => by rw [h 19 (by decide) (by decide), h 20 (by decide) (by decide), h 21 (by decide) (by decide), s8]; exact hkc k hk, fun r hr => by rw [h 16 (by decide) (by decide), h 22 (by decide) (by decide), h 14 (by decide) (by decide), h 20 (by decide) (by decide)]; exact hg r hr, fun l hl => by rw [h 27 (by decide) (by decide)]; exact hlb l hl, by rw [h 27 (by decide) (by decide)]; exact hlB⟩,
    fun j hj => by rw [h 25 (by decide) (by decide)]; exact l25 j hj, by rw [h 25 (by decide) (by decide)]; exact b25, by rw [ai]; exact li, by rw [ai]; exact bi, by rw [ac]; exact lc, by rw [ac]; exact bc, fun r hr h5 => by rw [s8] at h5; rw [ei, h 23 (by decide) (by decide), h 22 (by decide) (by decide)]; exact le r hr h5, by rw [h 53 (by decide) (by decide)]; exact l53, by rw [h 52 (by decide) (by decide)]; exact l52, fun j hj => by rw [h 25 (by decide) (by decide), h 26 (by decide) (by decide), s8, s9, s24]; exact lz j hj⟩
/-- laid and aimed on both sides -/
theorem round_aims {σ τ : St} {m ni nc : Nat} (h : BB σ τ m ni nc) : ∃ s0 s1 s t, fX2_lay σ = some s0 ∧ fX2_aimItems s0 = some s1 ∧ fX2_aimIslands s1 = some s ∧ fX6_layAll τ = some t ∧ LL s t m ni nc ∧ (∀ j, j < m → s 28 j = aimM t ni nc j) ∧ (∀ k, k < ni → s 29 k = iaimM t ni k) ∧
    (∀ j, j ≠ 25 → j ≠ 26 → j ≠ 27 → j ≠ 17 → j ≠ 23 → j ≠ 53 → j ≠ 52 → j ≠ 28 → j ≠ 29 → s j = σ j) ∧ (∀ j, j ≠ 12 → j ≠ 17 → j ≠ 13 → j ≠ 14 → j ≠ 15 → j ≠ 16 → j ≠ 51 → j ≠ 50 → t j = τ j) := by
  obtain ⟨s0, t, a1, a2, hl, f, g⟩ := lay_both h
  obtain ⟨⟨hp, hq, hit, hre, hsi, hsc, h48, h49, hki, hkc, hg, hlb, hlB⟩, _⟩ := id hl
  obtain ⟨s1, b1, b2, b3⟩ := aimItems_eq hp hsi hsc
  have hsi1 : Sk_i s1 ni := Sk_i_fr hsi (b2 56 (by decide)) (b2 14 (by decide))
  obtain ⟨s, c1, c2, c3⟩ := aimIslands_eq hsi1 (fun k hk => by rw [b2 13 (by decide)]; exact (hki k hk).2.2.1)
  refine ⟨s0, s1, s, t, a1, b1, c1, a2, LL_fr hl (fun j h1 h2 => by rw [c2 j h2, b2 j h1]), fun j hj => by rw [c2 28 (by decide), b3 j hj, aim_eq hl hj], fun k hk => ?_, fun j h1 h2 h3 h4 h5 h6 h7 h8 h9 => by rw [c2 j h9, b2 j h8]; exact f j h1 h2 h3 h4 h5 h6 h7, g⟩
  rw [c3 k hk, ← iaim_eq hl hk]
  unfold iaimC
  rw [ad_i_fr (b2 17 (by decide)) (b2 14 (by decide)) (b2 15 (by decide)), b2 13 (by decide), b2 27 (by decide), b2 10 (by decide)]
/-- the first astray is the same -/
theorem first_eq {s t : St} {m ni nc : Nat} (hl : LL s t m ni nc) (ha : ∀ j, j < m → s 28 j = aimM t ni nc j) (kind lg : Int32) : fX2_firstAstray s kind lg = some (fstS (strM t ni nc kind lg) 0 m) ∧ fX6_firstStuck t kind lg = some (fstS (strM t ni nc kind lg) 0 m) := by
  obtain ⟨⟨hp, hq, hit, _⟩, _⟩ := id hl
  refine ⟨?_, stuckM_eq hq (LL_Mi hl) (LL_Mc hl) (LL_B12 hl) (LL_B17 hl)⟩
  rw [astrayC_eq hp]
  congr 1
  refine fstS_congr (fun j _ h2 => ?_)
  obtain ⟨k1, k2, k3, k4⟩ := hit j (by omega)
  have e : lgI (s 24 j) = t 7 j := by
    rw [k3]
    rcases k4 with q | q
    · rw [q]; rfl
    · rw [q]; rfl
  unfold strC strM
  rw [k1, e, ha j (by omega)]
theorem ifirst_eq {s t : St} {m ni nc : Nat} (hl : LL s t m ni nc) (ha : ∀ k, k < ni → s 29 k = iaimM t ni k) : fX2_firstIslandAstray s = some (fstS (istM t ni) 0 ni) ∧ fX6_firstStuckIsland t = some (fstS (istM t ni) 0 ni) := by
  obtain ⟨⟨hp, hq, hit, hre, hsi, hsc, h48, h49, hki, hkc, hg, hlb, hlB⟩, _⟩ := id hl
  refine ⟨?_, istuckM_eq (LL_Mi hl) (LL_B17 hl) (fun k hk => by rw [← (hki k hk).1]; exact (hki k hk).2.2.1)⟩
  rw [iastrayC_eq hsi]
  congr 1
  refine fstS_congr (fun j _ h2 => ?_)
  unfold istC istM
  rw [ha j (by omega)]
