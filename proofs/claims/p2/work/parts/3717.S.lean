/-! Laid alike, all go alike. -/
theorem aim_eq {σ τ : St} {m ni nc i : Nat} (h : LL σ τ m ni nc) (hi : i < m) : aimC σ ni nc i = aimM τ ni nc i := by
  obtain ⟨⟨hp, hq, hit, hre, hsi, hsc, h48, h49, hki, hkc, hg, hlb, hlB⟩, l25, b25, li, bi, lc, bc, le, l53, l52, lz⟩ := h
  have hni := hsi.1
  have hnc := hsc.1
  obtain ⟨k1, k2, k3, k4⟩ := hit i hi
  unfold aimC aimM aimV
  rw [k1, k2, k3, l25 i hi, hre 0 (by omega), hre 1 (by omega), hre 2 (by omega)]
  by_cases q1 : τ 2 i = 1
  · rw [if_pos q1, if_pos q1, conS_congr (nm := σ 19) (ad := ad_c σ) (nm' := τ 10) (ad' := τ 14) (by omega) (fun k hk => ⟨(hkc k hk).1, lc k hk⟩)]
    rcases conS_best (nm := τ 10) (ad := τ 14) (r2 := τ 4 2) (frm := τ 12 i) (v := τ 3 i) nc with e | ⟨j, hj, e⟩
    · rw [e, if_pos rfl, if_pos rfl]
    · rw [e, nI_clamp (by omega), lc j hj]
  · rw [if_neg q1, if_neg q1]
    by_cases q2 : τ 2 i = 2
    · obtain ⟨l, hl, el⟩ := wf_lab (hq.2.2 i hi) q2
      rw [if_pos q2, if_pos q2, el, nI_clamp (by omega), hlb l hl, aimL_congr (nm := σ 13) (ad := ad_i σ) (nm' := τ 8) (ad' := τ 13) (by omega) (fun k hk => ⟨(hki k hk).1, li k hk⟩)]
    · rw [if_neg q2, if_neg q2]
theorem iaim_eq {σ τ : St} {m ni nc k : Nat} (h : LL σ τ m ni nc) (hk : k < ni) : iaimC σ ni k = iaimM τ ni k := by
  obtain ⟨⟨hp, hq, hit, hre, hsi, hsc, h48, h49, hki, hkc, hg, hlb, hlB⟩, l25, b25, li, bi, lc, bc, le, l53, l52, lz⟩ := h
  have hni := hsi.1
  obtain ⟨k1, k2, ⟨l, hl, el⟩, _⟩ := hki k hk
  unfold iaimC iaimM
  rw [← k1, el, nI_clamp (by omega), hlb l hl, li k hk, hre 1 (by omega), aimL_congr (nm := σ 13) (ad := ad_i σ) (nm' := τ 8) (ad' := τ 13) (by omega) (fun k hk => ⟨(hki k hk).1, li k hk⟩)]
theorem LL_Mi {σ τ : St} {m ni nc : Nat} (h : LL σ τ m ni nc) : Mi τ ni := by
  obtain ⟨⟨hp, hq, hit, hre, hsi, hsc, h48, h49, hki, hkc, hg, hlb, hlB⟩, l25, b25, li, bi, lc, bc, le, l53, l52, lz⟩ := h
  exact ⟨hsi.1, h48, fun k hk => by rw [← li k hk]; exact bi k hk⟩
theorem LL_Mc {σ τ : St} {m ni nc : Nat} (h : LL σ τ m ni nc) : Mc τ nc := by
  obtain ⟨⟨hp, hq, hit, hre, hsi, hsc, h48, h49, hki, hkc, hg, hlb, hlB⟩, l25, b25, li, bi, lc, bc, le, l53, l52, lz⟩ := h
  exact ⟨hsc.1, h49, fun k hk => by rw [← lc k hk]; exact bc k hk⟩
theorem LL_B12 {σ τ : St} {m ni nc : Nat} (h : LL σ τ m ni nc) : Bd (τ 12) m := by
  obtain ⟨⟨hp, hq, hit, hre, hsi, hsc, h48, h49, hki, hkc, hg, hlb, hlB⟩, l25, b25, li, bi, lc, bc, le, l53, l52, lz⟩ := h
  exact fun k hk => by rw [← l25 k hk]; exact b25 k hk
theorem LL_B17 {σ τ : St} {m ni nc : Nat} (h : LL σ τ m ni nc) : Bd (τ 17) 8 := by
  obtain ⟨⟨hp, hq, hit, hre, hsi, hsc, h48, h49, hki, hkc, hg, hlb, hlB⟩, l25, b25, li, bi, lc, bc, le, l53, l52, lz⟩ := h
  exact fun k hk => by rw [← hlb k hk]; exact hlB k hk
