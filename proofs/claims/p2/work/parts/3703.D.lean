/-! The whole page is gone along. -/
theorem ninth_next {t : St} {c : Nat} (h3 : t 45 0 = 3) (h4 : t 46 0 = nI 255) (hc : c < 127) : fX6_takes t (nI c) = some (0, t) := by
  unfold fX6_takes
  rw [h3, if_neg d_3_m, if_neg d_3_2, if_pos rfl]
  unfold fX6_takes_b30 fX6_takesLetter
  by_cases h : c < 65
  · rw [within_lo ((t_65_0 c hc).mpr h), bd1_s, if_pos rfl, bd2_s, ck_t (Or.inl rfl)]
  by_cases h' : 72 < c
  · rw [within_hi ((t_7_65 c hc).mpr h'), bd1_s, if_pos rfl, bd2_s, ck_t (Or.inl rfl)]
  rw [within_in (fun z => h ((t_65_0 c hc).mp z)) (fun z => h' ((t_7_65 c hc).mp z)), bd1_s, if_neg d_1_0, h3, if_pos rfl, h4, t_sub65 (by omega), t_all (c - 65) (by omega), if_pos rfl, bd2_s, ck_t (Or.inl rfl)]
def ReadOut (n : Nat) (p : Int32) (s : St) (q : Int32) (t : St) : Prop :=
  (p = nI n ∧ q = nI n ∧ ∃ m met want op, RR s t m met want op) ∨ ((∃ i, i < n ∧ p = nI i) ∧ ((∃ i, i < n ∧ q = nI i) ∨ (q = nI n ∧ t 45 0 = 3)))
theorem readC_end {σ : St} {n N : Nat} (h : σ 42 0 = nI n) : fX3_read_l24 (N + 1) σ (nI n) = some (nI n, σ) := by
  show fX3_read_s24 (fX3_read_l24 N) σ (nI n) = _
  unfold fX3_read_s24 fX1_length
  rw [h, bd1_s, if_pos (Int32.le_refl _), bd1_s]
theorem readC_step {σ : St} {n i N c : Nat} (h50 : n ≤ 50) (h : σ 42 0 = nI n) (hi : i < n) (hc : σ 2 i = nI c) : fX3_read_l24 (N + 1) σ (nI i) = bd2 (stepC σ (nI c)) (fun r s => fX3_read_b59 (fX3_read_l24 N) s (nI i) r) := by
  show fX3_read_s24 (fX3_read_l24 N) σ (nI i) = _
  unfold fX3_read_s24 stepC
  rw [letter_at h50 h hi, bd1_s, hc]
  unfold fX1_length
  rw [h, bd1_s, if_neg (nI_ge hi (by omega))]
  by_cases e : σ 43 0 = (-1 : Int32)
  · rw [if_pos e, if_pos e]
  · rw [if_neg e, if_neg e]
theorem readM_end {τ : St} {n N : Nat} (h : τ 40 0 = nI n) : fX6_goAlong_l22 (N + 1) τ (nI n) = some (nI n, τ) := by
  show fX6_goAlong_s22 (fX6_goAlong_l22 N) τ (nI n) = _
  unfold fX6_goAlong_s22
  rw [h, if_pos (Int32.le_refl _)]
theorem readM_step {τ : St} {n i N c : Nat} (h50 : n ≤ 50) (h : τ 40 0 = nI n) (hi : i < n) (hc : τ 1 i = nI c) : fX6_goAlong_l22 (N + 1) τ (nI i) = bd2 (fX6_takes τ (nI c)) (fun r s => if r = 0 then some (nI i, s) else fX6_goAlong_l22 N s (nI (i + 1))) := by
  show fX6_goAlong_s22 (fX6_goAlong_l22 N) τ (nI i) = _
  unfold fX6_goAlong_s22
  rw [h, if_neg (nI_ge hi (by omega)), ck_t (ckN (by omega) (by omega)), nI_clamp (by omega), hc, nI_1]
theorem read_loop {n : Nat} : ∀ (d i : Nat) (σ τ : St) (N M : Nat), i + d = n → d < N → d < M → RPg σ τ n → (∃ m met want op, RR σ τ m met want op) → ∃ p s q t, fX3_read_l24 N σ (nI i) = some (p, s) ∧ fX6_goAlong_l22 M τ (nI i) = some (q, t) ∧ frC σ s ∧ frM τ t ∧ ReadOut n p s q t := by
  intro d
  induction d with
  | zero =>
    intro i σ τ N M h hN hM hp hr
    obtain ⟨N, rfl⟩ : ∃ k, N = k + 1 := ⟨N - 1, by omega⟩
    obtain ⟨M, rfl⟩ : ∃ k, M = k + 1 := ⟨M - 1, by omega⟩
    have hi : i = n := by omega
    subst hi
    exact ⟨_, _, _, _, readC_end hp.2.1, readM_end hp.2.2.1, frC_rf, frM_rf, Or.inl ⟨rfl, rfl, hr⟩⟩
  | succ d ih =>
    intro i σ τ N M h hN hM hp hr
    obtain ⟨N, rfl⟩ : ∃ k, N = k + 1 := ⟨N - 1, by omega⟩
    obtain ⟨M, rfl⟩ : ∃ k, M = k + 1 := ⟨M - 1, by omega⟩
    have hi : i < n := by omega
    obtain ⟨h50, hs, ht, hl⟩ := id hp
    obtain ⟨hst, c, hc, hc2⟩ := hl i hi
    obtain ⟨m, met, want, op, hrr⟩ := hr
    rw [readC_step h50 hs hi hc2, readM_step h50 ht hi (by rw [← hst]; exact hc2)]
    rcases step_any hrr hc with ⟨s, t, n', met', want', op', a, b, r, f, g⟩ | ⟨s, t, a, b, f, g⟩ | ⟨s, t, a, b, f, g, u, v⟩
    · have hp' : RPg s t n := RPg_to hp (f 42 (by decide) (by decide) (by decide) (by decide) (by decide) (by decide) (by decide)) (f 2 (by decide) (by decide) (by decide) (by decide) (by decide) (by decide) (by decide)) (g 40 (by decide) (by decide) (by decide) (by decide) (by decide) (by decide)) (g 1 (by decide) (by decide) (by decide) (by decide) (by decide) (by decide))
      obtain ⟨p, s2, q, t2, e1, e2, f2, g2, out⟩ := ih (i + 1) s t N M (by omega) (by omega) (by omega) hp' ⟨n', met', want', op', r⟩
      refine ⟨p, s2, q, t2, ?_, ?_, f.tr f2, g.tr g2, out⟩
      · rw [a, bd2_s]; unfold fX3_read_b59; rw [if_neg d_1_0, nI_1]; exact e1
      · rw [b, bd2_s, if_neg d_1_0]; exact e2
    · refine ⟨nI i, s, nI i, t, ?_, ?_, f, g, Or.inr ⟨⟨i, hi, rfl⟩, Or.inl ⟨i, hi, rfl⟩⟩⟩
      · rw [a, bd2_s]; unfold fX3_read_b59; rw [if_pos rfl]
      · rw [b, bd2_s, if_pos rfl]
    · have ht' : t 40 0 = nI n := by rw [g 40 (by decide) (by decide) (by decide) (by decide) (by decide) (by decide)]; exact ht
      obtain ⟨M, rfl⟩ : ∃ k, M = k + 1 := ⟨M - 1, by omega⟩
      by_cases hn : i + 1 = n
      · refine ⟨nI i, s, nI n, t, ?_, ?_, f, g, Or.inr ⟨⟨i, hi, rfl⟩, Or.inr ⟨rfl, u⟩⟩⟩
        · rw [a, bd2_s]; unfold fX3_read_b59; rw [if_pos rfl]
        · rw [b, bd2_s, if_neg d_1_0, hn]; exact readM_end ht'
      · obtain ⟨hst2, c2, hcc, hc3⟩ := hl (i + 1) (by omega)
        refine ⟨nI i, s, nI (i + 1), t, ?_, ?_, f, g, Or.inr ⟨⟨i, hi, rfl⟩, Or.inl ⟨i + 1, by omega, rfl⟩⟩⟩
        · rw [a, bd2_s]; unfold fX3_read_b59; rw [if_pos rfl]
        · rw [b, bd2_s, if_neg d_1_0, readM_step h50 ht' (show i + 1 < n by omega) (c := c2) (by rw [g 1 (by decide) (by decide) (by decide) (by decide) (by decide) (by decide), ← hst2]; exact hc3), ninth_next u v hcc, bd2_s, if_pos rfl]
theorem eq_read {σ τ : St} {n : Nat} (h : RPg σ τ n) : ∃ p s q t, fX3_read σ = some (p, s) ∧ fX6_goAlong τ = some (q, t) ∧ frC σ s ∧ frM τ t ∧ ReadOut n p s q t := by
  have hn50 := h.1
  have f0 : frC σ (si (si (si (si (si σ 46 0) 47 0) 43 (-1)) 44 0) 45 0) := fun j h5 h6 h43 h44 h45 h46 h47 => by rw [si_ne h45, si_ne h44, si_ne h43, si_ne h47, si_ne h46]
  have g0 : frM τ (si (si (si (si τ 44 0) 45 (-1)) 46 0) 47 0) := fun j h5 h6 h44 h45 h46 h47 => by rw [si_ne h47, si_ne h46, si_ne h45, si_ne h44]
  have hp : RPg (si (si (si (si (si σ 46 0) 47 0) 43 (-1)) 44 0) 45 0) (si (si (si (si τ 44 0) 45 (-1)) 46 0) 47 0) n := RPg_to h (f0 42 (by decide) (by decide) (by decide) (by decide) (by decide) (by decide) (by decide)) (f0 2 (by decide) (by decide) (by decide) (by decide) (by decide) (by decide) (by decide)) (g0 40 (by decide) (by decide) (by decide) (by decide) (by decide) (by decide)) (g0 1 (by decide) (by decide) (by decide) (by decide) (by decide) (by decide))
  obtain ⟨p, s, q, t, e1, e2, f, g, out⟩ := read_loop n 0 _ _ FU FU (by omega) (by unfold FU; omega) (by unfold FU; omega) hp ⟨0, 0, 0, -1, ⟨by omega, rfl, rfl, fun i hi => absurd hi (Nat.not_lt_zero _), rfl, by omega, rfl, rfl, by omega, rfl, rfl⟩, rfl, rfl, Or.inl rfl⟩
  exact ⟨p, s, q, t, e1, e2, f0.tr f, g0.tr g, out⟩
