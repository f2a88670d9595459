/-! Placing: cleared, then round by round. -/
theorem clr_i_loop : ∀ (d i : Nat) (s : St) (N : Nat), i + d = 24 → d < N → (∀ j, j < i → s 16 j = 0 ∧ s 17 j = 0) → ∃ u, fX4_clear_i_l7 N s (nI i) = some u ∧ (∀ j, j < 24 → u 16 j = 0 ∧ u 17 j = 0) ∧ (∀ j, ¬ (j = 16 ∨ j = 17) → u j = s j) := by
  intro d
  induction d with
  | zero =>
    intro i s N h hN hc
    obtain ⟨N, rfl⟩ : ∃ k, N = k + 1 := ⟨N - 1, by omega⟩
    have hi : i = 24 := by omega
    subst hi
    refine ⟨s, ?_, hc, fun _ _ => rfl⟩
    show fX4_clear_i_s7 (fX4_clear_i_l7 N) s (nI 24) = _
    unfold fX4_clear_i_s7
    rw [if_pos (show (24 : Int32) ≤ nI 24 from by decide)]
  | succ d ih =>
    intro i s N h hN hc
    obtain ⟨N, rfl⟩ : ∃ k, N = k + 1 := ⟨N - 1, by omega⟩
    have hi : i < 24 := by omega
    obtain ⟨u, e1, e2, e3⟩ := ih (i + 1) (sa (sa s 16 i 0) 17 i 0) N (by omega) (by omega) (fun j hj => by
      rw [sa_at, sa_ne (show (16 : Nat) ≠ 17 by decide), sa_at, sa_ne (show (17 : Nat) ≠ 16 by decide)]
      by_cases e : j = i
      · subst e; rw [pk_us, pk_us]; exact ⟨rfl, rfl⟩
      · rw [pk_un e, pk_un e]; exact hc j (by omega))
    refine ⟨u, ?_, e2, fun j hj => by rw [e3 j hj, sa_ne (by omega), sa_ne (by omega)]⟩
    show fX4_clear_i_s7 (fX4_clear_i_l7 N) s (nI i) = _
    unfold fX4_clear_i_s7
    have c := ckN (i := i) (N := 24) hi (by omega)
    rw [if_neg (nI24 hi), ck_t c, ck_t c, nI_clamp (by omega), nI_1]
    exact e1
theorem clr_c_loop : ∀ (d i : Nat) (s : St) (N : Nat), i + d = 24 → d < N → (∀ j, j < i → s 22 j = 0 ∧ s 23 j = 0) → ∃ u, fX4_clear_c_l7 N s (nI i) = some u ∧ (∀ j, j < 24 → u 22 j = 0 ∧ u 23 j = 0) ∧ (∀ j, ¬ (j = 22 ∨ j = 23) → u j = s j) := by
  intro d
  induction d with
  | zero =>
    intro i s N h hN hc
    obtain ⟨N, rfl⟩ : ∃ k, N = k + 1 := ⟨N - 1, by omega⟩
    have hi : i = 24 := by omega
    subst hi
    refine ⟨s, ?_, hc, fun _ _ => rfl⟩
    show fX4_clear_c_s7 (fX4_clear_c_l7 N) s (nI 24) = _
    unfold fX4_clear_c_s7
    rw [if_pos (show (24 : Int32) ≤ nI 24 from by decide)]
  | succ d ih =>
    intro i s N h hN hc
    obtain ⟨N, rfl⟩ : ∃ k, N = k + 1 := ⟨N - 1, by omega⟩
    have hi : i < 24 := by omega
    obtain ⟨u, e1, e2, e3⟩ := ih (i + 1) (sa (sa s 22 i 0) 23 i 0) N (by omega) (by omega) (fun j hj => by
      rw [sa_at, sa_ne (show (22 : Nat) ≠ 23 by decide), sa_at, sa_ne (show (23 : Nat) ≠ 22 by decide)]
      by_cases e : j = i
      · subst e; rw [pk_us, pk_us]; exact ⟨rfl, rfl⟩
      · rw [pk_un e, pk_un e]; exact hc j (by omega))
    refine ⟨u, ?_, e2, fun j hj => by rw [e3 j hj, sa_ne (by omega), sa_ne (by omega)]⟩
    show fX4_clear_c_s7 (fX4_clear_c_l7 N) s (nI i) = _
    unfold fX4_clear_c_s7
    have c := ckN (i := i) (N := 24) hi (by omega)
    rw [if_neg (nI24 hi), ck_t c, ck_t c, nI_clamp (by omega), nI_1]
    exact e1
theorem clr_l_loop : ∀ (d i : Nat) (s : St) (N : Nat), i + d = 24 → d < N → (∀ j, j < i → s 24 j = 0) → ∃ u, fX2_clear_l16 N s (nI i) = some (si (si (si (si (si (si u 50 0) 51 0) 52 0) 53 0) 54 0) 55 (-1)) ∧ (∀ j, j < 24 → u 24 j = 0) ∧ (∀ j, j ≠ 24 → u j = s j) := by
  intro d
  induction d with
  | zero =>
    intro i s N h hN hc
    obtain ⟨N, rfl⟩ : ∃ k, N = k + 1 := ⟨N - 1, by omega⟩
    have hi : i = 24 := by omega
    subst hi
    refine ⟨s, ?_, hc, fun _ _ => rfl⟩
    show fX2_clear_s16 (fX2_clear_l16 N) s (nI 24) = _
    unfold fX2_clear_s16
    rw [if_pos (show (24 : Int32) ≤ nI 24 from by decide)]
  | succ d ih =>
    intro i s N h hN hc
    obtain ⟨N, rfl⟩ : ∃ k, N = k + 1 := ⟨N - 1, by omega⟩
    have hi : i < 24 := by omega
    obtain ⟨u, e1, e2, e3⟩ := ih (i + 1) (sa s 24 i 0) N (by omega) (by omega) (fun j hj => by
      rw [sa_at]
      by_cases e : j = i
      · subst e; rw [pk_us]
      · rw [pk_un e]; exact hc j (by omega))
    refine ⟨u, ?_, e2, fun j hj => by rw [e3 j hj, sa_ne hj]⟩
    show fX2_clear_s16 (fX2_clear_l16 N) s (nI i) = _
    unfold fX2_clear_s16
    rw [if_neg (nI24 hi), ck_t (ckN (i := i) (N := 24) hi (by omega)), nI_clamp (by omega), nI_1]
    exact e1
theorem clear_eq (σ : St) : ∃ u, fX2_clear σ = some u ∧ (∀ j, j < 24 → u 16 j = 0 ∧ u 22 j = 0 ∧ u 24 j = 0) ∧ u 56 0 = 0 ∧ u 57 0 = 0 ∧ u 50 0 = 0 ∧ u 51 0 = 0 ∧ u 52 0 = 0 ∧ u 53 0 = 0 ∧ u 54 0 = 0 ∧ u 55 0 = -1 ∧ (∀ j, ¬ (j = 16 ∨ j = 17 ∨ j = 22 ∨ j = 23 ∨ j = 24 ∨ (50 ≤ j ∧ j ≤ 57)) → u j = σ j) := by
  obtain ⟨u1, a1, a2, a3⟩ := clr_i_loop 24 0 (si σ 56 0) FU (by omega) (by unfold FU; omega) (fun j hj => absurd hj (Nat.not_lt_zero _))
  obtain ⟨u2, b1, b2, b3⟩ := clr_c_loop 24 0 (si u1 57 0) FU (by omega) (by unfold FU; omega) (fun j hj => absurd hj (Nat.not_lt_zero _))
  obtain ⟨u3, c1, c2, c3⟩ := clr_l_loop 24 0 u2 FU (by omega) (by unfold FU; omega) (fun j hj => absurd hj (Nat.not_lt_zero _))
  have f : ∀ j, ¬ (50 ≤ j ∧ j ≤ 55) → (si (si (si (si (si (si u3 50 0) 51 0) 52 0) 53 0) 54 0) 55 (-1)) j = u3 j := fun j h => by rw [si_ne (by omega), si_ne (by omega), si_ne (by omega), si_ne (by omega), si_ne (by omega), si_ne (by omega)]
  refine ⟨si (si (si (si (si (si u3 50 0) 51 0) 52 0) 53 0) 54 0) 55 (-1), ?_, fun j hj => ⟨?_, ?_, ?_⟩, ?_, ?_, ?_, ?_, ?_, ?_, ?_, ?_, fun j hj => ?_⟩
  · unfold fX2_clear fX4_clear_i fX4_clear_c
    rw [show fX4_clear_i_l7 FU (si σ 56 0) 0 = some u1 from a1, bd1_s, show fX4_clear_c_l7 FU (si u1 57 0) 0 = some u2 from b1, bd1_s]
    exact c1
  · rw [f 16 (by decide), c3 16 (by decide), b3 16 (by decide), si_ne (by decide)]; exact (a2 j hj).1
  · rw [f 22 (by decide), c3 22 (by decide)]; exact (b2 j hj).1
  · rw [f 24 (by decide)]; exact c2 j hj
  · rw [f 56 (by decide), c3 56 (by decide), b3 56 (by decide), si_ne (by decide), a3 56 (by decide), si_at]
  · rw [f 57 (by decide), c3 57 (by decide), b3 57 (by decide), si_at]
  · rw [si_ne (by decide), si_ne (by decide), si_ne (by decide), si_ne (by decide), si_ne (by decide), si_at]
  · rw [si_ne (by decide), si_ne (by decide), si_ne (by decide), si_ne (by decide), si_at]
  · rw [si_ne (by decide), si_ne (by decide), si_ne (by decide), si_at]
  · rw [si_ne (by decide), si_ne (by decide), si_at]
  · rw [si_ne (by decide), si_at]
  · rw [si_at]
  · rw [f j (by omega), c3 j (by omega), b3 j (by omega), si_ne (by omega), a3 j (by omega), si_ne (by omega)]
theorem plM_loop {m : Nat} (h24 : m ≤ 24) : ∀ (d i : Nat) (t : St) (N : Nat), i + d = m → d < N → t 41 0 = nI m → (∀ j, j < i → t 7 j = 0) → ∃ v, fX6_placeAll_l32 N t (nI i) = (if m = 0 then fX6_placeAll_l66 FU v 0 else fX6_placeAll_l66 FU v 1) ∧ (∀ j, j < m → v 7 j = 0) ∧ (∀ j, j ≠ 7 → v j = t j) := by
  intro d
  induction d with
  | zero =>
    intro i t N h hN h41 hc
    obtain ⟨N, rfl⟩ : ∃ k, N = k + 1 := ⟨N - 1, by omega⟩
    have hi : i = m := by omega
    subst hi
    refine ⟨t, ?_, hc, fun _ _ => rfl⟩
    show fX6_placeAll_s32 (fX6_placeAll_l32 N) t (nI i) = _
    unfold fX6_placeAll_s32
    rw [h41, if_pos (Int32.le_refl _)]
    by_cases q : i = 0
    · subst q; rw [if_pos (show nI 0 ≤ (0 : Int32) from by decide), if_pos rfl]
    · rw [if_neg (nI_nle (by omega) (by omega)), if_neg q]
  | succ d ih =>
    intro i t N h hN h41 hc
    obtain ⟨N, rfl⟩ : ∃ k, N = k + 1 := ⟨N - 1, by omega⟩
    have hi : i < m := by omega
    obtain ⟨v, e1, e2, e3⟩ := ih (i + 1) (sa t 7 i 0) N (by omega) (by omega) (by rw [sa_ne (by decide)]; exact h41) (fun j hj => by
      rw [sa_at]
      by_cases e : j = i
      · subst e; rw [pk_us]
      · rw [pk_un e]; exact hc j (by omega))
    refine ⟨v, ?_, e2, fun j hj => by rw [e3 j hj, sa_ne hj]⟩
    show fX6_placeAll_s32 (fX6_placeAll_l32 N) t (nI i) = _
    unfold fX6_placeAll_s32
    rw [h41, if_neg (nI_ge hi (by omega)), ck_t (ckN (i := i) (N := 24) (by omega) (by omega)), nI_clamp (by omega), nI_1]
    exact e1
/-- other cells may change -/
theorem BB_to {σ τ s t : St} {m ni nc : Nat} (hb : BB σ τ m ni nc) (h : ∀ j, ((8 ≤ j ∧ j ≤ 27) ∨ j = 48 ∨ j = 56 ∨ j = 57) → s j = σ j) (g : ∀ j, ((2 ≤ j ∧ j ≤ 4) ∨ (7 ≤ j ∧ j ≤ 17) ∨ j = 41 ∨ j = 48 ∨ j = 49) → t j = τ j) : BB s t m ni nc := by
  obtain ⟨hp, hq, hit, hre, hsi, hsc, h48, h49, hki, hkc, hg, hlb, hlB⟩ := hb
  exact ⟨wfP_fr hp (h 48 (by decide)) (h 8 (by decide)) (h 9 (by decide)), ⟨hq.1, by rw [g 41 (by decide)]; exact hq.2.1, fun i hi => by rw [g 2 (by decide), g 3 (by decide)]; exact hq.2.2 i hi⟩, fun i hi => by rw [h 8 (by decide), h 9 (by decide), h 24 (by decide), g 2 (by decide), g 3 (by decide), g 7 (by decide)]; exact hit i hi, fun i hi => by rw [h 10 (by decide), g 4 (by decide)]; exact hre i hi, Sk_i_fr hsi (h 56 (by decide)) (h 14 (by decide)), Sk_c_fr hsc (h 57 (by decide)) (h 20 (by decide)), by rw [g 48 (by decide)]; exact h48, by rw [g 49 (by decide)]; exact h49, fun k hk => by rw [h 13 (by decide), h 14 (by decide), h 15 (by decide), h 8 (by decide), g 8 (by decide), g 9 (by decide)]; exact hki k hk, fun k hk => by rw [h 19 (by decide), h 20 (by decide), h 21 (by decide), h 8 (by decide), g 10 (by decide), g 11 (by decide)]; exact hkc k hk, fun r hr => by rw [h 16 (by decide), h 22 (by decide), h 14 (by decide), h 20 (by decide)]; exact hg r hr, fun l hl => by rw [h 27 (by decide), g 17 (by decide)]; exact hlb l hl, by rw [h 27 (by decide)]; exact hlB⟩
theorem LL_to {σ τ s t : St} {m ni nc : Nat} (hl : LL σ τ m ni nc) (h : ∀ j, ((8 ≤ j ∧ j ≤ 27) ∨ j = 48 ∨ j = 52 ∨ j = 53 ∨ j = 56 ∨ j = 57) → s j = σ j) (g : ∀ j, ((2 ≤ j ∧ j ≤ 4) ∨ (7 ≤ j ∧ j ≤ 17) ∨ j = 41 ∨ (48 ≤ j ∧ j ≤ 51)) → t j = τ j) : LL s t m ni nc := by
  obtain ⟨hb, l25, b25, li, bi, lc, bc, le, l53, l52, lz⟩ := hl
  have ai : ad_i s = ad_i σ := ad_i_fr (h 17 (by decide)) (h 14 (by decide)) (h 15 (by decide))
  have ac : ad_c s = ad_c σ := ad_c_fr (h 23 (by decide)) (h 20 (by decide)) (h 21 (by decide))
  have ei : endI s = endI σ := by funext r; unfold endI; rw [h 17 (by decide), h 16 (by decide)]
  have s8 := h 8 (by decide)
  exact ⟨BB_to hb (fun j hj => h j (by omega)) (fun j hj => g j (by omega)), fun j hj => by rw [h 25 (by decide), g 12 (by decide)]; exact l25 j hj, by rw [h 25 (by decide)]; exact b25, fun k hk => by rw [ai, g 13 (by decide)]; exact li k hk, by rw [ai]; exact bi, fun k hk => by rw [ac, g 14 (by decide)]; exact lc k hk, by rw [ac]; exact bc, fun r hr h5 => by rw [s8] at h5; rw [ei, h 23 (by decide), h 22 (by decide), g 15 (by decide), g 16 (by decide)]; exact le r hr h5, by rw [h 53 (by decide), g 51 (by decide)]; exact l53, by rw [h 52 (by decide), g 50 (by decide)]; exact l52, fun j hj => by rw [h 25 (by decide), h 26 (by decide), s8, h 9 (by decide), h 24 (by decide)]; exact lz j hj⟩
theorem aimM_to {τ t : St} {ni nc : Nat} (g : ∀ j, ((2 ≤ j ∧ j ≤ 4) ∨ (7 ≤ j ∧ j ≤ 17)) → t j = τ j) (i : Nat) : aimM t ni nc i = aimM τ ni nc i := by
  unfold aimM
  rw [g 2 (by decide), g 3 (by decide), g 7 (by decide), g 12 (by decide), g 17 (by decide), g 4 (by decide), g 8 (by decide), g 13 (by decide), g 10 (by decide), g 14 (by decide)]
theorem iaimM_to {τ t : St} {ni : Nat} (g : ∀ j, ((2 ≤ j ∧ j ≤ 4) ∨ (7 ≤ j ∧ j ≤ 17)) → t j = τ j) (k : Nat) : iaimM t ni k = iaimM τ ni k := by
  unfold iaimM
  rw [g 8 (by decide), g 13 (by decide), g 17 (by decide), g 4 (by decide)]
/-- placed: all is laid in the end, and what is told of it is the same -/
def Pla (u v : St) (m ni nc : Nat) : Prop := LL u v m ni nc ∧ (∀ j k, j < nc → k < nc → ad_c u j = ad_c u k → j = k) ∧ (∀ j, j < m → u 28 j = aimM v ni nc j) ∧ (∀ k, k < ni → u 29 k = iaimM v ni k) ∧ u 50 0 = nI (cntE (v 7) 1 m) ∧ u 51 0 = v 52 0 ∧ u 54 0 = v 54 0 ∧ u 55 0 = v 55 0 ∧ v 53 0 = (if u 54 0 = 0 then 1 else 0) ∧ (m = 0 → u 52 0 = 0 ∧ u 53 0 = 0)
theorem Pla_to {σ τ s t : St} {m ni nc : Nat} (hp : Pla σ τ m ni nc) (h : ∀ j, ((8 ≤ j ∧ j ≤ 29) ∨ 48 ≤ j) → s j = σ j) (g : ∀ j, ((2 ≤ j ∧ j ≤ 4) ∨ (7 ≤ j ∧ j ≤ 17) ∨ j = 41 ∨ 48 ≤ j) → t j = τ j) : Pla s t m ni nc := by
  obtain ⟨hl, hi, ha, hia, h50, h51, h54, h55, h53, h0⟩ := hp
  have ac : ad_c s = ad_c σ := ad_c_fr (h 23 (by decide)) (h 20 (by decide)) (h 21 (by decide))
  exact ⟨LL_to hl (fun j hj => h j (by omega)) (fun j hj => g j (by omega)), by rw [ac]; exact hi, fun j hj => by rw [h 28 (by decide), aimM_to (fun j hj => g j (by omega))]; exact ha j hj, fun k hk => by rw [h 29 (by decide), iaimM_to (fun j hj => g j (by omega))]; exact hia k hk, by rw [h 50 (by decide), g 7 (by decide)]; exact h50, by rw [h 51 (by decide), g 52 (by decide)]; exact h51, by rw [h 54 (by decide), g 54 (by decide)]; exact h54, by rw [h 55 (by decide), g 55 (by decide)]; exact h55, by rw [h 54 (by decide), g 53 (by decide)]; exact h53, by rw [h 52 (by decide), h 53 (by decide)]; exact h0⟩
/-- a round, with all that is known of it -/
theorem round_all {σ τ : St} {m ni nc : Nat} (h : BB σ τ m ni nc) : ∃ s0 s1 s t, fX2_lay σ = some s0 ∧ fX2_aimItems s0 = some s1 ∧ fX2_aimIslands s1 = some s ∧ fX6_layAll τ = some t ∧ LL s t m ni nc ∧ LX s t m nc ∧ (∀ j, j < m → s 28 j = aimM t ni nc j) ∧ (∀ k, k < ni → s 29 k = iaimM t ni k) ∧
    (∀ j, ¬ (j = 25 ∨ j = 26 ∨ j = 27 ∨ j = 17 ∨ j = 23 ∨ j = 53 ∨ j = 52 ∨ j = 28 ∨ j = 29) → s j = σ j) ∧ (∀ j, ¬ ((12 ≤ j ∧ j ≤ 17) ∨ j = 51 ∨ j = 50) → t j = τ j) := by
  obtain ⟨s0, s1, s, t, e1, e2, e3, e4, r1, r2, r3, r4, r5⟩ := round_aims h
  obtain ⟨s0', t', a1, a2, hl, f, g⟩ := lay_both h
  have q0 := Option.some.inj (a1.symm.trans e1)
  subst q0
  have q1 := Option.some.inj (a2.symm.trans e4)
  subst q1
  have hx := lay_more h a1 a2
  obtain ⟨⟨hp, hq, hit, hre, hsi, hsc, h48, h49, hki, hkc, hg, hlb, hlB⟩, _⟩ := id hl
  obtain ⟨s1', b1, b2, b3⟩ := aimItems_eq hp hsi hsc
  have q2 := Option.some.inj (b1.symm.trans e2)
  subst q2
  have hsi1 : Sk_i s1' ni := Sk_i_fr hsi (b2 56 (by decide)) (b2 14 (by decide))
  obtain ⟨s', c1, c2, c3⟩ := aimIslands_eq hsi1 (fun k hk => by rw [b2 13 (by decide)]; exact (hki k hk).2.2.1)
  have q3 := Option.some.inj (c1.symm.trans e3)
  subst q3
  have hf : ∀ j, j ≠ 28 → j ≠ 29 → s' j = s0' j := fun j h1 h2 => by rw [c2 j h2, b2 j h1]
  have ac : ad_c s' = ad_c s0' := ad_c_fr (hf 23 (by decide) (by decide)) (hf 20 (by decide) (by decide)) (hf 21 (by decide) (by decide))
  refine ⟨s0', s1', s', t', e1, e2, e3, e4, r1, ⟨fun i r h1 h2 h3 => ?_, ?_⟩, r2, r3, fun j hj => r4 j (by omega) (by omega) (by omega) (by omega) (by omega) (by omega) (by omega) (by omega) (by omega), fun j hj => r5 j (by omega) (by omega) (by omega) (by omega) (by omega) (by omega) (by omega) (by omega)⟩
  · rw [hf 8 (by decide) (by decide)] at h3
    rw [hf 25 (by decide) (by decide)]
    exact hx.1 i r h1 h2 h3
  · rw [ac]; exact hx.2
theorem rounds_loop {m : Nat} (hm0 : 0 < m) : ∀ (d k ni nc : Nat) (σ τ : St) (N M : Nat), k + d = 53 → d < N → d < M → BB σ τ m ni nc → σ 50 0 = nI (cntE (τ 7) 1 m) → cntE (τ 7) 1 m + ni + nc = k → σ 51 0 = nI k → τ 52 0 = nI k → σ 54 0 = 0 → τ 54 0 = 0 → σ 55 0 = -1 → τ 55 0 = -1 → τ 53 0 = 1 →
    ∃ u v, fX2_placeAll_l17 N σ 1 = some u ∧ fX6_placeAll_l66 M τ 1 = some v ∧ (∃ ni nc, Pla u v m ni nc) ∧ (∀ j, ¬ ((13 ≤ j ∧ j ≤ 29) ∨ (50 ≤ j ∧ j ≤ 57)) → u j = σ j) ∧ (∀ j, ¬ ((7 ≤ j ∧ j ≤ 17) ∨ (48 ≤ j ∧ j ≤ 55)) → v j = τ j) := by
  intro d
  induction d with
  | zero =>
    intro k ni nc σ τ N M h hN hM hb h50 hk
    have h1 := hb.1.1
    have h2 := hb.2.2.2.2.1.1
    have h3 := hb.2.2.2.2.2.1.1
    have h4 := cntE_le (f := τ 7) (v := 1) (n := m)
    omega
  | succ d ih =>
    intro k ni nc σ τ N M h hN hM hb h50 hk h51 g52 h54 g54 h55 g55 g53
    obtain ⟨N, rfl⟩ : ∃ k, N = k + 1 := ⟨N - 1, by omega⟩
    obtain ⟨M, rfl⟩ : ∃ k, M = k + 1 := ⟨M - 1, by omega⟩
    have h1 := hb.1.1
    have h2 := hb.2.2.2.2.1.1
    have h3 := hb.2.2.2.2.2.1.1
    have h4 := cntE_le (f := τ 7) (v := 1) (n := m)
    have hb' : BB (si σ 51 (σ 51 0 + 1)) (si τ 52 (τ 52 0 + 1)) m ni nc := BB_to hb (fun j hj => si_ne (by omega)) (fun j hj => si_ne (by omega))
    obtain ⟨s0, s1, s, t, a1, a2, a3, b1, hl, hx, ha, hia, f, g⟩ := round_all hb'
    have t7 : t 7 = τ 7 := by rw [g 7 (by decide), si_ne (by decide)]
    have s50 : s 50 0 = nI (cntE (t 7) 1 m) := by rw [f 50 (by decide), si_ne (by decide), t7]; exact h50
    have s51 : s 51 0 = nI (k + 1) := by rw [f 51 (by decide), si_at, h51, nI_1]
    have t52 : t 52 0 = nI (k + 1) := by rw [g 52 (by decide), si_at, g52, nI_1]
    have s54 : s 54 0 = 0 := by rw [f 54 (by decide), si_ne (by decide)]; exact h54
    have t54 : t 54 0 = 0 := by rw [g 54 (by decide), si_ne (by decide)]; exact g54
    have s55 : s 55 0 = -1 := by rw [f 55 (by decide), si_ne (by decide)]; exact h55
    have t55 : t 55 0 = -1 := by rw [g 55 (by decide), si_ne (by decide)]; exact g55
    have t53 : t 53 0 = 1 := by rw [g 53 (by decide), si_ne (by decide)]; exact g53
    have fs : ∀ j, ¬ ((13 ≤ j ∧ j ≤ 29) ∨ (50 ≤ j ∧ j ≤ 57)) → s j = σ j := fun j hj => by rw [f j (by omega), si_ne (by omega)]
    have ft : ∀ j, ¬ ((7 ≤ j ∧ j ≤ 17) ∨ (48 ≤ j ∧ j ≤ 55)) → t j = τ j := fun j hj => by rw [g j (by omega), si_ne (by omega)]
    have n53 : ¬ (53 : Int32) ≤ σ 51 0 := by rw [h51]; exact nI_ge (a := k) (b := 53) (by omega) (by omega)
    rcases mend_both hl hx ha hia s50 with ⟨u, v, m1, m2, ni', nc', hbb, u50, hcn, kc, km⟩ | ⟨u, v, m1, m2, hu, hv, hc⟩
    · obtain ⟨u', v', p1, p2, p3, p4, p5⟩ := ih (k + 1) ni' nc' u v N M (by omega) (by omega) (by omega) hbb u50 (by rw [t7] at hcn; omega) (by rw [kc 51 (by decide)]; exact s51) (by rw [km 52 (by decide)]; exact t52) (by rw [kc 54 (by decide)]; exact s54) (by rw [km 54 (by decide)]; exact t54) (by rw [kc 55 (by decide)]; exact s55) (by rw [km 55 (by decide)]; exact t55) (by rw [km 53 (by decide)]; exact t53)
      refine ⟨u', v', ?_, ?_, p3, fun j hj => by rw [p4 j hj, kc j (by omega), fs j hj], fun j hj => by rw [p5 j hj, km j (by omega), ft j hj]⟩
      · show fX2_placeAll_s17 (fX2_placeAll_l17 N) σ 1 = _
        unfold fX2_placeAll_s17
        rw [if_neg d_1_0, if_neg n53, a1, bd1_s, a2, bd1_s, a3, bd1_s, m1, bd2_s]
        exact p1
      · show fX6_placeAll_s66 (fX6_placeAll_l66 M) τ 1 = _
        unfold fX6_placeAll_s66
        rw [if_neg d_1_0, b1, bd1_s, m2, bd2_s]
        exact p2
    · obtain ⟨N, rfl⟩ : ∃ k, N = k + 1 := ⟨N - 1, by omega⟩
      obtain ⟨M, rfl⟩ : ∃ k, M = k + 1 := ⟨M - 1, by omega⟩
      have ac : ad_c u = ad_c s := ad_c_fr (hu 23 (by decide)) (hu 20 (by decide)) (hu 21 (by decide))
      have h45 : u 54 0 = v 54 0 ∧ u 55 0 = v 55 0 ∧ v 53 0 = (if u 54 0 = 0 then 1 else 0) := by
        rcases hc with ⟨rfl, rfl⟩ | ⟨w, x, hw, c1, c2, c3, c4, c5⟩
        · exact ⟨by rw [s54, t54], by rw [s55, t55], by rw [s54, t53, if_pos rfl]⟩
        · exact ⟨by rw [c1, c2], by rw [c3, c4], by rw [c1, c5, if_neg hw]⟩
      refine ⟨u, v, ?_, ?_, ⟨ni, nc, LL_to hl (fun j hj => hu j (by omega)) (fun j hj => hv j (by omega)), by rw [ac]; exact hx.2, fun j hj => by rw [hu 28 (by decide), aimM_to (fun j hj => hv j (by omega))]; exact ha j hj, fun k hk => by rw [hu 29 (by decide), iaimM_to (fun j hj => hv j (by omega))]; exact hia k hk, by rw [hu 50 (by decide), hv 7 (by decide)]; exact s50, by rw [hu 51 (by decide), hv 52 (by decide), s51, t52], h45.1, h45.2.1, h45.2.2, fun z => absurd z (by omega)⟩, fun j hj => by rw [hu j (by omega), fs j hj], fun j hj => by rw [hv j (by omega), ft j hj]⟩
      · show fX2_placeAll_s17 (fX2_placeAll_l17 (N + 1)) σ 1 = _
        unfold fX2_placeAll_s17
        rw [if_neg d_1_0, if_neg n53, a1, bd1_s, a2, bd1_s, a3, bd1_s, m1, bd2_s]
        show fX2_placeAll_s17 (fX2_placeAll_l17 N) u 0 = _
        unfold fX2_placeAll_s17
        rw [if_pos rfl]
      · show fX6_placeAll_s66 (fX6_placeAll_l66 (M + 1)) τ 1 = _
        unfold fX6_placeAll_s66
        rw [if_neg d_1_0, b1, bd1_s, m2, bd2_s]
        show fX6_placeAll_s66 (fX6_placeAll_l66 M) v 0 = _
        unfold fX6_placeAll_s66
        rw [if_pos rfl]
/-- placeAll: both come to the same end -/
theorem place_both {σ τ : St} {m : Nat} (hpr : RPr σ τ m) (hre : ∀ i, i < 3 → σ 10 i = τ 4 i) (hlb : ∀ l, l < 8 → σ 27 l = τ 17 l) (hlB : Bd (σ 27) 8) (h0 : m = 0 → τ 50 0 = 0 ∧ τ 51 0 = 0) :
    ∃ u v, fX2_placeAll σ = some u ∧ fX6_placeAll τ = some v ∧ (∃ ni nc, Pla u v m ni nc) ∧ (∀ j, ¬ ((13 ≤ j ∧ j ≤ 29) ∨ (50 ≤ j ∧ j ≤ 57)) → u j = σ j) ∧ (∀ j, ¬ ((7 ≤ j ∧ j ≤ 17) ∨ (48 ≤ j ∧ j ≤ 55)) → v j = τ j) := by
  obtain ⟨h24, hs, ht, hit, hgp⟩ := hpr
  obtain ⟨u, a1, a2, a56, a57, a50, a51, a52, a53, a54, a55, af⟩ := clear_eq σ
  have bt : ∀ j, ¬ (j = 48 ∨ j = 49 ∨ (52 ≤ j ∧ j ≤ 55)) → (si (si (si (si (si (si τ 48 0) 49 0) 52 0) 53 1) 54 0) 55 (-1)) j = τ j := fun j hj => by rw [si_ne (by omega), si_ne (by omega), si_ne (by omega), si_ne (by omega), si_ne (by omega), si_ne (by omega)]
  obtain ⟨v, b1, b7, bf⟩ := plM_loop h24 m 0 (si (si (si (si (si (si τ 48 0) 49 0) 52 0) 53 1) 54 0) 55 (-1)) FU (by omega) (by unfold FU; omega) (by rw [bt 41 (by decide)]; exact ht) (fun j hj => absurd hj (Nat.not_lt_zero _))
  have vf : ∀ j, ¬ (j = 7 ∨ j = 48 ∨ j = 49 ∨ (52 ≤ j ∧ j ≤ 55)) → v j = τ j := fun j hj => by rw [bf j (by omega), bt j (by omega)]
  have v48 : v 48 0 = 0 := by rw [bf 48 (by decide), si_ne (by decide), si_ne (by decide), si_ne (by decide), si_ne (by decide), si_ne (by decide), si_at]
  have v49 : v 49 0 = 0 := by rw [bf 49 (by decide), si_ne (by decide), si_ne (by decide), si_ne (by decide), si_ne (by decide), si_at]
  have v52 : v 52 0 = 0 := by rw [bf 52 (by decide), si_ne (by decide), si_ne (by decide), si_ne (by decide), si_at]
  have v53 : v 53 0 = 1 := by rw [bf 53 (by decide), si_ne (by decide), si_ne (by decide), si_at]
  have v54 : v 54 0 = 0 := by rw [bf 54 (by decide), si_ne (by decide), si_at]
  have v55 : v 55 0 = -1 := by rw [bf 55 (by decide), si_at]
  have hb : BB u v m 0 0 := by
    refine ⟨⟨h24, by rw [af 48 (by decide)]; exact hs, fun i hi => by rw [af 8 (by decide), af 9 (by decide)]; exact (hit i hi).2.2⟩, ⟨h24, by rw [vf 41 (by decide)]; exact ht, fun i hi => by rw [vf 2 (by decide), vf 3 (by decide), ← (hit i hi).1, ← (hit i hi).2.1]; exact (hit i hi).2.2⟩, fun i hi => ⟨by rw [af 8 (by decide), vf 2 (by decide)]; exact (hit i hi).1, by rw [af 9 (by decide), vf 3 (by decide)]; exact (hit i hi).2.1, by rw [(a2 i (by omega)).2.2, b7 i hi], Or.inl (b7 i hi)⟩, fun i hi => by rw [af 10 (by decide), vf 4 (by decide)]; exact hre i hi, ⟨by omega, by rw [a56]; rfl, fun k hk => absurd hk (Nat.not_lt_zero _)⟩, ⟨by omega, by rw [a57]; rfl, fun k hk => absurd hk (Nat.not_lt_zero _)⟩, by rw [v48]; rfl, by rw [v49]; rfl, fun k hk => absurd hk (Nat.not_lt_zero _), fun k hk => absurd hk (Nat.not_lt_zero _), fun r hr => ⟨by rw [(a2 r hr).1]; rfl, by rw [(a2 r hr).2.1]; rfl⟩, fun l hl => by rw [af 27 (by decide), vf 17 (by decide)]; exact hlb l hl, by rw [af 27 (by decide)]; exact hlB⟩
  have e7 : cntE (v 7) 1 m = 0 := by
    have hz : ∀ n, n ≤ m → cntE (v 7) 1 n = 0 := by
      intro n
      induction n with
      | zero => intro _; rfl
      | succ n ih =>
        intro hn
        show cntE (v 7) 1 n + (if v 7 n = 1 then 1 else 0) = 0
        rw [ih (by omega), b7 n (by omega), if_neg d_0_1]
    exact hz m (Nat.le_refl _)
  have hsz : fX0_size_p u = some (nI m) := by unfold fX0_size_p; rw [af 48 (by decide), hs]
  have fu : ∀ j, ¬ ((13 ≤ j ∧ j ≤ 29) ∨ (50 ≤ j ∧ j ≤ 57)) → u j = σ j := fun j hj => af j (by omega)
  have fv : ∀ j, ¬ ((7 ≤ j ∧ j ≤ 17) ∨ (48 ≤ j ∧ j ≤ 55)) → v j = τ j := fun j hj => vf j (by omega)
  by_cases q : m = 0
  · subst q
    obtain ⟨z1, z2⟩ := h0 rfl
    refine ⟨u, v, ?_, ?_, ⟨0, 0, ⟨hb, fun j hj => absurd hj (Nat.not_lt_zero _), fun j hj => absurd hj (Nat.not_lt_zero _), fun j hj => absurd hj (Nat.not_lt_zero _), fun j hj => absurd hj (Nat.not_lt_zero _), fun j hj => absurd hj (Nat.not_lt_zero _), fun j hj => absurd hj (Nat.not_lt_zero _), fun j hj => absurd hj (Nat.not_lt_zero _), by rw [a53, vf 51 (by decide), z2], by rw [a52, vf 50 (by decide), z1], fun j hj => absurd hj (Nat.not_lt_zero _)⟩, fun j k hj => absurd hj (Nat.not_lt_zero _), fun j hj => absurd hj (Nat.not_lt_zero _), fun j hj => absurd hj (Nat.not_lt_zero _), by rw [a50]; rfl, by rw [a51, v52], by rw [a54, v54], by rw [a55, v55], by rw [a54, v53, if_pos rfl], fun _ => ⟨a52, a53⟩⟩, fu, fv⟩
    · unfold fX2_placeAll
      rw [a1, bd1_s, hsz, bd1_s, if_pos (show nI 0 = (0 : Int32) from by decide)]
    · unfold fX6_placeAll
      rw [show fX6_placeAll_l32 FU (si (si (si (si (si (si τ 48 0) 49 0) 52 0) 53 1) 54 0) 55 (-1)) 0 = _ from b1, if_pos rfl]
      show fX6_placeAll_s66 (fX6_placeAll_l66 3999) v 0 = _
      unfold fX6_placeAll_s66
      rw [if_pos rfl]
  · obtain ⟨u', v', p1, p2, p3, p4, p5⟩ := rounds_loop (m := m) (by omega) 53 0 0 0 u v FU FU (by omega) (by unfold FU; omega) (by unfold FU; omega) hb (by rw [a50, e7]; rfl) (by rw [e7]) (by rw [a51]; rfl) (by rw [v52]; rfl) a54 v54 a55 v55 v53
    refine ⟨u', v', ?_, ?_, p3, fun j hj => by rw [p4 j hj, fu j hj], fun j hj => by rw [p5 j hj, fv j hj]⟩
    · unfold fX2_placeAll
      rw [a1, bd1_s, hsz, bd1_s, if_neg (nI_ne0 (by omega) (by omega))]
      exact p1
    · unfold fX6_placeAll
      rw [show fX6_placeAll_l32 FU (si (si (si (si (si (si τ 48 0) 49 0) 52 0) 53 1) 54 0) 55 (-1)) 0 = _ from b1, if_neg q]
      exact p2
