/-! All items laid: the reference. -/
def LayM (τ t : St) (ni nc : Nat) (cI cC : Nat → Nat) (i : Nat) : Prop :=
  (∀ j, j ≠ 12 → j ≠ 17 → j ≠ 13 → j ≠ 14 → j ≠ 15 → j ≠ 16 → j ≠ 51 → t j = τ j) ∧
  (∀ j, j < i → t 12 j = nI (AdS (τ 2) (τ 3) (τ 7) cI cC j)) ∧
  t 17 = labS (τ 2) (τ 3) (τ 7) cI cC (τ 17) i ∧ t 51 0 = nI (filS (τ 2) (τ 3) (τ 7) cI cC i) ∧
  (∀ k r, k < ni → r < i → τ 2 r = 5 → τ 9 k = nI r → t 13 k = nI (AdS (τ 2) (τ 3) (τ 7) cI cC r + 2 + 4 * cntE (τ 9) (nI r) k)) ∧
  (∀ k r, k < nc → r < i → τ 2 r = 5 → τ 11 k = nI r → t 14 k = nI (upN 4 (AdS (τ 2) (τ 3) (τ 7) cI cC r + 2 + 4 * cI r) + 4 * cntE (τ 11) (nI r) k)) ∧
  (∀ r, r < i → τ 2 r = 5 → t 15 r = nI (AdS (τ 2) (τ 3) (τ 7) cI cC r + 2 + 4 * cI r) ∧ t 16 r = nI (upN 4 (atN (AdS (τ 2) (τ 3) (τ 7) cI cC r + 2 + 4 * cI r) (cC r))))
def wfM (τ : St) (m : Nat) : Prop := m ≤ 24 ∧ τ 41 0 = nI m ∧ ∀ i, i < m → wfI (τ 2 i) (τ 3 i)
theorem layM_loop {τ : St} {m ni nc : Nat} {cI cC : Nat → Nat} (hp : wfM τ m) (hni : ni ≤ 12) (hnc : nc ≤ 16) (h48 : τ 48 0 = nI ni) (h49 : τ 49 0 = nI nc) (eI : cI = fun r => cntE (τ 9) (nI r) ni) (eC : cC = fun r => cntE (τ 11) (nI r) nc) :
    ∀ (d i : Nat) (t : St) (N : Nat), i + d = m → d < N → LayM τ t ni nc cI cC i → ∃ u, fX6_layAll_l9 N t (nI (AdS (τ 2) (τ 3) (τ 7) cI cC i)) (nI i) = some (si u 50 (nI (AdS (τ 2) (τ 3) (τ 7) cI cC m))) ∧ LayM τ u ni nc cI cC m := by
  have hm := hp.1
  have hI : ∀ r, cI r ≤ 12 := fun r => by rw [eI]; exact Nat.le_trans cntE_le hni
  have hC : ∀ r, cC r ≤ 16 := fun r => by rw [eC]; exact Nat.le_trans cntE_le hnc
  intro d
  induction d with
  | zero =>
    intro i t N h hN hf
    obtain ⟨N, rfl⟩ : ∃ k, N = k + 1 := ⟨N - 1, by omega⟩
    have hk : i = m := by omega
    subst hk
    refine ⟨t, ?_, hf⟩
    show fX6_layAll_s9 (fX6_layAll_l9 N) t _ _ = _
    unfold fX6_layAll_s9
    rw [hf.1 41 (by decide) (by decide) (by decide) (by decide) (by decide) (by decide) (by decide), hp.2.1, if_pos (Int32.le_refl _)]
  | succ d ih =>
    intro i t N h hN hf
    obtain ⟨N, rfl⟩ : ∃ k, N = k + 1 := ⟨N - 1, by omega⟩
    have him : i < m := by omega
    obtain ⟨f0, f1, f2, f3, f4, f5, f6⟩ := id hf
    have hb := AdS_le (lg := τ 7) hp.2.2 hI hC i (by omega)
    have hz := szI_le (g := τ 7 i) (A := AdS (τ 2) (τ 3) (τ 7) cI cC i) (hp.2.2 i him)
    have c24 : ¬ (nI i < 0 ∨ 24 ≤ Int32.toNatClampNeg (nI i)) := ckN (by omega) (by omega)
    have c24' : ¬ (nI i < 0 ∨ 24 ≤ i) := fun z => z.elim (nI_pos (by omega)) (by omega)
    have e2 : t 2 = τ 2 := f0 2 (by decide) (by decide) (by decide) (by decide) (by decide) (by decide) (by decide)
    have e3 : t 3 = τ 3 := f0 3 (by decide) (by decide) (by decide) (by decide) (by decide) (by decide) (by decide)
    have e7 : t 7 = τ 7 := f0 7 (by decide) (by decide) (by decide) (by decide) (by decide) (by decide) (by decide)
    have eA : AdS (τ 2) (τ 3) (τ 7) cI cC (i + 1) = nxtS (τ 2) (τ 3) (τ 7) cI cC i (AdS (τ 2) (τ 3) (τ 7) cI cC i) := rfl
    have eF : filS (τ 2) (τ 3) (τ 7) cI cC (i + 1) = filS (τ 2) (τ 3) (τ 7) cI cC i + (if τ 2 i = 4 then szI (τ 2 i) (τ 3 i) (τ 7 i) (AdS (τ 2) (τ 3) (τ 7) cI cC i) else if τ 2 i = 5 then filN (AdS (τ 2) (τ 3) (τ 7) cI cC i + szI (τ 2 i) (τ 3 i) (τ 7 i) (AdS (τ 2) (τ 3) (τ 7) cI cC i) + 4 * cI i) (cC i) else 0) := rfl
    have eL : labS (τ 2) (τ 3) (τ 7) cI cC (τ 17) (i + 1) = if τ 2 i = 3 then upd (labS (τ 2) (τ 3) (τ 7) cI cC (τ 17) i) (Int32.toNatClampNeg (τ 3 i)) (nI (AdS (τ 2) (τ 3) (τ 7) cI cC i)) else labS (τ 2) (τ 3) (τ 7) cI cC (τ 17) i := rfl
    have n45 : τ 2 i = 4 → ¬ τ 2 i = 5 := fun a b => absurd (a.symm.trans b) (by decide)
    -- from the state behind the label on
    have rest : ∀ t0 : St, (∀ j, j ≠ 12 → j ≠ 17 → t0 j = t j) → (∀ j, j < i + 1 → t0 12 j = nI (AdS (τ 2) (τ 3) (τ 7) cI cC j)) → t0 17 = labS (τ 2) (τ 3) (τ 7) cI cC (τ 17) (i + 1) → ∃ u, fX6_layAll_b46 (fX6_layAll_l9 N) t0 (nI (AdS (τ 2) (τ 3) (τ 7) cI cC i)) (nI i) = some (si u 50 (nI (AdS (τ 2) (τ 3) (τ 7) cI cC m))) ∧ LayM τ u ni nc cI cC m := by
      intro t0 g0 g1 g2
      have k2 : t0 2 = τ 2 := (g0 2 (by decide) (by decide)).trans e2
      have k3 : t0 3 = τ 3 := (g0 3 (by decide) (by decide)).trans e3
      have k7 : t0 7 = τ 7 := (g0 7 (by decide) (by decide)).trans e7
      have k51 : t0 51 0 = nI (filS (τ 2) (τ 3) (τ 7) cI cC i) := by rw [g0 51 (by decide) (by decide)]; exact f3
      have hsz : ∀ s : St, s 2 = τ 2 → s 3 = τ 3 → s 7 = τ 7 → fX6_sizeOf s (nI i) (nI (AdS (τ 2) (τ 3) (τ 7) cI cC i)) = some (nI (szI (τ 2 i) (τ 3 i) (τ 7 i) (AdS (τ 2) (τ 3) (τ 7) cI cC i))) := fun s a b c => by
        have := sizeM_eq (τ := s) (i := i) (A := AdS (τ 2) (τ 3) (τ 7) cI cC i) (by rw [a, b]; exact hp.2.2 i him) (by omega) (by omega)
        rw [a, b, c] at this
        exact this
      have tail : ∀ z : Nat, filS (τ 2) (τ 3) (τ 7) cI cC i + z ≤ 10 * i + 7 → (τ 2 i = 5 → z = 0) → (¬ τ 2 i = 5 → filS (τ 2) (τ 3) (τ 7) cI cC i + z = filS (τ 2) (τ 3) (τ 7) cI cC (i + 1)) → ∃ u, fX6_layAll_b71 (fX6_layAll_l9 N) t0 (nI (AdS (τ 2) (τ 3) (τ 7) cI cC i)) (nI i) (nI z) (t0 51 0) = some (si u 50 (nI (AdS (τ 2) (τ 3) (τ 7) cI cC m))) ∧ LayM τ u ni nc cI cC m := by
        intro z hz1 hz2 hz3
        unfold fX6_layAll_b71
        rw [k51, nI_add, hsz _ (by rw [si_ne (by decide)]; exact k2) (by rw [si_ne (by decide)]; exact k3) (by rw [si_ne (by decide)]; exact k7), bd1_s, ck_t c24, nI_clamp (n := i) (by omega), nI_add, nI_1, k2]
        by_cases q5 : τ 2 i = 5
        · have z0 := hz2 q5
          subst z0
          rw [if_pos q5, szI_5' q5]
          obtain ⟨t2, b1, b2, b3, b4, b5, b6, b7⟩ := gapM_eq (τ := si t0 51 (nI (filS (τ 2) (τ 3) (τ 7) cI cC i + 0))) (ni := ni) (nc := nc) (r := i) (B := AdS (τ 2) (τ 3) (τ 7) cI cC i + 2) (fl := filS (τ 2) (τ 3) (τ 7) cI cC i + 0) hni hnc (by omega) (by omega) (by omega) (by rw [si_ne (by decide), g0 48 (by decide) (by decide), f0 48 (by decide) (by decide) (by decide) (by decide) (by decide) (by decide) (by decide)]; exact h48) (by rw [si_ne (by decide), g0 49 (by decide) (by decide), f0 49 (by decide) (by decide) (by decide) (by decide) (by decide) (by decide) (by decide)]; exact h49) (si_at _ _ _ _)
          have k9 : si t0 51 (nI (filS (τ 2) (τ 3) (τ 7) cI cC i + 0)) 9 = τ 9 := by rw [si_ne (by decide), g0 9 (by decide) (by decide), f0 9 (by decide) (by decide) (by decide) (by decide) (by decide) (by decide) (by decide)]
          have k11 : si t0 51 (nI (filS (τ 2) (τ 3) (τ 7) cI cC i + 0)) 11 = τ 11 := by rw [si_ne (by decide), g0 11 (by decide) (by decide), f0 11 (by decide) (by decide) (by decide) (by decide) (by decide) (by decide) (by decide)]
          rw [k9, k11] at b1 b3 b5 b7
          rw [k9] at b4 b6
          have ci : cI i = cntE (τ 9) (nI i) ni := by rw [eI]
          have cc : cC i = cntE (τ 11) (nI i) nc := by rw [eC]
          rw [← ci, ← cc] at b1 b3 b7
          rw [← ci] at b5 b6
          rw [b1, bd2_s]
          obtain ⟨u, a1, a2⟩ := ih (i + 1) t2 N (by omega) (by omega) ⟨fun j h1 h2 h3 h4 h5 h6 h7 => by rw [b2 j h3 h4 h5 h6 h7, si_ne h7, g0 j h1 h2]; exact f0 j h1 h2 h3 h4 h5 h6 h7, fun j hj => by rw [b2 12 (by decide) (by decide) (by decide) (by decide) (by decide), si_ne (by decide)]; exact g1 j hj, by rw [b2 17 (by decide) (by decide) (by decide) (by decide) (by decide), si_ne (by decide)]; exact g2, by rw [b3, eF, if_neg (fun a => n45 a q5), if_pos q5, szI_5' q5]; rfl, fun k r hk hr h5 h9 => by
            rw [b4 k]
            by_cases z : r = i
            · subst z; rw [if_pos ⟨hk, h9⟩]
            · rw [if_neg (fun w => z ((nI_eq (a := r) (b := i) (by omega) (by omega)).mp (h9.symm.trans w.2))), si_ne (by decide), g0 13 (by decide) (by decide)]; exact f4 k r hk (by omega) h5 h9, fun k r hk hr h5 h9 => by
            rw [b5 k]
            by_cases z : r = i
            · subst z; rw [if_pos ⟨hk, h9⟩]
            · rw [if_neg (fun w => z ((nI_eq (a := r) (b := i) (by omega) (by omega)).mp (h9.symm.trans w.2))), si_ne (by decide), g0 14 (by decide) (by decide)]; exact f5 k r hk (by omega) h5 h9, fun r hr h5 => by
            rw [b6, b7]
            by_cases z : r = i
            · subst z; rw [pk_us, pk_us]; exact ⟨rfl, rfl⟩
            · rw [pk_un z, pk_un z, si_ne (by decide), si_ne (by decide), g0 15 (by decide) (by decide), g0 16 (by decide) (by decide)]; exact f6 r (by omega) h5⟩
          refine ⟨u, ?_, a2⟩
          rw [eA] at a1
          unfold nxtS at a1
          rw [if_pos q5, szI_5' q5] at a1
          exact a1
        · rw [if_neg q5, hz3 q5]
          obtain ⟨u, a1, a2⟩ := ih (i + 1) (si t0 51 (nI (filS (τ 2) (τ 3) (τ 7) cI cC (i + 1)))) N (by omega) (by omega) ⟨fun j h1 h2 h3 h4 h5 h6 h7 => by rw [si_ne h7, g0 j h1 h2]; exact f0 j h1 h2 h3 h4 h5 h6 h7, fun j hj => by rw [si_ne (by decide)]; exact g1 j hj, by rw [si_ne (by decide)]; exact g2, si_at _ _ _ _, fun k r hk hr h5 h9 => by
            have : r ≠ i := fun z => q5 (z ▸ h5)
            rw [si_ne (by decide), g0 13 (by decide) (by decide)]; exact f4 k r hk (by omega) h5 h9, fun k r hk hr h5 h9 => by
            have : r ≠ i := fun z => q5 (z ▸ h5)
            rw [si_ne (by decide), g0 14 (by decide) (by decide)]; exact f5 k r hk (by omega) h5 h9, fun r hr h5 => by
            have : r ≠ i := fun z => q5 (z ▸ h5)
            rw [si_ne (by decide), si_ne (by decide), g0 15 (by decide) (by decide), g0 16 (by decide) (by decide)]; exact f6 r (by omega) h5⟩
          refine ⟨u, ?_, a2⟩
          rw [eA] at a1
          unfold nxtS at a1
          rw [if_neg q5] at a1
          exact a1
      unfold fX6_layAll_b46
      rw [ck_t c24, nI_clamp (n := i) (by omega), k2]
      by_cases q4 : τ 2 i = 4
      · have h7 := szI_4' (g := τ 7 i) (A := AdS (τ 2) (τ 3) (τ 7) cI cC i) (hp.2.2 i him) q4
        rw [if_pos q4, hsz t0 k2 k3 k7, bd1_s]
        exact tail _ (by omega) (fun a => absurd a (n45 q4)) (fun _ => by rw [eF, if_pos q4])
      · rw [if_neg q4]
        exact tail 0 (by omega) (fun _ => rfl) (fun a => by rw [eF, if_neg q4, if_neg a])
    show ∃ u, fX6_layAll_s9 (fX6_layAll_l9 N) t _ _ = _ ∧ _
    unfold fX6_layAll_s9
    rw [f0 41 (by decide) (by decide) (by decide) (by decide) (by decide) (by decide) (by decide), hp.2.1, if_neg (nI_ge him (by omega)), ck_t c24, ck_t c24, nI_clamp (n := i) (by omega), e2]
    have g12 : ∀ j, j < i + 1 → upd (t 12) i (nI (AdS (τ 2) (τ 3) (τ 7) cI cC i)) j = nI (AdS (τ 2) (τ 3) (τ 7) cI cC j) := fun j hj => by
      by_cases q : j = i
      · subst q; rw [pk_us]
      · rw [pk_un q]; exact f1 j (by omega)
    by_cases q3 : τ 2 i = 3
    · obtain ⟨a, l, ea, el, hc⟩ := hp.2.2 i him
      have a3 : a = 3 := (nI_eq (a := a) (b := 3) (by omega) (by omega)).mp (by rw [← ea]; exact q3)
      have hl8 : l < 8 := by omega
      rw [if_pos q3, ck_t c24', e3, el, ck_t (ckN hl8 (by omega)), nI_clamp (n := l) (by omega)]
      exact rest _ (fun j h1 h2 => by rw [sa_ne h2, sa_ne h1]) (fun j hj => by rw [sa_ne (by decide), sa_at]; exact g12 j hj) (by rw [sa_at, sa_ne (by decide), f2, eL, if_pos q3, el, nI_clamp (by omega)])
    · rw [if_neg q3]
      exact rest _ (fun j h1 h2 => sa_ne h1) (fun j hj => by rw [sa_at]; exact g12 j hj) (by rw [sa_ne (by decide), f2, eL, if_neg q3])
theorem layM_eq {τ : St} {m ni nc : Nat} {cI cC : Nat → Nat} (hp : wfM τ m) (hni : ni ≤ 12) (hnc : nc ≤ 16) (h48 : τ 48 0 = nI ni) (h49 : τ 49 0 = nI nc) (eI : cI = fun r => cntE (τ 9) (nI r) ni) (eC : cC = fun r => cntE (τ 11) (nI r) nc) : ∃ u, fX6_layAll τ = some (si u 50 (nI (AdS (τ 2) (τ 3) (τ 7) cI cC m))) ∧ LayM τ u ni nc cI cC m := by
  have hm := hp.1
  exact layM_loop hp hni hnc h48 h49 eI eC m 0 (si τ 51 0) FU (by omega) (by unfold FU; omega) ⟨fun j _ _ _ _ _ _ h7 => si_ne h7, fun j hj => absurd hj (Nat.not_lt_zero _), by rw [si_ne (by decide)]; rfl, by rw [si_at]; rfl, fun k r _ hr => absurd hr (Nat.not_lt_zero _), fun k r _ hr => absurd hr (Nat.not_lt_zero _), fun r hr => absurd hr (Nat.not_lt_zero _)⟩
