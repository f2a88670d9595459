/-! All items laid: the class. What an address is, said once for both sides. -/
def nxtS (kd td lg : Nat → Int32) (cI cC : Nat → Nat) (i A : Nat) : Nat :=
  if kd i = 5 then atN (A + szI (kd i) (td i) (lg i) A + 4 * cI i) (cC i) else A + szI (kd i) (td i) (lg i) A
def AdS (kd td lg : Nat → Int32) (cI cC : Nat → Nat) : Nat → Nat
  | 0 => 0
  | i + 1 => nxtS kd td lg cI cC i (AdS kd td lg cI cC i)
def filS (kd td lg : Nat → Int32) (cI cC : Nat → Nat) : Nat → Nat
  | 0 => 0
  | i + 1 => filS kd td lg cI cC i + (if kd i = 4 then szI (kd i) (td i) (lg i) (AdS kd td lg cI cC i) else if kd i = 5 then filN (AdS kd td lg cI cC i + szI (kd i) (td i) (lg i) (AdS kd td lg cI cC i) + 4 * cI i) (cC i) else 0)
def labS (kd td lg : Nat → Int32) (cI cC : Nat → Nat) (lab : Nat → Int32) : Nat → Nat → Int32
  | 0 => lab
  | i + 1 => if kd i = 3 then upd (labS kd td lg cI cC lab i) (Int32.toNatClampNeg (td i)) (nI (AdS kd td lg cI cC i)) else labS kd td lg cI cC lab i
theorem szI_5' {k w g : Int32} {A : Nat} (h : k = 5) : szI k w g A = 2 := by rw [h]; exact szI_5
theorem szI_3' {k w g : Int32} {A : Nat} (h : k = 3) : szI k w g A = 0 := by rw [h]; exact szI_3
theorem szI_4' {k w g : Int32} {A : Nat} (hw : wfI k w) (h : k = 4) : szI k w g A ≤ 7 := by
  obtain ⟨a, b, ea, eb, hc⟩ := hw
  have : a = 4 := (nI_eq (a := a) (b := 4) (by omega) (by omega)).mp (by rw [← ea]; exact h)
  rw [h, eb, show szI 4 (nI b) g A = upN (Int32.toNatClampNeg (nI b)) A - A from szI_4, nI_clamp (by omega)]
  have := upN_ge (d := b) (A := A) (by omega)
  omega
theorem atN_le {E c : Nat} (h : c ≤ 16) : atN E c ≤ E + 67 := by
  unfold atN
  have := upN_ge (d := 4) (A := E) (by omega)
  by_cases q : c = 0
  · rw [if_pos q]; omega
  · rw [if_neg q]; omega
theorem filN_le {E c : Nat} : filN E c ≤ 3 := by
  unfold filN
  have := upN_ge (d := 4) (A := E) (by omega)
  by_cases q : c = 0
  · rw [if_pos q]; omega
  · rw [if_neg q]; omega
theorem AdS_le {kd td lg : Nat → Int32} {cI cC : Nat → Nat} {m : Nat} (hw : ∀ i, i < m → wfI (kd i) (td i)) (hI : ∀ r, cI r ≤ 12) (hC : ∀ r, cC r ≤ 16) : ∀ i, i ≤ m → AdS kd td lg cI cC i ≤ 120 * i ∧ filS kd td lg cI cC i ≤ 10 * i := by
  intro i
  induction i with
  | zero => intro _; exact ⟨Nat.le_refl _, Nat.le_refl _⟩
  | succ i ih =>
    intro hi
    obtain ⟨h1, h2⟩ := ih (by omega)
    have hz := szI_le (g := lg i) (A := AdS kd td lg cI cC i) (hw i (by omega))
    have a := hI i
    have b := hC i
    refine ⟨?_, ?_⟩
    · show nxtS kd td lg cI cC i (AdS kd td lg cI cC i) ≤ _
      unfold nxtS
      by_cases q : kd i = 5
      · rw [if_pos q, szI_5' q]
        have := atN_le (E := AdS kd td lg cI cC i + 2 + 4 * cI i) b
        omega
      · rw [if_neg q]; omega
    · show filS kd td lg cI cC i + _ ≤ _
      by_cases q4 : kd i = 4
      · rw [if_pos q4]; have := szI_4' (g := lg i) (A := AdS kd td lg cI cC i) (hw i (by omega)) q4; omega
      · rw [if_neg q4]
        by_cases q5 : kd i = 5
        · rw [if_pos q5]; have := filN_le (E := AdS kd td lg cI cC i + szI (kd i) (td i) (lg i) (AdS kd td lg cI cC i) + 4 * cI i) (c := cC i); omega
        · rw [if_neg q5]; omega
/-- what is laid of the first i items (class) -/
def LayC (σ s : St) (cI cC : Nat → Nat) (i : Nat) : Prop :=
  (∀ j, j ≠ 25 → j ≠ 26 → j ≠ 27 → j ≠ 17 → j ≠ 23 → j ≠ 53 → s j = σ j) ∧
  (∀ j, j < i → s 25 j = nI (AdS (σ 8) (σ 9) (σ 24) cI cC j) ∧ s 26 j = nI (szI (σ 8 j) (σ 9 j) (σ 24 j) (AdS (σ 8) (σ 9) (σ 24) cI cC j))) ∧
  s 27 = labS (σ 8) (σ 9) (σ 24) cI cC (σ 27) i ∧ s 53 0 = nI (filS (σ 8) (σ 9) (σ 24) cI cC i) ∧
  (∀ r, r < i → σ 8 r = 5 → s 17 r = nI (AdS (σ 8) (σ 9) (σ 24) cI cC r + 2) ∧ s 23 r = nI (stN (AdS (σ 8) (σ 9) (σ 24) cI cC r + 2 + 4 * cI r) (cC r)))
theorem layC_loop {σ : St} {m : Nat} {cI cC : Nat → Nat} (hp : wfP σ m) (hI : ∀ r, cI r ≤ 12) (hC : ∀ r, cC r ≤ 16) (h16 : ∀ r, r < 24 → σ 16 r = nI (cI r)) (h22 : ∀ r, r < 24 → σ 22 r = nI (cC r)) :
    ∀ (d i : Nat) (s : St) (N : Nat), i + d = m → d < N → LayC σ s cI cC i → ∃ u, fX2_lay_l9 N s (nI (AdS (σ 8) (σ 9) (σ 24) cI cC i)) (nI i) = some (si u 52 (nI (AdS (σ 8) (σ 9) (σ 24) cI cC m))) ∧ LayC σ u cI cC m := by
  have hm := hp.1
  intro d
  induction d with
  | zero =>
    intro i s N h hN hf
    obtain ⟨N, rfl⟩ : ∃ k, N = k + 1 := ⟨N - 1, by omega⟩
    have hk : i = m := by omega
    subst hk
    refine ⟨s, ?_, hf⟩
    show fX2_lay_s9 (fX2_lay_l9 N) s _ _ = _
    unfold fX2_lay_s9 fX0_size_p
    rw [hf.1 48 (by decide) (by decide) (by decide) (by decide) (by decide) (by decide), hp.2.1, bd1_s, if_pos (Int32.le_refl _)]
    rfl
  | succ d ih =>
    intro i s N h hN hf
    obtain ⟨N, rfl⟩ : ∃ k, N = k + 1 := ⟨N - 1, by omega⟩
    have him : i < m := by omega
    obtain ⟨f0, f1, f2, f3, f4⟩ := id hf
    have hb := AdS_le (lg := σ 24) hp.2.2 hI hC i (by omega)
    have e8 := f0 8 (by decide) (by decide) (by decide) (by decide) (by decide) (by decide)
    have e9 := f0 9 (by decide) (by decide) (by decide) (by decide) (by decide) (by decide)
    have e24 := f0 24 (by decide) (by decide) (by decide) (by decide) (by decide) (by decide)
    have e48 := f0 48 (by decide) (by decide) (by decide) (by decide) (by decide) (by decide)
    have hps : wfP s m := wfP_fr hp e48 e8 e9
    have hz := szI_le (g := σ 24 i) (A := AdS (σ 8) (σ 9) (σ 24) cI cC i) (hp.2.2 i him)
    have c24 : ¬ (nI i < 0 ∨ 24 ≤ Int32.toNatClampNeg (nI i)) := ckN (by omega) (by omega)
    have hsz := sizeC_eq hps him (A := AdS (σ 8) (σ 9) (σ 24) cI cC i) (by omega)
    rw [e8, e9, e24] at hsz
    -- the state with the item's own rows
    have g0 : ∀ j, j ≠ 25 → j ≠ 26 → sa (sa s 25 i (nI (AdS (σ 8) (σ 9) (σ 24) cI cC i))) 26 i (nI (szI (σ 8 i) (σ 9 i) (σ 24 i) (AdS (σ 8) (σ 9) (σ 24) cI cC i))) j = s j := fun j h1 h2 => by rw [sa_ne h2, sa_ne h1]
    have g1 : ∀ j, j < i + 1 → (sa (sa s 25 i (nI (AdS (σ 8) (σ 9) (σ 24) cI cC i))) 26 i (nI (szI (σ 8 i) (σ 9 i) (σ 24 i) (AdS (σ 8) (σ 9) (σ 24) cI cC i)))) 25 j = nI (AdS (σ 8) (σ 9) (σ 24) cI cC j) ∧ (sa (sa s 25 i (nI (AdS (σ 8) (σ 9) (σ 24) cI cC i))) 26 i (nI (szI (σ 8 i) (σ 9 i) (σ 24 i) (AdS (σ 8) (σ 9) (σ 24) cI cC i)))) 26 j = nI (szI (σ 8 j) (σ 9 j) (σ 24 j) (AdS (σ 8) (σ 9) (σ 24) cI cC j)) := by
      intro j hj
      rw [sa_ne (show (25 : Nat) ≠ 26 by decide), sa_at, sa_at, sa_ne (show (26 : Nat) ≠ 25 by decide)]
      by_cases q : j = i
      · subst q; rw [pk_us, pk_us]; exact ⟨rfl, rfl⟩
      · rw [pk_un q, pk_un q]; exact f1 j (by omega)
    have hhead : fX2_lay_l9 (N + 1) s (nI (AdS (σ 8) (σ 9) (σ 24) cI cC i)) (nI i) = fX2_lay_s9 (fX2_lay_l9 N) s (nI (AdS (σ 8) (σ 9) (σ 24) cI cC i)) (nI i) := rfl
    rw [hhead]
    unfold fX2_lay_s9
    rw [show fX0_size_p s = some (nI m) from by unfold fX0_size_p; rw [e48, hp.2.1], bd1_s, if_neg (nI_ge him (by omega)), if_neg (nI24 (by omega)), kind_in_p hps.2.1 hm him, bd1_s, hsz, bd1_s, ck_t c24, ck_t c24, nI_clamp (n := i) (by omega), nI_add, nI_1, e8]
    generalize hS : sa (sa s 25 i (nI (AdS (σ 8) (σ 9) (σ 24) cI cC i))) 26 i (nI (szI (σ 8 i) (σ 9 i) (σ 24 i) (AdS (σ 8) (σ 9) (σ 24) cI cC i))) = s1 at g0 g1 ⊢
    have eA : AdS (σ 8) (σ 9) (σ 24) cI cC (i + 1) = nxtS (σ 8) (σ 9) (σ 24) cI cC i (AdS (σ 8) (σ 9) (σ 24) cI cC i) := rfl
    have eF : filS (σ 8) (σ 9) (σ 24) cI cC (i + 1) = filS (σ 8) (σ 9) (σ 24) cI cC i + (if σ 8 i = 4 then szI (σ 8 i) (σ 9 i) (σ 24 i) (AdS (σ 8) (σ 9) (σ 24) cI cC i) else if σ 8 i = 5 then filN (AdS (σ 8) (σ 9) (σ 24) cI cC i + szI (σ 8 i) (σ 9 i) (σ 24 i) (AdS (σ 8) (σ 9) (σ 24) cI cC i) + 4 * cI i) (cC i) else 0) := rfl
    have eL : labS (σ 8) (σ 9) (σ 24) cI cC (σ 27) (i + 1) = if σ 8 i = 3 then upd (labS (σ 8) (σ 9) (σ 24) cI cC (σ 27) i) (Int32.toNatClampNeg (σ 9 i)) (nI (AdS (σ 8) (σ 9) (σ 24) cI cC i)) else labS (σ 8) (σ 9) (σ 24) cI cC (σ 27) i := rfl
    have n45 : σ 8 i = 4 → ¬ σ 8 i = 5 := fun a b => absurd (a.symm.trans b) (by decide)
    have n43 : σ 8 i = 4 → ¬ σ 8 i = 3 := fun a b => absurd (a.symm.trans b) (by decide)
    have n35 : σ 8 i = 3 → ¬ σ 8 i = 5 := fun a b => absurd (a.symm.trans b) (by decide)
    have n53 : σ 8 i = 5 → ¬ σ 8 i = 3 := fun a b => absurd (a.symm.trans b) (by decide)
    by_cases q4 : σ 8 i = 4
    · rw [if_pos q4]
      have e53 : s 53 0 + nI (szI (σ 8 i) (σ 9 i) (σ 24 i) (AdS (σ 8) (σ 9) (σ 24) cI cC i)) = nI (filS (σ 8) (σ 9) (σ 24) cI cC (i + 1)) := by rw [f3, nI_add, eF, if_pos q4]
      rw [e53]
      obtain ⟨u, a1, a2⟩ := ih (i + 1) (si s1 53 (nI (filS (σ 8) (σ 9) (σ 24) cI cC (i + 1)))) N (by omega) (by omega) ⟨fun j h1 h2 h3 h4 h5 h6 => by rw [si_ne h6, g0 j h1 h2]; exact f0 j h1 h2 h3 h4 h5 h6, fun j hj => by rw [si_ne (by decide), si_ne (by decide)]; exact g1 j hj, by rw [si_ne (by decide), g0 27 (by decide) (by decide), f2, eL, if_neg (n43 q4)], si_at _ _ _ _, fun r hr h5 => by
        have : r ≠ i := fun z => n45 q4 (z ▸ h5)
        rw [si_ne (by decide), si_ne (by decide), g0 17 (by decide) (by decide), g0 23 (by decide) (by decide)]; exact f4 r (by omega) h5⟩
      refine ⟨u, ?_, a2⟩
      rw [eA] at a1
      unfold nxtS at a1
      rw [if_neg (n45 q4)] at a1
      exact a1
    rw [if_neg q4]
    by_cases q3 : σ 8 i = 3
    · obtain ⟨a, l, ea, el, hc⟩ := hp.2.2 i him
      have a3 : a = 3 := (nI_eq (a := a) (b := 3) (by omega) (by omega)).mp (by rw [← ea]; exact q3)
      have hl8 : l < 8 := by omega
      have hps1 : wfP s1 m := wfP_fr hps (g0 48 (by decide) (by decide)) (g0 8 (by decide) (by decide)) (g0 9 (by decide) (by decide))
      rw [if_pos q3, told_in_p hps1.2.1 hm him, bd1_s, g0 9 (by decide) (by decide), e9, el]
      have hnote : ∀ X : Int32, fX2_noteLabel s1 (nI l) X = some (sa s1 27 l X) := fun X => by
        unfold fX2_noteLabel
        rw [if_neg (nI_pos (by omega)), if_neg (nI8 hl8), ck_t (ckN hl8 (by omega)), nI_clamp (by omega)]
      rw [hnote, bd1_s, szI_3' q3]
      obtain ⟨u, a1, a2⟩ := ih (i + 1) (sa s1 27 l (nI (AdS (σ 8) (σ 9) (σ 24) cI cC i))) N (by omega) (by omega) ⟨fun j h1 h2 h3 h4 h5 h6 => by rw [sa_ne h3, g0 j h1 h2]; exact f0 j h1 h2 h3 h4 h5 h6, fun j hj => by rw [sa_ne (by decide), sa_ne (by decide)]; exact g1 j hj, by rw [sa_at, g0 27 (by decide) (by decide), f2, eL, if_pos q3, el, nI_clamp (by omega)], by rw [sa_ne (by decide), g0 53 (by decide) (by decide), f3, eF, if_neg q4, if_neg (n35 q3)]; rfl, fun r hr h5 => by
        have : r ≠ i := fun z => n35 q3 (z ▸ h5)
        rw [sa_ne (by decide), sa_ne (by decide), g0 17 (by decide) (by decide), g0 23 (by decide) (by decide)]; exact f4 r (by omega) h5⟩
      refine ⟨u, ?_, a2⟩
      rw [eA] at a1
      unfold nxtS at a1
      rw [if_neg (n35 q3), szI_3' q3] at a1
      exact a1
    rw [if_neg q3]
    by_cases q5 : σ 8 i = 5
    · rw [if_pos q5, szI_5' q5]
      have k16 : s1 16 i = nI (cI i) := by rw [g0 16 (by decide) (by decide), f0 16 (by decide) (by decide) (by decide) (by decide) (by decide) (by decide)]; exact h16 i (by omega)
      have k22 : s1 22 i = nI (cC i) := by rw [g0 22 (by decide) (by decide), f0 22 (by decide) (by decide) (by decide) (by decide) (by decide) (by decide)]; exact h22 i (by omega)
      obtain ⟨s2, b1, b2, b3, b4, b5⟩ := gapC_eq (σ := s1) (r := i) (B := AdS (σ 8) (σ 9) (σ 24) cI cC i + 2) (by omega) (by omega) (hI i) (hC i) k16 k22
      rw [b1, bd2_s]
      obtain ⟨u, a1, a2⟩ := ih (i + 1) s2 N (by omega) (by omega) ⟨fun j h1 h2 h3 h4 h5 h6 => by rw [b2 j h4 h5 h6, g0 j h1 h2]; exact f0 j h1 h2 h3 h4 h5 h6, fun j hj => by rw [b2 25 (by decide) (by decide) (by decide), b2 26 (by decide) (by decide) (by decide)]; exact g1 j hj, by rw [b2 27 (by decide) (by decide) (by decide), g0 27 (by decide) (by decide), f2, eL, if_neg q3], by rw [b5, g0 53 (by decide) (by decide), f3, nI_add, eF, if_neg q4, if_pos q5, szI_5' q5], fun r hr h5 => by
        rw [b3, b4]
        by_cases z : r = i
        · subst z; rw [pk_us, pk_us]; exact ⟨rfl, rfl⟩
        · rw [pk_un z, pk_un z, g0 17 (by decide) (by decide), g0 23 (by decide) (by decide)]; exact f4 r (by omega) h5⟩
      refine ⟨u, ?_, a2⟩
      rw [eA] at a1
      unfold nxtS at a1
      rw [if_pos q5, szI_5' q5] at a1
      exact a1
    · rw [if_neg q5]
      obtain ⟨u, a1, a2⟩ := ih (i + 1) s1 N (by omega) (by omega) ⟨fun j h1 h2 h3 h4 h5 h6 => by rw [g0 j h1 h2]; exact f0 j h1 h2 h3 h4 h5 h6, g1, by rw [g0 27 (by decide) (by decide), f2, eL, if_neg q3], by rw [g0 53 (by decide) (by decide), f3, eF, if_neg q4, if_neg q5]; rfl, fun r hr h5 => by
        have : r ≠ i := fun z => q5 (z ▸ h5)
        rw [g0 17 (by decide) (by decide), g0 23 (by decide) (by decide)]; exact f4 r (by omega) h5⟩
      refine ⟨u, ?_, a2⟩
      rw [eA] at a1
      unfold nxtS at a1
      rw [if_neg q5] at a1
      exact a1
theorem layC_eq {σ : St} {m : Nat} {cI cC : Nat → Nat} (hp : wfP σ m) (hI : ∀ r, cI r ≤ 12) (hC : ∀ r, cC r ≤ 16) (h16 : ∀ r, r < 24 → σ 16 r = nI (cI r)) (h22 : ∀ r, r < 24 → σ 22 r = nI (cC r)) : ∃ u, fX2_lay σ = some (si u 52 (nI (AdS (σ 8) (σ 9) (σ 24) cI cC m))) ∧ LayC σ u cI cC m := by
  have hm := hp.1
  exact layC_loop hp hI hC h16 h22 m 0 (si σ 53 0) FU (by omega) (by unfold FU; omega) ⟨fun j _ _ _ _ _ h6 => si_ne h6, fun j hj => absurd hj (Nat.not_lt_zero _), by rw [si_ne (by decide)]; rfl, by rw [si_at]; rfl, fun r hr => absurd hr (Nat.not_lt_zero _)⟩
