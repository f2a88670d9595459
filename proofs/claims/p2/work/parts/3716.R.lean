/-! Class and reference beside each other: before a round, and laid. -/
theorem AdS_congr {kd td lg kd' td' lg' : Nat → Int32} {cI cC cI' cC' : Nat → Nat} {m : Nat} (h : ∀ j, j < m → kd j = kd' j ∧ td j = td' j ∧ lg j = lg' j) (hI : cI = cI') (hC : cC = cC') : ∀ i, i ≤ m → AdS kd td lg cI cC i = AdS kd' td' lg' cI' cC' i ∧ filS kd td lg cI cC i = filS kd' td' lg' cI' cC' i := by
  subst hI
  subst hC
  intro i
  induction i with
  | zero => intro _; exact ⟨rfl, rfl⟩
  | succ i ih =>
    intro hi
    obtain ⟨e1, e2⟩ := ih (by omega)
    obtain ⟨a, b, c⟩ := h i (by omega)
    refine ⟨?_, ?_⟩
    · show nxtS kd td lg cI cC i (AdS kd td lg cI cC i) = nxtS kd' td' lg' cI cC i (AdS kd' td' lg' cI cC i)
      unfold nxtS
      rw [a, b, c, e1]
    · show filS kd td lg cI cC i + _ = filS kd' td' lg' cI cC i + _
      rw [e1, e2, a, b, c]
theorem labS_congr {kd td lg kd' td' lg' : Nat → Int32} {cI cC cI' cC' : Nat → Nat} {m : Nat} {lab lab' : Nat → Int32} (h : ∀ j, j < m → kd j = kd' j ∧ td j = td' j ∧ lg j = lg' j) (hI : cI = cI') (hC : cC = cC') (hl : ∀ l, l < 8 → lab l = lab' l) : ∀ i, i ≤ m → ∀ l, l < 8 → labS kd td lg cI cC lab i l = labS kd' td' lg' cI' cC' lab' i l := by
  intro i
  induction i with
  | zero => intro _ l hl8; exact hl l hl8
  | succ i ih =>
    intro hi l hl8
    obtain ⟨a, b, c⟩ := h i (by omega)
    have e := (AdS_congr h hI hC i (by omega)).1
    show (if kd i = 3 then upd (labS kd td lg cI cC lab i) (Int32.toNatClampNeg (td i)) (nI (AdS kd td lg cI cC i)) else labS kd td lg cI cC lab i) l = (if kd' i = 3 then upd (labS kd' td' lg' cI' cC' lab' i) (Int32.toNatClampNeg (td' i)) (nI (AdS kd' td' lg' cI' cC' i)) else labS kd' td' lg' cI' cC' lab' i) l
    rw [a, b, e]
    by_cases q : kd' i = 3
    · rw [if_pos q, if_pos q]
      unfold upd
      by_cases z : l = Int32.toNatClampNeg (td' i)
      · rw [if_pos z, if_pos z]
      · rw [if_neg z, if_neg z]; exact ih (by omega) l hl8
    · rw [if_neg q, if_neg q]; exact ih (by omega) l hl8
theorem labS_bd {kd td lg : Nat → Int32} {cI cC : Nat → Nat} {m : Nat} {lab : Nat → Int32} (hA : ∀ i, i ≤ m → AdS kd td lg cI cC i < 4096) (hl : Bd lab 8) : ∀ i, i ≤ m → Bd (labS kd td lg cI cC lab i) 8 := by
  intro i
  induction i with
  | zero => intro _; exact hl
  | succ i ih =>
    intro hi l hl8
    show ∃ A, A < 4096 ∧ (if kd i = 3 then upd (labS kd td lg cI cC lab i) (Int32.toNatClampNeg (td i)) (nI (AdS kd td lg cI cC i)) else labS kd td lg cI cC lab i) l = nI A
    by_cases q : kd i = 3
    · rw [if_pos q]
      unfold upd
      by_cases z : l = Int32.toNatClampNeg (td i)
      · rw [if_pos z]; exact ⟨_, hA i (by omega), rfl⟩
      · rw [if_neg z]; exact ih (by omega) l hl8
    · rw [if_neg q]; exact ih (by omega) l hl8
/-- before a round -/
def BB (σ τ : St) (m ni nc : Nat) : Prop :=
  wfP σ m ∧ wfM τ m ∧ (∀ i, i < m → σ 8 i = τ 2 i ∧ σ 9 i = τ 3 i ∧ σ 24 i = τ 7 i ∧ (τ 7 i = 0 ∨ τ 7 i = 1)) ∧ (∀ i, i < 3 → σ 10 i = τ 4 i) ∧ Sk_i σ ni ∧ Sk_c σ nc ∧ τ 48 0 = nI ni ∧ τ 49 0 = nI nc ∧
  (∀ k, k < ni → σ 13 k = τ 8 k ∧ σ 14 k = τ 9 k ∧ (∃ l, l < 8 ∧ σ 13 k = nI l) ∧ (∃ r, r < m ∧ σ 8 r = 5 ∧ σ 14 k = nI r) ∧ σ 15 k = nI (cntE (σ 14) (σ 14 k) k)) ∧
  (∀ k, k < nc → σ 19 k = τ 10 k ∧ σ 20 k = τ 11 k ∧ (∃ r, r < m ∧ σ 8 r = 5 ∧ σ 20 k = nI r) ∧ σ 21 k = nI (cntE (σ 20) (σ 20 k) k)) ∧
  (∀ r, r < 24 → σ 16 r = nI (cntE (σ 14) (nI r) ni) ∧ σ 22 r = nI (cntE (σ 20) (nI r) nc)) ∧
  (∀ l, l < 8 → σ 27 l = τ 17 l) ∧ Bd (σ 27) 8
/-- laid -/
def LL (σ τ : St) (m ni nc : Nat) : Prop :=
  BB σ τ m ni nc ∧ (∀ j, j < m → σ 25 j = τ 12 j) ∧ Bd (σ 25) m ∧ (∀ k, k < ni → ad_i σ k = τ 13 k) ∧ Bd (ad_i σ) ni ∧ (∀ k, k < nc → ad_c σ k = τ 14 k) ∧ Bd (ad_c σ) nc ∧
  (∀ r, r < m → σ 8 r = 5 → endI σ r = τ 15 r ∧ ∃ S c, σ 23 r = nI S ∧ σ 22 r = nI c ∧ S + 4 * c < 4090 ∧ τ 16 r = nI (upN 4 (S + 4 * c))) ∧
  σ 53 0 = τ 51 0 ∧ σ 52 0 = τ 50 0 ∧ (∀ j, j < m → ∃ A, A < 4096 ∧ σ 25 j = nI A ∧ σ 26 j = nI (szI (σ 8 j) (σ 9 j) (σ 24 j) A))
theorem st_at {E c : Nat} : stN E c + 4 * c = atN E c := by
  unfold stN atN
  by_cases q : c = 0
  · rw [if_pos q, if_pos q]; omega
  · rw [if_neg q, if_neg q]
theorem lay_both {σ τ : St} {m ni nc : Nat} (h : BB σ τ m ni nc) : ∃ s t, fX2_lay σ = some s ∧ fX6_layAll τ = some t ∧ LL s t m ni nc ∧
    (∀ j, j ≠ 25 → j ≠ 26 → j ≠ 27 → j ≠ 17 → j ≠ 23 → j ≠ 53 → j ≠ 52 → s j = σ j) ∧ (∀ j, j ≠ 12 → j ≠ 17 → j ≠ 13 → j ≠ 14 → j ≠ 15 → j ≠ 16 → j ≠ 51 → j ≠ 50 → t j = τ j) := by
  obtain ⟨hp, hq, hit, hre, hsi, hsc, h48, h49, hki, hkc, hg, hlb, hlB⟩ := h
  have hni := hsi.1
  have hnc := hsc.1
  have hm := hp.1
  have eI : (fun r : Nat => cntE (σ 14) (nI r) ni) = fun r => cntE (τ 9) (nI r) ni := by
    funext r; exact cntE_congr (fun k hk => (hki k hk).2.1)
  have eC : (fun r : Nat => cntE (σ 20) (nI r) nc) = fun r => cntE (τ 11) (nI r) nc := by
    funext r; exact cntE_congr (fun k hk => (hkc k hk).2.1)
  have bI : ∀ r, (fun r : Nat => cntE (σ 14) (nI r) ni) r ≤ 12 := fun r => Nat.le_trans cntE_le hni
  have bC : ∀ r, (fun r : Nat => cntE (σ 20) (nI r) nc) r ≤ 16 := fun r => Nat.le_trans cntE_le hnc
  obtain ⟨u, a1, a2, a3, a4, a5, a6⟩ := layC_eq (σ := σ) (m := m) hp bI bC (fun r hr => (hg r hr).1) (fun r hr => (hg r hr).2)
  obtain ⟨v, b1, b2, b3, b4, b5, b6, b7, b8⟩ := layM_eq (τ := τ) (m := m) (ni := ni) (nc := nc) hq hni hnc h48 h49 eI eC
  have hkl : ∀ j, j < m → σ 8 j = τ 2 j ∧ σ 9 j = τ 3 j ∧ σ 24 j = τ 7 j := fun j hj => ⟨(hit j hj).1, (hit j hj).2.1, (hit j hj).2.2.1⟩
  have hAe := fun i (hi : i ≤ m) => AdS_congr (cI := fun r : Nat => cntE (σ 14) (nI r) ni) (cC := fun r : Nat => cntE (σ 20) (nI r) nc) hkl rfl rfl i hi
  have hAb := fun i (hi : i ≤ m) => AdS_le (kd := σ 8) (td := σ 9) (lg := σ 24) hp.2.2 bI bC i hi
  have hA4 : ∀ i, i ≤ m → AdS (σ 8) (σ 9) (σ 24) (fun r : Nat => cntE (σ 14) (nI r) ni) (fun r : Nat => cntE (σ 20) (nI r) nc) i < 4096 := fun i hi => by have := (hAb i hi).1; omega
  have fs : ∀ j, j ≠ 25 → j ≠ 26 → j ≠ 27 → j ≠ 17 → j ≠ 23 → j ≠ 53 → j ≠ 52 → (si u 52 (nI (AdS (σ 8) (σ 9) (σ 24) (fun r : Nat => cntE (σ 14) (nI r) ni) (fun r : Nat => cntE (σ 20) (nI r) nc) m))) j = σ j := fun j h1 h2 h3 h4 h5 h6 h7 => by rw [si_ne h7]; exact a2 j h1 h2 h3 h4 h5 h6
  have ft : ∀ j, j ≠ 12 → j ≠ 17 → j ≠ 13 → j ≠ 14 → j ≠ 15 → j ≠ 16 → j ≠ 51 → j ≠ 50 → (si v 50 (nI (AdS (τ 2) (τ 3) (τ 7) (fun r : Nat => cntE (σ 14) (nI r) ni) (fun r : Nat => cntE (σ 20) (nI r) nc) m))) j = τ j := fun j h1 h2 h3 h4 h5 h6 h7 h8 => by rw [si_ne h8]; exact b2 j h1 h2 h3 h4 h5 h6 h7
  refine ⟨_, _, a1, b1, ?_, fs, ft⟩
  generalize hS : si u 52 (nI (AdS (σ 8) (σ 9) (σ 24) (fun r : Nat => cntE (σ 14) (nI r) ni) (fun r : Nat => cntE (σ 20) (nI r) nc) m)) = s at fs ⊢
  generalize hT : si v 50 (nI (AdS (τ 2) (τ 3) (τ 7) (fun r : Nat => cntE (σ 14) (nI r) ni) (fun r : Nat => cntE (σ 20) (nI r) nc) m)) = t at ft ⊢
  have s25 : s 25 = u 25 := by rw [← hS, si_ne (by decide)]
  have s26 : s 26 = u 26 := by rw [← hS, si_ne (by decide)]
  have s27 : s 27 = u 27 := by rw [← hS, si_ne (by decide)]
  have s17 : s 17 = u 17 := by rw [← hS, si_ne (by decide)]
  have s23 : s 23 = u 23 := by rw [← hS, si_ne (by decide)]
  have s53 : s 53 = u 53 := by rw [← hS, si_ne (by decide)]
  have t12 : t 12 = v 12 := by rw [← hT, si_ne (by decide)]
  have t17 : t 17 = v 17 := by rw [← hT, si_ne (by decide)]
  have t13 : t 13 = v 13 := by rw [← hT, si_ne (by decide)]
  have t14 : t 14 = v 14 := by rw [← hT, si_ne (by decide)]
  have t15 : t 15 = v 15 := by rw [← hT, si_ne (by decide)]
  have t16 : t 16 = v 16 := by rw [← hT, si_ne (by decide)]
  have t51 : t 51 = v 51 := by rw [← hT, si_ne (by decide)]
  have c (j : Nat) (h1 : j ≠ 25) (h2 : j ≠ 26) (h3 : j ≠ 27) (h4 : j ≠ 17) (h5 : j ≠ 23) (h6 : j ≠ 53) (h7 : j ≠ 52) : s j = σ j := fs j h1 h2 h3 h4 h5 h6 h7
  have s8 := c 8 (by decide) (by decide) (by decide) (by decide) (by decide) (by decide) (by decide)
  have s9 := c 9 (by decide) (by decide) (by decide) (by decide) (by decide) (by decide) (by decide)
  have s24 := c 24 (by decide) (by decide) (by decide) (by decide) (by decide) (by decide) (by decide)
  have s10 := c 10 (by decide) (by decide) (by decide) (by decide) (by decide) (by decide) (by decide)
  have s13 := c 13 (by decide) (by decide) (by decide) (by decide) (by decide) (by decide) (by decide)
  have s14 := c 14 (by decide) (by decide) (by decide) (by decide) (by decide) (by decide) (by decide)
  have s15 := c 15 (by decide) (by decide) (by decide) (by decide) (by decide) (by decide) (by decide)
  have s16 := c 16 (by decide) (by decide) (by decide) (by decide) (by decide) (by decide) (by decide)
  have s19 := c 19 (by decide) (by decide) (by decide) (by decide) (by decide) (by decide) (by decide)
  have s20 := c 20 (by decide) (by decide) (by decide) (by decide) (by decide) (by decide) (by decide)
  have s21 := c 21 (by decide) (by decide) (by decide) (by decide) (by decide) (by decide) (by decide)
  have s22 := c 22 (by decide) (by decide) (by decide) (by decide) (by decide) (by decide) (by decide)
  have s48 := c 48 (by decide) (by decide) (by decide) (by decide) (by decide) (by decide) (by decide)
  have s56 := c 56 (by decide) (by decide) (by decide) (by decide) (by decide) (by decide) (by decide)
  have s57 := c 57 (by decide) (by decide) (by decide) (by decide) (by decide) (by decide) (by decide)
  have e (j : Nat) (h1 : j ≠ 12) (h2 : j ≠ 17) (h3 : j ≠ 13) (h4 : j ≠ 14) (h5 : j ≠ 15) (h6 : j ≠ 16) (h7 : j ≠ 51) (h8 : j ≠ 50) : t j = τ j := ft j h1 h2 h3 h4 h5 h6 h7 h8
  have r2 := e 2 (by decide) (by decide) (by decide) (by decide) (by decide) (by decide) (by decide) (by decide)
  have r3 := e 3 (by decide) (by decide) (by decide) (by decide) (by decide) (by decide) (by decide) (by decide)
  have r7 := e 7 (by decide) (by decide) (by decide) (by decide) (by decide) (by decide) (by decide) (by decide)
  have r4 := e 4 (by decide) (by decide) (by decide) (by decide) (by decide) (by decide) (by decide) (by decide)
  have r8 := e 8 (by decide) (by decide) (by decide) (by decide) (by decide) (by decide) (by decide) (by decide)
  have r9 := e 9 (by decide) (by decide) (by decide) (by decide) (by decide) (by decide) (by decide) (by decide)
  have r10 := e 10 (by decide) (by decide) (by decide) (by decide) (by decide) (by decide) (by decide) (by decide)
  have r11 := e 11 (by decide) (by decide) (by decide) (by decide) (by decide) (by decide) (by decide) (by decide)
  have r41 := e 41 (by decide) (by decide) (by decide) (by decide) (by decide) (by decide) (by decide) (by decide)
  have r48 := e 48 (by decide) (by decide) (by decide) (by decide) (by decide) (by decide) (by decide) (by decide)
  have r49 := e 49 (by decide) (by decide) (by decide) (by decide) (by decide) (by decide) (by decide) (by decide)
  have adi : ∀ k, k < ni → ∃ A, A < 4096 ∧ ad_i s k = nI A ∧ t 13 k = nI A := by
    intro k hk
    obtain ⟨_, k2, _, ⟨r, hr, r5, er⟩, k5⟩ := hki k hk
    have hb := (hAb r (by omega)).1
    have hc := Nat.le_trans (cntE_le (f := σ 14) (v := nI r) (n := k)) (show k ≤ 12 by omega)
    refine ⟨AdS (σ 8) (σ 9) (σ 24) (fun r : Nat => cntE (σ 14) (nI r) ni) (fun r : Nat => cntE (σ 20) (nI r) nc) r + 2 + 4 * cntE (σ 14) (nI r) k, ?_, ?_, ?_⟩
    · omega
    · unfold ad_i
      rw [s14, s15, s17, k5, er, nI_clamp (by omega), (a6 r hr r5).1, show (4 : Int32) = nI 4 from rfl, pk_mul, nI_add]
    · rw [t13, b6 k r hk hr (by rw [← (hit r hr).1]; exact r5) (by rw [← k2]; exact er), ← (hAe r (by omega)).1, cntE_congr (f := τ 9) (g := σ 14) (fun j hj => ((hki j (by omega)).2.1).symm)]
  have adc : ∀ k, k < nc → ∃ A, A < 4096 ∧ ad_c s k = nI A ∧ t 14 k = nI A := by
    intro k hk
    obtain ⟨_, k2, ⟨r, hr, r5, er⟩, k5⟩ := hkc k hk
    have hb := (hAb r (by omega)).1
    have hc := Nat.le_trans (cntE_le (f := σ 20) (v := nI r) (n := k)) (show k ≤ 16 by omega)
    have hci := bI r
    have hu := upN_ge (d := 4) (A := AdS (σ 8) (σ 9) (σ 24) (fun r : Nat => cntE (σ 14) (nI r) ni) (fun r : Nat => cntE (σ 20) (nI r) nc) r + 2 + 4 * cntE (σ 14) (nI r) ni) (by omega)
    have hpos : cntE (σ 20) (nI r) nc ≠ 0 := by
      have h1 : cntE (σ 20) (nI r) (k + 1) = cntE (σ 20) (nI r) k + (if σ 20 k = nI r then 1 else 0) := rfl
      rw [if_pos er] at h1
      have := cntE_mono (f := σ 20) (v := nI r) (a := k + 1) (b := nc) (by omega)
      omega
    refine ⟨upN 4 (AdS (σ 8) (σ 9) (σ 24) (fun r : Nat => cntE (σ 14) (nI r) ni) (fun r : Nat => cntE (σ 20) (nI r) nc) r + 2 + 4 * cntE (σ 14) (nI r) ni) + 4 * cntE (σ 20) (nI r) k, ?_, ?_, ?_⟩
    · have hci' : cntE (σ 14) (nI r) ni ≤ 12 := hci
      omega
    · unfold ad_c
      rw [s20, s21, s23, k5, er, nI_clamp (by omega), (a6 r hr r5).2, show (4 : Int32) = nI 4 from rfl, pk_mul, nI_add]
      unfold stN
      rw [if_neg hpos]
    · rw [t14, b7 k r hk hr (by rw [← (hit r hr).1]; exact r5) (by rw [← k2]; exact er), ← (hAe r (by omega)).1, cntE_congr (f := τ 11) (g := σ 20) (fun j hj => ((hkc j (by omega)).2.1).symm)]
  refine ⟨⟨wfP_fr hp s48 s8 s9, ⟨hq.1, by rw [r41]; exact hq.2.1, fun i hi => by rw [r2, r3]; exact hq.2.2 i hi⟩, fun i hi => by rw [s8, s9, s24, r2, r3, r7]; exact hit i hi, fun i hi => by rw [s10, r4]; exact hre i hi, Sk_i_fr hsi s56 s14, Sk_c_fr hsc s57 s20, by rw [r48]; exact h48, by rw [r49]; exact h49, fun k hk => by rw [s13, s14, s15, s8, r8, r9]; exact hki k hk, fun k hk => by rw [s19, s20, s21, s8, r10, r11]; exact hkc k hk, fun r hr => by rw [s16, s22, s14, s20]; exact hg r hr, fun l hl => ?_, ?_⟩, fun j hj => ?_, fun j hj => ?_, fun k hk => ?_, fun k hk => ?_, fun k hk => ?_, fun k hk => ?_, fun r hr h5 => ?_, ?_, ?_, fun j hj => ?_⟩
  · rw [s27, t17, a4, b4]; exact labS_congr hkl rfl rfl hlb m (Nat.le_refl _) l hl
  · rw [s27, a4]; exact labS_bd hA4 hlB m (Nat.le_refl _)
  · rw [s25, t12, (a3 j hj).1, b3 j hj, (hAe j (by omega)).1]
  · rw [s25]; exact ⟨_, hA4 j (by omega), (a3 j hj).1⟩
  · obtain ⟨A, _, x, y⟩ := adi k hk; rw [x, y]
  · obtain ⟨A, z, x, _⟩ := adi k hk; exact ⟨A, z, x⟩
  · obtain ⟨A, _, x, y⟩ := adc k hk; rw [x, y]
  · obtain ⟨A, z, x, _⟩ := adc k hk; exact ⟨A, z, x⟩
  · rw [s8] at h5
    have hb := (hAb r (by omega)).1
    have hci : cntE (σ 14) (nI r) ni ≤ 12 := bI r
    have hcc : cntE (σ 20) (nI r) nc ≤ 16 := bC r
    have hat := atN_le (E := AdS (σ 8) (σ 9) (σ 24) (fun r : Nat => cntE (σ 14) (nI r) ni) (fun r : Nat => cntE (σ 20) (nI r) nc) r + 2 + 4 * cntE (σ 14) (nI r) ni) hcc
    have hb8 := b8 r hr (by rw [← (hit r hr).1]; exact h5)
    refine ⟨?_, _, _, by rw [s23]; exact (a6 r hr h5).2, by rw [s22]; exact (hg r (by omega)).2, ?_, ?_⟩
    · unfold endI
      rw [s17, s16, (a6 r hr h5).1, (hg r (by omega)).1, show (4 : Int32) = nI 4 from rfl, pk_mul, nI_add, t15, hb8.1, (hAe r (by omega)).1]
    · rw [st_at]; exact Nat.lt_of_le_of_lt hat (by omega)
    · rw [st_at, t16, hb8.2, (hAe r (by omega)).1]
  · rw [s53, t51, a5, b5, (hAe m (Nat.le_refl _)).2]
  · rw [← hS, ← hT, si_at, si_at, (hAe m (Nat.le_refl _)).1]
  · rw [s25, s26, s8, s9, s24]; exact ⟨_, hA4 j (by omega), (a3 j hj).1, (a3 j hj).2⟩
