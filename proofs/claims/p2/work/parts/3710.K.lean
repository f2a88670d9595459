/-! A gap: its constants (reference), and the class's gap. -/
def atN (E c : Nat) : Nat := if c = 0 then E else upN 4 E + 4 * c
def filN (E c : Nat) : Nat := if c = 0 then 0 else upN 4 E - E
def stN (E c : Nat) : Nat := if c = 0 then E else upN 4 E
theorem upN4_at {E c : Nat} (h : c ≠ 0) : upN 4 (upN 4 E + 4 * c) = upN 4 E + 4 * c := by unfold upN; omega
theorem gapM_con {τ : St} {nc r E fl : Nat} (hn : nc ≤ 16) (hr : r < 24) (hE : E < 3600) (hfl : fl < 4096) : ∀ (d k : Nat) (t : St) (N : Nat), k + d = nc → d < N → t 49 0 = nI nc → (∀ j, j ≠ 14 → j ≠ 51 → t j = τ j) → t 51 0 = nI (fl + filN E (cntE (τ 11) (nI r) k)) →
    ∃ t', fX6_layGap_l55 N t (nI r) (nI (atN E (cntE (τ 11) (nI r) k))) (if cntE (τ 11) (nI r) k = 0 then 0 else 1) (nI k) = some (nI (atN E (cntE (τ 11) (nI r) nc)), sa t' 16 r (nI (upN 4 (atN E (cntE (τ 11) (nI r) nc))))) ∧ (∀ j, j ≠ 14 → j ≠ 51 → t' j = τ j) ∧ t' 51 0 = nI (fl + filN E (cntE (τ 11) (nI r) nc)) ∧ (∀ j, t' 14 j = if k ≤ j ∧ j < nc ∧ τ 11 j = nI r then nI (upN 4 E + 4 * cntE (τ 11) (nI r) j) else t 14 j) := by
  intro d
  have c24 : ¬ (nI r < 0 ∨ 24 ≤ Int32.toNatClampNeg (nI r)) := ckN (by omega) (by omega)
  have hu := upN_ge (d := 4) (A := E) (by omega)
  have hat : ∀ c, c ≤ 16 → atN E c < 4096 := fun c hc => by
    unfold atN
    by_cases e : c = 0
    · rw [if_pos e]; omega
    · rw [if_neg e]; omega
  induction d with
  | zero =>
    intro k t N h hN hs hf h51
    obtain ⟨N, rfl⟩ : ∃ k, N = k + 1 := ⟨N - 1, by omega⟩
    have hk : k = nc := by omega
    subst hk
    have hc := cntE_le (f := τ 11) (v := nI r) (n := k)
    refine ⟨t, ?_, hf, h51, fun j => by rw [if_neg (by omega)]⟩
    show fX6_layGap_s55 (fX6_layGap_l55 N) t _ _ _ _ = _
    unfold fX6_layGap_s55
    rw [hs, if_pos (Int32.le_refl _), show (4 : Int32) = nI 4 from rfl, up_eq (by omega) (by omega) (hat _ (by omega)), bd1_s, ck_t c24, nI_clamp (by omega)]
  | succ d ih =>
    intro k t N h hN hs hf h51
    obtain ⟨N, rfl⟩ : ∃ k, N = k + 1 := ⟨N - 1, by omega⟩
    have hk : k < nc := by omega
    have hc := cntE_le (f := τ 11) (v := nI r) (n := k)
    have c16 : ¬ (nI k < 0 ∨ 16 ≤ Int32.toNatClampNeg (nI k)) := ckN (by omega) (by omega)
    have hstep : cntE (τ 11) (nI r) (k + 1) = cntE (τ 11) (nI r) k + (if τ 11 k = nI r then 1 else 0) := rfl
    by_cases e : τ 11 k = nI r
    · rw [if_pos e] at hstep
      -- the value laid, and the state behind it
      have body : ∀ (z : Nat), fl + filN E (cntE (τ 11) (nI r) k) + z = fl + filN E (cntE (τ 11) (nI r) (k + 1)) → fX6_layGap_b96 (fX6_layGap_l55 N) t (nI r) (nI (atN E (cntE (τ 11) (nI r) k))) (nI k) (nI z) (t 51 0) = fX6_layGap_l55 N (sa (si t 51 (nI (fl + filN E (cntE (τ 11) (nI r) (k + 1))))) 14 k (nI (upN 4 E + 4 * cntE (τ 11) (nI r) k))) (nI r) (nI (atN E (cntE (τ 11) (nI r) (k + 1)))) (if cntE (τ 11) (nI r) (k + 1) = 0 then 0 else 1) (nI (k + 1)) := by
        intro z hz
        unfold fX6_layGap_b96
        have hup : upN 4 (atN E (cntE (τ 11) (nI r) k)) = upN 4 E + 4 * cntE (τ 11) (nI r) k := by
          unfold atN
          by_cases q : cntE (τ 11) (nI r) k = 0
          · rw [if_pos q, q]; rfl
          · rw [if_neg q]; exact upN4_at q
        rw [show (4 : Int32) = nI 4 from rfl, up_eq (by omega) (by omega) (hat _ (by omega)), bd1_s, ck_t c16, nI_clamp (n := k) (by omega), h51, nI_add, hz, hup, nI_add, nI_1, hstep, if_neg (by omega)]
        rw [show atN E (cntE (τ 11) (nI r) k + 1) = upN 4 E + 4 * cntE (τ 11) (nI r) k + 4 from by unfold atN; rw [if_neg (by omega)]; omega]
      obtain ⟨t', e1, e2, e3, e4⟩ := ih (k + 1) (sa (si t 51 (nI (fl + filN E (cntE (τ 11) (nI r) (k + 1))))) 14 k (nI (upN 4 E + 4 * cntE (τ 11) (nI r) k))) N (by omega) (by omega) (by rw [sa_ne (by decide), si_ne (by decide)]; exact hs) (fun j h1 h2 => by rw [sa_ne h1, si_ne h2]; exact hf j h1 h2) (by rw [sa_ne (by decide), si_at])
      refine ⟨t', ?_, e2, e3, fun j => ?_⟩
      · show fX6_layGap_s55 (fX6_layGap_l55 N) t _ _ _ _ = _
        unfold fX6_layGap_s55
        rw [hs, if_neg (nI_ge hk (by omega)), ck_t c16, nI_clamp (n := k) (by omega), hf 11 (by decide) (by decide), if_pos e]
        by_cases q : cntE (τ 11) (nI r) k = 0
        · rw [if_pos q, if_pos rfl, show (4 : Int32) = nI 4 from rfl, up_eq (by omega) (by omega) (hat _ (by omega)), bd1_s]
          have hq : atN E (cntE (τ 11) (nI r) k) = E := by unfold atN; rw [if_pos q]
          rw [show nI (upN 4 (atN E (cntE (τ 11) (nI r) k))) - nI (atN E (cntE (τ 11) (nI r) k)) = nI (upN 4 E - E) from by rw [hq]; exact pk_sub hu.1, body (upN 4 E - E) (by unfold filN; rw [if_pos q, if_neg (by omega)]; omega)]
          exact e1
        · rw [if_neg q, if_neg d_1_0, show (0 : Int32) = nI 0 from rfl, body 0 (by unfold filN; rw [if_neg q, if_neg (by omega)]; omega)]
          exact e1
      · rw [e4 j, sa_at, si_ne (by decide)]
        by_cases ej : j = k
        · subst ej; rw [if_neg (by omega), pk_us, if_pos ⟨Nat.le_refl _, hk, e⟩]
        · rw [pk_un ej]
          by_cases q : k + 1 ≤ j ∧ j < nc ∧ τ 11 j = nI r
          · rw [if_pos q, if_pos ⟨by omega, q.2⟩]
          · rw [if_neg q, if_neg (fun z => q ⟨by omega, z.2⟩)]
    · rw [if_neg e] at hstep
      have hs0 : cntE (τ 11) (nI r) (k + 1) = cntE (τ 11) (nI r) k := by omega
      obtain ⟨t', e1, e2, e3, e4⟩ := ih (k + 1) t N (by omega) (by omega) hs hf (by rw [hs0]; exact h51)
      rw [hs0] at e1
      refine ⟨t', ?_, e2, e3, fun j => ?_⟩
      · show fX6_layGap_s55 (fX6_layGap_l55 N) t _ _ _ _ = _
        unfold fX6_layGap_s55
        rw [hs, if_neg (nI_ge hk (by omega)), ck_t c16, nI_clamp (n := k) (by omega), hf 11 (by decide) (by decide), if_neg e, nI_1]
        exact e1
      · rw [e4 j]
        by_cases ej : j = k
        · subst ej; rw [if_neg (by omega), if_neg (fun z => e z.2.2)]
        · by_cases q : k + 1 ≤ j ∧ j < nc ∧ τ 11 j = nI r
          · rw [if_pos q, if_pos ⟨by omega, q.2⟩]
          · rw [if_neg q, if_neg (fun z => q ⟨by omega, z.2⟩)]
/-- the reference's gap, whole -/
theorem gapM_eq {τ : St} {ni nc r B fl : Nat} (hni : ni ≤ 12) (hnc : nc ≤ 16) (hr : r < 24) (hB : B < 3500) (hfl : fl < 4096) (h48 : τ 48 0 = nI ni) (h49 : τ 49 0 = nI nc) (h51 : τ 51 0 = nI fl) :
    ∃ t, fX6_layGap τ (nI r) (nI B) = some (nI (atN (B + 4 * cntE (τ 9) (nI r) ni) (cntE (τ 11) (nI r) nc)), t) ∧ (∀ j, j ≠ 13 → j ≠ 14 → j ≠ 15 → j ≠ 16 → j ≠ 51 → t j = τ j) ∧ t 51 0 = nI (fl + filN (B + 4 * cntE (τ 9) (nI r) ni) (cntE (τ 11) (nI r) nc)) ∧
      (∀ j, t 13 j = if j < ni ∧ τ 9 j = nI r then nI (B + 4 * cntE (τ 9) (nI r) j) else τ 13 j) ∧ (∀ j, t 14 j = if j < nc ∧ τ 11 j = nI r then nI (upN 4 (B + 4 * cntE (τ 9) (nI r) ni) + 4 * cntE (τ 11) (nI r) j) else τ 14 j) ∧
      t 15 = upd (τ 15) r (nI (B + 4 * cntE (τ 9) (nI r) ni)) ∧ t 16 = upd (τ 16) r (nI (upN 4 (atN (B + 4 * cntE (τ 9) (nI r) ni) (cntE (τ 11) (nI r) nc)))) := by
  have hc := cntE_le (f := τ 9) (v := nI r) (n := ni)
  obtain ⟨t1, a1, a2, a3⟩ := gapM_isl (τ := τ) hni hr ni 0 τ FU B (by omega) (by unfold FU; omega) hB h48 (fun _ _ => rfl)
  obtain ⟨t2, b1, b2, b3, b4⟩ := gapM_con (τ := sa t1 15 r (nI (B + 4 * cntE (τ 9) (nI r) ni))) (E := B + 4 * cntE (τ 9) (nI r) ni) (fl := fl) hnc hr (by omega) hfl nc 0 (sa t1 15 r (nI (B + 4 * cntE (τ 9) (nI r) ni))) FU (by omega) (by unfold FU; omega) (by rw [sa_ne (by decide), a2 49 (by decide)]; exact h49) (fun _ _ _ => rfl) (by rw [sa_ne (by decide), a2 51 (by decide), h51]; rfl)
  have e11 : (sa t1 15 r (nI (B + 4 * cntE (τ 9) (nI r) ni))) 11 = τ 11 := by rw [sa_ne (by decide), a2 11 (by decide)]
  rw [e11] at b1 b3 b4
  refine ⟨sa t2 16 r (nI (upN 4 (atN (B + 4 * cntE (τ 9) (nI r) ni) (cntE (τ 11) (nI r) nc)))), ?_, fun j h13 h14 h15 h16 h51 => ?_, ?_, fun j => ?_, fun j => ?_, ?_, ?_⟩
  · show fX6_layGap_l5 FU τ (nI r) (nI B) (nI 0) = _
    exact a1.trans b1
  · rw [sa_ne h16, b2 j h14 h51, sa_ne h15, a2 j h13]
  · rw [sa_ne (by decide)]; exact b3
  · rw [sa_ne (by decide), b2 13 (by decide) (by decide), sa_ne (by decide), a3 j]
    by_cases q : j < ni ∧ τ 9 j = nI r
    · rw [if_pos ⟨Nat.zero_le _, q⟩, if_pos q]
    · rw [if_neg (fun z => q z.2), if_neg q]
  · rw [sa_ne (by decide), b4 j, sa_ne (show (14 : Nat) ≠ 15 by decide), a2 14 (by decide)]
    by_cases q : j < nc ∧ τ 11 j = nI r
    · rw [if_pos ⟨Nat.zero_le _, q⟩, if_pos q]
    · rw [if_neg (fun z => q z.2), if_neg q]
  · rw [sa_ne (by decide), b2 15 (by decide) (by decide), sa_at, a2 15 (by decide)]
  · rw [sa_at, b2 16 (by decide) (by decide), sa_ne (by decide), a2 16 (by decide)]
/-- the class's gap -/
theorem gapC_eq {σ : St} {r B ci cc : Nat} (hr : r < 24) (hB : B < 3500) (hci : ci ≤ 12) (hcc : cc ≤ 16) (h16 : σ 16 r = nI ci) (h22 : σ 22 r = nI cc) :
    ∃ s, fX2_layGap σ (nI r) (nI B) = some (nI (atN (B + 4 * ci) cc), s) ∧ (∀ j, j ≠ 17 → j ≠ 23 → j ≠ 53 → s j = σ j) ∧ s 17 = upd (σ 17) r (nI B) ∧ s 23 = upd (σ 23) r (nI (stN (B + 4 * ci) cc)) ∧ s 53 0 = σ 53 0 + nI (filN (B + 4 * ci) cc) := by
  have c24 : ¬ (nI r < 0 ∨ 24 ≤ Int32.toNatClampNeg (nI r)) := ckN (by omega) (by omega)
  have c24' : ¬ (nI r < 0 ∨ 24 ≤ r) := fun z => z.elim (nI_pos (by omega)) (by omega)
  have hli : fX4_lay_i σ (nI r) (nI B) = some (nI (B + 4 * ci), sa σ 17 r (nI B)) := by
    unfold fX4_lay_i
    rw [itm_in hr, bd1_s, if_neg d_1_0, ck_t c24, ck_t c24, nI_clamp (by omega), h16, show (4 : Int32) = nI 4 from rfl, pk_mul, nI_add]
  have hlc : ∀ (s : St) (X : Nat), s 22 r = nI cc → fX4_lay_c s (nI r) (nI X) = some (nI (X + 4 * cc), sa s 23 r (nI X)) := by
    intro s X hs
    unfold fX4_lay_c
    rw [itm_in hr, bd1_s, if_neg d_1_0, ck_t c24, ck_t c24, nI_clamp (by omega), hs, show (4 : Int32) = nI 4 from rfl, pk_mul, nI_add]
  have hin : fX4_isIn_c (sa σ 17 r (nI B)) (nI r) = some (if cc = 0 then 0 else 1) := by
    unfold fX4_isIn_c
    rw [itm_in hr, bd1_s, if_neg d_1_0, ck_t c24, nI_clamp (by omega), sa_ne (by decide), h22]
    by_cases q : cc = 0
    · rw [if_pos q, q, if_pos (by decide)]
    · rw [if_neg q, if_neg (nI_nle (by omega) (by omega))]
  unfold fX2_layGap
  rw [hli, bd2_s, hin, bd1_s]
  by_cases q : cc = 0
  · rw [if_pos q, if_pos rfl]
    unfold fX2_layGap_b44
    rw [hlc _ _ (by rw [sa_ne (by decide)]; exact h22), bd2_s]
    refine ⟨sa (sa σ 17 r (nI B)) 23 r (nI (B + 4 * ci)), ?_, fun j h1 h2 h3 => ?_, ?_, ?_, ?_⟩
    · rw [show atN (B + 4 * ci) cc = B + 4 * ci + 4 * cc from by unfold atN; rw [if_pos q]; omega]
    · rw [sa_ne h2, sa_ne h1]
    · rw [sa_ne (by decide), sa_at]
    · rw [sa_at, sa_ne (by decide)]; unfold stN; rw [if_pos q]
    · rw [sa_ne (by decide), sa_ne (by decide)]; unfold filN; rw [if_pos q]; simp [nI_0]
  · rw [if_neg q, if_neg d_1_0]
    have hu := upN_ge (d := 4) (A := B + 4 * ci) (by omega)
    unfold fX5_fillTo
    rw [bd1_s, show (4 : Int32) = nI 4 from rfl, t_fill4 (B + 4 * ci) (by omega), nI_add, show B + 4 * ci + (upN 4 (B + 4 * ci) - (B + 4 * ci)) = upN 4 (B + 4 * ci) by omega]
    unfold fX2_layGap_b44
    rw [hlc _ _ (by rw [si_ne (by decide), sa_ne (by decide)]; exact h22), bd2_s]
    refine ⟨sa (si (sa σ 17 r (nI B)) 53 ((sa σ 17 r (nI B)) 53 0 + nI (upN 4 (B + 4 * ci) - (B + 4 * ci)))) 23 r (nI (upN 4 (B + 4 * ci))), ?_, fun j h1 h2 h3 => ?_, ?_, ?_, ?_⟩
    · rw [show atN (B + 4 * ci) cc = upN 4 (B + 4 * ci) + 4 * cc from by unfold atN; rw [if_neg q]]
    · rw [sa_ne h2, si_ne h3, sa_ne h1]
    · rw [sa_ne (by decide), si_ne (by decide), sa_at]
    · rw [sa_at, si_ne (by decide), sa_ne (by decide)]; unfold stN; rw [if_neg q]
    · rw [sa_ne (by decide), si_at, sa_ne (by decide)]; unfold filN; rw [if_neg q]
