/-! The constant to which a load goes. -/
def conS (nm ad : Nat → Int32) (r2 frm v : Int32) : Nat → Int32
  | 0 => -1
  | k + 1 => if (nm k = v ∧ ¬ ad k ≤ frm ∧ ¬ r2 < ad k - frm) ∧ (conS nm ad r2 frm v k = -1 ∨ ¬ ad (Int32.toNatClampNeg (conS nm ad r2 frm v k)) ≤ ad k) then nI k else conS nm ad r2 frm v k
theorem conS_best {nm ad : Nat → Int32} {r2 frm v : Int32} : ∀ k, conS nm ad r2 frm v k = -1 ∨ ∃ j, j < k ∧ conS nm ad r2 frm v k = nI j
  | 0 => Or.inl rfl
  | k + 1 => by
    unfold conS
    by_cases h : (nm k = v ∧ ¬ ad k ≤ frm ∧ ¬ r2 < ad k - frm) ∧ (conS nm ad r2 frm v k = -1 ∨ ¬ ad (Int32.toNatClampNeg (conS nm ad r2 frm v k)) ≤ ad k)
    · rw [if_pos h]; exact Or.inr ⟨k, by omega, rfl⟩
    · rw [if_neg h]
      rcases conS_best (nm := nm) (ad := ad) (r2 := r2) (frm := frm) (v := v) k with e | ⟨j, hj, e⟩
      · exact Or.inl e
      · exact Or.inr ⟨j, by omega, e⟩
theorem conS_congr {nm ad nm' ad' : Nat → Int32} {r2 frm v : Int32} : ∀ {k : Nat}, k < 2 ^ 31 → (∀ i, i < k → nm i = nm' i ∧ ad i = ad' i) → conS nm ad r2 frm v k = conS nm' ad' r2 frm v k
  | 0, _, _ => rfl
  | k + 1, hk, h => by
    have ih := conS_congr (r2 := r2) (frm := frm) (v := v) (show k < 2 ^ 31 by omega) (fun i (hi : i < k) => h i (by omega))
    have hb := conS_best (nm := nm) (ad := ad) (r2 := r2) (frm := frm) (v := v) k
    unfold conS
    rw [← ih, (h k (by omega)).1, (h k (by omega)).2]
    rcases hb with e | ⟨j, hj, e⟩
    · rw [e]; simp
    · rw [e, nI_clamp (by omega), (h j (by omega)).2]
theorem loadR {σ : St} {x y : Int32} : fX2_isInLoadReach σ x y = some (if ¬ y ≤ x ∧ ¬ σ 10 2 < y - x then 1 else 0) := by
  unfold fX2_isInLoadReach
  rw [show Int32.toNatClampNeg (2 : Int32) = 2 from by decide]
  by_cases h : y ≤ x
  · rw [if_pos h, if_neg (fun z => z.1 h)]
  · rw [if_neg h]
    by_cases h2 : σ 10 2 < y - x
    · rw [if_pos h2, if_neg (fun z => z.2 h2)]
    · rw [if_neg h2, if_pos ⟨h, h2⟩]
theorem conC_loop {σ : St} {n : Nat} (hs : Sk_c σ n) {frm v : Int32} : ∀ (d k N : Nat), k + d = n → d < N → fX2_constantFor_l5 σ N frm v (conS (σ 19) (ad_c σ) (σ 10 2) frm v k) (nI k) = some (conS (σ 19) (ad_c σ) (σ 10 2) frm v n) := by
  have hn := hs.1
  intro d
  induction d with
  | zero =>
    intro k N h hN
    obtain ⟨N, rfl⟩ : ∃ k, N = k + 1 := ⟨N - 1, by omega⟩
    have hk : k = n := by omega
    subst hk
    show fX2_constantFor_s5 σ (fX2_constantFor_l5 σ N) _ _ _ _ = _
    unfold fX2_constantFor_s5
    rw [ssize_c hs, bd1_s, if_pos (Int32.le_refl _)]
  | succ d ih =>
    intro k N h hN
    obtain ⟨N, rfl⟩ : ∃ k, N = k + 1 := ⟨N - 1, by omega⟩
    have hk : k < n := by omega
    have hb := conS_best (nm := σ 19) (ad := ad_c σ) (r2 := σ 10 2) (frm := frm) (v := v) k
    have e := ih (k + 1) N (by omega) (by omega)
    rw [show conS (σ 19) (ad_c σ) (σ 10 2) frm v (k + 1) = (if (σ 19 k = v ∧ ¬ ad_c σ k ≤ frm ∧ ¬ σ 10 2 < ad_c σ k - frm) ∧ (conS (σ 19) (ad_c σ) (σ 10 2) frm v k = -1 ∨ ¬ ad_c σ (Int32.toNatClampNeg (conS (σ 19) (ad_c σ) (σ 10 2) frm v k)) ≤ ad_c σ k) then nI k else conS (σ 19) (ad_c σ) (σ 10 2) frm v k) from rfl] at e
    show fX2_constantFor_s5 σ (fX2_constantFor_l5 σ N) _ _ _ _ = _
    generalize conS (σ 19) (ad_c σ) (σ 10 2) frm v k = p at hb e ⊢
    unfold fX2_constantFor_s5
    rw [ssize_c hs, bd1_s, if_neg (nI_ge hk (by omega)), saddr_c hs hk, bd1_s, sname_c hs hk, bd1_s, nI_1]
    by_cases h1 : σ 19 k = v
    · rw [if_pos h1, loadR, bd1_s]
      by_cases h2 : ¬ ad_c σ k ≤ frm ∧ ¬ σ 10 2 < ad_c σ k - frm
      · rw [if_pos h2, if_neg d_1_0]
        rcases hb with ep | ⟨j, hj, ep⟩
        · rw [if_pos ep]
          rw [if_pos ⟨⟨h1, h2⟩, Or.inl ep⟩] at e
          exact e
        · rw [if_neg (by rw [ep]; exact nI_m1 (by omega)), ep, saddr_c hs (by omega), bd1_s]
          rw [ep, nI_clamp (n := j) (by omega)] at e
          by_cases h3 : ad_c σ j ≤ ad_c σ k
          · rw [if_pos h3]
            rw [if_neg (fun z => z.2.elim (fun q => nI_m1 (by omega) q) (fun q => q h3))] at e
            exact e
          · rw [if_neg h3]
            rw [if_pos ⟨⟨h1, h2⟩, Or.inr h3⟩] at e
            exact e
      · rw [if_neg h2, if_pos rfl]
        rw [if_neg (fun z => h2 z.1.2)] at e
        exact e
    · rw [if_neg h1]
      rw [if_neg (fun z => h1 z.1.1)] at e
      exact e
theorem conC_eq {σ : St} {n : Nat} (hs : Sk_c σ n) (frm v : Int32) : fX2_constantFor σ frm v = some (conS (σ 19) (ad_c σ) (σ 10 2) frm v n) := by
  have hn := hs.1
  exact conC_loop hs n 0 FU (by omega) (by unfold FU; omega)
def Mc (τ : St) (n : Nat) : Prop := n ≤ 16 ∧ τ 49 0 = nI n ∧ Bd (τ 14) n
theorem sub_le0 {a b : Nat} (ha : a < 4096) (hb : b < 4096) : nI a - nI b ≤ 0 ↔ nI a ≤ nI b := by
  rw [Int32.le_iff_toInt_le, pk_sub_toInt (by omega) (by omega), nI_leI (by omega) (by omega)]
  have : (0 : Int32).toInt = 0 := rfl
  omega
theorem sub_le {a b c : Nat} (ha : a < 4096) (hb : b < 4096) (hc : c < 4096) : nI a - nI b ≤ nI c - nI b ↔ nI a ≤ nI c := by
  rw [Int32.le_iff_toInt_le, pk_sub_toInt (by omega) (by omega), pk_sub_toInt (by omega) (by omega), nI_leI (by omega) (by omega)]
  omega
theorem conM_loop {τ : St} {n i F : Nat} (hs : Mc τ n) (hi : i < 24) (hF : F < 4096) (eF : τ 12 i = nI F) : ∀ (d k N : Nat), k + d = n → d < N → fX6_constantFor_l4 τ N (nI i) (conS (τ 10) (τ 14) (τ 4 2) (nI F) (τ 3 i) k) (nI k) = some (conS (τ 10) (τ 14) (τ 4 2) (nI F) (τ 3 i) n) := by
  obtain ⟨hn, hs2, hB⟩ := hs
  intro d
  induction d with
  | zero =>
    intro k N h hN
    obtain ⟨N, rfl⟩ : ∃ k, N = k + 1 := ⟨N - 1, by omega⟩
    have hk : k = n := by omega
    subst hk
    show fX6_constantFor_s4 τ (fX6_constantFor_l4 τ N) _ _ _ = _
    unfold fX6_constantFor_s4
    rw [hs2, if_pos (Int32.le_refl _)]
  | succ d ih =>
    intro k N h hN
    obtain ⟨N, rfl⟩ : ∃ k, N = k + 1 := ⟨N - 1, by omega⟩
    have hk : k < n := by omega
    have hb := conS_best (nm := τ 10) (ad := τ 14) (r2 := τ 4 2) (frm := nI F) (v := τ 3 i) k
    have e := ih (k + 1) N (by omega) (by omega)
    rw [show conS (τ 10) (τ 14) (τ 4 2) (nI F) (τ 3 i) (k + 1) = (if (τ 10 k = τ 3 i ∧ ¬ τ 14 k ≤ nI F ∧ ¬ τ 4 2 < τ 14 k - nI F) ∧ (conS (τ 10) (τ 14) (τ 4 2) (nI F) (τ 3 i) k = -1 ∨ ¬ τ 14 (Int32.toNatClampNeg (conS (τ 10) (τ 14) (τ 4 2) (nI F) (τ 3 i) k)) ≤ τ 14 k) then nI k else conS (τ 10) (τ 14) (τ 4 2) (nI F) (τ 3 i) k) from rfl] at e
    show fX6_constantFor_s4 τ (fX6_constantFor_l4 τ N) _ _ _ = _
    generalize conS (τ 10) (τ 14) (τ 4 2) (nI F) (τ 3 i) k = p at hb e ⊢
    obtain ⟨A, hA, eA⟩ := hB k hk
    have c16 : ¬ (nI k < 0 ∨ 16 ≤ Int32.toNatClampNeg (nI k)) := ckN (by omega) (by omega)
    have c24 : ¬ (nI i < 0 ∨ 24 ≤ Int32.toNatClampNeg (nI i)) := ckN hi (by omega)
    unfold fX6_constantFor_s4
    rw [hs2, if_neg (nI_ge hk (by omega)), ck_t c16, ck_t c24, ck_t c16, ck_t c24, nI_clamp (n := k) (by omega), nI_clamp (n := i) (by omega), eF, show Int32.toNatClampNeg (2 : Int32) = 2 from by decide, nI_1]
    by_cases h1 : τ 10 k = τ 3 i
    · rw [if_pos h1]
      by_cases h2 : τ 14 k ≤ nI F
      · rw [if_pos (by rw [eA] at h2 ⊢; exact (sub_le0 hA hF).mpr h2)]
        rw [if_neg (fun z => z.1.2.1 h2)] at e
        exact e
      · rw [if_neg (by rw [eA] at h2 ⊢; exact fun z => h2 ((sub_le0 hA hF).mp z))]
        by_cases h3 : τ 4 2 < τ 14 k - nI F
        · rw [if_pos h3]
          rw [if_neg (fun z => z.1.2.2 h3)] at e
          exact e
        · rw [if_neg h3]
          unfold fX6_constantFor_b81
          rw [nI_1]
          rcases hb with ep | ⟨j, hj, ep⟩
          · rw [if_pos ep]
            rw [if_pos ⟨⟨h1, h2, h3⟩, Or.inl ep⟩] at e
            exact e
          · obtain ⟨B, hB2, eB⟩ := hB j (by omega)
            have hj16 : j < 16 := by omega
            rw [if_neg (by rw [ep]; exact nI_m1 (by omega)), ep, ck_t (ckN hj16 (by omega)), ck_t (show ¬ (nI i < 0 ∨ 24 ≤ i) from fun z => z.elim (nI_pos (by omega)) (by omega)), nI_clamp (n := j) (by omega)]
            rw [ep, nI_clamp (n := j) (by omega)] at e
            by_cases h4 : τ 14 j ≤ τ 14 k
            · rw [if_pos (by rw [eA, eB] at h4 ⊢; exact (sub_le hB2 hF hA).mpr h4)]
              rw [if_neg (fun z => z.2.elim (fun q => nI_m1 (by omega) q) (fun q => q h4))] at e
              exact e
            · rw [if_neg (by rw [eA, eB] at h4 ⊢; exact fun z => h4 ((sub_le hB2 hF hA).mp z))]
              rw [if_pos ⟨⟨h1, h2, h3⟩, Or.inr h4⟩] at e
              exact e
    · rw [if_neg h1]
      rw [if_neg (fun z => h1 z.1.1)] at e
      exact e
theorem conM_eq {τ : St} {n i F : Nat} (hs : Mc τ n) (hi : i < 24) (hF : F < 4096) (eF : τ 12 i = nI F) : fX6_constantFor τ (nI i) = some (conS (τ 10) (τ 14) (τ 4 2) (nI F) (τ 3 i) n) := by
  have hn := hs.1
  exact conM_loop hs hi hF eF n 0 FU (by omega) (by unfold FU; omega)
/-! Where an item, or an island, goes: class (laid down in its rows) and reference (asked). -/
def aimV (kd td lg adr lab rc inm iad : Nat → Int32) (ni : Nat) (cnm cad : Nat → Int32) (nc i : Nat) : Int32 :=
  if kd i = 1 then (if conS cnm cad (rc 2) (adr i) (td i) nc = -1 then -1 else cad (Int32.toNatClampNeg (conS cnm cad (rc 2) (adr i) (td i) nc)))
  else if kd i = 2 then (if lg i = 0 then (if rc 0 < farI (adr i) (lab (Int32.toNatClampNeg (td i))) then -1 else lab (Int32.toNatClampNeg (td i))) else aimL inm iad (lab (Int32.toNatClampNeg (td i))) (rc 1) (adr i) (td i) ni) else -1
def aimC (σ : St) (ni nc i : Nat) : Int32 := aimV (σ 8) (σ 9) (σ 24) (σ 25) (σ 27) (σ 10) (σ 13) (ad_i σ) ni (σ 19) (ad_c σ) nc i
def aimM (τ : St) (ni nc i : Nat) : Int32 := aimV (τ 2) (τ 3) (τ 7) (τ 12) (τ 17) (τ 4) (τ 8) (τ 13) ni (τ 10) (τ 14) nc i
def iaimC (σ : St) (ni k : Nat) : Int32 := aimL (σ 13) (ad_i σ) (σ 27 (Int32.toNatClampNeg (σ 13 k))) (σ 10 1) (ad_i σ k) (σ 13 k) ni
def iaimM (τ : St) (ni k : Nat) : Int32 := aimL (τ 8) (τ 13) (τ 17 (Int32.toNatClampNeg (τ 8 k))) (τ 4 1) (τ 13 k) (τ 8 k) ni
theorem ad_i_fr {s σ : St} (h17 : s 17 = σ 17) (h14 : s 14 = σ 14) (h15 : s 15 = σ 15) : ad_i s = ad_i σ := by funext k; unfold ad_i; rw [h17, h14, h15]
theorem ad_c_fr {s σ : St} (h17 : s 23 = σ 23) (h14 : s 20 = σ 20) (h15 : s 21 = σ 21) : ad_c s = ad_c σ := by funext k; unfold ad_c; rw [h17, h14, h15]
theorem aimC_fr {s σ : St} {ni nc : Nat} (h : ∀ j, j ≠ 28 → s j = σ j) : aimC s ni nc = aimC σ ni nc := by
  funext i
  unfold aimC
  rw [ad_i_fr (h 17 (by decide)) (h 14 (by decide)) (h 15 (by decide)), ad_c_fr (h 23 (by decide)) (h 20 (by decide)) (h 21 (by decide)), h 8 (by decide), h 9 (by decide), h 24 (by decide), h 25 (by decide), h 27 (by decide), h 10 (by decide), h 13 (by decide), h 19 (by decide)]
theorem iaimC_fr {s σ : St} {ni : Nat} (h : ∀ j, j ≠ 29 → s j = σ j) : iaimC s ni = iaimC σ ni := by
  funext i
  unfold iaimC
  rw [ad_i_fr (h 17 (by decide)) (h 14 (by decide)) (h 15 (by decide)), h 27 (by decide), h 10 (by decide), h 13 (by decide)]
def wfP (σ : St) (m : Nat) : Prop := m ≤ 24 ∧ σ 48 0 = nI m ∧ ∀ i, i < m → wfI (σ 8 i) (σ 9 i)
theorem wf_lab {k w : Int32} (h : wfI k w) (hk : k = 2) : ∃ l, l < 8 ∧ w = nI l := by
  obtain ⟨a, b, ea, eb, hc⟩ := h
  have : a = 2 := (nI_eq (a := a) (b := 2) (by omega) (by omega)).mp (by rw [← ea]; exact hk)
  exact ⟨b, by omega, eb⟩
theorem aimC_step {σ : St} {m ni nc i : Nat} (hp : wfP σ m) (hi : Sk_i σ ni) (hc : Sk_c σ nc) (him : i < m) (K : St → Int32 → Option St) : fX2_aimItems_s2 K σ (nI i) = K (sa σ 28 i (aimC σ ni nc i)) (nI (i + 1)) := by
  obtain ⟨h1, h2, h3⟩ := hp
  have c24 : ¬ (nI i < 0 ∨ 24 ≤ Int32.toNatClampNeg (nI i)) := ckN (by omega) (by omega)
  unfold fX2_aimItems_s2 aimC aimV
  rw [show fX0_size_p σ = some (nI m) from by unfold fX0_size_p; rw [h2], bd1_s, if_neg (nI_ge him (by omega)), if_neg (nI24 (by omega)), told_in_p h2 h1 him, bd1_s, kind_in_p h2 h1 him, bd1_s]
  by_cases k1 : σ 8 i = 1
  · have hcn := hc.1
    rw [if_pos k1, if_pos k1, addressOf_in (by omega), bd1_s, conC_eq hc, bd1_s]
    rcases conS_best (nm := σ 19) (ad := ad_c σ) (r2 := σ 10 2) (frm := σ 25 i) (v := σ 9 i) nc with e | ⟨j, hj, e⟩
    · rw [e, saddr_m1_c hc, bd1_s, ck_t c24, nI_clamp (by omega), nI_1, if_pos rfl]
    · rw [e, saddr_c hc hj, bd1_s, ck_t c24, nI_clamp (n := i) (by omega), nI_1, if_neg (nI_m1 (by omega)), nI_clamp (n := j) (by omega)]
  · rw [if_neg k1, if_neg k1]
    by_cases k2 : σ 8 i = 2
    · obtain ⟨l, hl, el⟩ := wf_lab (h3 i him) k2
      rw [if_pos k2, if_pos k2, isLong_in (by omega), bd1_s, el, nI_clamp (n := l) (by omega)]
      unfold fX2_aimItems_b126
      by_cases g : σ 24 i = 0
      · rw [if_pos g, if_pos rfl, if_pos g, addressOf_in (by omega), bd1_s, short_in hl, bd1_s, ck_t c24, nI_clamp (n := i) (by omega), nI_1]
      · rw [if_neg g, if_neg d_1_0, if_neg g, addressOf_in (by omega), bd1_s, long_in hi hl, bd1_s, ck_t c24, nI_clamp (n := i) (by omega), nI_1]
    · rw [if_neg k2, if_neg k2, ck_t c24, nI_clamp (by omega), nI_1]
theorem Sk_i_fr {s σ : St} {n : Nat} (h : Sk_i σ n) (h56 : s 56 = σ 56) (h14 : s 14 = σ 14) : Sk_i s n := ⟨h.1, by rw [h56]; exact h.2.1, fun k hk => by rw [h14]; exact h.2.2 k hk⟩
theorem Sk_c_fr {s σ : St} {n : Nat} (h : Sk_c σ n) (h57 : s 57 = σ 57) (h20 : s 20 = σ 20) : Sk_c s n := ⟨h.1, by rw [h57]; exact h.2.1, fun k hk => by rw [h20]; exact h.2.2 k hk⟩
theorem wfP_fr {s σ : St} {m : Nat} (h : wfP σ m) (h48 : s 48 = σ 48) (h8 : s 8 = σ 8) (h9 : s 9 = σ 9) : wfP s m := ⟨h.1, by rw [h48]; exact h.2.1, fun i hi => by rw [h8, h9]; exact h.2.2 i hi⟩
theorem aimItems_loop {σ : St} {m ni nc : Nat} (hp : wfP σ m) (hi : Sk_i σ ni) (hc : Sk_c σ nc) : ∀ (d i : Nat) (s : St) (N : Nat), i + d = m → d < N → (∀ j, j ≠ 28 → s j = σ j) → (∀ j, j < i → s 28 j = aimC σ ni nc j) → ∃ t, fX2_aimItems_l2 N s (nI i) = some t ∧ (∀ j, j ≠ 28 → t j = σ j) ∧ (∀ j, j < m → t 28 j = aimC σ ni nc j) := by
  intro d
  induction d with
  | zero =>
    intro i s N h hN hf ha
    obtain ⟨N, rfl⟩ : ∃ k, N = k + 1 := ⟨N - 1, by omega⟩
    have hk : i = m := by omega
    subst hk
    refine ⟨s, ?_, hf, ha⟩
    show fX2_aimItems_s2 (fX2_aimItems_l2 N) s (nI i) = _
    unfold fX2_aimItems_s2 fX0_size_p
    rw [hf 48 (by decide), hp.2.1, bd1_s, if_pos (Int32.le_refl _)]
  | succ d ih =>
    intro i s N h hN hf ha
    obtain ⟨N, rfl⟩ : ∃ k, N = k + 1 := ⟨N - 1, by omega⟩
    have hm := hp.1
    obtain ⟨t, e1, e2, e3⟩ := ih (i + 1) (sa s 28 i (aimC σ ni nc i)) N (by omega) (by omega) (fun j hj => by rw [sa_ne hj]; exact hf j hj) (fun j hj => by
      rw [sa_at]
      by_cases e : j = i
      · subst e; rw [pk_us]
      · rw [pk_un e]; exact ha j (by omega))
    refine ⟨t, ?_, e2, e3⟩
    show fX2_aimItems_s2 (fX2_aimItems_l2 N) s (nI i) = _
    rw [aimC_step (m := m) (ni := ni) (nc := nc) (wfP_fr hp (hf 48 (by decide)) (hf 8 (by decide)) (hf 9 (by decide))) (Sk_i_fr hi (hf 56 (by decide)) (hf 14 (by decide))) (Sk_c_fr hc (hf 57 (by decide)) (hf 20 (by decide))) (by omega), aimC_fr hf]
    exact e1
theorem aimItems_eq {σ : St} {m ni nc : Nat} (hp : wfP σ m) (hi : Sk_i σ ni) (hc : Sk_c σ nc) : ∃ t, fX2_aimItems σ = some t ∧ (∀ j, j ≠ 28 → t j = σ j) ∧ (∀ j, j < m → t 28 j = aimC σ ni nc j) := by
  have hm := hp.1
  exact aimItems_loop hp hi hc m 0 σ FU (by omega) (by unfold FU; omega) (fun _ _ => rfl) (fun j hj => absurd hj (Nat.not_lt_zero _))
def nmL (f : Nat → Int32) (n : Nat) : Prop := ∀ k, k < n → ∃ l, l < 8 ∧ f k = nI l
theorem aimIslands_loop {σ : St} {ni : Nat} (hi : Sk_i σ ni) (hl : nmL (σ 13) ni) : ∀ (d k : Nat) (s : St) (N : Nat), k + d = ni → d < N → (∀ j, j ≠ 29 → s j = σ j) → (∀ j, j < k → s 29 j = iaimC σ ni j) → ∃ t, fX2_aimIslands_l2 N s (nI k) = some t ∧ (∀ j, j ≠ 29 → t j = σ j) ∧ (∀ j, j < ni → t 29 j = iaimC σ ni j) := by
  have hn := hi.1
  intro d
  induction d with
  | zero =>
    intro k s N h hN hf ha
    obtain ⟨N, rfl⟩ : ∃ k, N = k + 1 := ⟨N - 1, by omega⟩
    have hk : k = ni := by omega
    subst hk
    refine ⟨s, ?_, hf, ha⟩
    show fX2_aimIslands_s2 (fX2_aimIslands_l2 N) s (nI k) = _
    unfold fX2_aimIslands_s2
    rw [ssize_i (Sk_i_fr hi (hf 56 (by decide)) (hf 14 (by decide))), bd1_s, if_pos (Int32.le_refl _)]
  | succ d ih =>
    intro k s N h hN hf ha
    obtain ⟨N, rfl⟩ : ∃ k, N = k + 1 := ⟨N - 1, by omega⟩
    have hk : k < ni := by omega
    have hs := Sk_i_fr hi (hf 56 (by decide)) (hf 14 (by decide))
    obtain ⟨t, e1, e2, e3⟩ := ih (k + 1) (sa s 29 k (iaimC σ ni k)) N (by omega) (by omega) (fun j hj => by rw [sa_ne hj]; exact hf j hj) (fun j hj => by
      rw [sa_at]
      by_cases e : j = k
      · subst e; rw [pk_us]
      · rw [pk_un e]; exact ha j (by omega))
    refine ⟨t, ?_, e2, e3⟩
    obtain ⟨l, hl8, el⟩ := hl k hk
    have c12 : ¬ (nI k < 0 ∨ 12 ≤ Int32.toNatClampNeg (nI k)) := ckN (by omega) (by omega)
    show fX2_aimIslands_s2 (fX2_aimIslands_l2 N) s (nI k) = _
    unfold fX2_aimIslands_s2
    have es : s 13 k = nI l := by rw [hf 13 (by decide)]; exact el
    rw [ssize_i hs, bd1_s, if_neg (nI_ge hk (by omega)), if_neg (capN_i (by omega)), saddr_i hs hk, bd1_s, sname_i hs hk, bd1_s, es, long_in hs hl8, bd1_s, ck_t c12, nI_clamp (by omega), nI_1]
    have : aimL (s 13) (ad_i s) (s 27 l) (s 10 1) (ad_i s k) (nI l) ni = iaimC σ ni k := by
      rw [← iaimC_fr hf]; unfold iaimC; rw [es, nI_clamp (by omega)]
    rw [this]
    exact e1
theorem aimIslands_eq {σ : St} {ni : Nat} (hi : Sk_i σ ni) (hl : nmL (σ 13) ni) : ∃ t, fX2_aimIslands σ = some t ∧ (∀ j, j ≠ 29 → t j = σ j) ∧ (∀ j, j < ni → t 29 j = iaimC σ ni j) := by
  have hn := hi.1
  exact aimIslands_loop hi hl ni 0 σ FU (by omega) (by unfold FU; omega) (fun _ _ => rfl) (fun j hj => absurd hj (Nat.not_lt_zero _))
/-- the reference, asked -/
theorem goesTo_eq {τ : St} {m ni nc i : Nat} (hm : m ≤ 24) (hw : ∀ i, i < m → wfI (τ 2 i) (τ 3 i)) (hi : Mi τ ni) (hc : Mc τ nc) (hB : Bd (τ 12) m) (hL : Bd (τ 17) 8) (him : i < m) : fX6_goesTo τ (nI i) = some (aimM τ ni nc i) := by
  have c24 : ¬ (nI i < 0 ∨ 24 ≤ Int32.toNatClampNeg (nI i)) := ckN (by omega) (by omega)
  have c24' : ¬ (nI i < 0 ∨ 24 ≤ i) := fun z => z.elim (nI_pos (by omega)) (by omega)
  obtain ⟨F, hF, eF⟩ := hB i him
  have hni := hi.1
  have hnc := hc.1
  unfold fX6_goesTo aimM aimV
  rw [ck_t c24, nI_clamp (n := i) (by omega)]
  by_cases k1 : τ 2 i = 1
  · rw [if_pos k1, if_pos k1, conM_eq hc (by omega) hF eF, bd1_s, eF]
    rcases conS_best (nm := τ 10) (ad := τ 14) (r2 := τ 4 2) (frm := nI F) (v := τ 3 i) nc with e | ⟨j, hj, e⟩
    · rw [e, if_pos rfl, if_pos rfl]
    · rw [e, if_neg (nI_m1 (by omega)), if_neg (nI_m1 (by omega)), ck_t (ckN (by omega) (by omega))]
  · rw [if_neg k1, if_neg k1, ck_t c24']
    by_cases k2 : τ 2 i = 2
    · obtain ⟨l, hl, el⟩ := wf_lab (hw i him) k2
      obtain ⟨T, hT, eT⟩ := hL l hl
      rw [if_pos k2, if_pos k2, ck_t c24']
      by_cases g : τ 7 i = 0
      · rw [if_pos g, if_pos g]
        unfold fX6_shortGoes
        rw [ck_t c24, nI_clamp (n := i) (by omega), el, ck_t (ckN hl (by omega)), ck_t c24', nI_clamp (n := l) (by omega), apart_eq, bd1_s, show Int32.toNatClampNeg (0 : Int32) = 0 from by decide]
        by_cases q : τ 4 0 < farI (τ 12 i) (τ 17 l)
        · rw [if_pos q, if_pos q, bd1_s]
        · rw [if_neg q, if_neg q, bd1_s]
      · rw [if_neg g, if_neg g, ck_t c24', ck_t c24', el, eF, goesM_in hi hl hF hT eT, bd1_s, nI_clamp (by omega)]
    · rw [if_neg k2, if_neg k2]
/-! How large an item is, and where gaps end. -/
def upN (d A : Nat) : Nat := (A + d - 1) / d * d
theorem neg_tn {A : Nat} (h : A < 4096) : (-(nI A)).toBitVec.toNat = (4294967296 - A) % 4294967296 := by
  rw [Int32.toBitVec_neg, BitVec.toNat_neg, pk_tn (by omega)]
theorem t_fill2 (A : Nat) (h : A < 4096) : (-(nI A)) &&& (nI 2 - (1 : Int32)) = nI (upN 2 A - A) := by
  rw [pk_and (-(nI A)) (m := nI 2 - (1 : Int32)) 1 (by decide), neg_tn h]
  unfold upN
  congr 1
  omega
theorem t_fill4 (A : Nat) (h : A < 4096) : (-(nI A)) &&& (nI 4 - (1 : Int32)) = nI (upN 4 A - A) := by
  rw [pk_and (-(nI A)) (m := nI 4 - (1 : Int32)) 2 (by decide), neg_tn h]
  unfold upN
  congr 1
  omega
theorem t_fill8 (A : Nat) (h : A < 4096) : (-(nI A)) &&& (nI 8 - (1 : Int32)) = nI (upN 8 A - A) := by
  rw [pk_and (-(nI A)) (m := nI 8 - (1 : Int32)) 3 (by decide), neg_tn h]
  unfold upN
  congr 1
  omega
theorem up_eq {τ : St} {d A : Nat} (hd : 0 < d) (hd2 : d ≤ 8) (hA : A < 4096) : fX6_up τ (nI A) (nI d) = some (nI (upN d A)) := by
  unfold fX6_up upN
  rw [ck_t (nI_ne0 hd (by omega)), nI_add, show (nI (A + d) - (1 : Int32)) = nI (A + d - 1) from pk_sub (a := A + d) (b := 1) (by omega), pk_div (by omega) hd (by omega), pk_mul]
theorem upN_ge {d A : Nat} (hd : 0 < d) : A ≤ upN d A ∧ upN d A < A + d := by
  unfold upN
  have h1 := Nat.div_add_mod (A + d - 1) d
  have h2 := Nat.mod_lt (A + d - 1) hd
  have h3 : d * ((A + d - 1) / d) = (A + d - 1) / d * d := Nat.mul_comm _ _
  omega
def szI (k w g : Int32) (A : Nat) : Nat := if k = 0 then Int32.toNatClampNeg w else if k = 1 then 2 else if k = 2 then (if g = 0 then 2 else 4) else if k = 3 then 0 else if k = 4 then upN (Int32.toNatClampNeg w) A - A else 2
theorem szI_0 {w g : Int32} {A : Nat} : szI (nI 0) w g A = Int32.toNatClampNeg w := if_pos (by decide)
theorem szI_1 {w g : Int32} {A : Nat} : szI (nI 1) w g A = 2 := by unfold szI; rw [if_neg (show ¬ nI 1 = (0 : Int32) from by decide), if_pos (show nI 1 = (1 : Int32) from by decide)]
theorem szI_2 {w g : Int32} {A : Nat} : szI (nI 2) w g A = if g = 0 then 2 else 4 := by unfold szI; rw [if_neg (show ¬ nI 2 = (0 : Int32) from by decide), if_neg (show ¬ nI 2 = (1 : Int32) from by decide), if_pos (show nI 2 = (2 : Int32) from by decide)]
theorem szI_3 {w g : Int32} {A : Nat} : szI (nI 3) w g A = 0 := by unfold szI; rw [if_neg (show ¬ nI 3 = (0 : Int32) from by decide), if_neg (show ¬ nI 3 = (1 : Int32) from by decide), if_neg (show ¬ nI 3 = (2 : Int32) from by decide), if_pos (show nI 3 = (3 : Int32) from by decide)]
theorem szI_4 {w g : Int32} {A : Nat} : szI (nI 4) w g A = upN (Int32.toNatClampNeg w) A - A := by unfold szI; rw [if_neg (show ¬ nI 4 = (0 : Int32) from by decide), if_neg (show ¬ nI 4 = (1 : Int32) from by decide), if_neg (show ¬ nI 4 = (2 : Int32) from by decide), if_neg (show ¬ nI 4 = (3 : Int32) from by decide), if_pos (show nI 4 = (4 : Int32) from by decide)]
theorem szI_5 {w g : Int32} {A : Nat} : szI (nI 5) w g A = 2 := by unfold szI; rw [if_neg (show ¬ nI 5 = (0 : Int32) from by decide), if_neg (show ¬ nI 5 = (1 : Int32) from by decide), if_neg (show ¬ nI 5 = (2 : Int32) from by decide), if_neg (show ¬ nI 5 = (3 : Int32) from by decide), if_neg (show ¬ nI 5 = (4 : Int32) from by decide)]
theorem szI_le {k w g : Int32} {A : Nat} (h : wfI k w) : szI k w g A ≤ 40 := by
  obtain ⟨a, b, rfl, rfl, hc⟩ := h
  rcases hc with ⟨rfl, h⟩ | ⟨rfl, h⟩ | ⟨rfl, h⟩ | ⟨rfl, h⟩ | ⟨rfl, h⟩ | ⟨rfl, h⟩
  · rw [szI_0, nI_clamp (by omega)]; omega
  · rw [szI_1]; omega
  · rw [szI_2]
    by_cases e : g = 0
    · rw [if_pos e]; omega
    · rw [if_neg e]; omega
  · rw [szI_3]; omega
  · rw [szI_4, nI_clamp (by omega)]
    have := upN_ge (d := b) (A := A) (by omega)
    omega
  · rw [szI_5]; omega
theorem sizeC_eq {σ : St} {m i A : Nat} (hp : wfP σ m) (him : i < m) (hA : A < 4096) : fX2_sizeAt σ (nI i) (nI A) = some (nI (szI (σ 8 i) (σ 9 i) (σ 24 i) A)) := by
  obtain ⟨h1, h2, h3⟩ := hp
  obtain ⟨a, b, ea, eb, hc⟩ := h3 i him
  unfold fX2_sizeAt
  rw [kind_in_p h2 h1 him, bd1_s, told_in_p h2 h1 him, ea, eb]
  rcases hc with ⟨rfl, h⟩ | ⟨rfl, h⟩ | ⟨rfl, h⟩ | ⟨rfl, h⟩ | ⟨rfl, h⟩ | ⟨rfl, h⟩
  · rw [szI_0, nI_clamp (by omega), if_pos (show nI 0 = (0 : Int32) from by decide), bd1_s]
  · rw [szI_1, if_neg (show ¬ nI 1 = (0 : Int32) from by decide), if_pos (show nI 1 = (1 : Int32) from by decide)]; rfl
  · rw [szI_2, if_neg (show ¬ nI 2 = (0 : Int32) from by decide), if_neg (show ¬ nI 2 = (1 : Int32) from by decide), if_pos (show nI 2 = (2 : Int32) from by decide), isLong_in (by omega), bd1_s]
    by_cases e : σ 24 i = 0
    · rw [if_pos e, if_pos rfl, if_pos e]; rfl
    · rw [if_neg e, if_neg d_1_0, if_neg e]; rfl
  · rw [szI_3, if_neg (show ¬ nI 3 = (0 : Int32) from by decide), if_neg (show ¬ nI 3 = (1 : Int32) from by decide), if_neg (show ¬ nI 3 = (2 : Int32) from by decide), if_neg (show ¬ nI 3 = (4 : Int32) from by decide), if_neg (show ¬ nI 3 = (5 : Int32) from by decide)]; rfl
  · rw [szI_4, nI_clamp (by omega), if_neg (show ¬ nI 4 = (0 : Int32) from by decide), if_neg (show ¬ nI 4 = (1 : Int32) from by decide), if_neg (show ¬ nI 4 = (2 : Int32) from by decide), if_pos (show nI 4 = (4 : Int32) from by decide), bd1_s]
    unfold fX5_fillTo
    rw [bd1_s]
    rcases h with rfl | rfl | rfl
    · rw [t_fill2 A hA]
    · rw [t_fill4 A hA]
    · rw [t_fill8 A hA]
  · rw [szI_5, if_neg (show ¬ nI 5 = (0 : Int32) from by decide), if_neg (show ¬ nI 5 = (1 : Int32) from by decide), if_neg (show ¬ nI 5 = (2 : Int32) from by decide), if_neg (show ¬ nI 5 = (4 : Int32) from by decide), if_pos (show nI 5 = (5 : Int32) from by decide)]; rfl
theorem sizeM_eq {τ : St} {i A : Nat} (hw : wfI (τ 2 i) (τ 3 i)) (hi : i < 24) (hA : A < 4096) : fX6_sizeOf τ (nI i) (nI A) = some (nI (szI (τ 2 i) (τ 3 i) (τ 7 i) A)) := by
  obtain ⟨a, b, ea, eb, hc⟩ := hw
  have c24 : ¬ (nI i < 0 ∨ 24 ≤ Int32.toNatClampNeg (nI i)) := ckN (by omega) (by omega)
  have c24' : ¬ (nI i < 0 ∨ 24 ≤ i) := fun z => z.elim (nI_pos (by omega)) (by omega)
  unfold fX6_sizeOf
  rw [ck_t c24, nI_clamp (n := i) (by omega), ea, eb]
  rcases hc with ⟨rfl, h⟩ | ⟨rfl, h⟩ | ⟨rfl, h⟩ | ⟨rfl, h⟩ | ⟨rfl, h⟩ | ⟨rfl, h⟩
  · rw [szI_0, nI_clamp (by omega), if_pos (show nI 0 = (0 : Int32) from by decide), ck_t c24']
  · rw [szI_1, if_neg (show ¬ nI 1 = (0 : Int32) from by decide), if_neg (show ¬ nI 1 = (2 : Int32) from by decide), if_neg (show ¬ nI 1 = (3 : Int32) from by decide), if_neg (show ¬ nI 1 = (4 : Int32) from by decide)]; rfl
  · rw [szI_2, if_neg (show ¬ nI 2 = (0 : Int32) from by decide), if_pos (show nI 2 = (2 : Int32) from by decide), ck_t c24']
    by_cases e : τ 7 i = 0
    · rw [if_pos e, if_pos e]; rfl
    · rw [if_neg e, if_neg e]; rfl
  · rw [szI_3, if_neg (show ¬ nI 3 = (0 : Int32) from by decide), if_neg (show ¬ nI 3 = (2 : Int32) from by decide), if_pos (show nI 3 = (3 : Int32) from by decide)]; rfl
  · have hu := upN_ge (d := b) (A := A) (by omega)
    rw [szI_4, nI_clamp (by omega), if_neg (show ¬ nI 4 = (0 : Int32) from by decide), if_neg (show ¬ nI 4 = (2 : Int32) from by decide), if_neg (show ¬ nI 4 = (3 : Int32) from by decide), if_pos (show nI 4 = (4 : Int32) from by decide), ck_t c24', up_eq (by omega) (by omega) hA, bd1_s, pk_sub hu.1]
  · rw [szI_5, if_neg (show ¬ nI 5 = (0 : Int32) from by decide), if_neg (show ¬ nI 5 = (2 : Int32) from by decide), if_neg (show ¬ nI 5 = (3 : Int32) from by decide), if_neg (show ¬ nI 5 = (4 : Int32) from by decide)]; rfl
/-- how many of the first n are v -/
def cntE (f : Nat → Int32) (v : Int32) : Nat → Nat
  | 0 => 0
  | n + 1 => cntE f v n + (if f n = v then 1 else 0)
theorem cntE_le {f : Nat → Int32} {v : Int32} : ∀ {n : Nat}, cntE f v n ≤ n
  | 0 => Nat.le_refl _
  | n + 1 => by
    unfold cntE
    have := cntE_le (f := f) (v := v) (n := n)
    by_cases h : f n = v
    · rw [if_pos h]; omega
    · rw [if_neg h]; omega
theorem cntE_congr {f g : Nat → Int32} {v : Int32} : ∀ {n : Nat}, (∀ i, i < n → f i = g i) → cntE f v n = cntE g v n
  | 0, _ => rfl
  | n + 1, h => by
    unfold cntE
    rw [cntE_congr (fun i hi => h i (by omega)), h n (by omega)]
theorem cntE_mono {f : Nat → Int32} {v : Int32} {a b : Nat} (h : a ≤ b) : cntE f v a ≤ cntE f v b := by
  induction b with
  | zero => have : a = 0 := by omega
            subst this; exact Nat.le_refl _
  | succ b ih =>
    by_cases e : a = b + 1
    · subst e; exact Nat.le_refl _
    · have := ih (by omega)
      have hs : cntE f v (b + 1) = cntE f v b + (if f b = v then 1 else 0) := rfl
      rw [hs]
      omega
/-- the reference's gap: its islands -/
theorem gapM_isl {τ : St} {ni r : Nat} (hn : ni ≤ 12) (hr : r < 24) : ∀ (d k : Nat) (t : St) (N B : Nat), k + d = ni → d < N → B < 3500 → t 48 0 = nI ni → (∀ j, j ≠ 13 → t j = τ j) →
    ∃ t', fX6_layGap_l5 N t (nI r) (nI (B + 4 * cntE (τ 9) (nI r) k)) (nI k) = fX6_layGap_l55 FU (sa t' 15 r (nI (B + 4 * cntE (τ 9) (nI r) ni))) (nI r) (nI (B + 4 * cntE (τ 9) (nI r) ni)) 0 0 ∧ (∀ j, j ≠ 13 → t' j = τ j) ∧ (∀ j, t' 13 j = if k ≤ j ∧ j < ni ∧ τ 9 j = nI r then nI (B + 4 * cntE (τ 9) (nI r) j) else t 13 j) := by
  intro d
  have c24 : ¬ (nI r < 0 ∨ 24 ≤ Int32.toNatClampNeg (nI r)) := ckN (by omega) (by omega)
  induction d with
  | zero =>
    intro k t N B h hN hB hs hf
    obtain ⟨N, rfl⟩ : ∃ k, N = k + 1 := ⟨N - 1, by omega⟩
    have hk : k = ni := by omega
    subst hk
    refine ⟨t, ?_, hf, fun j => by rw [if_neg (by omega)]⟩
    show fX6_layGap_s5 (fX6_layGap_l5 N) t _ _ _ = _
    unfold fX6_layGap_s5
    rw [hs, if_pos (Int32.le_refl _), ck_t c24, nI_clamp (by omega)]
  | succ d ih =>
    intro k t N B h hN hB hs hf
    obtain ⟨N, rfl⟩ : ∃ k, N = k + 1 := ⟨N - 1, by omega⟩
    have hk : k < ni := by omega
    have c12 : ¬ (nI k < 0 ∨ 12 ≤ Int32.toNatClampNeg (nI k)) := ckN (by omega) (by omega)
    have c12' : ¬ (nI k < 0 ∨ 12 ≤ k) := fun z => z.elim (nI_pos (by omega)) (by omega)
    have hstep : cntE (τ 9) (nI r) (k + 1) = cntE (τ 9) (nI r) k + (if τ 9 k = nI r then 1 else 0) := rfl
    by_cases e : τ 9 k = nI r
    · rw [if_pos e] at hstep
      obtain ⟨t', e1, e2, e3⟩ := ih (k + 1) (sa t 13 k (nI (B + 4 * cntE (τ 9) (nI r) k))) N B (by omega) (by omega) hB (by rw [sa_ne (by decide)]; exact hs) (fun j hj => by rw [sa_ne hj]; exact hf j hj)
      refine ⟨t', ?_, e2, fun j => ?_⟩
      · show fX6_layGap_s5 (fX6_layGap_l5 N) t _ _ _ = _
        unfold fX6_layGap_s5
        rw [hs, if_neg (nI_ge hk (by omega)), ck_t c12, nI_clamp (n := k) (by omega), hf 9 (by decide), if_pos e, ck_t c12', nI_1, show (4 : Int32) = nI 4 from rfl, nI_add, show B + 4 * cntE (τ 9) (nI r) k + 4 = B + 4 * cntE (τ 9) (nI r) (k + 1) by omega]
        exact e1
      · rw [e3 j, sa_at]
        by_cases ej : j = k
        · subst ej; rw [if_neg (by omega), pk_us, if_pos ⟨Nat.le_refl _, hk, e⟩]
        · rw [pk_un ej]
          by_cases q : k + 1 ≤ j ∧ j < ni ∧ τ 9 j = nI r
          · rw [if_pos q, if_pos ⟨by omega, q.2⟩]
          · rw [if_neg q, if_neg (fun z => q ⟨by omega, z.2⟩)]
    · rw [if_neg e] at hstep
      obtain ⟨t', e1, e2, e3⟩ := ih (k + 1) t N B (by omega) (by omega) hB hs hf
      refine ⟨t', ?_, e2, fun j => ?_⟩
      · show fX6_layGap_s5 (fX6_layGap_l5 N) t _ _ _ = _
        unfold fX6_layGap_s5
        rw [hs, if_neg (nI_ge hk (by omega)), ck_t c12, nI_clamp (n := k) (by omega), hf 9 (by decide), if_neg e, nI_1, show B + 4 * cntE (τ 9) (nI r) k = B + 4 * cntE (τ 9) (nI r) (k + 1) by omega]
        exact e1
      · rw [e3 j]
        by_cases ej : j = k
        · subst ej; rw [if_neg (by omega), if_neg (fun z => e z.2.2)]
        · by_cases q : k + 1 ≤ j ∧ j < ni ∧ τ 9 j = nI r
          · rw [if_pos q, if_pos ⟨by omega, q.2⟩]
          · rw [if_neg q, if_neg (fun z => q ⟨by omega, z.2⟩)]
/-! A gap: its constants (reference), and the class's gap. -/
def atN (E c : Nat) : Nat := if c = 0 then E else upN 4 E + 4 * c
def filN (E c : Nat) : Nat := if c = 0 then 0 else upN 4 E - E
def stN (E c : Nat) : Nat := if c = 0 then E else upN 4 E
theorem upN4_at {E c : Nat} (h : c ≠ 0) : upN 4 (upN 4 E + 4 * c) = upN 4 E + 4 * c := by unfold upN; omega
theorem gapM_con {τ : St} {nc r E fl : Nat} (hn : nc ≤ 16) (hr : r < 24) (hE : E < 3600) (hfl : fl < 4096) : ∀ (d k : Nat) (t : St) (N : Nat), k + d = nc → d < N → t 49 0 = nI nc → (∀ j, j ≠ 14 → j ≠ 51 → t j = τ j) → t 51 0 = nI (fl + filN E (cntE (τ 11) (nI r) k)) →
    ∃ t', fX6_layGap_l55 N t (nI r) (nI (atN E (cntE (τ 11) (nI r) k))) (if cntE (τ 11) (nI r) k = 0 then 0 else 1) (nI k) = some (nI (atN E (cntE (τ 11) (nI r) nc)), sa t' 16 r (nI (upN 4 (atN E (cntE (τ 11) (nI r) nc))))) ∧ (∀ j, j ≠ 14 → j ≠ 51 → t' j = τ j) ∧ t' 51 0 = nI (fl + filN E (cntE (τ 11) (nI r) nc)) ∧ (∀ j, t' 14 j = if k ≤ j ∧ j < nc ∧ τ 11 j = nI r then nI (upN 4 E + 4 * cntE (τ 11) (nI r) j) else t 14 j) := by
  intro d
  have c24 : ¬ (nI r < 0 ∨ 24 ≤ Int32.toNatClampNeg (nI r)) := ckN (by omega) (by omega)
  have hu := upN_ge (d := 4) (A := E) (by omega)
  have hat : ∀ c, c ≤ 16 → atN E c < 4096 := fun c hc => by
    unfold atN
    by_cases e : c = 0
    · rw [if_pos e]; omega
    · rw [if_neg e]; omega
  induction d with
  | zero =>
    intro k t N h hN hs hf h51
    obtain ⟨N, rfl⟩ : ∃ k, N = k + 1 := ⟨N - 1, by omega⟩
    have hk : k = nc := by omega
    subst hk
    have hc := cntE_le (f := τ 11) (v := nI r) (n := k)
    refine ⟨t, ?_, hf, h51, fun j => by rw [if_neg (by omega)]⟩
    show fX6_layGap_s55 (fX6_layGap_l55 N) t _ _ _ _ = _
    unfold fX6_layGap_s55
    rw [hs, if_pos (Int32.le_refl _), show (4 : Int32) = nI 4 from rfl, up_eq (by omega) (by omega) (hat _ (by omega)), bd1_s, ck_t c24, nI_clamp (by omega)]
  | succ d ih =>
    intro k t N h hN hs hf h51
    obtain ⟨N, rfl⟩ : ∃ k, N = k + 1 := ⟨N - 1, by omega⟩
    have hk : k < nc := by omega
    have hc := cntE_le (f := τ 11) (v := nI r) (n := k)
    have c16 : ¬ (nI k < 0 ∨ 16 ≤ Int32.toNatClampNeg (nI k)) := ckN (by omega) (by omega)
    have hstep : cntE (τ 11) (nI r) (k + 1) = cntE (τ 11) (nI r) k + (if τ 11 k = nI r then 1 else 0) := rfl
    by_cases e : τ 11 k = nI r
    · rw [if_pos e] at hstep
      -- the value laid, and the state behind it
      have body : ∀ (z : Nat), fl + filN E (cntE (τ 11) (nI r) k) + z = fl + filN E (cntE (τ 11) (nI r) (k + 1)) → fX6_layGap_b96 (fX6_layGap_l55 N) t (nI r) (nI (atN E (cntE (τ 11) (nI r) k))) (nI k) (nI z) (t 51 0) = fX6_layGap_l55 N (sa (si t 51 (nI (fl + filN E (cntE (τ 11) (nI r) (k + 1))))) 14 k (nI (upN 4 E + 4 * cntE (τ 11) (nI r) k))) (nI r) (nI (atN E (cntE (τ 11) (nI r) (k + 1)))) (if cntE (τ 11) (nI r) (k + 1) = 0 then 0 else 1) (nI (k + 1)) := by
        intro z hz
        unfold fX6_layGap_b96
        have hup : upN 4 (atN E (cntE (τ 11) (nI r) k)) = upN 4 E + 4 * cntE (τ 11) (nI r) k := by
          unfold atN
          by_cases q : cntE (τ 11) (nI r) k = 0
          · rw [if_pos q, q]; rfl
          · rw [if_neg q]; exact upN4_at q
        rw [show (4 : Int32) = nI 4 from rfl, up_eq (by omega) (by omega) (hat _ (by omega)), bd1_s, ck_t c16, nI_clamp (n := k) (by omega), h51, nI_add, hz, hup, nI_add, nI_1, hstep, if_neg (by omega)]
        rw [show atN E (cntE (τ 11) (nI r) k + 1) = upN 4 E + 4 * cntE (τ 11) (nI r) k + 4 from by unfold atN; rw [if_neg (by omega)]; omega]
      obtain ⟨t', e1, e2, e3, e4⟩ := ih (k + 1) (sa (si t 51 (nI (fl + filN E (cntE (τ 11) (nI r) (k + 1))))) 14 k (nI (upN 4 E + 4 * cntE (τ 11) (nI r) k))) N (by omega) (by omega) (by rw [sa_ne (by decide), si_ne (by decide)]; exact hs) (fun j h1 h2 => by rw [sa_ne h1, si_ne h2]; exact hf j h1 h2) (by rw [sa_ne (by decide), si_at])
      refine ⟨t', ?_, e2, e3, fun j => ?_⟩
      · show fX6_layGap_s55 (fX6_layGap_l55 N) t _ _ _ _ = _
        unfold fX6_layGap_s55
        rw [hs, if_neg (nI_ge hk (by omega)), ck_t c16, nI_clamp (n := k) (by omega), hf 11 (by decide) (by decide), if_pos e]
        by_cases q : cntE (τ 11) (nI r) k = 0
        · rw [if_pos q, if_pos rfl, show (4 : Int32) = nI 4 from rfl, up_eq (by omega) (by omega) (hat _ (by omega)), bd1_s]
          have hq : atN E (cntE (τ 11) (nI r) k) = E := by unfold atN; rw [if_pos q]
          rw [show nI (upN 4 (atN E (cntE (τ 11) (nI r) k))) - nI (atN E (cntE (τ 11) (nI r) k)) = nI (upN 4 E - E) from by rw [hq]; exact pk_sub hu.1, body (upN 4 E - E) (by unfold filN; rw [if_pos q, if_neg (by omega)]; omega)]
          exact e1
        · rw [if_neg q, if_neg d_1_0, show (0 : Int32) = nI 0 from rfl, body 0 (by unfold filN; rw [if_neg q, if_neg (by omega)]; omega)]
          exact e1
      · rw [e4 j, sa_at, si_ne (by decide)]
        by_cases ej : j = k
        · subst ej; rw [if_neg (by omega), pk_us, if_pos ⟨Nat.le_refl _, hk, e⟩]
        · rw [pk_un ej]
          by_cases q : k + 1 ≤ j ∧ j < nc ∧ τ 11 j = nI r
          · rw [if_pos q, if_pos ⟨by omega, q.2⟩]
          · rw [if_neg q, if_neg (fun z => q ⟨by omega, z.2⟩)]
    · rw [if_neg e] at hstep
      have hs0 : cntE (τ 11) (nI r) (k + 1) = cntE (τ 11) (nI r) k := by omega
      obtain ⟨t', e1, e2, e3, e4⟩ := ih (k + 1) t N (by omega) (by omega) hs hf (by rw [hs0]; exact h51)
      rw [hs0] at e1
      refine ⟨t', ?_, e2, e3, fun j => ?_⟩
      · show fX6_layGap_s55 (fX6_layGap_l55 N) t _ _ _ _ = _
        unfold fX6_layGap_s55
        rw [hs, if_neg (nI_ge hk (by omega)), ck_t c16, nI_clamp (n := k) (by omega), hf 11 (by decide) (by decide), if_neg e, nI_1]
        exact e1
      · rw [e4 j]
        by_cases ej : j = k
        · subst ej; rw [if_neg (by omega), if_neg (fun z => e z.2.2)]
        · by_cases q : k + 1 ≤ j ∧ j < nc ∧ τ 11 j = nI r
          · rw [if_pos q, if_pos ⟨by omega, q.2⟩]
          · rw [if_neg q, if_neg (fun z => q ⟨by omega, z.2⟩)]
/-- the reference's gap, whole -/
theorem gapM_eq {τ : St} {ni nc r B fl : Nat} (hni : ni ≤ 12) (hnc : nc ≤ 16) (hr : r < 24) (hB : B < 3500) (hfl : fl < 4096) (h48 : τ 48 0 = nI ni) (h49 : τ 49 0 = nI nc) (h51 : τ 51 0 = nI fl) :
    ∃ t, fX6_layGap τ (nI r) (nI B) = some (nI (atN (B + 4 * cntE (τ 9) (nI r) ni) (cntE (τ 11) (nI r) nc)), t) ∧ (∀ j, j ≠ 13 → j ≠ 14 → j ≠ 15 → j ≠ 16 → j ≠ 51 → t j = τ j) ∧ t 51 0 = nI (fl + filN (B + 4 * cntE (τ 9) (nI r) ni) (cntE (τ 11) (nI r) nc)) ∧
      (∀ j, t 13 j = if j < ni ∧ τ 9 j = nI r then nI (B + 4 * cntE (τ 9) (nI r) j) else τ 13 j) ∧ (∀ j, t 14 j = if j < nc ∧ τ 11 j = nI r then nI (upN 4 (B + 4 * cntE (τ 9) (nI r) ni) + 4 * cntE (τ 11) (nI r) j) else τ 14 j) ∧
      t 15 = upd (τ 15) r (nI (B + 4 * cntE (τ 9) (nI r) ni)) ∧ t 16 = upd (τ 16) r (nI (upN 4 (atN (B + 4 * cntE (τ 9) (nI r) ni) (cntE (τ 11) (nI r) nc)))) := by
  have hc := cntE_le (f := τ 9) (v := nI r) (n := ni)
  obtain ⟨t1, a1, a2, a3⟩ := gapM_isl (τ := τ) hni hr ni 0 τ FU B (by omega) (by unfold FU; omega) hB h48 (fun _ _ => rfl)
  obtain ⟨t2, b1, b2, b3, b4⟩ := gapM_con (τ := sa t1 15 r (nI (B + 4 * cntE (τ 9) (nI r) ni))) (E := B + 4 * cntE (τ 9) (nI r) ni) (fl := fl) hnc hr (by omega) hfl nc 0 (sa t1 15 r (nI (B + 4 * cntE (τ 9) (nI r) ni))) FU (by omega) (by unfold FU; omega) (by rw [sa_ne (by decide), a2 49 (by decide)]; exact h49) (fun _ _ _ => rfl) (by rw [sa_ne (by decide), a2 51 (by decide), h51]; rfl)
  have e11 : (sa t1 15 r (nI (B + 4 * cntE (τ 9) (nI r) ni))) 11 = τ 11 := by rw [sa_ne (by decide), a2 11 (by decide)]
  rw [e11] at b1 b3 b4
  refine ⟨sa t2 16 r (nI (upN 4 (atN (B + 4 * cntE (τ 9) (nI r) ni) (cntE (τ 11) (nI r) nc)))), ?_, fun j h13 h14 h15 h16 h51 => ?_, ?_, fun j => ?_, fun j => ?_, ?_, ?_⟩
  · show fX6_layGap_l5 FU τ (nI r) (nI B) (nI 0) = _
    exact a1.trans b1
  · rw [sa_ne h16, b2 j h14 h51, sa_ne h15, a2 j h13]
  · rw [sa_ne (by decide)]; exact b3
  · rw [sa_ne (by decide), b2 13 (by decide) (by decide), sa_ne (by decide), a3 j]
    by_cases q : j < ni ∧ τ 9 j = nI r
    · rw [if_pos ⟨Nat.zero_le _, q⟩, if_pos q]
    · rw [if_neg (fun z => q z.2), if_neg q]
  · rw [sa_ne (by decide), b4 j, sa_ne (show (14 : Nat) ≠ 15 by decide), a2 14 (by decide)]
    by_cases q : j < nc ∧ τ 11 j = nI r
    · rw [if_pos ⟨Nat.zero_le _, q⟩, if_pos q]
    · rw [if_neg (fun z => q z.2), if_neg q]
  · rw [sa_ne (by decide), b2 15 (by decide) (by decide), sa_at, a2 15 (by decide)]
  · rw [sa_at, b2 16 (by decide) (by decide), sa_ne (by decide), a2 16 (by decide)]
/-- the class's gap -/
theorem gapC_eq {σ : St} {r B ci cc : Nat} (hr : r < 24) (hB : B < 3500) (hci : ci ≤ 12) (hcc : cc ≤ 16) (h16 : σ 16 r = nI ci) (h22 : σ 22 r = nI cc) :
    ∃ s, fX2_layGap σ (nI r) (nI B) = some (nI (atN (B + 4 * ci) cc), s) ∧ (∀ j, j ≠ 17 → j ≠ 23 → j ≠ 53 → s j = σ j) ∧ s 17 = upd (σ 17) r (nI B) ∧ s 23 = upd (σ 23) r (nI (stN (B + 4 * ci) cc)) ∧ s 53 0 = σ 53 0 + nI (filN (B + 4 * ci) cc) := by
  have c24 : ¬ (nI r < 0 ∨ 24 ≤ Int32.toNatClampNeg (nI r)) := ckN (by omega) (by omega)
  have c24' : ¬ (nI r < 0 ∨ 24 ≤ r) := fun z => z.elim (nI_pos (by omega)) (by omega)
  have hli : fX4_lay_i σ (nI r) (nI B) = some (nI (B + 4 * ci), sa σ 17 r (nI B)) := by
    unfold fX4_lay_i
    rw [itm_in hr, bd1_s, if_neg d_1_0, ck_t c24, ck_t c24, nI_clamp (by omega), h16, show (4 : Int32) = nI 4 from rfl, pk_mul, nI_add]
  have hlc : ∀ (s : St) (X : Nat), s 22 r = nI cc → fX4_lay_c s (nI r) (nI X) = some (nI (X + 4 * cc), sa s 23 r (nI X)) := by
    intro s X hs
    unfold fX4_lay_c
    rw [itm_in hr, bd1_s, if_neg d_1_0, ck_t c24, ck_t c24, nI_clamp (by omega), hs, show (4 : Int32) = nI 4 from rfl, pk_mul, nI_add]
  have hin : fX4_isIn_c (sa σ 17 r (nI B)) (nI r) = some (if cc = 0 then 0 else 1) := by
    unfold fX4_isIn_c
    rw [itm_in hr, bd1_s, if_neg d_1_0, ck_t c24, nI_clamp (by omega), sa_ne (by decide), h22]
    by_cases q : cc = 0
    · rw [if_pos q, q, if_pos (by decide)]
    · rw [if_neg q, if_neg (nI_nle (by omega) (by omega))]
  unfold fX2_layGap
  rw [hli, bd2_s, hin, bd1_s]
  by_cases q : cc = 0
  · rw [if_pos q, if_pos rfl]
    unfold fX2_layGap_b44
    rw [hlc _ _ (by rw [sa_ne (by decide)]; exact h22), bd2_s]
    refine ⟨sa (sa σ 17 r (nI B)) 23 r (nI (B + 4 * ci)), ?_, fun j h1 h2 h3 => ?_, ?_, ?_, ?_⟩
    · rw [show atN (B + 4 * ci) cc = B + 4 * ci + 4 * cc from by unfold atN; rw [if_pos q]; omega]
    · rw [sa_ne h2, sa_ne h1]
    · rw [sa_ne (by decide), sa_at]
    · rw [sa_at, sa_ne (by decide)]; unfold stN; rw [if_pos q]
    · rw [sa_ne (by decide), sa_ne (by decide)]; unfold filN; rw [if_pos q]; simp [nI_0]
  · rw [if_neg q, if_neg d_1_0]
    have hu := upN_ge (d := 4) (A := B + 4 * ci) (by omega)
    unfold fX5_fillTo
    rw [bd1_s, show (4 : Int32) = nI 4 from rfl, t_fill4 (B + 4 * ci) (by omega), nI_add, show B + 4 * ci + (upN 4 (B + 4 * ci) - (B + 4 * ci)) = upN 4 (B + 4 * ci) by omega]
    unfold fX2_layGap_b44
    rw [hlc _ _ (by rw [si_ne (by decide), sa_ne (by decide)]; exact h22), bd2_s]
    refine ⟨sa (si (sa σ 17 r (nI B)) 53 ((sa σ 17 r (nI B)) 53 0 + nI (upN 4 (B + 4 * ci) - (B + 4 * ci)))) 23 r (nI (upN 4 (B + 4 * ci))), ?_, fun j h1 h2 h3 => ?_, ?_, ?_, ?_⟩
    · rw [show atN (B + 4 * ci) cc = upN 4 (B + 4 * ci) + 4 * cc from by unfold atN; rw [if_neg q]]
    · rw [sa_ne h2, si_ne h3, sa_ne h1]
    · rw [sa_ne (by decide), si_ne (by decide), sa_at]
    · rw [sa_at, si_ne (by decide), sa_ne (by decide)]; unfold stN; rw [if_neg q]
    · rw [sa_ne (by decide), si_at, sa_ne (by decide)]; unfold filN; rw [if_neg q]
/-! All items laid: the class. What an address is, said once for both sides. -/
def nxtS (kd td lg : Nat → Int32) (cI cC : Nat → Nat) (i A : Nat) : Nat :=
  if kd i = 5 then atN (A + szI (kd i) (td i) (lg i) A + 4 * cI i) (cC i) else A + szI (kd i) (td i) (lg i) A
def AdS (kd td lg : Nat → Int32) (cI cC : Nat → Nat) : Nat → Nat
  | 0 => 0
  | i + 1 => nxtS kd td lg cI cC i (AdS kd td lg cI cC i)
def filS (kd td lg : Nat → Int32) (cI cC : Nat → Nat) : Nat → Nat
  | 0 => 0
  | i + 1 => filS kd td lg cI cC i + (if kd i = 4 then szI (kd i) (td i) (lg i) (AdS kd td lg cI cC i) else if kd i = 5 then filN (AdS kd td lg cI cC i + szI (kd i) (td i) (lg i) (AdS kd td lg cI cC i) + 4 * cI i) (cC i) else 0)
def labS (kd td lg : Nat → Int32) (cI cC : Nat → Nat) (lab : Nat → Int32) : Nat → Nat → Int32
  | 0 => lab
  | i + 1 => if kd i = 3 then upd (labS kd td lg cI cC lab i) (Int32.toNatClampNeg (td i)) (nI (AdS kd td lg cI cC i)) else labS kd td lg cI cC lab i
theorem szI_5' {k w g : Int32} {A : Nat} (h : k = 5) : szI k w g A = 2 := by rw [h]; exact szI_5
theorem szI_3' {k w g : Int32} {A : Nat} (h : k = 3) : szI k w g A = 0 := by rw [h]; exact szI_3
theorem szI_4' {k w g : Int32} {A : Nat} (hw : wfI k w) (h : k = 4) : szI k w g A ≤ 7 := by
  obtain ⟨a, b, ea, eb, hc⟩ := hw
  have : a = 4 := (nI_eq (a := a) (b := 4) (by omega) (by omega)).mp (by rw [← ea]; exact h)
  rw [h, eb, show szI 4 (nI b) g A = upN (Int32.toNatClampNeg (nI b)) A - A from szI_4, nI_clamp (by omega)]
  have := upN_ge (d := b) (A := A) (by omega)
  omega
theorem atN_le {E c : Nat} (h : c ≤ 16) : atN E c ≤ E + 67 := by
  unfold atN
  have := upN_ge (d := 4) (A := E) (by omega)
  by_cases q : c = 0
  · rw [if_pos q]; omega
  · rw [if_neg q]; omega
theorem filN_le {E c : Nat} : filN E c ≤ 3 := by
  unfold filN
  have := upN_ge (d := 4) (A := E) (by omega)
  by_cases q : c = 0
  · rw [if_pos q]; omega
  · rw [if_neg q]; omega
theorem AdS_le {kd td lg : Nat → Int32} {cI cC : Nat → Nat} {m : Nat} (hw : ∀ i, i < m → wfI (kd i) (td i)) (hI : ∀ r, cI r ≤ 12) (hC : ∀ r, cC r ≤ 16) : ∀ i, i ≤ m → AdS kd td lg cI cC i ≤ 120 * i ∧ filS kd td lg cI cC i ≤ 10 * i := by
  intro i
  induction i with
  | zero => intro _; exact ⟨Nat.le_refl _, Nat.le_refl _⟩
  | succ i ih =>
    intro hi
    obtain ⟨h1, h2⟩ := ih (by omega)
    have hz := szI_le (g := lg i) (A := AdS kd td lg cI cC i) (hw i (by omega))
    have a := hI i
    have b := hC i
    refine ⟨?_, ?_⟩
    · show nxtS kd td lg cI cC i (AdS kd td lg cI cC i) ≤ _
      unfold nxtS
      by_cases q : kd i = 5
      · rw [if_pos q, szI_5' q]
        have := atN_le (E := AdS kd td lg cI cC i + 2 + 4 * cI i) b
        omega
      · rw [if_neg q]; omega
    · show filS kd td lg cI cC i + _ ≤ _
      by_cases q4 : kd i = 4
      · rw [if_pos q4]; have := szI_4' (g := lg i) (A := AdS kd td lg cI cC i) (hw i (by omega)) q4; omega
      · rw [if_neg q4]
        by_cases q5 : kd i = 5
        · rw [if_pos q5]; have := filN_le (E := AdS kd td lg cI cC i + szI (kd i) (td i) (lg i) (AdS kd td lg cI cC i) + 4 * cI i) (c := cC i); omega
        · rw [if_neg q5]; omega
/-- what is laid of the first i items (class) -/
def LayC (σ s : St) (cI cC : Nat → Nat) (i : Nat) : Prop :=
  (∀ j, j ≠ 25 → j ≠ 26 → j ≠ 27 → j ≠ 17 → j ≠ 23 → j ≠ 53 → s j = σ j) ∧
  (∀ j, j < i → s 25 j = nI (AdS (σ 8) (σ 9) (σ 24) cI cC j) ∧ s 26 j = nI (szI (σ 8 j) (σ 9 j) (σ 24 j) (AdS (σ 8) (σ 9) (σ 24) cI cC j))) ∧
  s 27 = labS (σ 8) (σ 9) (σ 24) cI cC (σ 27) i ∧ s 53 0 = nI (filS (σ 8) (σ 9) (σ 24) cI cC i) ∧
  (∀ r, r < i → σ 8 r = 5 → s 17 r = nI (AdS (σ 8) (σ 9) (σ 24) cI cC r + 2) ∧ s 23 r = nI (stN (AdS (σ 8) (σ 9) (σ 24) cI cC r + 2 + 4 * cI r) (cC r)))
theorem layC_loop {σ : St} {m : Nat} {cI cC : Nat → Nat} (hp : wfP σ m) (hI : ∀ r, cI r ≤ 12) (hC : ∀ r, cC r ≤ 16) (h16 : ∀ r, r < 24 → σ 16 r = nI (cI r)) (h22 : ∀ r, r < 24 → σ 22 r = nI (cC r)) :
    ∀ (d i : Nat) (s : St) (N : Nat), i + d = m → d < N → LayC σ s cI cC i → ∃ u, fX2_lay_l9 N s (nI (AdS (σ 8) (σ 9) (σ 24) cI cC i)) (nI i) = some (si u 52 (nI (AdS (σ 8) (σ 9) (σ 24) cI cC m))) ∧ LayC σ u cI cC m := by
  have hm := hp.1
  intro d
  induction d with
  | zero =>
    intro i s N h hN hf
    obtain ⟨N, rfl⟩ : ∃ k, N = k + 1 := ⟨N - 1, by omega⟩
    have hk : i = m := by omega
    subst hk
    refine ⟨s, ?_, hf⟩
    show fX2_lay_s9 (fX2_lay_l9 N) s _ _ = _
    unfold fX2_lay_s9 fX0_size_p
    rw [hf.1 48 (by decide) (by decide) (by decide) (by decide) (by decide) (by decide), hp.2.1, bd1_s, if_pos (Int32.le_refl _)]
    rfl
  | succ d ih =>
    intro i s N h hN hf
    obtain ⟨N, rfl⟩ : ∃ k, N = k + 1 := ⟨N - 1, by omega⟩
    have him : i < m := by omega
    obtain ⟨f0, f1, f2, f3, f4⟩ := id hf
    have hb := AdS_le (lg := σ 24) hp.2.2 hI hC i (by omega)
    have e8 := f0 8 (by decide) (by decide) (by decide) (by decide) (by decide) (by decide)
    have e9 := f0 9 (by decide) (by decide) (by decide) (by decide) (by decide) (by decide)
    have e24 := f0 24 (by decide) (by decide) (by decide) (by decide) (by decide) (by decide)
    have e48 := f0 48 (by decide) (by decide) (by decide) (by decide) (by decide) (by decide)
    have hps : wfP s m := wfP_fr hp e48 e8 e9
    have hz := szI_le (g := σ 24 i) (A := AdS (σ 8) (σ 9) (σ 24) cI cC i) (hp.2.2 i him)
    have c24 : ¬ (nI i < 0 ∨ 24 ≤ Int32.toNatClampNeg (nI i)) := ckN (by omega) (by omega)
    have hsz := sizeC_eq hps him (A := AdS (σ 8) (σ 9) (σ 24) cI cC i) (by omega)
    rw [e8, e9, e24] at hsz
    -- the state with the item's own rows
    have g0 : ∀ j, j ≠ 25 → j ≠ 26 → sa (sa s 25 i (nI (AdS (σ 8) (σ 9) (σ 24) cI cC i))) 26 i (nI (szI (σ 8 i) (σ 9 i) (σ 24 i) (AdS (σ 8) (σ 9) (σ 24) cI cC i))) j = s j := fun j h1 h2 => by rw [sa_ne h2, sa_ne h1]
    have g1 : ∀ j, j < i + 1 → (sa (sa s 25 i (nI (AdS (σ 8) (σ 9) (σ 24) cI cC i))) 26 i (nI (szI (σ 8 i) (σ 9 i) (σ 24 i) (AdS (σ 8) (σ 9) (σ 24) cI cC i)))) 25 j = nI (AdS (σ 8) (σ 9) (σ 24) cI cC j) ∧ (sa (sa s 25 i (nI (AdS (σ 8) (σ 9) (σ 24) cI cC i))) 26 i (nI (szI (σ 8 i) (σ 9 i) (σ 24 i) (AdS (σ 8) (σ 9) (σ 24) cI cC i)))) 26 j = nI (szI (σ 8 j) (σ 9 j) (σ 24 j) (AdS (σ 8) (σ 9) (σ 24) cI cC j)) := by
      intro j hj
      rw [sa_ne (show (25 : Nat) ≠ 26 by decide), sa_at, sa_at, sa_ne (show (26 : Nat) ≠ 25 by decide)]
      by_cases q : j = i
      · subst q; rw [pk_us, pk_us]; exact ⟨rfl, rfl⟩
      · rw [pk_un q, pk_un q]; exact f1 j (by omega)
    have hhead : fX2_lay_l9 (N + 1) s (nI (AdS (σ 8) (σ 9) (σ 24) cI cC i)) (nI i) = fX2_lay_s9 (fX2_lay_l9 N) s (nI (AdS (σ 8) (σ 9) (σ 24) cI cC i)) (nI i) := rfl
    rw [hhead]
    unfold fX2_lay_s9
    rw [show fX0_size_p s = some (nI m) from by unfold fX0_size_p; rw [e48, hp.2.1], bd1_s, if_neg (nI_ge him (by omega)), if_neg (nI24 (by omega)), kind_in_p hps.2.1 hm him, bd1_s, hsz, bd1_s, ck_t c24, ck_t c24, nI_clamp (n := i) (by omega), nI_add, nI_1, e8]
    generalize hS : sa (sa s 25 i (nI (AdS (σ 8) (σ 9) (σ 24) cI cC i))) 26 i (nI (szI (σ 8 i) (σ 9 i) (σ 24 i) (AdS (σ 8) (σ 9) (σ 24) cI cC i))) = s1 at g0 g1 ⊢
    have eA : AdS (σ 8) (σ 9) (σ 24) cI cC (i + 1) = nxtS (σ 8) (σ 9) (σ 24) cI cC i (AdS (σ 8) (σ 9) (σ 24) cI cC i) := rfl
    have eF : filS (σ 8) (σ 9) (σ 24) cI cC (i + 1) = filS (σ 8) (σ 9) (σ 24) cI cC i + (if σ 8 i = 4 then szI (σ 8 i) (σ 9 i) (σ 24 i) (AdS (σ 8) (σ 9) (σ 24) cI cC i) else if σ 8 i = 5 then filN (AdS (σ 8) (σ 9) (σ 24) cI cC i + szI (σ 8 i) (σ 9 i) (σ 24 i) (AdS (σ 8) (σ 9) (σ 24) cI cC i) + 4 * cI i) (cC i) else 0) := rfl
    have eL : labS (σ 8) (σ 9) (σ 24) cI cC (σ 27) (i + 1) = if σ 8 i = 3 then upd (labS (σ 8) (σ 9) (σ 24) cI cC (σ 27) i) (Int32.toNatClampNeg (σ 9 i)) (nI (AdS (σ 8) (σ 9) (σ 24) cI cC i)) else labS (σ 8) (σ 9) (σ 24) cI cC (σ 27) i := rfl
    have n45 : σ 8 i = 4 → ¬ σ 8 i = 5 := fun a b => absurd (a.symm.trans b) (by decide)
    have n43 : σ 8 i = 4 → ¬ σ 8 i = 3 := fun a b => absurd (a.symm.trans b) (by decide)
    have n35 : σ 8 i = 3 → ¬ σ 8 i = 5 := fun a b => absurd (a.symm.trans b) (by decide)
    have n53 : σ 8 i = 5 → ¬ σ 8 i = 3 := fun a b => absurd (a.symm.trans b) (by decide)
    by_cases q4 : σ 8 i = 4
    · rw [if_pos q4]
      have e53 : s 53 0 + nI (szI (σ 8 i) (σ 9 i) (σ 24 i) (AdS (σ 8) (σ 9) (σ 24) cI cC i)) = nI (filS (σ 8) (σ 9) (σ 24) cI cC (i + 1)) := by rw [f3, nI_add, eF, if_pos q4]
      rw [e53]
      obtain ⟨u, a1, a2⟩ := ih (i + 1) (si s1 53 (nI (filS (σ 8) (σ 9) (σ 24) cI cC (i + 1)))) N (by omega) (by omega) ⟨fun j h1 h2 h3 h4 h5 h6 => by rw [si_ne h6, g0 j h1 h2]; exact f0 j h1 h2 h3 h4 h5 h6, fun j hj => by rw [si_ne (by decide), si_ne (by decide)]; exact g1 j hj, by rw [si_ne (by decide), g0 27 (by decide) (by decide), f2, eL, if_neg (n43 q4)], si_at _ _ _ _, fun r hr h5 => by
        have : r ≠ i := fun z => n45 q4 (z ▸ h5)
        rw [si_ne (by decide), si_ne (by decide), g0 17 (by decide) (by decide), g0 23 (by decide) (by decide)]; exact f4 r (by omega) h5⟩
      refine ⟨u, ?_, a2⟩
      rw [eA] at a1
      unfold nxtS at a1
      rw [if_neg (n45 q4)] at a1
      exact a1
    rw [if_neg q4]
    by_cases q3 : σ 8 i = 3
    · obtain ⟨a, l, ea, el, hc⟩ := hp.2.2 i him
      have a3 : a = 3 := (nI_eq (a := a) (b := 3) (by omega) (by omega)).mp (by rw [← ea]; exact q3)
      have hl8 : l < 8 := by omega
      have hps1 : wfP s1 m := wfP_fr hps (g0 48 (by decide) (by decide)) (g0 8 (by decide) (by decide)) (g0 9 (by decide) (by decide))
      rw [if_pos q3, told_in_p hps1.2.1 hm him, bd1_s, g0 9 (by decide) (by decide), e9, el]
      have hnote : ∀ X : Int32, fX2_noteLabel s1 (nI l) X = some (sa s1 27 l X) := fun X => by
        unfold fX2_noteLabel
        rw [if_neg (nI_pos (by omega)), if_neg (nI8 hl8), ck_t (ckN hl8 (by omega)), nI_clamp (by omega)]
      rw [hnote, bd1_s, szI_3' q3]
      obtain ⟨u, a1, a2⟩ := ih (i + 1) (sa s1 27 l (nI (AdS (σ 8) (σ 9) (σ 24) cI cC i))) N (by omega) (by omega) ⟨fun j h1 h2 h3 h4 h5 h6 => by rw [sa_ne h3, g0 j h1 h2]; exact f0 j h1 h2 h3 h4 h5 h6, fun j hj => by rw [sa_ne (by decide), sa_ne (by decide)]; exact g1 j hj, by rw [sa_at, g0 27 (by decide) (by decide), f2, eL, if_pos q3, el, nI_clamp (by omega)], by rw [sa_ne (by decide), g0 53 (by decide) (by decide), f3, eF, if_neg q4, if_neg (n35 q3)]; rfl, fun r hr h5 => by
        have : r ≠ i := fun z => n35 q3 (z ▸ h5)
        rw [sa_ne (by decide), sa_ne (by decide), g0 17 (by decide) (by decide), g0 23 (by decide) (by decide)]; exact f4 r (by omega) h5⟩
      refine ⟨u, ?_, a2⟩
      rw [eA] at a1
      unfold nxtS at a1
      rw [if_neg (n35 q3), szI_3' q3] at a1
      exact a1
    rw [if_neg q3]
    by_cases q5 : σ 8 i = 5
    · rw [if_pos q5, szI_5' q5]
      have k16 : s1 16 i = nI (cI i) := by rw [g0 16 (by decide) (by decide), f0 16 (by decide) (by decide) (by decide) (by decide) (by decide) (by decide)]; exact h16 i (by omega)
      have k22 : s1 22 i = nI (cC i) := by rw [g0 22 (by decide) (by decide), f0 22 (by decide) (by decide) (by decide) (by decide) (by decide) (by decide)]; exact h22 i (by omega)
      obtain ⟨s2, b1, b2, b3, b4, b5⟩ := gapC_eq (σ := s1) (r := i) (B := AdS (σ 8) (σ 9) (σ 24) cI cC i + 2) (by omega) (by omega) (hI i) (hC i) k16 k22
      rw [b1, bd2_s]
      obtain ⟨u, a1, a2⟩ := ih (i + 1) s2 N (by omega) (by omega) ⟨fun j h1 h2 h3 h4 h5 h6 => by rw [b2 j h4 h5 h6, g0 j h1 h2]; exact f0 j h1 h2 h3 h4 h5 h6, fun j hj => by rw [b2 25 (by decide) (by decide) (by decide), b2 26 (by decide) (by decide) (by decide)]; exact g1 j hj, by rw [b2 27 (by decide) (by decide) (by decide), g0 27 (by decide) (by decide), f2, eL, if_neg q3], by rw [b5, g0 53 (by decide) (by decide), f3, nI_add, eF, if_neg q4, if_pos q5, szI_5' q5], fun r hr h5 => by
        rw [b3, b4]
        by_cases z : r = i
        · subst z; rw [pk_us, pk_us]; exact ⟨rfl, rfl⟩
        · rw [pk_un z, pk_un z, g0 17 (by decide) (by decide), g0 23 (by decide) (by decide)]; exact f4 r (by omega) h5⟩
      refine ⟨u, ?_, a2⟩
      rw [eA] at a1
      unfold nxtS at a1
      rw [if_pos q5, szI_5' q5] at a1
      exact a1
    · rw [if_neg q5]
      obtain ⟨u, a1, a2⟩ := ih (i + 1) s1 N (by omega) (by omega) ⟨fun j h1 h2 h3 h4 h5 h6 => by rw [g0 j h1 h2]; exact f0 j h1 h2 h3 h4 h5 h6, g1, by rw [g0 27 (by decide) (by decide), f2, eL, if_neg q3], by rw [g0 53 (by decide) (by decide), f3, eF, if_neg q4, if_neg q5]; rfl, fun r hr h5 => by
        have : r ≠ i := fun z => q5 (z ▸ h5)
        rw [g0 17 (by decide) (by decide), g0 23 (by decide) (by decide)]; exact f4 r (by omega) h5⟩
      refine ⟨u, ?_, a2⟩
      rw [eA] at a1
      unfold nxtS at a1
      rw [if_neg q5] at a1
      exact a1
theorem layC_eq {σ : St} {m : Nat} {cI cC : Nat → Nat} (hp : wfP σ m) (hI : ∀ r, cI r ≤ 12) (hC : ∀ r, cC r ≤ 16) (h16 : ∀ r, r < 24 → σ 16 r = nI (cI r)) (h22 : ∀ r, r < 24 → σ 22 r = nI (cC r)) : ∃ u, fX2_lay σ = some (si u 52 (nI (AdS (σ 8) (σ 9) (σ 24) cI cC m))) ∧ LayC σ u cI cC m := by
  have hm := hp.1
  exact layC_loop hp hI hC h16 h22 m 0 (si σ 53 0) FU (by omega) (by unfold FU; omega) ⟨fun j _ _ _ _ _ h6 => si_ne h6, fun j hj => absurd hj (Nat.not_lt_zero _), by rw [si_ne (by decide)]; rfl, by rw [si_at]; rfl, fun r hr => absurd hr (Nat.not_lt_zero _)⟩
/-! All items laid: the reference. -/
def LayM (τ t : St) (ni nc : Nat) (cI cC : Nat → Nat) (i : Nat) : Prop :=
  (∀ j, j ≠ 12 → j ≠ 17 → j ≠ 13 → j ≠ 14 → j ≠ 15 → j ≠ 16 → j ≠ 51 → t j = τ j) ∧
  (∀ j, j < i → t 12 j = nI (AdS (τ 2) (τ 3) (τ 7) cI cC j)) ∧
  t 17 = labS (τ 2) (τ 3) (τ 7) cI cC (τ 17) i ∧ t 51 0 = nI (filS (τ 2) (τ 3) (τ 7) cI cC i) ∧
  (∀ k r, k < ni → r < i → τ 2 r = 5 → τ 9 k = nI r → t 13 k = nI (AdS (τ 2) (τ 3) (τ 7) cI cC r + 2 + 4 * cntE (τ 9) (nI r) k)) ∧
  (∀ k r, k < nc → r < i → τ 2 r = 5 → τ 11 k = nI r → t 14 k = nI (upN 4 (AdS (τ 2) (τ 3) (τ 7) cI cC r + 2 + 4 * cI r) + 4 * cntE (τ 11) (nI r) k)) ∧
  (∀ r, r < i → τ 2 r = 5 → t 15 r = nI (AdS (τ 2) (τ 3) (τ 7) cI cC r + 2 + 4 * cI r) ∧ t 16 r = nI (upN 4 (atN (AdS (τ 2) (τ 3) (τ 7) cI cC r + 2 + 4 * cI r) (cC r))))
def wfM (τ : St) (m : Nat) : Prop := m ≤ 24 ∧ τ 41 0 = nI m ∧ ∀ i, i < m → wfI (τ 2 i) (τ 3 i)
theorem layM_loop {τ : St} {m ni nc : Nat} {cI cC : Nat → Nat} (hp : wfM τ m) (hni : ni ≤ 12) (hnc : nc ≤ 16) (h48 : τ 48 0 = nI ni) (h49 : τ 49 0 = nI nc) (eI : cI = fun r => cntE (τ 9) (nI r) ni) (eC : cC = fun r => cntE (τ 11) (nI r) nc) :
    ∀ (d i : Nat) (t : St) (N : Nat), i + d = m → d < N → LayM τ t ni nc cI cC i → ∃ u, fX6_layAll_l9 N t (nI (AdS (τ 2) (τ 3) (τ 7) cI cC i)) (nI i) = some (si u 50 (nI (AdS (τ 2) (τ 3) (τ 7) cI cC m))) ∧ LayM τ u ni nc cI cC m := by
  have hm := hp.1
  have hI : ∀ r, cI r ≤ 12 := fun r => by rw [eI]; exact Nat.le_trans cntE_le hni
  have hC : ∀ r, cC r ≤ 16 := fun r => by rw [eC]; exact Nat.le_trans cntE_le hnc
  intro d
  induction d with
  | zero =>
    intro i t N h hN hf
    obtain ⟨N, rfl⟩ : ∃ k, N = k + 1 := ⟨N - 1, by omega⟩
    have hk : i = m := by omega
    subst hk
    refine ⟨t, ?_, hf⟩
    show fX6_layAll_s9 (fX6_layAll_l9 N) t _ _ = _
    unfold fX6_layAll_s9
    rw [hf.1 41 (by decide) (by decide) (by decide) (by decide) (by decide) (by decide) (by decide), hp.2.1, if_pos (Int32.le_refl _)]
  | succ d ih =>
    intro i t N h hN hf
    obtain ⟨N, rfl⟩ : ∃ k, N = k + 1 := ⟨N - 1, by omega⟩
    have him : i < m := by omega
    obtain ⟨f0, f1, f2, f3, f4, f5, f6⟩ := id hf
    have hb := AdS_le (lg := τ 7) hp.2.2 hI hC i (by omega)
    have hz := szI_le (g := τ 7 i) (A := AdS (τ 2) (τ 3) (τ 7) cI cC i) (hp.2.2 i him)
    have c24 : ¬ (nI i < 0 ∨ 24 ≤ Int32.toNatClampNeg (nI i)) := ckN (by omega) (by omega)
    have c24' : ¬ (nI i < 0 ∨ 24 ≤ i) := fun z => z.elim (nI_pos (by omega)) (by omega)
    have e2 : t 2 = τ 2 := f0 2 (by decide) (by decide) (by decide) (by decide) (by decide) (by decide) (by decide)
    have e3 : t 3 = τ 3 := f0 3 (by decide) (by decide) (by decide) (by decide) (by decide) (by decide) (by decide)
    have e7 : t 7 = τ 7 := f0 7 (by decide) (by decide) (by decide) (by decide) (by decide) (by decide) (by decide)
    have eA : AdS (τ 2) (τ 3) (τ 7) cI cC (i + 1) = nxtS (τ 2) (τ 3) (τ 7) cI cC i (AdS (τ 2) (τ 3) (τ 7) cI cC i) := rfl
    have eF : filS (τ 2) (τ 3) (τ 7) cI cC (i + 1) = filS (τ 2) (τ 3) (τ 7) cI cC i + (if τ 2 i = 4 then szI (τ 2 i) (τ 3 i) (τ 7 i) (AdS (τ 2) (τ 3) (τ 7) cI cC i) else if τ 2 i = 5 then filN (AdS (τ 2) (τ 3) (τ 7) cI cC i + szI (τ 2 i) (τ 3 i) (τ 7 i) (AdS (τ 2) (τ 3) (τ 7) cI cC i) + 4 * cI i) (cC i) else 0) := rfl
    have eL : labS (τ 2) (τ 3) (τ 7) cI cC (τ 17) (i + 1) = if τ 2 i = 3 then upd (labS (τ 2) (τ 3) (τ 7) cI cC (τ 17) i) (Int32.toNatClampNeg (τ 3 i)) (nI (AdS (τ 2) (τ 3) (τ 7) cI cC i)) else labS (τ 2) (τ 3) (τ 7) cI cC (τ 17) i := rfl
    have n45 : τ 2 i = 4 → ¬ τ 2 i = 5 := fun a b => absurd (a.symm.trans b) (by decide)
    -- from the state behind the label on
    have rest : ∀ t0 : St, (∀ j, j ≠ 12 → j ≠ 17 → t0 j = t j) → (∀ j, j < i + 1 → t0 12 j = nI (AdS (τ 2) (τ 3) (τ 7) cI cC j)) → t0 17 = labS (τ 2) (τ 3) (τ 7) cI cC (τ 17) (i + 1) → ∃ u, fX6_layAll_b46 (fX6_layAll_l9 N) t0 (nI (AdS (τ 2) (τ 3) (τ 7) cI cC i)) (nI i) = some (si u 50 (nI (AdS (τ 2) (τ 3) (τ 7) cI cC m))) ∧ LayM τ u ni nc cI cC m := by
      intro t0 g0 g1 g2
      have k2 : t0 2 = τ 2 := (g0 2 (by decide) (by decide)).trans e2
      have k3 : t0 3 = τ 3 := (g0 3 (by decide) (by decide)).trans e3
      have k7 : t0 7 = τ 7 := (g0 7 (by decide) (by decide)).trans e7
      have k51 : t0 51 0 = nI (filS (τ 2) (τ 3) (τ 7) cI cC i) := by rw [g0 51 (by decide) (by decide)]; exact f3
      have hsz : ∀ s : St, s 2 = τ 2 → s 3 = τ 3 → s 7 = τ 7 → fX6_sizeOf s (nI i) (nI (AdS (τ 2) (τ 3) (τ 7) cI cC i)) = some (nI (szI (τ 2 i) (τ 3 i) (τ 7 i) (AdS (τ 2) (τ 3) (τ 7) cI cC i))) := fun s a b c => by
        have := sizeM_eq (τ := s) (i := i) (A := AdS (τ 2) (τ 3) (τ 7) cI cC i) (by rw [a, b]; exact hp.2.2 i him) (by omega) (by omega)
        rw [a, b, c] at this
        exact this
      have tail : ∀ z : Nat, filS (τ 2) (τ 3) (τ 7) cI cC i + z ≤ 10 * i + 7 → (τ 2 i = 5 → z = 0) → (¬ τ 2 i = 5 → filS (τ 2) (τ 3) (τ 7) cI cC i + z = filS (τ 2) (τ 3) (τ 7) cI cC (i + 1)) → ∃ u, fX6_layAll_b71 (fX6_layAll_l9 N) t0 (nI (AdS (τ 2) (τ 3) (τ 7) cI cC i)) (nI i) (nI z) (t0 51 0) = some (si u 50 (nI (AdS (τ 2) (τ 3) (τ 7) cI cC m))) ∧ LayM τ u ni nc cI cC m := by
        intro z hz1 hz2 hz3
        unfold fX6_layAll_b71
        rw [k51, nI_add, hsz _ (by rw [si_ne (by decide)]; exact k2) (by rw [si_ne (by decide)]; exact k3) (by rw [si_ne (by decide)]; exact k7), bd1_s, ck_t c24, nI_clamp (n := i) (by omega), nI_add, nI_1, k2]
        by_cases q5 : τ 2 i = 5
        · have z0 := hz2 q5
          subst z0
          rw [if_pos q5, szI_5' q5]
          obtain ⟨t2, b1, b2, b3, b4, b5, b6, b7⟩ := gapM_eq (τ := si t0 51 (nI (filS (τ 2) (τ 3) (τ 7) cI cC i + 0))) (ni := ni) (nc := nc) (r := i) (B := AdS (τ 2) (τ 3) (τ 7) cI cC i + 2) (fl := filS (τ 2) (τ 3) (τ 7) cI cC i + 0) hni hnc (by omega) (by omega) (by omega) (by rw [si_ne (by decide), g0 48 (by decide) (by decide), f0 48 (by decide) (by decide) (by decide) (by decide) (by decide) (by decide) (by decide)]; exact h48) (by rw [si_ne (by decide), g0 49 (by decide) (by decide), f0 49 (by decide) (by decide) (by decide) (by decide) (by decide) (by decide) (by decide)]; exact h49) (si_at _ _ _ _)
          have k9 : si t0 51 (nI (filS (τ 2) (τ 3) (τ 7) cI cC i + 0)) 9 = τ 9 := by rw [si_ne (by decide), g0 9 (by decide) (by decide), f0 9 (by decide) (by decide) (by decide) (by decide) (by decide) (by decide) (by decide)]
          have k11 : si t0 51 (nI (filS (τ 2) (τ 3) (τ 7) cI cC i + 0)) 11 = τ 11 := by rw [si_ne (by decide), g0 11 (by decide) (by decide), f0 11 (by decide) (by decide) (by decide) (by decide) (by decide) (by decide) (by decide)]
          rw [k9, k11] at b1 b3 b5 b7
          rw [k9] at b4 b6
          have ci : cI i = cntE (τ 9) (nI i) ni := by rw [eI]
          have cc : cC i = cntE (τ 11) (nI i) nc := by rw [eC]
          rw [← ci, ← cc] at b1 b3 b7
          rw [← ci] at b5 b6
          rw [b1, bd2_s]
          obtain ⟨u, a1, a2⟩ := ih (i + 1) t2 N (by omega) (by omega) ⟨fun j h1 h2 h3 h4 h5 h6 h7 => by rw [b2 j h3 h4 h5 h6 h7, si_ne h7, g0 j h1 h2]; exact f0 j h1 h2 h3 h4 h5 h6 h7, fun j hj => by rw [b2 12 (by decide) (by decide) (by decide) (by decide) (by decide), si_ne (by decide)]; exact g1 j hj, by rw [b2 17 (by decide) (by decide) (by decide) (by decide) (by decide), si_ne (by decide)]; exact g2, by rw [b3, eF, if_neg (fun a => n45 a q5), if_pos q5, szI_5' q5]; rfl, fun k r hk hr h5 h9 => by
            rw [b4 k]
            by_cases z : r = i
            · subst z; rw [if_pos ⟨hk, h9⟩]
            · rw [if_neg (fun w => z ((nI_eq (a := r) (b := i) (by omega) (by omega)).mp (h9.symm.trans w.2))), si_ne (by decide), g0 13 (by decide) (by decide)]; exact f4 k r hk (by omega) h5 h9, fun k r hk hr h5 h9 => by
            rw [b5 k]
            by_cases z : r = i
            · subst z; rw [if_pos ⟨hk, h9⟩]
            · rw [if_neg (fun w => z ((nI_eq (a := r) (b := i) (by omega) (by omega)).mp (h9.symm.trans w.2))), si_ne (by decide), g0 14 (by decide) (by decide)]; exact f5 k r hk (by omega) h5 h9, fun r hr h5 => by
            rw [b6, b7]
            by_cases z : r = i
            · subst z; rw [pk_us, pk_us]; exact ⟨rfl, rfl⟩
            · rw [pk_un z, pk_un z, si_ne (by decide), si_ne (by decide), g0 15 (by decide) (by decide), g0 16 (by decide) (by decide)]; exact f6 r (by omega) h5⟩
          refine ⟨u, ?_, a2⟩
          rw [eA] at a1
          unfold nxtS at a1
          rw [if_pos q5, szI_5' q5] at a1
          exact a1
        · rw [if_neg q5, hz3 q5]
          obtain ⟨u, a1, a2⟩ := ih (i + 1) (si t0 51 (nI (filS (τ 2) (τ 3) (τ 7) cI cC (i + 1)))) N (by omega) (by omega) ⟨fun j h1 h2 h3 h4 h5 h6 h7 => by rw [si_ne h7, g0 j h1 h2]; exact f0 j h1 h2 h3 h4 h5 h6 h7, fun j hj => by rw [si_ne (by decide)]; exact g1 j hj, by rw [si_ne (by decide)]; exact g2, si_at _ _ _ _, fun k r hk hr h5 h9 => by
            have : r ≠ i := fun z => q5 (z ▸ h5)
            rw [si_ne (by decide), g0 13 (by decide) (by decide)]; exact f4 k r hk (by omega) h5 h9, fun k r hk hr h5 h9 => by
            have : r ≠ i := fun z => q5 (z ▸ h5)
            rw [si_ne (by decide), g0 14 (by decide) (by decide)]; exact f5 k r hk (by omega) h5 h9, fun r hr h5 => by
            have : r ≠ i := fun z => q5 (z ▸ h5)
            rw [si_ne (by decide), si_ne (by decide), g0 15 (by decide) (by decide), g0 16 (by decide) (by decide)]; exact f6 r (by omega) h5⟩
          refine ⟨u, ?_, a2⟩
          rw [eA] at a1
          unfold nxtS at a1
          rw [if_neg q5] at a1
          exact a1
      unfold fX6_layAll_b46
      rw [ck_t c24, nI_clamp (n := i) (by omega), k2]
      by_cases q4 : τ 2 i = 4
      · have h7 := szI_4' (g := τ 7 i) (A := AdS (τ 2) (τ 3) (τ 7) cI cC i) (hp.2.2 i him) q4
        rw [if_pos q4, hsz t0 k2 k3 k7, bd1_s]
        exact tail _ (by omega) (fun a => absurd a (n45 q4)) (fun _ => by rw [eF, if_pos q4])
      · rw [if_neg q4]
        exact tail 0 (by omega) (fun _ => rfl) (fun a => by rw [eF, if_neg q4, if_neg a])
    show ∃ u, fX6_layAll_s9 (fX6_layAll_l9 N) t _ _ = _ ∧ _
    unfold fX6_layAll_s9
    rw [f0 41 (by decide) (by decide) (by decide) (by decide) (by decide) (by decide) (by decide), hp.2.1, if_neg (nI_ge him (by omega)), ck_t c24, ck_t c24, nI_clamp (n := i) (by omega), e2]
    have g12 : ∀ j, j < i + 1 → upd (t 12) i (nI (AdS (τ 2) (τ 3) (τ 7) cI cC i)) j = nI (AdS (τ 2) (τ 3) (τ 7) cI cC j) := fun j hj => by
      by_cases q : j = i
      · subst q; rw [pk_us]
      · rw [pk_un q]; exact f1 j (by omega)
    by_cases q3 : τ 2 i = 3
    · obtain ⟨a, l, ea, el, hc⟩ := hp.2.2 i him
      have a3 : a = 3 := (nI_eq (a := a) (b := 3) (by omega) (by omega)).mp (by rw [← ea]; exact q3)
      have hl8 : l < 8 := by omega
      rw [if_pos q3, ck_t c24', e3, el, ck_t (ckN hl8 (by omega)), nI_clamp (n := l) (by omega)]
      exact rest _ (fun j h1 h2 => by rw [sa_ne h2, sa_ne h1]) (fun j hj => by rw [sa_ne (by decide), sa_at]; exact g12 j hj) (by rw [sa_at, sa_ne (by decide), f2, eL, if_pos q3, el, nI_clamp (by omega)])
    · rw [if_neg q3]
      exact rest _ (fun j h1 h2 => sa_ne h1) (fun j hj => by rw [sa_at]; exact g12 j hj) (by rw [sa_ne (by decide), f2, eL, if_neg q3])
theorem layM_eq {τ : St} {m ni nc : Nat} {cI cC : Nat → Nat} (hp : wfM τ m) (hni : ni ≤ 12) (hnc : nc ≤ 16) (h48 : τ 48 0 = nI ni) (h49 : τ 49 0 = nI nc) (eI : cI = fun r => cntE (τ 9) (nI r) ni) (eC : cC = fun r => cntE (τ 11) (nI r) nc) : ∃ u, fX6_layAll τ = some (si u 50 (nI (AdS (τ 2) (τ 3) (τ 7) cI cC m))) ∧ LayM τ u ni nc cI cC m := by
  have hm := hp.1
  exact layM_loop hp hni hnc h48 h49 eI eC m 0 (si τ 51 0) FU (by omega) (by unfold FU; omega) ⟨fun j _ _ _ _ _ _ h7 => si_ne h7, fun j hj => absurd hj (Nat.not_lt_zero _), by rw [si_ne (by decide)]; rfl, by rw [si_at]; rfl, fun k r _ hr => absurd hr (Nat.not_lt_zero _), fun k r _ hr => absurd hr (Nat.not_lt_zero _), fun r hr => absurd hr (Nat.not_lt_zero _)⟩
/-! The first that does not reach: looked for upwards (class), downwards (reference). -/
def fstS (P : Nat → Bool) (i : Nat) : Nat → Int32
  | 0 => -1
  | d + 1 => if P i = true then nI i else fstS P (i + 1) d
theorem fstS_congr {P Q : Nat → Bool} : ∀ {d i : Nat}, (∀ j, i ≤ j → j < i + d → P j = Q j) → fstS P i d = fstS Q i d
  | 0, _, _ => rfl
  | d + 1, i, h => by
    unfold fstS
    rw [h i (Nat.le_refl _) (by omega), fstS_congr (fun j h1 h2 => h j (by omega) (by omega))]
theorem fstS_val {P : Nat → Bool} : ∀ {d i : Nat}, fstS P i d = -1 ∨ ∃ j, i ≤ j ∧ j < i + d ∧ fstS P i d = nI j ∧ P j = true
  | 0, _ => Or.inl rfl
  | d + 1, i => by
    unfold fstS
    by_cases h : P i = true
    · rw [if_pos h]; exact Or.inr ⟨i, Nat.le_refl _, by omega, rfl, h⟩
    · rw [if_neg h]
      rcases fstS_val (P := P) (d := d) (i := i + 1) with e | ⟨j, h1, h2, h3, h4⟩
      · exact Or.inl e
      · exact Or.inr ⟨j, by omega, by omega, h3, h4⟩
def lgI (x : Int32) : Int32 := if x = 0 then 0 else 1
def strC (σ : St) (kind lg : Int32) (i : Nat) : Bool := decide (σ 8 i = kind ∧ lgI (σ 24 i) = lg ∧ σ 28 i = -1)
theorem astrayC {σ : St} {m : Nat} (hp : wfP σ m) {kind lg : Int32} : ∀ (d i N : Nat), i + d = m → d < N → fX2_firstAstray_l2 σ N kind lg (nI i) = some (fstS (strC σ kind lg) i d) := by
  obtain ⟨hm, h48, _⟩ := hp
  have hsz : fX0_size_p σ = some (nI m) := by unfold fX0_size_p; rw [h48]
  intro d
  induction d with
  | zero =>
    intro i N h hN
    obtain ⟨N, rfl⟩ : ∃ k, N = k + 1 := ⟨N - 1, by omega⟩
    have hi : i = m := by omega
    subst hi
    show fX2_firstAstray_s2 σ (fX2_firstAstray_l2 σ N) _ _ _ = _
    unfold fX2_firstAstray_s2
    rw [hsz, bd1_s, if_pos (Int32.le_refl _)]
    rfl
  | succ d ih =>
    intro i N h hN
    obtain ⟨N, rfl⟩ : ∃ k, N = k + 1 := ⟨N - 1, by omega⟩
    have him : i < m := by omega
    have e := ih (i + 1) N (by omega) (by omega)
    have hL : fX2_isLong σ (nI i) = some (lgI (σ 24 i)) := isLong_in (by omega)
    show fX2_firstAstray_s2 σ (fX2_firstAstray_l2 σ N) _ _ _ = some (if strC σ kind lg i = true then nI i else fstS (strC σ kind lg) (i + 1) d)
    unfold fX2_firstAstray_s2
    rw [hsz, bd1_s, if_neg (nI_ge him (by omega)), kind_in_p h48 hm him, bd1_s, hL, nI_1]
    by_cases h1 : σ 8 i = kind
    · rw [if_pos h1, bd1_s]
      by_cases h2 : lgI (σ 24 i) = lg
      · rw [if_pos h2, aimOf_in (by omega), bd1_s]
        by_cases h3 : σ 28 i = -1
        · rw [if_pos h3, if_pos (show strC σ kind lg i = true from decide_eq_true ⟨h1, h2, h3⟩)]
        · rw [if_neg h3, if_neg (show ¬ strC σ kind lg i = true from fun z => h3 (of_decide_eq_true z).2.2)]; exact e
      · rw [if_neg h2, if_neg (show ¬ strC σ kind lg i = true from fun z => h2 (of_decide_eq_true z).2.1)]; exact e
    · rw [if_neg h1, if_neg (show ¬ strC σ kind lg i = true from fun z => h1 (of_decide_eq_true z).1)]; exact e
theorem astrayC_eq {σ : St} {m : Nat} (hp : wfP σ m) {kind lg : Int32} : fX2_firstAstray σ kind lg = some (fstS (strC σ kind lg) 0 m) := by
  have hm := hp.1
  exact astrayC hp m 0 FU (by omega) (by unfold FU; omega)
theorem add_m1 (x : Int32) : x + (-1 : Int32) = x - 1 := by rw [Int32.sub_eq_add_neg]
def strM (τ : St) (ni nc : Nat) (kind lg : Int32) (i : Nat) : Bool := decide (τ 2 i = kind ∧ τ 7 i = lg ∧ aimM τ ni nc i = -1)
theorem l10_s (τ : St) (N : Nat) (a b c d : Int32) : fX6_firstStuck_l10 τ (N + 1) a b c d = fX6_firstStuck_s10 τ (fX6_firstStuck_l10 τ N) a b c d := rfl
theorem l9_s (τ : St) (N : Nat) (a b : Int32) : fX6_firstStuckIsland_l9 τ (N + 1) a b = fX6_firstStuckIsland_s9 τ (fX6_firstStuckIsland_l9 τ N) a b := rfl
theorem stuckM {τ : St} {m ni nc : Nat} (hp : wfM τ m) (hi : Mi τ ni) (hc : Mc τ nc) (hB : Bd (τ 12) m) (hL : Bd (τ 17) 8) {kind lg : Int32} : ∀ (i N : Nat), i ≤ m → i < N → fX6_firstStuck_l10 τ N kind lg (fstS (strM τ ni nc kind lg) i (m - i)) (nI i - 1) = some (fstS (strM τ ni nc kind lg) 0 m) := by
  obtain ⟨hm, h41, hw⟩ := hp
  intro i
  induction i with
  | zero =>
    intro N h hN
    obtain ⟨N, rfl⟩ : ∃ k, N = k + 1 := ⟨N - 1, by omega⟩
    rw [l10_s]
    unfold fX6_firstStuck_s10
    rw [if_pos (show nI 0 - 1 < (0 : Int32) from by decide)]
    rfl
  | succ i ih =>
    intro N h hN
    obtain ⟨N, rfl⟩ : ∃ k, N = k + 1 := ⟨N - 1, by omega⟩
    have e := ih N (by omega) (by omega)
    have c24 : ¬ (nI i < 0 ∨ 24 ≤ Int32.toNatClampNeg (nI i)) := ckN (by omega) (by omega)
    have c24' : ¬ (nI i < 0 ∨ 24 ≤ i) := fun z => z.elim (nI_pos (by omega)) (by omega)
    have hst : fstS (strM τ ni nc kind lg) i (m - i) = if strM τ ni nc kind lg i = true then nI i else fstS (strM τ ni nc kind lg) (i + 1) (m - (i + 1)) := by
      rw [show m - i = (m - (i + 1)) + 1 by omega]; rfl
    rw [hst] at e
    rw [l10_s]
    unfold fX6_firstStuck_s10
    rw [nI_pred, if_neg (nI_pos (by omega)), ck_t c24, nI_clamp (n := i) (by omega)]
    unfold fX6_firstStuck_b51 fX6_firstStuck_b52
    rw [add_m1]
    by_cases h1 : τ 2 i = kind
    · rw [if_pos h1, ck_t c24']
      by_cases h2 : τ 7 i = lg
      · rw [if_pos h2, goesTo_eq hm hw hi hc hB hL (by omega), bd1_s]
        by_cases h3 : aimM τ ni nc i = -1
        · rw [if_pos h3, if_neg d_1_0]
          rw [if_pos (show strM τ ni nc kind lg i = true from decide_eq_true ⟨h1, h2, h3⟩)] at e
          exact e
        · rw [if_neg h3, if_pos rfl]
          rw [if_neg (show ¬ strM τ ni nc kind lg i = true from fun z => h3 (of_decide_eq_true z).2.2)] at e
          exact e
      · rw [if_neg h2, if_pos rfl]
        rw [if_neg (show ¬ strM τ ni nc kind lg i = true from fun z => h2 (of_decide_eq_true z).2.1)] at e
        exact e
    · rw [if_neg h1, if_pos rfl]
      rw [if_neg (show ¬ strM τ ni nc kind lg i = true from fun z => h1 (of_decide_eq_true z).1)] at e
      exact e
theorem stuckM_eq {τ : St} {m ni nc : Nat} (hp : wfM τ m) (hi : Mi τ ni) (hc : Mc τ nc) (hB : Bd (τ 12) m) (hL : Bd (τ 17) 8) {kind lg : Int32} : fX6_firstStuck τ kind lg = some (fstS (strM τ ni nc kind lg) 0 m) := by
  have hm := hp.1
  have e := stuckM hp hi hc hB hL (kind := kind) (lg := lg) m FU (Nat.le_refl _) (by unfold FU; omega)
  rw [Nat.sub_self] at e
  unfold fX6_firstStuck
  rw [hp.2.1]
  exact e
def istC (σ : St) (k : Nat) : Bool := decide (σ 29 k = -1)
theorem iastrayC {σ : St} {n : Nat} (hs : Sk_i σ n) : ∀ (d k N : Nat), k + d = n → d < N → fX2_firstIslandAstray_l2 σ N (nI k) = some (fstS (istC σ) k d) := by
  have hn := hs.1
  intro d
  induction d with
  | zero =>
    intro k N h hN
    obtain ⟨N, rfl⟩ : ∃ k, N = k + 1 := ⟨N - 1, by omega⟩
    have hk : k = n := by omega
    subst hk
    show fX2_firstIslandAstray_s2 σ (fX2_firstIslandAstray_l2 σ N) _ = _
    unfold fX2_firstIslandAstray_s2
    rw [ssize_i hs, bd1_s, if_pos (Int32.le_refl _)]
    rfl
  | succ d ih =>
    intro k N h hN
    obtain ⟨N, rfl⟩ : ∃ k, N = k + 1 := ⟨N - 1, by omega⟩
    have hk : k < n := by omega
    have e := ih (k + 1) N (by omega) (by omega)
    show fX2_firstIslandAstray_s2 σ (fX2_firstIslandAstray_l2 σ N) _ = some (if istC σ k = true then nI k else fstS (istC σ) (k + 1) d)
    unfold fX2_firstIslandAstray_s2
    rw [ssize_i hs, bd1_s, if_neg (nI_ge hk (by omega)), islandAimOf_in (by omega), bd1_s, nI_1]
    by_cases h3 : σ 29 k = -1
    · rw [if_pos h3, if_pos (show istC σ k = true from decide_eq_true h3)]
    · rw [if_neg h3, if_neg (show ¬ istC σ k = true from fun z => h3 (of_decide_eq_true z))]; exact e
theorem iastrayC_eq {σ : St} {n : Nat} (hs : Sk_i σ n) : fX2_firstIslandAstray σ = some (fstS (istC σ) 0 n) := by
  have hn := hs.1
  exact iastrayC hs n 0 FU (by omega) (by unfold FU; omega)
def istM (τ : St) (ni k : Nat) : Bool := decide (iaimM τ ni k = -1)
theorem istuckM {τ : St} {n : Nat} (hs : Mi τ n) (hL : Bd (τ 17) 8) (hl : nmL (τ 8) n) : ∀ (i N : Nat), i ≤ n → i < N → fX6_firstStuckIsland_l9 τ N (fstS (istM τ n) i (n - i)) (nI i - 1) = some (fstS (istM τ n) 0 n) := by
  have hn := hs.1
  intro i
  induction i with
  | zero =>
    intro N h hN
    obtain ⟨N, rfl⟩ : ∃ k, N = k + 1 := ⟨N - 1, by omega⟩
    rw [l9_s]
    unfold fX6_firstStuckIsland_s9
    rw [if_pos (show nI 0 - 1 < (0 : Int32) from by decide)]
    rfl
  | succ i ih =>
    intro N h hN
    obtain ⟨N, rfl⟩ : ∃ k, N = k + 1 := ⟨N - 1, by omega⟩
    have e := ih N (by omega) (by omega)
    have c12 : ¬ (nI i < 0 ∨ 12 ≤ Int32.toNatClampNeg (nI i)) := ckN (by omega) (by omega)
    obtain ⟨l, hl8, el⟩ := hl i (by omega)
    obtain ⟨T, hT, eT⟩ := hL l hl8
    obtain ⟨A, hA, eA⟩ := hs.2.2 i (by omega)
    have hst : fstS (istM τ n) i (n - i) = if istM τ n i = true then nI i else fstS (istM τ n) (i + 1) (n - (i + 1)) := by
      rw [show n - i = (n - (i + 1)) + 1 by omega]; rfl
    rw [hst] at e
    have hg : fX6_goesFrom τ (τ 13 i) (τ 8 i) = some (iaimM τ n i) := by
      unfold iaimM
      rw [eA, el, nI_clamp (by omega)]
      exact goesM_in hs hl8 hA hT eT
    rw [l9_s]
    unfold fX6_firstStuckIsland_s9
    rw [nI_pred, if_neg (nI_pos (by omega)), ck_t c12, ck_t c12, nI_clamp (n := i) (by omega), hg, bd1_s, add_m1]
    by_cases h3 : iaimM τ n i = -1
    · rw [if_pos h3]
      rw [if_pos (show istM τ n i = true from decide_eq_true h3)] at e
      exact e
    · rw [if_neg h3]
      rw [if_neg (show ¬ istM τ n i = true from fun z => h3 (of_decide_eq_true z))] at e
      exact e
theorem istuckM_eq {τ : St} {n : Nat} (hs : Mi τ n) (hL : Bd (τ 17) 8) (hl : nmL (τ 8) n) : fX6_firstStuckIsland τ = some (fstS (istM τ n) 0 n) := by
  have hn := hs.1
  have e := istuckM hs hL hl n FU (Nat.le_refl _) (by unfold FU; omega)
  rw [Nat.sub_self] at e
  unfold fX6_firstStuckIsland
  rw [hs.2.1]
  exact e
