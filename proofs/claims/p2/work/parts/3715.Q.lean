/-! The gap for an island, both sides. -/
def gapS (kd E : Nat → Int32) (to r1 frm g l : Int32) (i : Nat) : Nat → Int32
  | 0 => g
  | d + 1 => if kd i = 5 ∧ ¬ r1 < farI (E i) frm ∧ ¬ l ≤ farI (E i) to then gapS kd E to r1 frm (nI i) (farI (E i) to) (i + 1) d else gapS kd E to r1 frm g l (i + 1) d
theorem gapS_congr {kd E kd' E' : Nat → Int32} {to r1 frm : Int32} : ∀ {d i : Nat} {g l : Int32}, (∀ j, i ≤ j → j < i + d → kd j = kd' j ∧ (kd j = 5 → E j = E' j)) → gapS kd E to r1 frm g l i d = gapS kd' E' to r1 frm g l i d
  | 0, _, _, _, _ => rfl
  | d + 1, i, g, l, h => by
    unfold gapS
    obtain ⟨h1, h2⟩ := h i (Nat.le_refl _) (by omega)
    rw [← h1]
    by_cases q : kd i = 5
    · rw [h2 q, gapS_congr (fun j a b => h j (by omega) (by omega)), gapS_congr (g := g) (fun j a b => h j (by omega) (by omega))]
    · rw [if_neg (fun z => q z.1), if_neg (fun z => q z.1), gapS_congr (fun j a b => h j (by omega) (by omega))]
theorem gapS_val {kd E : Nat → Int32} {to r1 frm : Int32} : ∀ {d i : Nat} {g l : Int32}, gapS kd E to r1 frm g l i d = g ∨ ∃ j, i ≤ j ∧ j < i + d ∧ gapS kd E to r1 frm g l i d = nI j ∧ kd j = 5
  | 0, _, _, _ => Or.inl rfl
  | d + 1, i, g, l => by
    unfold gapS
    by_cases h : kd i = 5 ∧ ¬ r1 < farI (E i) frm ∧ ¬ l ≤ farI (E i) to
    · rw [if_pos h]
      rcases gapS_val (kd := kd) (E := E) (to := to) (r1 := r1) (frm := frm) (d := d) (i := i + 1) (g := nI i) (l := farI (E i) to) with e | ⟨j, h1, h2, h3, h4⟩
      · exact Or.inr ⟨i, Nat.le_refl _, by omega, e, h.1⟩
      · exact Or.inr ⟨j, by omega, by omega, h3, h4⟩
    · rw [if_neg h]
      rcases gapS_val (kd := kd) (E := E) (to := to) (r1 := r1) (frm := frm) (d := d) (i := i + 1) (g := g) (l := l) with e | ⟨j, h1, h2, h3, h4⟩
      · exact Or.inl e
      · exact Or.inr ⟨j, by omega, by omega, h3, h4⟩
def endI (σ : St) (r : Nat) : Int32 := σ 17 r + 4 * σ 16 r
theorem brI_loop {σ : St} {m : Nat} {frm lb to : Int32} (hp : wfP σ m) : ∀ (d i N : Nat) (g l : Int32), i + d = m → d < N → fX2_bringsIsland_l19 N σ frm lb to g l (nI i) = (if gapS (σ 8) (endI σ) to (σ 10 1) frm g l i d = -1 then some (0, σ) else bd2 (fX4_add_i σ lb (gapS (σ 8) (endI σ) to (σ 10 1) frm g l i d)) fun r12 s13 => (if r12 = 0 then (some ((0 : Int32), s13)) else (some ((1 : Int32), s13)))) := by
  obtain ⟨hm, h48, _⟩ := hp
  have hsz : fX0_size_p σ = some (nI m) := by unfold fX0_size_p; rw [h48]
  intro d
  induction d with
  | zero =>
    intro i N g l h hN
    obtain ⟨N, rfl⟩ : ∃ k, N = k + 1 := ⟨N - 1, by omega⟩
    have hi : i = m := by omega
    subst hi
    show fX2_bringsIsland_s19 (fX2_bringsIsland_l19 N) σ _ _ _ _ _ _ = _
    unfold fX2_bringsIsland_s19
    rw [hsz, bd1_s, if_pos (Int32.le_refl _)]
    rfl
  | succ d ih =>
    intro i N g l h hN
    obtain ⟨N, rfl⟩ : ∃ k, N = k + 1 := ⟨N - 1, by omega⟩
    have him : i < m := by omega
    have hl : gapS (σ 8) (endI σ) to (σ 10 1) frm g l i (d + 1) = if σ 8 i = 5 ∧ ¬ σ 10 1 < farI (endI σ i) frm ∧ ¬ l ≤ farI (endI σ i) to then gapS (σ 8) (endI σ) to (σ 10 1) frm (nI i) (farI (endI σ i) to) (i + 1) d else gapS (σ 8) (endI σ) to (σ 10 1) frm g l (i + 1) d := rfl
    rw [hl]
    show fX2_bringsIsland_s19 (fX2_bringsIsland_l19 N) σ _ _ _ _ _ _ = _
    unfold fX2_bringsIsland_s19 fX2_bringsIsland_b74 fX2_bringsIsland_b75
    rw [hsz, bd1_s, if_neg (nI_ge him (by omega)), endI_eq (by omega), bd1_s, kind_in_p h48 hm him, bd1_s, nI_1]
    by_cases h1 : σ 8 i = 5
    · rw [if_pos h1, far_eq, bd1_s, show Int32.toNatClampNeg (1 : Int32) = 1 from by decide]
      by_cases h2 : σ 10 1 < farI (endI σ i) frm
      · rw [if_pos (show σ 10 1 < farI (σ 17 i + 4 * σ 16 i) frm from h2), if_pos rfl, if_neg (show ¬ (σ 8 i = 5 ∧ ¬ σ 10 1 < farI (endI σ i) frm ∧ ¬ l ≤ farI (endI σ i) to) from fun z => z.2.1 h2)]
        exact ih (i + 1) N _ _ (by omega) (by omega)
      · rw [if_neg (show ¬ σ 10 1 < farI (σ 17 i + 4 * σ 16 i) frm from h2), if_neg d_1_0, far_eq, bd1_s, bd1_s]
        by_cases h3 : l ≤ farI (endI σ i) to
        · rw [if_pos (show l ≤ farI (σ 17 i + 4 * σ 16 i) to from h3), if_neg (show ¬ (σ 8 i = 5 ∧ ¬ σ 10 1 < farI (endI σ i) frm ∧ ¬ l ≤ farI (endI σ i) to) from fun z => z.2.2 h3)]
          exact ih (i + 1) N _ _ (by omega) (by omega)
        · rw [if_neg (show ¬ l ≤ farI (σ 17 i + 4 * σ 16 i) to from h3), if_pos (show (σ 8 i = 5 ∧ ¬ σ 10 1 < farI (endI σ i) frm ∧ ¬ l ≤ farI (endI σ i) to) from ⟨h1, h2, h3⟩)]
          exact ih (i + 1) N _ _ (by omega) (by omega)
    · rw [if_neg h1, if_pos rfl, if_neg (show ¬ (σ 8 i = 5 ∧ ¬ σ 10 1 < farI (endI σ i) frm ∧ ¬ l ≤ farI (endI σ i) to) from fun z => h1 z.1)]
      exact ih (i + 1) N _ _ (by omega) (by omega)
theorem brI_eq {σ : St} {m l : Nat} {frm : Int32} (hp : wfP σ m) (hl : l < 8) : fX2_bringsIsland σ frm (nI l) = (if gapS (σ 8) (endI σ) (σ 27 l) (σ 10 1) frm (-1) (farI frm (σ 27 l)) 0 m = -1 then some (0, σ) else bd2 (fX4_add_i σ (nI l) (gapS (σ 8) (endI σ) (σ 27 l) (σ 10 1) frm (-1) (farI frm (σ 27 l)) 0 m)) fun r12 s13 => (if r12 = 0 then (some ((0 : Int32), s13)) else (some ((1 : Int32), s13)))) := by
  have hm := hp.1
  unfold fX2_bringsIsland
  rw [lab_in hl, bd1_s, far_eq, bd1_s]
  exact brI_loop hp m 0 FU (-1) _ (by omega) (by unfold FU; omega)
theorem gapFor_loop {τ : St} {m l : Nat} {frm : Int32} (hp : wfM τ m) (hl : l < 8) : ∀ (d i N : Nat) (g x : Int32), i + d = m → d < N → fX6_gapFor_l17 τ N frm (nI l) g x (nI i) = some (gapS (τ 2) (τ 15) (τ 17 l) (τ 4 1) frm g x i d) := by
  obtain ⟨hm, h41, _⟩ := hp
  have c8 : ¬ (nI l < 0 ∨ 8 ≤ Int32.toNatClampNeg (nI l)) := ckN hl (by omega)
  have c8' : ¬ (nI l < 0 ∨ 8 ≤ l) := fun z => z.elim (nI_pos (by omega)) (by omega)
  intro d
  induction d with
  | zero =>
    intro i N g x h hN
    obtain ⟨N, rfl⟩ : ∃ k, N = k + 1 := ⟨N - 1, by omega⟩
    have hi : i = m := by omega
    subst hi
    show fX6_gapFor_s17 τ (fX6_gapFor_l17 τ N) _ _ _ _ _ = _
    unfold fX6_gapFor_s17
    rw [h41, if_pos (Int32.le_refl _)]
    rfl
  | succ d ih =>
    intro i N g x h hN
    obtain ⟨N, rfl⟩ : ∃ k, N = k + 1 := ⟨N - 1, by omega⟩
    have him : i < m := by omega
    have ci : ¬ (nI i < 0 ∨ 24 ≤ Int32.toNatClampNeg (nI i)) := ckN (by omega) (by omega)
    have ci' : ¬ (nI i < 0 ∨ 24 ≤ i) := fun z => z.elim (nI_pos (by omega)) (by omega)
    have hst : gapS (τ 2) (τ 15) (τ 17 l) (τ 4 1) frm g x i (d + 1) = if τ 2 i = 5 ∧ ¬ τ 4 1 < farI (τ 15 i) frm ∧ ¬ x ≤ farI (τ 15 i) (τ 17 l) then gapS (τ 2) (τ 15) (τ 17 l) (τ 4 1) frm (nI i) (farI (τ 15 i) (τ 17 l)) (i + 1) d else gapS (τ 2) (τ 15) (τ 17 l) (τ 4 1) frm g x (i + 1) d := rfl
    rw [hst]
    show fX6_gapFor_s17 τ (fX6_gapFor_l17 τ N) _ _ _ _ _ = _
    unfold fX6_gapFor_s17
    rw [h41, if_neg (nI_ge him (by omega)), ck_t ci, nI_clamp (n := i) (by omega), nI_1]
    by_cases h1 : τ 2 i = 5
    · rw [if_pos h1, ck_t ci', apart_eq, bd1_s, show Int32.toNatClampNeg (1 : Int32) = 1 from by decide]
      by_cases h2 : τ 4 1 < farI (τ 15 i) frm
      · rw [if_pos h2, if_neg (fun z => z.2.1 h2)]
        exact ih (i + 1) N _ _ (by omega) (by omega)
      · rw [if_neg h2, ck_t ci', ck_t c8, nI_clamp (n := l) (by omega), apart_eq, bd1_s]
        by_cases h3 : x ≤ farI (τ 15 i) (τ 17 l)
        · rw [if_pos h3, if_neg (fun z => z.2.2 h3)]
          exact ih (i + 1) N _ _ (by omega) (by omega)
        · rw [if_neg h3, ck_t ci', ck_t c8', bd1_s, if_pos ⟨h1, h2, h3⟩]
          exact ih (i + 1) N _ _ (by omega) (by omega)
    · rw [if_neg h1, if_neg (fun z => h1 z.1)]
      exact ih (i + 1) N _ _ (by omega) (by omega)
theorem gapFor_eq {τ : St} {m l : Nat} {frm : Int32} (hp : wfM τ m) (hl : l < 8) : fX6_gapFor τ frm (nI l) = some (gapS (τ 2) (τ 15) (τ 17 l) (τ 4 1) frm (-1) (farI frm (τ 17 l)) 0 m) := by
  have hm := hp.1
  unfold fX6_gapFor
  rw [ck_t (ckN hl (by omega)), nI_clamp (by omega), apart_eq, bd1_s]
  exact gapFor_loop hp hl m 0 FU (-1) _ (by omega) (by unfold FU; omega)
theorem putI_eq {τ : St} {m l ni : Nat} {frm by_ who : Int32} (hp : wfM τ m) (hl : l < 8) (h48 : τ 48 0 = nI ni) (hni : ni ≤ 12) : fX6_putIsland τ frm (nI l) by_ who = (if gapS (τ 2) (τ 15) (τ 17 l) (τ 4 1) frm (-1) (farI frm (τ 17 l)) 0 m = -1 ∨ ni = 12 then some (0, si (si (si τ 53 0) 54 by_) 55 who) else some (1, si (sa (sa τ 8 ni (nI l)) 9 ni (gapS (τ 2) (τ 15) (τ 17 l) (τ 4 1) frm (-1) (farI frm (τ 17 l)) 0 m)) 48 (nI (ni + 1)))) := by
  unfold fX6_putIsland
  rw [gapFor_eq hp hl, bd1_s, h48]
  have hfail : fX6_putIsland_b23 τ by_ who = some (0, si (si (si τ 53 0) 54 by_) 55 who) := by
    unfold fX6_putIsland_b23 fX6_fails
    rw [bd2_s, ck_t (Or.inl rfl)]
  by_cases q : gapS (τ 2) (τ 15) (τ 17 l) (τ 4 1) frm (-1) (farI frm (τ 17 l)) 0 m = -1
  · rw [if_pos q, if_pos (Or.inl q)]; exact hfail
  · rw [if_neg q]
    by_cases q2 : ni = 12
    · rw [if_pos (show nI ni = (12 : Int32) from by rw [q2]; rfl), if_pos (Or.inr q2)]; exact hfail
    · rw [if_neg (show ¬ nI ni = (12 : Int32) from fun e => q2 ((nI_eq (a := ni) (b := 12) (by omega) (by omega)).mp e)), if_neg (fun z => z.elim q q2), ck_t (ckN (by omega) (by omega)), ck_t (ckN (by omega) (by omega)), nI_clamp (n := ni) (by omega), nI_1]
