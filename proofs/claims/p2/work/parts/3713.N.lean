/-! The first that does not reach: looked for upwards (class), downwards (reference). -/
def fstS (P : Nat → Bool) (i : Nat) : Nat → Int32
  | 0 => -1
  | d + 1 => if P i = true then nI i else fstS P (i + 1) d
theorem fstS_congr {P Q : Nat → Bool} : ∀ {d i : Nat}, (∀ j, i ≤ j → j < i + d → P j = Q j) → fstS P i d = fstS Q i d
  | 0, _, _ => rfl
  | d + 1, i, h => by
    unfold fstS
    rw [h i (Nat.le_refl _) (by omega), fstS_congr (fun j h1 h2 => h j (by omega) (by omega))]
theorem fstS_val {P : Nat → Bool} : ∀ {d i : Nat}, fstS P i d = -1 ∨ ∃ j, i ≤ j ∧ j < i + d ∧ fstS P i d = nI j ∧ P j = true
  | 0, _ => Or.inl rfl
  | d + 1, i => by
    unfold fstS
    by_cases h : P i = true
    · rw [if_pos h]; exact Or.inr ⟨i, Nat.le_refl _, by omega, rfl, h⟩
    · rw [if_neg h]
      rcases fstS_val (P := P) (d := d) (i := i + 1) with e | ⟨j, h1, h2, h3, h4⟩
      · exact Or.inl e
      · exact Or.inr ⟨j, by omega, by omega, h3, h4⟩
def lgI (x : Int32) : Int32 := if x = 0 then 0 else 1
def strC (σ : St) (kind lg : Int32) (i : Nat) : Bool := decide (σ 8 i = kind ∧ lgI (σ 24 i) = lg ∧ σ 28 i = -1)
theorem astrayC {σ : St} {m : Nat} (hp : wfP σ m) {kind lg : Int32} : ∀ (d i N : Nat), i + d = m → d < N → fX2_firstAstray_l2 σ N kind lg (nI i) = some (fstS (strC σ kind lg) i d) := by
  obtain ⟨hm, h48, _⟩ := hp
  have hsz : fX0_size_p σ = some (nI m) := by unfold fX0_size_p; rw [h48]
  intro d
  induction d with
  | zero =>
    intro i N h hN
    obtain ⟨N, rfl⟩ : ∃ k, N = k + 1 := ⟨N - 1, by omega⟩
    have hi : i = m := by omega
    subst hi
    show fX2_firstAstray_s2 σ (fX2_firstAstray_l2 σ N) _ _ _ = _
    unfold fX2_firstAstray_s2
    rw [hsz, bd1_s, if_pos (Int32.le_refl _)]
    rfl
  | succ d ih =>
    intro i N h hN
    obtain ⟨N, rfl⟩ : ∃ k, N = k + 1 := ⟨N - 1, by omega⟩
    have him : i < m := by omega
    have e := ih (i + 1) N (by omega) (by omega)
    have hL : fX2_isLong σ (nI i) = some (lgI (σ 24 i)) := isLong_in (by omega)
    show fX2_firstAstray_s2 σ (fX2_firstAstray_l2 σ N) _ _ _ = some (if strC σ kind lg i = true then nI i else fstS (strC σ kind lg) (i + 1) d)
    unfold fX2_firstAstray_s2
    rw [hsz, bd1_s, if_neg (nI_ge him (by omega)), kind_in_p h48 hm him, bd1_s, hL, nI_1]
    by_cases h1 : σ 8 i = kind
    · rw [if_pos h1, bd1_s]
      by_cases h2 : lgI (σ 24 i) = lg
      · rw [if_pos h2, aimOf_in (by omega), bd1_s]
        by_cases h3 : σ 28 i = -1
        · rw [if_pos h3, if_pos (show strC σ kind lg i = true from decide_eq_true ⟨h1, h2, h3⟩)]
        · rw [if_neg h3, if_neg (show ¬ strC σ kind lg i = true from fun z => h3 (of_decide_eq_true z).2.2)]; exact e
      · rw [if_neg h2, if_neg (show ¬ strC σ kind lg i = true from fun z => h2 (of_decide_eq_true z).2.1)]; exact e
    · rw [if_neg h1, if_neg (show ¬ strC σ kind lg i = true from fun z => h1 (of_decide_eq_true z).1)]; exact e
theorem astrayC_eq {σ : St} {m : Nat} (hp : wfP σ m) {kind lg : Int32} : fX2_firstAstray σ kind lg = some (fstS (strC σ kind lg) 0 m) := by
  have hm := hp.1
  exact astrayC hp m 0 FU (by omega) (by unfold FU; omega)
theorem add_m1 (x : Int32) : x + (-1 : Int32) = x - 1 := by rw [Int32.sub_eq_add_neg]
def strM (τ : St) (ni nc : Nat) (kind lg : Int32) (i : Nat) : Bool := decide (τ 2 i = kind ∧ τ 7 i = lg ∧ aimM τ ni nc i = -1)
theorem l10_s (τ : St) (N : Nat) (a b c d : Int32) : fX6_firstStuck_l10 τ (N + 1) a b c d = fX6_firstStuck_s10 τ (fX6_firstStuck_l10 τ N) a b c d := rfl
theorem l9_s (τ : St) (N : Nat) (a b : Int32) : fX6_firstStuckIsland_l9 τ (N + 1) a b = fX6_firstStuckIsland_s9 τ (fX6_firstStuckIsland_l9 τ N) a b := rfl
theorem stuckM {τ : St} {m ni nc : Nat} (hp : wfM τ m) (hi : Mi τ ni) (hc : Mc τ nc) (hB : Bd (τ 12) m) (hL : Bd (τ 17) 8) {kind lg : Int32} : ∀ (i N : Nat), i ≤ m → i < N → fX6_firstStuck_l10 τ N kind lg (fstS (strM τ ni nc kind lg) i (m - i)) (nI i - 1) = some (fstS (strM τ ni nc kind lg) 0 m) := by
  obtain ⟨hm, h41, hw⟩ := hp
  intro i
  induction i with
  | zero =>
    intro N h hN
    obtain ⟨N, rfl⟩ : ∃ k, N = k + 1 := ⟨N - 1, by omega⟩
    rw [l10_s]
    unfold fX6_firstStuck_s10
    rw [if_pos (show nI 0 - 1 < (0 : Int32) from by decide)]
    rfl
  | succ i ih =>
    intro N h hN
    obtain ⟨N, rfl⟩ : ∃ k, N = k + 1 := ⟨N - 1, by omega⟩
    have e := ih N (by omega) (by omega)
    have c24 : ¬ (nI i < 0 ∨ 24 ≤ Int32.toNatClampNeg (nI i)) := ckN (by omega) (by omega)
    have c24' : ¬ (nI i < 0 ∨ 24 ≤ i) := fun z => z.elim (nI_pos (by omega)) (by omega)
    have hst : fstS (strM τ ni nc kind lg) i (m - i) = if strM τ ni nc kind lg i = true then nI i else fstS (strM τ ni nc kind lg) (i + 1) (m - (i + 1)) := by
      rw [show m - i = (m - (i + 1)) + 1 by omega]; rfl
    rw [hst] at e
    rw [l10_s]
    unfold fX6_firstStuck_s10
    rw [nI_pred, if_neg (nI_pos (by omega)), ck_t c24, nI_clamp (n := i) (by omega)]
    unfold fX6_firstStuck_b51 fX6_firstStuck_b52
    rw [add_m1]
    by_cases h1 : τ 2 i = kind
    · rw [if_pos h1, ck_t c24']
      by_cases h2 : τ 7 i = lg
      · rw [if_pos h2, goesTo_eq hm hw hi hc hB hL (by omega), bd1_s]
        by_cases h3 : aimM τ ni nc i = -1
        · rw [if_pos h3, if_neg d_1_0]
          rw [if_pos (show strM τ ni nc kind lg i = true from decide_eq_true ⟨h1, h2, h3⟩)] at e
          exact e
        · rw [if_neg h3, if_pos rfl]
          rw [if_neg (show ¬ strM τ ni nc kind lg i = true from fun z => h3 (of_decide_eq_true z).2.2)] at e
          exact e
      · rw [if_neg h2, if_pos rfl]
        rw [if_neg (show ¬ strM τ ni nc kind lg i = true from fun z => h2 (of_decide_eq_true z).2.1)] at e
        exact e
    · rw [if_neg h1, if_pos rfl]
      rw [if_neg (show ¬ strM τ ni nc kind lg i = true from fun z => h1 (of_decide_eq_true z).1)] at e
      exact e
theorem stuckM_eq {τ : St} {m ni nc : Nat} (hp : wfM τ m) (hi : Mi τ ni) (hc : Mc τ nc) (hB : Bd (τ 12) m) (hL : Bd (τ 17) 8) {kind lg : Int32} : fX6_firstStuck τ kind lg = some (fstS (strM τ ni nc kind lg) 0 m) := by
  have hm := hp.1
  have e := stuckM hp hi hc hB hL (kind := kind) (lg := lg) m FU (Nat.le_refl _) (by unfold FU; omega)
  rw [Nat.sub_self] at e
  unfold fX6_firstStuck
  rw [hp.2.1]
  exact e
def istC (σ : St) (k : Nat) : Bool := decide (σ 29 k = -1)
theorem iastrayC {σ : St} {n : Nat} (hs : Sk_i σ n) : ∀ (d k N : Nat), k + d = n → d < N → fX2_firstIslandAstray_l2 σ N (nI k) = some (fstS (istC σ) k d) := by
  have hn := hs.1
  intro d
  induction d with
  | zero =>
    intro k N h hN
    obtain ⟨N, rfl⟩ : ∃ k, N = k + 1 := ⟨N - 1, by omega⟩
    have hk : k = n := by omega
    subst hk
    show fX2_firstIslandAstray_s2 σ (fX2_firstIslandAstray_l2 σ N) _ = _
    unfold fX2_firstIslandAstray_s2
    rw [ssize_i hs, bd1_s, if_pos (Int32.le_refl _)]
    rfl
  | succ d ih =>
    intro k N h hN
    obtain ⟨N, rfl⟩ : ∃ k, N = k + 1 := ⟨N - 1, by omega⟩
    have hk : k < n := by omega
    have e := ih (k + 1) N (by omega) (by omega)
    show fX2_firstIslandAstray_s2 σ (fX2_firstIslandAstray_l2 σ N) _ = some (if istC σ k = true then nI k else fstS (istC σ) (k + 1) d)
    unfold fX2_firstIslandAstray_s2
    rw [ssize_i hs, bd1_s, if_neg (nI_ge hk (by omega)), islandAimOf_in (by omega), bd1_s, nI_1]
    by_cases h3 : σ 29 k = -1
    · rw [if_pos h3, if_pos (show istC σ k = true from decide_eq_true h3)]
    · rw [if_neg h3, if_neg (show ¬ istC σ k = true from fun z => h3 (of_decide_eq_true z))]; exact e
theorem iastrayC_eq {σ : St} {n : Nat} (hs : Sk_i σ n) : fX2_firstIslandAstray σ = some (fstS (istC σ) 0 n) := by
  have hn := hs.1
  exact iastrayC hs n 0 FU (by omega) (by unfold FU; omega)
def istM (τ : St) (ni k : Nat) : Bool := decide (iaimM τ ni k = -1)
theorem istuckM {τ : St} {n : Nat} (hs : Mi τ n) (hL : Bd (τ 17) 8) (hl : nmL (τ 8) n) : ∀ (i N : Nat), i ≤ n → i < N → fX6_firstStuckIsland_l9 τ N (fstS (istM τ n) i (n - i)) (nI i - 1) = some (fstS (istM τ n) 0 n) := by
  have hn := hs.1
  intro i
  induction i with
  | zero =>
    intro N h hN
    obtain ⟨N, rfl⟩ : ∃ k, N = k + 1 := ⟨N - 1, by omega⟩
    rw [l9_s]
    unfold fX6_firstStuckIsland_s9
    rw [if_pos (show nI 0 - 1 < (0 : Int32) from by decide)]
    rfl
  | succ i ih =>
    intro N h hN
    obtain ⟨N, rfl⟩ : ∃ k, N = k + 1 := ⟨N - 1, by omega⟩
    have e := ih N (by omega) (by omega)
    have c12 : ¬ (nI i < 0 ∨ 12 ≤ Int32.toNatClampNeg (nI i)) := ckN (by omega) (by omega)
    obtain ⟨l, hl8, el⟩ := hl i (by omega)
    obtain ⟨T, hT, eT⟩ := hL l hl8
    obtain ⟨A, hA, eA⟩ := hs.2.2 i (by omega)
    have hst : fstS (istM τ n) i (n - i) = if istM τ n i = true then nI i else fstS (istM τ n) (i + 1) (n - (i + 1)) := by
      rw [show n - i = (n - (i + 1)) + 1 by omega]; rfl
    rw [hst] at e
    have hg : fX6_goesFrom τ (τ 13 i) (τ 8 i) = some (iaimM τ n i) := by
      unfold iaimM
      rw [eA, el, nI_clamp (by omega)]
      exact goesM_in hs hl8 hA hT eT
    rw [l9_s]
    unfold fX6_firstStuckIsland_s9
    rw [nI_pred, if_neg (nI_pos (by omega)), ck_t c12, ck_t c12, nI_clamp (n := i) (by omega), hg, bd1_s, add_m1]
    by_cases h3 : iaimM τ n i = -1
    · rw [if_pos h3]
      rw [if_pos (show istM τ n i = true from decide_eq_true h3)] at e
      exact e
    · rw [if_neg h3]
      rw [if_neg (show ¬ istM τ n i = true from fun z => h3 (of_decide_eq_true z))] at e
      exact e
theorem istuckM_eq {τ : St} {n : Nat} (hs : Mi τ n) (hL : Bd (τ 17) 8) (hl : nmL (τ 8) n) : fX6_firstStuckIsland τ = some (fstS (istM τ n) 0 n) := by
  have hn := hs.1
  have e := istuckM hs hL hl n FU (Nat.le_refl _) (by unfold FU; omega)
  rw [Nat.sub_self] at e
  unfold fX6_firstStuckIsland
  rw [hs.2.1]
  exact e
