/-! code, reach, grow: as far as their placing. -/
/-- the program of class and reference -/
def RPr (σ τ : St) (m : Nat) : Prop := m ≤ 24 ∧ σ 48 0 = nI m ∧ τ 41 0 = nI m ∧ (∀ i, i < m → σ 8 i = τ 2 i ∧ σ 9 i = τ 3 i ∧ wfI (σ 8 i) (σ 9 i)) ∧ σ 49 0 = nI (cnt5 (σ 8) m)
theorem RPr_to {σ τ s t : St} {m : Nat} (h : RPr σ τ m) (a8 : s 8 = σ 8) (a9 : s 9 = σ 9) (a48 : s 48 = σ 48) (a49 : s 49 = σ 49) (b2 : t 2 = τ 2) (b3 : t 3 = τ 3) (b41 : t 41 = τ 41) : RPr s t m := by
  obtain ⟨h1, h2, h3, h4, h5⟩ := h
  exact ⟨h1, by rw [a48]; exact h2, by rw [b41]; exact h3, fun i hi => by rw [a8, a9, b2, b3]; exact h4 i hi, by rw [a49, a8]; exact h5⟩
theorem take_loop {m : Nat} (h24 : m ≤ 24) : ∀ (d i : Nat) (σ : St) (N : Nat), i + d = m → d < N → σ 46 0 = nI m → σ 48 0 = nI i → (∀ j, j < i → σ 8 j = σ 5 j ∧ σ 9 j = σ 6 j) → σ 49 0 = nI (cnt5 (σ 5) i) → ∃ s, fX0_takeFrom_p_l6 N σ (nI i) = some s ∧ s 48 0 = nI m ∧ (∀ j, j < m → s 8 j = σ 5 j ∧ s 9 j = σ 6 j) ∧ s 49 0 = nI (cnt5 (σ 5) m) ∧ (∀ j, j ≠ 8 → j ≠ 9 → j ≠ 48 → j ≠ 49 → s j = σ j) := by
  intro d
  induction d with
  | zero =>
    intro i σ N h hN h46 h48 hc hg
    obtain ⟨N, rfl⟩ : ∃ k, N = k + 1 := ⟨N - 1, by omega⟩
    have hi : i = m := by omega
    subst hi
    refine ⟨σ, ?_, h48, hc, hg, fun _ _ _ _ _ => rfl⟩
    show fX0_takeFrom_p_s6 (fX0_takeFrom_p_l6 N) σ (nI i) = _
    unfold fX0_takeFrom_p_s6 fX0_size_r
    rw [h46, bd1_s, if_pos (Int32.le_refl _)]
  | succ d ih =>
    intro i σ N h hN h46 h48 hc hg
    obtain ⟨N, rfl⟩ : ∃ k, N = k + 1 := ⟨N - 1, by omega⟩
    have hi : i < m := by omega
    have a46 : addS_p σ i (σ 5 i) (σ 6 i) 46 = σ 46 := addS_frame_p (by decide) (by decide) (by decide) (by decide)
    have a5 : addS_p σ i (σ 5 i) (σ 6 i) 5 = σ 5 := addS_frame_p (by decide) (by decide) (by decide) (by decide)
    have a6 : addS_p σ i (σ 5 i) (σ 6 i) 6 = σ 6 := addS_frame_p (by decide) (by decide) (by decide) (by decide)
    obtain ⟨s, e1, e2, e3, e4, e5⟩ := ih (i + 1) (addS_p σ i (σ 5 i) (σ 6 i)) N (by omega) (by omega) (by rw [a46]; exact h46) addS_size_p (fun j hj => by
      rw [addS_kinds_p, addS_told_p, a5, a6]
      by_cases e : j = i
      · subst e; rw [pk_us, pk_us]; exact ⟨rfl, rfl⟩
      · rw [pk_un e, pk_un e]; exact hc j (by omega)) (by
      rw [addS_gaps_p, a5]
      show _ = nI (cnt5 (σ 5) i + (if σ 5 i = 5 then 1 else 0))
      by_cases e : σ 5 i = 5
      · rw [if_pos e, if_pos e, hg, nI_1]
      · rw [if_neg e, if_neg e, hg]; rfl)
    rw [a5, a6] at e3
    rw [a5] at e4
    refine ⟨s, ?_, e2, e3, e4, fun j h8 h9 h48 h49 => by rw [e5 j h8 h9 h48 h49, addS_frame_p h8 h9 h48 h49]⟩
    show fX0_takeFrom_p_s6 (fX0_takeFrom_p_l6 N) σ (nI i) = _
    unfold fX0_takeFrom_p_s6
    rw [show fX0_size_r σ = some (nI m) from by unfold fX0_size_r; rw [h46], bd1_s, if_neg (nI_ge hi (by omega)), if_neg (nI24 (by omega)), kind_in_r h46 h24 hi, bd1_s, told_in_r h46 h24 hi, bd1_s, add_in_p h48 (by omega), bd2_s, nI_1]
    exact e1
theorem take_all {σ : St} {m : Nat} (h24 : m ≤ 24) (h46 : σ 46 0 = nI m) : ∃ s, fX0_takeFrom_p σ = some s ∧ s 48 0 = nI m ∧ (∀ j, j < m → s 8 j = σ 5 j ∧ s 9 j = σ 6 j) ∧ s 49 0 = nI (cnt5 (σ 5) m) ∧ (∀ j, j ≠ 8 → j ≠ 9 → j ≠ 48 → j ≠ 49 → s j = σ j) := by
  obtain ⟨s, e1, e2, e3, e4, e5⟩ := take_loop h24 m 0 (si (si σ 48 0) 49 0) FU (by omega) (by unfold FU; omega) (by rw [si_ne (by decide), si_ne (by decide)]; exact h46) rfl (fun j hj => absurd hj (Nat.not_lt_zero _)) rfl
  exact ⟨s, e1, e2, e3, e4, fun j h8 h9 h48 h49 => by rw [e5 j h8 h9 h48 h49, si_ne h49, si_ne h48]⟩
theorem copy_loop {m : Nat} (h24 : m ≤ 24) : ∀ (d i : Nat) (τ : St) (N : Nat), i + d = m → d < N → τ 41 0 = nI m → (∀ j, j < i → τ 2 j = τ 5 j ∧ τ 3 j = τ 6 j) → ∃ t, fX6_code_l54 N τ (nI i) = bd1 (fX6_placeAll (si (si t 42 ((t 42 0) + (1 : Int32))) 40 (0 : Int32))) (fun s10 => some ((s10 41 0), s10)) ∧ (∀ j, j < m → t 2 j = τ 5 j ∧ t 3 j = τ 6 j) ∧ (∀ j, j ≠ 2 → j ≠ 3 → t j = τ j) := by
  intro d
  induction d with
  | zero =>
    intro i τ N h hN h41 hc
    obtain ⟨N, rfl⟩ : ∃ k, N = k + 1 := ⟨N - 1, by omega⟩
    have hi : i = m := by omega
    subst hi
    refine ⟨τ, ?_, hc, fun _ _ _ => rfl⟩
    show fX6_code_s54 (fX6_code_l54 N) τ (nI i) = _
    unfold fX6_code_s54
    rw [h41, if_pos (Int32.le_refl _)]
  | succ d ih =>
    intro i τ N h hN h41 hc
    obtain ⟨N, rfl⟩ : ∃ k, N = k + 1 := ⟨N - 1, by omega⟩
    have hi : i < m := by omega
    obtain ⟨t, e1, e2, e3⟩ := ih (i + 1) (sa (sa τ 2 i (τ 5 i)) 3 i (τ 6 i)) N (by omega) (by omega) (by rw [sa_ne (by decide), sa_ne (by decide)]; exact h41) (fun j hj => by
      rw [sa_at, sa_ne (show (2 : Nat) ≠ 3 by decide), sa_at, sa_ne (show (5 : Nat) ≠ 3 by decide), sa_ne (show (5 : Nat) ≠ 2 by decide), sa_ne (show (6 : Nat) ≠ 3 by decide), sa_ne (show (6 : Nat) ≠ 2 by decide), sa_ne (show (3 : Nat) ≠ 2 by decide)]
      by_cases e : j = i
      · subst e; rw [pk_us, pk_us]; exact ⟨rfl, rfl⟩
      · rw [pk_un e, pk_un e]; exact hc j (by omega))
    refine ⟨t, ?_, fun j hj => ?_, fun j h2 h3 => by rw [e3 j h2 h3, sa_ne h3, sa_ne h2]⟩
    · show fX6_code_s54 (fX6_code_l54 N) τ (nI i) = _
      unfold fX6_code_s54
      have c := ckN (i := i) (N := 24) (by omega) (by omega)
      rw [h41, if_neg (nI_ge hi (by omega)), ck_t c, ck_t c, ck_t c, ck_t c, nI_clamp (by omega), nI_1]
      exact e1
    · have := e2 j hj
      rw [sa_ne (show (5 : Nat) ≠ 3 by decide), sa_ne (show (5 : Nat) ≠ 2 by decide), sa_ne (show (6 : Nat) ≠ 3 by decide), sa_ne (show (6 : Nat) ≠ 2 by decide)] at this
      exact this
/-- code: both refuse, or both go on to place the same program -/
theorem code_split {σ τ : St} {n : Nat} (h : RPg σ τ n) :
    (∃ s t, fX5_code σ = some (-1003, s) ∧ fX6_code τ = some (-1003, t) ∧ frC σ s ∧ frM τ t) ∨
    (∃ s t m, 0 < m ∧ fX5_code σ = bd1 (fX2_placeAll s) (fun s19 => bd1 (fX0_size_p s19) fun r21 => some (r21, s19)) ∧ fX6_code τ = bd1 (fX6_placeAll t) (fun s10 => some ((s10 41 0), s10)) ∧ RPr s t m ∧ RPg s t 0 ∧ s 40 0 = σ 40 0 + 1 ∧ t 42 0 = τ 42 0 + 1 ∧
      (∀ j, j = 10 ∨ j = 41 ∨ (12 ≤ j ∧ j ≤ 39) ∨ 50 ≤ j → s j = σ j) ∧ (∀ j, j = 4 ∨ j = 43 ∨ (7 ≤ j ∧ j ≤ 39) ∨ 48 ≤ j → t j = τ j)) := by
  obtain ⟨p, s, q, t, e1, e2, f, g, out⟩ := eq_read h
  obtain ⟨h50, hs, ht, hl⟩ := h
  have s42 : s 42 0 = nI n := by rw [f 42 (by decide) (by decide) (by decide) (by decide) (by decide) (by decide) (by decide)]; exact hs
  have t40 : t 40 0 = nI n := by rw [g 40 (by decide) (by decide) (by decide) (by decide) (by decide) (by decide)]; exact ht
  have hlen : fX1_length s = some (nI n) := by unfold fX1_length; rw [s42]
  rcases out with ⟨rfl, rfl, m, met, want, op, hrr, ho, ho2, hop⟩ | ⟨⟨i, hi, rfl⟩, hq⟩
  · obtain ⟨h1, h2, h3, h4, h5, h6, h7, h8, h9, h10, h11⟩ := id hrr
    have nlt : ¬ nI n < nI n := nI_nlt (Nat.le_refl _) (by omega)
    by_cases bad : m = 0 ∨ ¬ op = -1 ∨ ¬ (nI want &&& (nI met ^^^ (-1 : Int32))) = 0
    · left
      refine ⟨s, t, ?_, ?_, f, g⟩
      · unfold fX5_code
        rw [e1, bd2_s, hlen, bd1_s, if_neg nlt]
        have hw : fX3_isWhole s = some 0 := by
          unfold fX3_isWhole fX0_size_r
          rw [h2, bd1_s, ho, h10, h7]
          by_cases m0 : m = 0
          · subst m0; rw [if_pos (by decide)]
          · rw [if_neg (nI_nle (by omega) (by omega))]
            by_cases o1 : op = -1
            · rw [if_pos o1, if_neg (by rcases bad with b | b | b; exact absurd b m0; exact absurd o1 b; exact b)]
            · rw [if_neg o1]
        rw [hw, bd1_s, if_pos rfl]
      · unfold fX6_code
        rw [e2, bd2_s, t40, if_neg nlt, ho2, h3, h11, h8]
        by_cases o1 : op = -1
        · rw [if_pos o1]
          by_cases m0 : m = 0
          · subst m0; rw [if_pos (by decide)]
          · rw [if_neg (nI_ne0 (by omega) (by omega)), if_neg (by rcases bad with b | b | b; exact absurd b m0; exact absurd o1 b; exact b)]
        · rw [if_neg o1]
    · right
      have m0 : ¬ m = 0 := fun z => bad (Or.inl z)
      have o1 : op = -1 := Decidable.byContradiction (fun z => bad (Or.inr (Or.inl z)))
      have b1 : (nI want &&& (nI met ^^^ (-1 : Int32))) = 0 := Decidable.byContradiction (fun z => bad (Or.inr (Or.inr z)))
      obtain ⟨s1, a1, a2, a3, a4, a5⟩ := take_all h1 h2
      obtain ⟨t1, b2, b3, b4⟩ := copy_loop h1 m 0 (si t 41 (nI m)) FU (by omega) (by unfold FU; omega) (si_at _ _ _ _) (fun j hj => absurd hj (Nat.not_lt_zero _))
      have hcl : fX1_clear s1 = some (si s1 42 0) := rfl
      refine ⟨si (si s1 42 0) 40 ((si s1 42 0) 40 0 + 1), si (si t1 42 (t1 42 0 + 1)) 40 0, m, Nat.pos_of_ne_zero m0, ?_, ?_, ⟨h1, ?_, ?_, fun i hi => ?_, ?_⟩, ⟨by omega, ?_, ?_, fun i hi => absurd hi (Nat.not_lt_zero _)⟩, ?_, ?_, fun j hj => ?_, fun j hj => ?_⟩
      · unfold fX5_code
        rw [e1, bd2_s, hlen, bd1_s, if_neg nlt]
        have hw : fX3_isWhole s = some 1 := by
          unfold fX3_isWhole fX0_size_r
          rw [h2, bd1_s, ho, h10, h7, if_neg (nI_nle (by omega) (by omega)), if_pos o1, if_pos b1]
        rw [hw, bd1_s, if_neg d_1_0, a1, bd1_s, hcl, bd1_s]
      · unfold fX6_code
        rw [e2, bd2_s, t40, if_neg nlt, ho2, h3, h11, h8, if_pos o1, if_neg (nI_ne0 (by omega) (by omega)), if_pos b1]
        exact b2
      · rw [si_ne (by decide), si_ne (by decide)]; exact a2
      · rw [si_ne (by decide), si_ne (by decide), b4 41 (by decide) (by decide), si_at]
      · rw [si_ne (show (8 : Nat) ≠ 40 by decide), si_ne (show (8 : Nat) ≠ 42 by decide), si_ne (show (9 : Nat) ≠ 40 by decide), si_ne (show (9 : Nat) ≠ 42 by decide), si_ne (show (2 : Nat) ≠ 40 by decide), si_ne (show (2 : Nat) ≠ 42 by decide), si_ne (show (3 : Nat) ≠ 40 by decide), si_ne (show (3 : Nat) ≠ 42 by decide), (a3 i hi).1, (a3 i hi).2, (b3 i hi).1, (b3 i hi).2, si_ne (show (5 : Nat) ≠ 41 by decide), si_ne (show (6 : Nat) ≠ 41 by decide)]
        exact h4 i hi
      · rw [si_ne (show (49 : Nat) ≠ 40 by decide), si_ne (show (49 : Nat) ≠ 42 by decide), si_ne (show (8 : Nat) ≠ 40 by decide), si_ne (show (8 : Nat) ≠ 42 by decide), a4, cnt5_congr (f := s 5) (g := s1 8) (fun i hi => ((a3 i hi).1).symm)]
      · rw [si_ne (by decide), si_at]; rfl
      · rw [si_at]; rfl
      · rw [si_at, si_ne (by decide), a5 40 (by decide) (by decide) (by decide) (by decide), f 40 (by decide) (by decide) (by decide) (by decide) (by decide) (by decide) (by decide)]
      · rw [si_ne (by decide), si_at, b4 42 (by decide) (by decide), si_ne (by decide), g 42 (by decide) (by decide) (by decide) (by decide) (by decide) (by decide)]
      · rw [si_ne (by omega), si_ne (by omega), a5 j (by omega) (by omega) (by omega) (by omega), f j (by omega) (by omega) (by omega) (by omega) (by omega) (by omega) (by omega)]
      · rw [si_ne (by omega), si_ne (by omega), b4 j (by omega) (by omega), si_ne (by omega), g j (by omega) (by omega) (by omega) (by omega) (by omega) (by omega)]
  · left
    refine ⟨s, t, ?_, ?_, f, g⟩
    · unfold fX5_code
      rw [e1, bd2_s, hlen, bd1_s, if_pos (nI_lt hi (by omega))]
    · unfold fX6_code
      rcases hq with ⟨i', hi', rfl⟩ | ⟨rfl, h3⟩
      · rw [e2, bd2_s, t40, if_pos (nI_lt hi' (by omega))]
      · rw [e2, bd2_s, t40, if_neg (nI_nlt (Nat.le_refl _) (by omega)), h3, if_neg d_3_m]
