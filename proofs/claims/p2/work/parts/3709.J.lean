/-! How large an item is, and where gaps end. -/
def upN (d A : Nat) : Nat := (A + d - 1) / d * d
theorem neg_tn {A : Nat} (h : A < 4096) : (-(nI A)).toBitVec.toNat = (4294967296 - A) % 4294967296 := by
  rw [Int32.toBitVec_neg, BitVec.toNat_neg, pk_tn (by omega)]
theorem t_fill2 (A : Nat) (h : A < 4096) : (-(nI A)) &&& (nI 2 - (1 : Int32)) = nI (upN 2 A - A) := by
  rw [pk_and (-(nI A)) (m := nI 2 - (1 : Int32)) 1 (by decide), neg_tn h]
  unfold upN
  congr 1
  omega
theorem t_fill4 (A : Nat) (h : A < 4096) : (-(nI A)) &&& (nI 4 - (1 : Int32)) = nI (upN 4 A - A) := by
  rw [pk_and (-(nI A)) (m := nI 4 - (1 : Int32)) 2 (by decide), neg_tn h]
  unfold upN
  congr 1
  omega
theorem t_fill8 (A : Nat) (h : A < 4096) : (-(nI A)) &&& (nI 8 - (1 : Int32)) = nI (upN 8 A - A) := by
  rw [pk_and (-(nI A)) (m := nI 8 - (1 : Int32)) 3 (by decide), neg_tn h]
  unfold upN
  congr 1
  omega
theorem up_eq {τ : St} {d A : Nat} (hd : 0 < d) (hd2 : d ≤ 8) (hA : A < 4096) : fX6_up τ (nI A) (nI d) = some (nI (upN d A)) := by
  unfold fX6_up upN
  rw [ck_t (nI_ne0 hd (by omega)), nI_add, show (nI (A + d) - (1 : Int32)) = nI (A + d - 1) from pk_sub (a := A + d) (b := 1) (by omega), pk_div (by omega) hd (by omega), pk_mul]
theorem upN_ge {d A : Nat} (hd : 0 < d) : A ≤ upN d A ∧ upN d A < A + d := by
  unfold upN
  have h1 := Nat.div_add_mod (A + d - 1) d
  have h2 := Nat.mod_lt (A + d - 1) hd
  have h3 : d * ((A + d - 1) / d) = (A + d - 1) / d * d := Nat.mul_comm _ _
  omega
def szI (k w g : Int32) (A : Nat) : Nat := if k = 0 then Int32.toNatClampNeg w else if k = 1 then 2 else if k = 2 then (if g = 0 then 2 else 4) else if k = 3 then 0 else if k = 4 then upN (Int32.toNatClampNeg w) A - A else 2
theorem szI_0 {w g : Int32} {A : Nat} : szI (nI 0) w g A = Int32.toNatClampNeg w := if_pos (by decide)
theorem szI_1 {w g : Int32} {A : Nat} : szI (nI 1) w g A = 2 := by unfold szI; rw [if_neg (show ¬ nI 1 = (0 : Int32) from by decide), if_pos (show nI 1 = (1 : Int32) from by decide)]
theorem szI_2 {w g : Int32} {A : Nat} : szI (nI 2) w g A = if g = 0 then 2 else 4 := by unfold szI; rw [if_neg (show ¬ nI 2 = (0 : Int32) from by decide), if_neg (show ¬ nI 2 = (1 : Int32) from by decide), if_pos (show nI 2 = (2 : Int32) from by decide)]
theorem szI_3 {w g : Int32} {A : Nat} : szI (nI 3) w g A = 0 := by unfold szI; rw [if_neg (show ¬ nI 3 = (0 : Int32) from by decide), if_neg (show ¬ nI 3 = (1 : Int32) from by decide), if_neg (show ¬ nI 3 = (2 : Int32) from by decide), if_pos (show nI 3 = (3 : Int32) from by decide)]
theorem szI_4 {w g : Int32} {A : Nat} : szI (nI 4) w g A = upN (Int32.toNatClampNeg w) A - A := by unfold szI; rw [if_neg (show ¬ nI 4 = (0 : Int32) from by decide), if_neg (show ¬ nI 4 = (1 : Int32) from by decide), if_neg (show ¬ nI 4 = (2 : Int32) from by decide), if_neg (show ¬ nI 4 = (3 : Int32) from by decide), if_pos (show nI 4 = (4 : Int32) from by decide)]
theorem szI_5 {w g : Int32} {A : Nat} : szI (nI 5) w g A = 2 := by unfold szI; rw [if_neg (show ¬ nI 5 = (0 : Int32) from by decide), if_neg (show ¬ nI 5 = (1 : Int32) from by decide), if_neg (show ¬ nI 5 = (2 : Int32) from by decide), if_neg (show ¬ nI 5 = (3 : Int32) from by decide), if_neg (show ¬ nI 5 = (4 : Int32) from by decide)]
theorem szI_le {k w g : Int32} {A : Nat} (h : wfI k w) : szI k w g A ≤ 40 := by
  obtain ⟨a, b, rfl, rfl, hc⟩ := h
  rcases hc with ⟨rfl, h⟩ | ⟨rfl, h⟩ | ⟨rfl, h⟩ | ⟨rfl, h⟩ | ⟨rfl, h⟩ | ⟨rfl, h⟩
  · rw [szI_0, nI_clamp (by omega)]; omega
  · rw [szI_1]; omega
  · rw [szI_2]
    by_cases e : g = 0
    · rw [if_pos e]; omega
    · rw [if_neg e]; omega
  · rw [szI_3]; omega
  · rw [szI_4, nI_clamp (by omega)]
    have := upN_ge (d := b) (A := A) (by omega)
    omega
  · rw [szI_5]; omega
theorem sizeC_eq {σ : St} {m i A : Nat} (hp : wfP σ m) (him : i < m) (hA : A < 4096) : fX2_sizeAt σ (nI i) (nI A) = some (nI (szI (σ 8 i) (σ 9 i) (σ 24 i) A)) := by
  obtain ⟨h1, h2, h3⟩ := hp
  obtain ⟨a, b, ea, eb, hc⟩ := h3 i him
  unfold fX2_sizeAt
  rw [kind_in_p h2 h1 him, bd1_s, told_in_p h2 h1 him, ea, eb]
  rcases hc with ⟨rfl, h⟩ | ⟨rfl, h⟩ | ⟨rfl, h⟩ | ⟨rfl, h⟩ | ⟨rfl, h⟩ | ⟨rfl, h⟩
  · rw [szI_0, nI_clamp (by omega), if_pos (show nI 0 = (0 : Int32) from by decide), bd1_s]
  · rw [szI_1, if_neg (show ¬ nI 1 = (0 : Int32) from by decide), if_pos (show nI 1 = (1 : Int32) from by decide)]; rfl
  · rw [szI_2, if_neg (show ¬ nI 2 = (0 : Int32) from by decide), if_neg (show ¬ nI 2 = (1 : Int32) from by decide), if_pos (show nI 2 = (2 : Int32) from by decide), isLong_in (by omega), bd1_s]
    by_cases e : σ 24 i = 0
    · rw [if_pos e, if_pos rfl, if_pos e]; rfl
    · rw [if_neg e, if_neg d_1_0, if_neg e]; rfl
  · rw [szI_3, if_neg (show ¬ nI 3 = (0 : Int32) from by decide), if_neg (show ¬ nI 3 = (1 : Int32) from by decide), if_neg (show ¬ nI 3 = (2 : Int32) from by decide), if_neg (show ¬ nI 3 = (4 : Int32) from by decide), if_neg (show ¬ nI 3 = (5 : Int32) from by decide)]; rfl
  · rw [szI_4, nI_clamp (by omega), if_neg (show ¬ nI 4 = (0 : Int32) from by decide), if_neg (show ¬ nI 4 = (1 : Int32) from by decide), if_neg (show ¬ nI 4 = (2 : Int32) from by decide), if_pos (show nI 4 = (4 : Int32) from by decide), bd1_s]
    unfold fX5_fillTo
    rw [bd1_s]
    rcases h with rfl | rfl | rfl
    · rw [t_fill2 A hA]
    · rw [t_fill4 A hA]
    · rw [t_fill8 A hA]
  · rw [szI_5, if_neg (show ¬ nI 5 = (0 : Int32) from by decide), if_neg (show ¬ nI 5 = (1 : Int32) from by decide), if_neg (show ¬ nI 5 = (2 : Int32) from by decide), if_neg (show ¬ nI 5 = (4 : Int32) from by decide), if_pos (show nI 5 = (5 : Int32) from by decide)]; rfl
theorem sizeM_eq {τ : St} {i A : Nat} (hw : wfI (τ 2 i) (τ 3 i)) (hi : i < 24) (hA : A < 4096) : fX6_sizeOf τ (nI i) (nI A) = some (nI (szI (τ 2 i) (τ 3 i) (τ 7 i) A)) := by
  obtain ⟨a, b, ea, eb, hc⟩ := hw
  have c24 : ¬ (nI i < 0 ∨ 24 ≤ Int32.toNatClampNeg (nI i)) := ckN (by omega) (by omega)
  have c24' : ¬ (nI i < 0 ∨ 24 ≤ i) := fun z => z.elim (nI_pos (by omega)) (by omega)
  unfold fX6_sizeOf
  rw [ck_t c24, nI_clamp (n := i) (by omega), ea, eb]
  rcases hc with ⟨rfl, h⟩ | ⟨rfl, h⟩ | ⟨rfl, h⟩ | ⟨rfl, h⟩ | ⟨rfl, h⟩ | ⟨rfl, h⟩
  · rw [szI_0, nI_clamp (by omega), if_pos (show nI 0 = (0 : Int32) from by decide), ck_t c24']
  · rw [szI_1, if_neg (show ¬ nI 1 = (0 : Int32) from by decide), if_neg (show ¬ nI 1 = (2 : Int32) from by decide), if_neg (show ¬ nI 1 = (3 : Int32) from by decide), if_neg (show ¬ nI 1 = (4 : Int32) from by decide)]; rfl
  · rw [szI_2, if_neg (show ¬ nI 2 = (0 : Int32) from by decide), if_pos (show nI 2 = (2 : Int32) from by decide), ck_t c24']
    by_cases e : τ 7 i = 0
    · rw [if_pos e, if_pos e]; rfl
    · rw [if_neg e, if_neg e]; rfl
  · rw [szI_3, if_neg (show ¬ nI 3 = (0 : Int32) from by decide), if_neg (show ¬ nI 3 = (2 : Int32) from by decide), if_pos (show nI 3 = (3 : Int32) from by decide)]; rfl
  · have hu := upN_ge (d := b) (A := A) (by omega)
    rw [szI_4, nI_clamp (by omega), if_neg (show ¬ nI 4 = (0 : Int32) from by decide), if_neg (show ¬ nI 4 = (2 : Int32) from by decide), if_neg (show ¬ nI 4 = (3 : Int32) from by decide), if_pos (show nI 4 = (4 : Int32) from by decide), ck_t c24', up_eq (by omega) (by omega) hA, bd1_s, pk_sub hu.1]
  · rw [szI_5, if_neg (show ¬ nI 5 = (0 : Int32) from by decide), if_neg (show ¬ nI 5 = (2 : Int32) from by decide), if_neg (show ¬ nI 5 = (3 : Int32) from by decide), if_neg (show ¬ nI 5 = (4 : Int32) from by decide)]; rfl
/-- how many of the first n are v -/
def cntE (f : Nat → Int32) (v : Int32) : Nat → Nat
  | 0 => 0
  | n + 1 => cntE f v n + (if f n = v then 1 else 0)
theorem cntE_le {f : Nat → Int32} {v : Int32} : ∀ {n : Nat}, cntE f v n ≤ n
  | 0 => Nat.le_refl _
  | n + 1 => by
    unfold cntE
    have := cntE_le (f := f) (v := v) (n := n)
    by_cases h : f n = v
    · rw [if_pos h]; omega
    · rw [if_neg h]; omega
theorem cntE_congr {f g : Nat → Int32} {v : Int32} : ∀ {n : Nat}, (∀ i, i < n → f i = g i) → cntE f v n = cntE g v n
  | 0, _ => rfl
  | n + 1, h => by
    unfold cntE
    rw [cntE_congr (fun i hi => h i (by omega)), h n (by omega)]
theorem cntE_mono {f : Nat → Int32} {v : Int32} {a b : Nat} (h : a ≤ b) : cntE f v a ≤ cntE f v b := by
  induction b with
  | zero => have : a = 0 := by omega
            subst this; exact Nat.le_refl _
  | succ b ih =>
    by_cases e : a = b + 1
    · subst e; exact Nat.le_refl _
    · have := ih (by omega)
      have hs : cntE f v (b + 1) = cntE f v b + (if f b = v then 1 else 0) := rfl
      rw [hs]
      omega
/-- the reference's gap: its islands -/
theorem gapM_isl {τ : St} {ni r : Nat} (hn : ni ≤ 12) (hr : r < 24) : ∀ (d k : Nat) (t : St) (N B : Nat), k + d = ni → d < N → B < 3500 → t 48 0 = nI ni → (∀ j, j ≠ 13 → t j = τ j) →
    ∃ t', fX6_layGap_l5 N t (nI r) (nI (B + 4 * cntE (τ 9) (nI r) k)) (nI k) = fX6_layGap_l55 FU (sa t' 15 r (nI (B + 4 * cntE (τ 9) (nI r) ni))) (nI r) (nI (B + 4 * cntE (τ 9) (nI r) ni)) 0 0 ∧ (∀ j, j ≠ 13 → t' j = τ j) ∧ (∀ j, t' 13 j = if k ≤ j ∧ j < ni ∧ τ 9 j = nI r then nI (B + 4 * cntE (τ 9) (nI r) j) else t 13 j) := by
  intro d
  have c24 : ¬ (nI r < 0 ∨ 24 ≤ Int32.toNatClampNeg (nI r)) := ckN (by omega) (by omega)
  induction d with
  | zero =>
    intro k t N B h hN hB hs hf
    obtain ⟨N, rfl⟩ : ∃ k, N = k + 1 := ⟨N - 1, by omega⟩
    have hk : k = ni := by omega
    subst hk
    refine ⟨t, ?_, hf, fun j => by rw [if_neg (by omega)]⟩
    show fX6_layGap_s5 (fX6_layGap_l5 N) t _ _ _ = _
    unfold fX6_layGap_s5
    rw [hs, if_pos (Int32.le_refl _), ck_t c24, nI_clamp (by omega)]
  | succ d ih =>
    intro k t N B h hN hB hs hf
    obtain ⟨N, rfl⟩ : ∃ k, N = k + 1 := ⟨N - 1, by omega⟩
    have hk : k < ni := by omega
    have c12 : ¬ (nI k < 0 ∨ 12 ≤ Int32.toNatClampNeg (nI k)) := ckN (by omega) (by omega)
    have c12' : ¬ (nI k < 0 ∨ 12 ≤ k) := fun z => z.elim (nI_pos (by omega)) (by omega)
    have hstep : cntE (τ 9) (nI r) (k + 1) = cntE (τ 9) (nI r) k + (if τ 9 k = nI r then 1 else 0) := rfl
    by_cases e : τ 9 k = nI r
    · rw [if_pos e] at hstep
      obtain ⟨t', e1, e2, e3⟩ := ih (k + 1) (sa t 13 k (nI (B + 4 * cntE (τ 9) (nI r) k))) N B (by omega) (by omega) hB (by rw [sa_ne (by decide)]; exact hs) (fun j hj => by rw [sa_ne hj]; exact hf j hj)
      refine ⟨t', ?_, e2, fun j => ?_⟩
      · show fX6_layGap_s5 (fX6_layGap_l5 N) t _ _ _ = _
        unfold fX6_layGap_s5
        rw [hs, if_neg (nI_ge hk (by omega)), ck_t c12, nI_clamp (n := k) (by omega), hf 9 (by decide), if_pos e, ck_t c12', nI_1, show (4 : Int32) = nI 4 from rfl, nI_add, show B + 4 * cntE (τ 9) (nI r) k + 4 = B + 4 * cntE (τ 9) (nI r) (k + 1) by omega]
        exact e1
      · rw [e3 j, sa_at]
        by_cases ej : j = k
        · subst ej; rw [if_neg (by omega), pk_us, if_pos ⟨Nat.le_refl _, hk, e⟩]
        · rw [pk_un ej]
          by_cases q : k + 1 ≤ j ∧ j < ni ∧ τ 9 j = nI r
          · rw [if_pos q, if_pos ⟨by omega, q.2⟩]
          · rw [if_neg q, if_neg (fun z => q ⟨by omega, z.2⟩)]
    · rw [if_neg e] at hstep
      obtain ⟨t', e1, e2, e3⟩ := ih (k + 1) t N B (by omega) (by omega) hB hs hf
      refine ⟨t', ?_, e2, fun j => ?_⟩
      · show fX6_layGap_s5 (fX6_layGap_l5 N) t _ _ _ = _
        unfold fX6_layGap_s5
        rw [hs, if_neg (nI_ge hk (by omega)), ck_t c12, nI_clamp (n := k) (by omega), hf 9 (by decide), if_neg e, nI_1, show B + 4 * cntE (τ 9) (nI r) k = B + 4 * cntE (τ 9) (nI r) (k + 1) by omega]
        exact e1
      · rw [e3 j]
        by_cases ej : j = k
        · subst ej; rw [if_neg (by omega), if_neg (fun z => e z.2.2)]
        · by_cases q : k + 1 ≤ j ∧ j < ni ∧ τ 9 j = nI r
          · rw [if_pos q, if_pos ⟨by omega, q.2⟩]
          · rw [if_neg q, if_neg (fun z => q ⟨by omega, z.2⟩)]
