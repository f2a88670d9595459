/-! Mending: a constant more, an island more. -/
def lastS (P : Nat → Bool) (g : Int32) (i : Nat) : Nat → Int32
  | 0 => g
  | d + 1 => lastS P (if P i = true then nI i else g) (i + 1) d
theorem lastS_congr {P Q : Nat → Bool} : ∀ {d i : Nat} {g : Int32}, (∀ j, i ≤ j → j < i + d → P j = Q j) → lastS P g i d = lastS Q g i d
  | 0, _, _, _ => rfl
  | d + 1, i, g, h => by
    unfold lastS
    rw [h i (Nat.le_refl _) (by omega), lastS_congr (fun j h1 h2 => h j (by omega) (by omega))]
theorem lastS_val {P : Nat → Bool} : ∀ {d i : Nat} {g : Int32}, lastS P g i d = g ∨ ∃ j, i ≤ j ∧ j < i + d ∧ lastS P g i d = nI j ∧ P j = true
  | 0, _, _ => Or.inl rfl
  | d + 1, i, g => by
    unfold lastS
    by_cases h : P i = true
    · rw [if_pos h]
      rcases lastS_val (P := P) (d := d) (i := i + 1) (g := nI i) with e | ⟨j, h1, h2, h3, h4⟩
      · exact Or.inr ⟨i, Nat.le_refl _, by omega, e, h⟩
      · exact Or.inr ⟨j, by omega, by omega, h3, h4⟩
    · rw [if_neg h]
      rcases lastS_val (P := P) (d := d) (i := i + 1) (g := g) with e | ⟨j, h1, h2, h3, h4⟩
      · exact Or.inl e
      · exact Or.inr ⟨j, by omega, by omega, h3, h4⟩
theorem endC_eq {σ : St} {r S c : Nat} (hr : r < 24) (h1 : σ 23 r = nI S) (h2 : σ 22 r = nI c) : fX4_endOf_c σ (nI r) = some (nI (S + 4 * c)) := by
  have c24 : ¬ (nI r < 0 ∨ 24 ≤ Int32.toNatClampNeg (nI r)) := ckN (by omega) (by omega)
  unfold fX4_endOf_c
  rw [itm_in hr, bd1_s, if_neg d_1_0, ck_t c24, ck_t c24, nI_clamp (by omega), h1, h2, show (4 : Int32) = nI 4 from rfl, pk_mul, nI_add]
theorem endI_eq {σ : St} {r : Nat} (hr : r < 24) : fX4_endOf_i σ (nI r) = some (σ 17 r + 4 * σ 16 r) := by
  have c24 : ¬ (nI r < 0 ∨ 24 ≤ Int32.toNatClampNeg (nI r)) := ckN (by omega) (by omega)
  unfold fX4_endOf_i
  rw [itm_in hr, bd1_s, if_neg d_1_0, ck_t c24, ck_t c24, nI_clamp (by omega)]
theorem nextC_eq {σ : St} {r S c : Nat} (hr : r < 24) (h1 : σ 23 r = nI S) (h2 : σ 22 r = nI c) (hb : S + 4 * c < 4090) : fX2_nextConstantIn σ (nI r) = some (nI (upN 4 (S + 4 * c))) := by
  have hu := upN_ge (d := 4) (A := S + 4 * c) (by omega)
  unfold fX2_nextConstantIn fX5_fillTo
  rw [endC_eq hr h1 h2, bd1_s, bd1_s, show (4 : Int32) = nI 4 from rfl, t_fill4 _ (by omega), nI_add, show S + 4 * c + (upN 4 (S + 4 * c) - (S + 4 * c)) = upN 4 (S + 4 * c) by omega]
def okC (σ : St) (X : Nat → Int32) (frm : Int32) (r : Nat) : Bool := decide (σ 8 r = 5 ∧ ¬ X r ≤ frm ∧ ¬ σ 10 2 < X r - frm)
theorem brC_loop {σ : St} {m ld : Nat} {frm : Int32} {X : Nat → Int32} (hp : wfP σ m) (hX : ∀ r, r < m → σ 8 r = 5 → fX2_nextConstantIn σ (nI r) = some (X r)) : ∀ (d i N : Nat) (g : Int32), i + d = m → d < N → fX2_bringsConstant_l13 N σ (nI ld) frm g (nI i) = (if lastS (okC σ X frm) g i d = -1 then some (0, σ) else bd1 (fX0_toldOf_p σ (nI ld)) fun r9 => bd2 (fX4_add_c σ r9 (lastS (okC σ X frm) g i d)) fun r12 s13 => (if r12 = 0 then (some ((0 : Int32), s13)) else (some ((1 : Int32), s13)))) := by
  obtain ⟨hm, h48, _⟩ := hp
  have hsz : fX0_size_p σ = some (nI m) := by unfold fX0_size_p; rw [h48]
  intro d
  induction d with
  | zero =>
    intro i N g h hN
    obtain ⟨N, rfl⟩ : ∃ k, N = k + 1 := ⟨N - 1, by omega⟩
    have hi : i = m := by omega
    subst hi
    show fX2_bringsConstant_s13 (fX2_bringsConstant_l13 N) σ _ _ _ _ = _
    unfold fX2_bringsConstant_s13
    rw [hsz, bd1_s, if_pos (Int32.le_refl _)]
    rfl
  | succ d ih =>
    intro i N g h hN
    obtain ⟨N, rfl⟩ : ∃ k, N = k + 1 := ⟨N - 1, by omega⟩
    have him : i < m := by omega
    have hl : lastS (okC σ X frm) g i (d + 1) = lastS (okC σ X frm) (if okC σ X frm i = true then nI i else g) (i + 1) d := rfl
    rw [hl]
    show fX2_bringsConstant_s13 (fX2_bringsConstant_l13 N) σ _ _ _ _ = _
    unfold fX2_bringsConstant_s13
    rw [hsz, bd1_s, if_neg (nI_ge him (by omega)), kind_in_p h48 hm him, bd1_s, nI_1]
    by_cases h1 : σ 8 i = 5
    · rw [if_pos h1, hX i him h1, bd1_s, loadR, bd1_s]
      by_cases h2 : ¬ X i ≤ frm ∧ ¬ σ 10 2 < X i - frm
      · rw [if_pos h2, if_neg d_1_0, if_pos (show okC σ X frm i = true from decide_eq_true ⟨h1, h2⟩)]
        exact ih (i + 1) N _ (by omega) (by omega)
      · rw [if_neg h2, if_pos rfl, if_neg (show ¬ okC σ X frm i = true from fun z => h2 (of_decide_eq_true z).2)]
        exact ih (i + 1) N _ (by omega) (by omega)
    · rw [if_neg h1, if_neg (show ¬ okC σ X frm i = true from fun z => h1 (of_decide_eq_true z).1)]
      exact ih (i + 1) N _ (by omega) (by omega)
def okM (τ : St) (frm : Int32) (r : Nat) : Bool := decide (τ 2 r = 5 ∧ ¬ τ 4 2 < τ 16 r - frm)
theorem puM_loop {τ : St} {m ld nc : Nat} (hp : wfM τ m) (hld : ld < 24) (h49 : τ 49 0 = nI nc) (hnc : nc ≤ 16) : ∀ (d i N : Nat) (g : Int32), i + d = m → d < N → fX6_putConstant_l6 N τ (nI ld) g (nI i) = (if lastS (okM τ (τ 12 ld)) g i d = -1 ∨ nc = 16 then some (0, si (si (si τ 53 0) 54 1) 55 (nI ld)) else some (1, si (sa (sa τ 10 nc (τ 3 ld)) 11 nc (lastS (okM τ (τ 12 ld)) g i d)) 49 (nI (nc + 1)))) := by
  obtain ⟨hm, h41, _⟩ := hp
  have cl : ¬ (nI ld < 0 ∨ 24 ≤ Int32.toNatClampNeg (nI ld)) := ckN hld (by omega)
  have hfail : fX6_putConstant_b72 τ (nI ld) = some (0, si (si (si τ 53 0) 54 1) 55 (nI ld)) := by
    unfold fX6_putConstant_b72 fX6_fails
    rw [bd2_s, ck_t (Or.inl rfl)]
  intro d
  induction d with
  | zero =>
    intro i N g h hN
    obtain ⟨N, rfl⟩ : ∃ k, N = k + 1 := ⟨N - 1, by omega⟩
    have hi : i = m := by omega
    subst hi
    show fX6_putConstant_s6 (fX6_putConstant_l6 N) τ _ _ _ = (if g = -1 ∨ nc = 16 then _ else some (1, si (sa (sa τ 10 nc (τ 3 ld)) 11 nc g) 49 (nI (nc + 1))))
    unfold fX6_putConstant_s6
    rw [h41, if_pos (Int32.le_refl _), h49]
    by_cases q : g = -1
    · rw [if_pos q, if_pos (Or.inl q)]; exact hfail
    · rw [if_neg q]
      by_cases q2 : nc = 16
      · rw [if_pos (show nI nc = (16 : Int32) from by rw [q2]; rfl), if_pos (Or.inr q2)]; exact hfail
      · rw [if_neg (show ¬ nI nc = (16 : Int32) from fun e => q2 ((nI_eq (a := nc) (b := 16) (by omega) (by omega)).mp e)), if_neg (fun z => z.elim q q2), ck_t cl, ck_t (ckN (by omega) (by omega)), ck_t (ckN (by omega) (by omega)), nI_clamp (n := nc) (by omega), nI_clamp (n := ld) (by omega), nI_1]
  | succ d ih =>
    intro i N g h hN
    obtain ⟨N, rfl⟩ : ∃ k, N = k + 1 := ⟨N - 1, by omega⟩
    have him : i < m := by omega
    have ci : ¬ (nI i < 0 ∨ 24 ≤ Int32.toNatClampNeg (nI i)) := ckN (by omega) (by omega)
    have ci' : ¬ (nI i < 0 ∨ 24 ≤ i) := fun z => z.elim (nI_pos (by omega)) (by omega)
    have hl : lastS (okM τ (τ 12 ld)) g i (d + 1) = lastS (okM τ (τ 12 ld)) (if okM τ (τ 12 ld) i = true then nI i else g) (i + 1) d := rfl
    rw [hl]
    show fX6_putConstant_s6 (fX6_putConstant_l6 N) τ _ _ _ = _
    unfold fX6_putConstant_s6
    rw [h41, if_neg (nI_ge him (by omega)), ck_t ci, nI_clamp (n := i) (by omega), nI_1]
    by_cases h1 : τ 2 i = 5
    · rw [if_pos h1, ck_t ci', ck_t cl, nI_clamp (n := ld) (by omega), show Int32.toNatClampNeg (2 : Int32) = 2 from by decide]
      by_cases h2 : τ 4 2 < τ 16 i - τ 12 ld
      · rw [if_pos h2, if_neg (show ¬ okM τ (τ 12 ld) i = true from fun z => (of_decide_eq_true z).2 h2)]
        exact ih (i + 1) N _ (by omega) (by omega)
      · rw [if_neg h2, if_pos (show okM τ (τ 12 ld) i = true from decide_eq_true ⟨h1, h2⟩)]
        exact ih (i + 1) N _ (by omega) (by omega)
    · rw [if_neg h1, if_neg (show ¬ okM τ (τ 12 ld) i = true from fun z => h1 (of_decide_eq_true z).1)]
      exact ih (i + 1) N _ (by omega) (by omega)
def addK_i (σ : St) (n : Nat) (v : Int32) (r : Nat) : St := si (sa (sa (sa (sa σ 13 n v) 14 n (nI r)) 15 n (σ 16 r)) 16 r (σ 16 r + 1)) 56 (nI (n + 1))
theorem sadd_in_i {σ : St} {n r : Nat} {v : Int32} (hs : Sk_i σ n) (hn : n < 12) (hr : r < 24) : fX4_add_i σ v (nI r) = some (1, addK_i σ n v r) := by
  have c24 : ¬ (nI r < 0 ∨ 24 ≤ Int32.toNatClampNeg (nI r)) := ckN (by omega) (by omega)
  have cn : ¬ (nI n < 0 ∨ 12 ≤ Int32.toNatClampNeg (nI n)) := ckN (by omega) (by omega)
  unfold fX4_add_i addK_i
  rw [hs.2.1, if_neg (nI_pos (by omega)), if_neg (capN_i hn), itm_in hr, bd1_s, if_neg d_1_0, ck_t cn, ck_t cn, ck_t c24, ck_t cn, ck_t c24, ck_t c24, nI_clamp (n := n) (by omega), nI_clamp (n := r) (by omega), nI_1]
theorem sadd_full_i {σ : St} {v x : Int32} (hs : Sk_i σ 12) : fX4_add_i σ v x = some (0, σ) := by
  unfold fX4_add_i
  rw [hs.2.1, if_neg (nI_pos (by omega)), if_pos (show (12 : Int32) ≤ nI 12 from by decide)]
def addK_c (σ : St) (n : Nat) (v : Int32) (r : Nat) : St := si (sa (sa (sa (sa σ 19 n v) 20 n (nI r)) 21 n (σ 22 r)) 22 r (σ 22 r + 1)) 57 (nI (n + 1))
theorem sadd_in_c {σ : St} {n r : Nat} {v : Int32} (hs : Sk_c σ n) (hn : n < 16) (hr : r < 24) : fX4_add_c σ v (nI r) = some (1, addK_c σ n v r) := by
  have c24 : ¬ (nI r < 0 ∨ 24 ≤ Int32.toNatClampNeg (nI r)) := ckN (by omega) (by omega)
  have cn : ¬ (nI n < 0 ∨ 16 ≤ Int32.toNatClampNeg (nI n)) := ckN (by omega) (by omega)
  unfold fX4_add_c addK_c
  rw [hs.2.1, if_neg (nI_pos (by omega)), if_neg (capN_c hn), itm_in hr, bd1_s, if_neg d_1_0, ck_t cn, ck_t cn, ck_t c24, ck_t cn, ck_t c24, ck_t c24, nI_clamp (n := n) (by omega), nI_clamp (n := r) (by omega), nI_1]
theorem sadd_full_c {σ : St} {v x : Int32} (hs : Sk_c σ 16) : fX4_add_c σ v x = some (0, σ) := by
  unfold fX4_add_c
  rw [hs.2.1, if_neg (nI_pos (by omega)), if_pos (show (16 : Int32) ≤ nI 16 from by decide)]
