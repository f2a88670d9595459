/-! Mending: a constant more, an island more. -/
def lastS (P : Nat → Bool) (g : Int32) (i : Nat) : Nat → Int32
  | 0 => g
  | d + 1 => lastS P (if P i = true then nI i else g) (i + 1) d
theorem lastS_congr {P Q : Nat → Bool} : ∀ {d i : Nat} {g : Int32}, (∀ j, i ≤ j → j < i + d → P j = Q j) → lastS P g i d = lastS Q g i d
  | 0, _, _, _ => rfl
  | d + 1, i, g, h => by
    unfold lastS
    rw [h i (Nat.le_refl _) (by omega), lastS_congr (fun j h1 h2 => h j (by omega) (by omega))]
theorem lastS_val {P : Nat → Bool} : ∀ {d i : Nat} {g : Int32}, lastS P g i d = g ∨ ∃ j, i ≤ j ∧ j < i + d ∧ lastS P g i d = nI j ∧ P j = true
  | 0, _, _ => Or.inl rfl
  | d + 1, i, g => by
    unfold lastS
    by_cases h : P i = true
    · rw [if_pos h]
      rcases lastS_val (P := P) (d := d) (i := i + 1) (g := nI i) with e | ⟨j, h1, h2, h3, h4⟩
      · exact Or.inr ⟨i, Nat.le_refl _, by omega, e, h⟩
      · exact Or.inr ⟨j, by omega, by omega, h3, h4⟩
    · rw [if_neg h]
      rcases lastS_val (P := P) (d := d) (i := i + 1) (g := g) with e | ⟨j, h1, h2, h3, h4⟩
      · exact Or.inl e
      · exact Or.inr ⟨j, by omega, by omega, h3, h4⟩
theorem endC_eq {σ : St} {r S c : Nat} (hr : r < 24) (h1 : σ 23 r = nI S) (h2 : σ 22 r = nI c) : fX4_endOf_c σ (nI r) = some (nI (S + 4 * c)) := by
  have c24 : ¬ (nI r < 0 ∨ 24 ≤ Int32.toNatClampNeg (nI r)) := ckN (by omega) (by omega)
  unfold fX4_endOf_c
  rw [itm_in hr, bd1_s, if_neg d_1_0, ck_t c24, ck_t c24, nI_clamp (by omega), h1, h2, show (4 : Int32) = nI 4 from rfl, pk_mul, nI_add]
theorem endI_eq {σ : St} {r : Nat} (hr : r < 24) : fX4_endOf_i σ (nI r) = some (σ 17 r + 4 * σ 16 r) := by
  have c24 : ¬ (nI r < 0 ∨ 24 ≤ Int32.toNatClampNeg (nI r)) := ckN (by omega) (by omega)
  unfold fX4_endOf_i
  rw [itm_in hr, bd1_s, if_neg d_1_0, ck_t c24, ck_t c24, nI_clamp (by omega)]
theorem nextC_eq {σ : St} {r S c : Nat} (hr : r < 24) (h1 : σ 23 r = nI S) (h2 : σ 22 r = nI c) (hb : S + 4 * c < 4090) : fX2_nextConstantIn σ (nI r) = some (nI (upN 4 (S + 4 * c))) := by
  have hu := upN_ge (d := 4) (A := S + 4 * c) (by omega)
  unfold fX2_nextConstantIn fX5_fillTo
  rw [endC_eq hr h1 h2, bd1_s, bd1_s, show (4 : Int32) = nI 4 from rfl, t_fill4 _ (by omega), nI_add, show S + 4 * c + (upN 4 (S + 4 * c) - (S + 4 * c)) = upN 4 (S + 4 * c) by omega]
def okC (σ : St) (X : Nat → Int32) (frm : Int32) (r : Nat) : Bool := decide (σ 8 r = 5 ∧ ¬ X r ≤ frm ∧ ¬ σ 10 2 < X r - frm)
theorem brC_loop {σ : St} {m ld : Nat} {frm : Int32} {X : Nat → Int32} (hp : wfP σ m) (hX : ∀ r, r < m → σ 8 r = 5 → fX2_nextConstantIn σ (nI r) = some (X r)) : ∀ (d i N : Nat) (g : Int32), i + d = m → d < N → fX2_bringsConstant_l13 N σ (nI ld) frm g (nI i) = (if lastS (okC σ X frm) g i d = -1 then some (0, σ) else bd1 (fX0_toldOf_p σ (nI ld)) fun r9 => bd2 (fX4_add_c σ r9 (lastS (okC σ X frm) g i d)) fun r12 s13 => (if r12 = 0 then (some ((0 : Int32), s13)) else (some ((1 : Int32), s13)))) := by
  obtain ⟨hm, h48, _⟩ := hp
  have hsz : fX0_size_p σ = some (nI m) := by unfold fX0_size_p; rw [h48]
  intro d
  induction d with
  | zero =>
    intro i N g h hN
    obtain ⟨N, rfl⟩ : ∃ k, N = k + 1 := ⟨N - 1, by omega⟩
    have hi : i = m := by omega
    subst hi
    show fX2_bringsConstant_s13 (fX2_bringsConstant_l13 N) σ _ _ _ _ = _
    unfold fX2_bringsConstant_s13
    rw [hsz, bd1_s, if_pos (Int32.le_refl _)]
    rfl
  | succ d ih =>
    intro i N g h hN
    obtain ⟨N, rfl⟩ : ∃ k, N = k + 1 := ⟨N - 1, by omega⟩
    have him : i < m := by omega
    have hl : lastS (okC σ X frm) g i (d + 1) = lastS (okC σ X frm) (if okC σ X frm i = true then nI i else g) (i + 1) d := rfl
    rw [hl]
    show fX2_bringsConstant_s13 (fX2_bringsConstant_l13 N) σ _ _ _ _ = _
    unfold fX2_bringsConstant_s13
    rw [hsz, bd1_s, if_neg (nI_ge him (by omega)), kind_in_p h48 hm him, bd1_s, nI_1]
    by_cases h1 : σ 8 i = 5
    · rw [if_pos h1, hX i him h1, bd1_s, loadR, bd1_s]
      by_cases h2 : ¬ X i ≤ frm ∧ ¬ σ 10 2 < X i - frm
      · rw [if_pos h2, if_neg d_1_0, if_pos (show okC σ X frm i = true from decide_eq_true ⟨h1, h2⟩)]
        exact ih (i + 1) N _ (by omega) (by omega)
      · rw [if_neg h2, if_pos rfl, if_neg (show ¬ okC σ X frm i = true from fun z => h2 (of_decide_eq_true z).2)]
        exact ih (i + 1) N _ (by omega) (by omega)
    · rw [if_neg h1, if_neg (show ¬ okC σ X frm i = true from fun z => h1 (of_decide_eq_true z).1)]
      exact ih (i + 1) N _ (by omega) (by omega)
def okM (τ : St) (frm : Int32) (r : Nat) : Bool := decide (τ 2 r = 5 ∧ ¬ τ 4 2 < τ 16 r - frm)
theorem puM_loop {τ : St} {m ld nc : Nat} (hp : wfM τ m) (hld : ld < 24) (h49 : τ 49 0 = nI nc) (hnc : nc ≤ 16) : ∀ (d i N : Nat) (g : Int32), i + d = m → d < N → fX6_putConstant_l6 N τ (nI ld) g (nI i) = (if lastS (okM τ (τ 12 ld)) g i d = -1 ∨ nc = 16 then some (0, si (si (si τ 53 0) 54 1) 55 (nI ld)) else some (1, si (sa (sa τ 10 nc (τ 3 ld)) 11 nc (lastS (okM τ (τ 12 ld)) g i d)) 49 (nI (nc + 1)))) := by
  obtain ⟨hm, h41, _⟩ := hp
  have cl : ¬ (nI ld < 0 ∨ 24 ≤ Int32.toNatClampNeg (nI ld)) := ckN hld (by omega)
  have hfail : fX6_putConstant_b72 τ (nI ld) = some (0, si (si (si τ 53 0) 54 1) 55 (nI ld)) := by
    unfold fX6_putConstant_b72 fX6_fails
    rw [bd2_s, ck_t (Or.inl rfl)]
  intro d
  induction d with
  | zero =>
    intro i N g h hN
    obtain ⟨N, rfl⟩ : ∃ k, N = k + 1 := ⟨N - 1, by omega⟩
    have hi : i = m := by omega
    subst hi
    show fX6_putConstant_s6 (fX6_putConstant_l6 N) τ _ _ _ = (if g = -1 ∨ nc = 16 then _ else some (1, si (sa (sa τ 10 nc (τ 3 ld)) 11 nc g) 49 (nI (nc + 1))))
    unfold fX6_putConstant_s6
    rw [h41, if_pos (Int32.le_refl _), h49]
    by_cases q : g = -1
    · rw [if_pos q, if_pos (Or.inl q)]; exact hfail
    · rw [if_neg q]
      by_cases q2 : nc = 16
      · rw [if_pos (show nI nc = (16 : Int32) from by rw [q2]; rfl), if_pos (Or.inr q2)]; exact hfail
      · rw [if_neg (show ¬ nI nc = (16 : Int32) from fun e => q2 ((nI_eq (a := nc) (b := 16) (by omega) (by omega)).mp e)), if_neg (fun z => z.elim q q2), ck_t cl, ck_t (ckN (by omega) (by omega)), ck_t (ckN (by omega) (by omega)), nI_clamp (n := nc) (by omega), nI_clamp (n := ld) (by omega), nI_1]
  | succ d ih =>
    intro i N g h hN
    obtain ⟨N, rfl⟩ : ∃ k, N = k + 1 := ⟨N - 1, by omega⟩
    have him : i < m := by omega
    have ci : ¬ (nI i < 0 ∨ 24 ≤ Int32.toNatClampNeg (nI i)) := ckN (by omega) (by omega)
    have ci' : ¬ (nI i < 0 ∨ 24 ≤ i) := fun z => z.elim (nI_pos (by omega)) (by omega)
    have hl : lastS (okM τ (τ 12 ld)) g i (d + 1) = lastS (okM τ (τ 12 ld)) (if okM τ (τ 12 ld) i = true then nI i else g) (i + 1) d := rfl
    rw [hl]
    show fX6_putConstant_s6 (fX6_putConstant_l6 N) τ _ _ _ = _
    unfold fX6_putConstant_s6
    rw [h41, if_neg (nI_ge him (by omega)), ck_t ci, nI_clamp (n := i) (by omega), nI_1]
    by_cases h1 : τ 2 i = 5
    · rw [if_pos h1, ck_t ci', ck_t cl, nI_clamp (n := ld) (by omega), show Int32.toNatClampNeg (2 : Int32) = 2 from by decide]
      by_cases h2 : τ 4 2 < τ 16 i - τ 12 ld
      · rw [if_pos h2, if_neg (show ¬ okM τ (τ 12 ld) i = true from fun z => (of_decide_eq_true z).2 h2)]
        exact ih (i + 1) N _ (by omega) (by omega)
      · rw [if_neg h2, if_pos (show okM τ (τ 12 ld) i = true from decide_eq_true ⟨h1, h2⟩)]
        exact ih (i + 1) N _ (by omega) (by omega)
    · rw [if_neg h1, if_neg (show ¬ okM τ (τ 12 ld) i = true from fun z => h1 (of_decide_eq_true z).1)]
      exact ih (i + 1) N _ (by omega) (by omega)
def addK_i (σ : St) (n : Nat) (v : Int32) (r : Nat) : St := si (sa (sa (sa (sa σ 13 n v) 14 n (nI r)) 15 n (σ 16 r)) 16 r (σ 16 r + 1)) 56 (nI (n + 1))
theorem sadd_in_i {σ : St} {n r : Nat} {v : Int32} (hs : Sk_i σ n) (hn : n < 12) (hr : r < 24) : fX4_add_i σ v (nI r) = some (1, addK_i σ n v r) := by
  have c24 : ¬ (nI r < 0 ∨ 24 ≤ Int32.toNatClampNeg (nI r)) := ckN (by omega) (by omega)
  have cn : ¬ (nI n < 0 ∨ 12 ≤ Int32.toNatClampNeg (nI n)) := ckN (by omega) (by omega)
  unfold fX4_add_i addK_i
  rw [hs.2.1, if_neg (nI_pos (by omega)), if_neg (capN_i hn), itm_in hr, bd1_s, if_neg d_1_0, ck_t cn, ck_t cn, ck_t c24, ck_t cn, ck_t c24, ck_t c24, nI_clamp (n := n) (by omega), nI_clamp (n := r) (by omega), nI_1]
theorem sadd_full_i {σ : St} {v x : Int32} (hs : Sk_i σ 12) : fX4_add_i σ v x = some (0, σ) := by
  unfold fX4_add_i
  rw [hs.2.1, if_neg (nI_pos (by omega)), if_pos (show (12 : Int32) ≤ nI 12 from by decide)]
def addK_c (σ : St) (n : Nat) (v : Int32) (r : Nat) : St := si (sa (sa (sa (sa σ 19 n v) 20 n (nI r)) 21 n (σ 22 r)) 22 r (σ 22 r + 1)) 57 (nI (n + 1))
theorem sadd_in_c {σ : St} {n r : Nat} {v : Int32} (hs : Sk_c σ n) (hn : n < 16) (hr : r < 24) : fX4_add_c σ v (nI r) = some (1, addK_c σ n v r) := by
  have c24 : ¬ (nI r < 0 ∨ 24 ≤ Int32.toNatClampNeg (nI r)) := ckN (by omega) (by omega)
  have cn : ¬ (nI n < 0 ∨ 16 ≤ Int32.toNatClampNeg (nI n)) := ckN (by omega) (by omega)
  unfold fX4_add_c addK_c
  rw [hs.2.1, if_neg (nI_pos (by omega)), if_neg (capN_c hn), itm_in hr, bd1_s, if_neg d_1_0, ck_t cn, ck_t cn, ck_t c24, ck_t cn, ck_t c24, ck_t c24, nI_clamp (n := n) (by omega), nI_clamp (n := r) (by omega), nI_1]
theorem sadd_full_c {σ : St} {v x : Int32} (hs : Sk_c σ 16) : fX4_add_c σ v x = some (0, σ) := by
  unfold fX4_add_c
  rw [hs.2.1, if_neg (nI_pos (by omega)), if_pos (show (16 : Int32) ≤ nI 16 from by decide)]
/-! The gap for an island, both sides. -/
def gapS (kd E : Nat → Int32) (to r1 frm g l : Int32) (i : Nat) : Nat → Int32
  | 0 => g
  | d + 1 => if kd i = 5 ∧ ¬ r1 < farI (E i) frm ∧ ¬ l ≤ farI (E i) to then gapS kd E to r1 frm (nI i) (farI (E i) to) (i + 1) d else gapS kd E to r1 frm g l (i + 1) d
theorem gapS_congr {kd E kd' E' : Nat → Int32} {to r1 frm : Int32} : ∀ {d i : Nat} {g l : Int32}, (∀ j, i ≤ j → j < i + d → kd j = kd' j ∧ (kd j = 5 → E j = E' j)) → gapS kd E to r1 frm g l i d = gapS kd' E' to r1 frm g l i d
  | 0, _, _, _, _ => rfl
  | d + 1, i, g, l, h => by
    unfold gapS
    obtain ⟨h1, h2⟩ := h i (Nat.le_refl _) (by omega)
    rw [← h1]
    by_cases q : kd i = 5
    · rw [h2 q, gapS_congr (fun j a b => h j (by omega) (by omega)), gapS_congr (g := g) (fun j a b => h j (by omega) (by omega))]
    · rw [if_neg (fun z => q z.1), if_neg (fun z => q z.1), gapS_congr (fun j a b => h j (by omega) (by omega))]
theorem gapS_val {kd E : Nat → Int32} {to r1 frm : Int32} : ∀ {d i : Nat} {g l : Int32}, gapS kd E to r1 frm g l i d = g ∨ ∃ j, i ≤ j ∧ j < i + d ∧ gapS kd E to r1 frm g l i d = nI j ∧ kd j = 5
  | 0, _, _, _ => Or.inl rfl
  | d + 1, i, g, l => by
    unfold gapS
    by_cases h : kd i = 5 ∧ ¬ r1 < farI (E i) frm ∧ ¬ l ≤ farI (E i) to
    · rw [if_pos h]
      rcases gapS_val (kd := kd) (E := E) (to := to) (r1 := r1) (frm := frm) (d := d) (i := i + 1) (g := nI i) (l := farI (E i) to) with e | ⟨j, h1, h2, h3, h4⟩
      · exact Or.inr ⟨i, Nat.le_refl _, by omega, e, h.1⟩
      · exact Or.inr ⟨j, by omega, by omega, h3, h4⟩
    · rw [if_neg h]
      rcases gapS_val (kd := kd) (E := E) (to := to) (r1 := r1) (frm := frm) (d := d) (i := i + 1) (g := g) (l := l) with e | ⟨j, h1, h2, h3, h4⟩
      · exact Or.inl e
      · exact Or.inr ⟨j, by omega, by omega, h3, h4⟩
def endI (σ : St) (r : Nat) : Int32 := σ 17 r + 4 * σ 16 r
theorem brI_loop {σ : St} {m : Nat} {frm lb to : Int32} (hp : wfP σ m) : ∀ (d i N : Nat) (g l : Int32), i + d = m → d < N → fX2_bringsIsland_l19 N σ frm lb to g l (nI i) = (if gapS (σ 8) (endI σ) to (σ 10 1) frm g l i d = -1 then some (0, σ) else bd2 (fX4_add_i σ lb (gapS (σ 8) (endI σ) to (σ 10 1) frm g l i d)) fun r12 s13 => (if r12 = 0 then (some ((0 : Int32), s13)) else (some ((1 : Int32), s13)))) := by
  obtain ⟨hm, h48, _⟩ := hp
  have hsz : fX0_size_p σ = some (nI m) := by unfold fX0_size_p; rw [h48]
  intro d
  induction d with
  | zero =>
    intro i N g l h hN
    obtain ⟨N, rfl⟩ : ∃ k, N = k + 1 := ⟨N - 1, by omega⟩
    have hi : i = m := by omega
    subst hi
    show fX2_bringsIsland_s19 (fX2_bringsIsland_l19 N) σ _ _ _ _ _ _ = _
    unfold fX2_bringsIsland_s19
    rw [hsz, bd1_s, if_pos (Int32.le_refl _)]
    rfl
  | succ d ih =>
    intro i N g l h hN
    obtain ⟨N, rfl⟩ : ∃ k, N = k + 1 := ⟨N - 1, by omega⟩
    have him : i < m := by omega
    have hl : gapS (σ 8) (endI σ) to (σ 10 1) frm g l i (d + 1) = if σ 8 i = 5 ∧ ¬ σ 10 1 < farI (endI σ i) frm ∧ ¬ l ≤ farI (endI σ i) to then gapS (σ 8) (endI σ) to (σ 10 1) frm (nI i) (farI (endI σ i) to) (i + 1) d else gapS (σ 8) (endI σ) to (σ 10 1) frm g l (i + 1) d := rfl
    rw [hl]
    show fX2_bringsIsland_s19 (fX2_bringsIsland_l19 N) σ _ _ _ _ _ _ = _
    unfold fX2_bringsIsland_s19 fX2_bringsIsland_b74 fX2_bringsIsland_b75
    rw [hsz, bd1_s, if_neg (nI_ge him (by omega)), endI_eq (by omega), bd1_s, kind_in_p h48 hm him, bd1_s, nI_1]
    by_cases h1 : σ 8 i = 5
    · rw [if_pos h1, far_eq, bd1_s, show Int32.toNatClampNeg (1 : Int32) = 1 from by decide]
      by_cases h2 : σ 10 1 < farI (endI σ i) frm
      · rw [if_pos (show σ 10 1 < farI (σ 17 i + 4 * σ 16 i) frm from h2), if_pos rfl, if_neg (show ¬ (σ 8 i = 5 ∧ ¬ σ 10 1 < farI (endI σ i) frm ∧ ¬ l ≤ farI (endI σ i) to) from fun z => z.2.1 h2)]
        exact ih (i + 1) N _ _ (by omega) (by omega)
      · rw [if_neg (show ¬ σ 10 1 < farI (σ 17 i + 4 * σ 16 i) frm from h2), if_neg d_1_0, far_eq, bd1_s, bd1_s]
        by_cases h3 : l ≤ farI (endI σ i) to
        · rw [if_pos (show l ≤ farI (σ 17 i + 4 * σ 16 i) to from h3), if_neg (show ¬ (σ 8 i = 5 ∧ ¬ σ 10 1 < farI (endI σ i) frm ∧ ¬ l ≤ farI (endI σ i) to) from fun z => z.2.2 h3)]
          exact ih (i + 1) N _ _ (by omega) (by omega)
        · rw [if_neg (show ¬ l ≤ farI (σ 17 i + 4 * σ 16 i) to from h3), if_pos (show (σ 8 i = 5 ∧ ¬ σ 10 1 < farI (endI σ i) frm ∧ ¬ l ≤ farI (endI σ i) to) from ⟨h1, h2, h3⟩)]
          exact ih (i + 1) N _ _ (by omega) (by omega)
    · rw [if_neg h1, if_pos rfl, if_neg (show ¬ (σ 8 i = 5 ∧ ¬ σ 10 1 < farI (endI σ i) frm ∧ ¬ l ≤ farI (endI σ i) to) from fun z => h1 z.1)]
      exact ih (i + 1) N _ _ (by omega) (by omega)
theorem brI_eq {σ : St} {m l : Nat} {frm : Int32} (hp : wfP σ m) (hl : l < 8) : fX2_bringsIsland σ frm (nI l) = (if gapS (σ 8) (endI σ) (σ 27 l) (σ 10 1) frm (-1) (farI frm (σ 27 l)) 0 m = -1 then some (0, σ) else bd2 (fX4_add_i σ (nI l) (gapS (σ 8) (endI σ) (σ 27 l) (σ 10 1) frm (-1) (farI frm (σ 27 l)) 0 m)) fun r12 s13 => (if r12 = 0 then (some ((0 : Int32), s13)) else (some ((1 : Int32), s13)))) := by
  have hm := hp.1
  unfold fX2_bringsIsland
  rw [lab_in hl, bd1_s, far_eq, bd1_s]
  exact brI_loop hp m 0 FU (-1) _ (by omega) (by unfold FU; omega)
theorem gapFor_loop {τ : St} {m l : Nat} {frm : Int32} (hp : wfM τ m) (hl : l < 8) : ∀ (d i N : Nat) (g x : Int32), i + d = m → d < N → fX6_gapFor_l17 τ N frm (nI l) g x (nI i) = some (gapS (τ 2) (τ 15) (τ 17 l) (τ 4 1) frm g x i d) := by
  obtain ⟨hm, h41, _⟩ := hp
  have c8 : ¬ (nI l < 0 ∨ 8 ≤ Int32.toNatClampNeg (nI l)) := ckN hl (by omega)
  have c8' : ¬ (nI l < 0 ∨ 8 ≤ l) := fun z => z.elim (nI_pos (by omega)) (by omega)
  intro d
  induction d with
  | zero =>
    intro i N g x h hN
    obtain ⟨N, rfl⟩ : ∃ k, N = k + 1 := ⟨N - 1, by omega⟩
    have hi : i = m := by omega
    subst hi
    show fX6_gapFor_s17 τ (fX6_gapFor_l17 τ N) _ _ _ _ _ = _
    unfold fX6_gapFor_s17
    rw [h41, if_pos (Int32.le_refl _)]
    rfl
  | succ d ih =>
    intro i N g x h hN
    obtain ⟨N, rfl⟩ : ∃ k, N = k + 1 := ⟨N - 1, by omega⟩
    have him : i < m := by omega
    have ci : ¬ (nI i < 0 ∨ 24 ≤ Int32.toNatClampNeg (nI i)) := ckN (by omega) (by omega)
    have ci' : ¬ (nI i < 0 ∨ 24 ≤ i) := fun z => z.elim (nI_pos (by omega)) (by omega)
    have hst : gapS (τ 2) (τ 15) (τ 17 l) (τ 4 1) frm g x i (d + 1) = if τ 2 i = 5 ∧ ¬ τ 4 1 < farI (τ 15 i) frm ∧ ¬ x ≤ farI (τ 15 i) (τ 17 l) then gapS (τ 2) (τ 15) (τ 17 l) (τ 4 1) frm (nI i) (farI (τ 15 i) (τ 17 l)) (i + 1) d else gapS (τ 2) (τ 15) (τ 17 l) (τ 4 1) frm g x (i + 1) d := rfl
    rw [hst]
    show fX6_gapFor_s17 τ (fX6_gapFor_l17 τ N) _ _ _ _ _ = _
    unfold fX6_gapFor_s17
    rw [h41, if_neg (nI_ge him (by omega)), ck_t ci, nI_clamp (n := i) (by omega), nI_1]
    by_cases h1 : τ 2 i = 5
    · rw [if_pos h1, ck_t ci', apart_eq, bd1_s, show Int32.toNatClampNeg (1 : Int32) = 1 from by decide]
      by_cases h2 : τ 4 1 < farI (τ 15 i) frm
      · rw [if_pos h2, if_neg (fun z => z.2.1 h2)]
        exact ih (i + 1) N _ _ (by omega) (by omega)
      · rw [if_neg h2, ck_t ci', ck_t c8, nI_clamp (n := l) (by omega), apart_eq, bd1_s]
        by_cases h3 : x ≤ farI (τ 15 i) (τ 17 l)
        · rw [if_pos h3, if_neg (fun z => z.2.2 h3)]
          exact ih (i + 1) N _ _ (by omega) (by omega)
        · rw [if_neg h3, ck_t ci', ck_t c8', bd1_s, if_pos ⟨h1, h2, h3⟩]
          exact ih (i + 1) N _ _ (by omega) (by omega)
    · rw [if_neg h1, if_neg (fun z => h1 z.1)]
      exact ih (i + 1) N _ _ (by omega) (by omega)
theorem gapFor_eq {τ : St} {m l : Nat} {frm : Int32} (hp : wfM τ m) (hl : l < 8) : fX6_gapFor τ frm (nI l) = some (gapS (τ 2) (τ 15) (τ 17 l) (τ 4 1) frm (-1) (farI frm (τ 17 l)) 0 m) := by
  have hm := hp.1
  unfold fX6_gapFor
  rw [ck_t (ckN hl (by omega)), nI_clamp (by omega), apart_eq, bd1_s]
  exact gapFor_loop hp hl m 0 FU (-1) _ (by omega) (by unfold FU; omega)
theorem putI_eq {τ : St} {m l ni : Nat} {frm by_ who : Int32} (hp : wfM τ m) (hl : l < 8) (h48 : τ 48 0 = nI ni) (hni : ni ≤ 12) : fX6_putIsland τ frm (nI l) by_ who = (if gapS (τ 2) (τ 15) (τ 17 l) (τ 4 1) frm (-1) (farI frm (τ 17 l)) 0 m = -1 ∨ ni = 12 then some (0, si (si (si τ 53 0) 54 by_) 55 who) else some (1, si (sa (sa τ 8 ni (nI l)) 9 ni (gapS (τ 2) (τ 15) (τ 17 l) (τ 4 1) frm (-1) (farI frm (τ 17 l)) 0 m)) 48 (nI (ni + 1)))) := by
  unfold fX6_putIsland
  rw [gapFor_eq hp hl, bd1_s, h48]
  have hfail : fX6_putIsland_b23 τ by_ who = some (0, si (si (si τ 53 0) 54 by_) 55 who) := by
    unfold fX6_putIsland_b23 fX6_fails
    rw [bd2_s, ck_t (Or.inl rfl)]
  by_cases q : gapS (τ 2) (τ 15) (τ 17 l) (τ 4 1) frm (-1) (farI frm (τ 17 l)) 0 m = -1
  · rw [if_pos q, if_pos (Or.inl q)]; exact hfail
  · rw [if_neg q]
    by_cases q2 : ni = 12
    · rw [if_pos (show nI ni = (12 : Int32) from by rw [q2]; rfl), if_pos (Or.inr q2)]; exact hfail
    · rw [if_neg (show ¬ nI ni = (12 : Int32) from fun e => q2 ((nI_eq (a := ni) (b := 12) (by omega) (by omega)).mp e)), if_neg (fun z => z.elim q q2), ck_t (ckN (by omega) (by omega)), ck_t (ckN (by omega) (by omega)), nI_clamp (n := ni) (by omega), nI_1]
/-! Class and reference beside each other: before a round, and laid. -/
theorem AdS_congr {kd td lg kd' td' lg' : Nat → Int32} {cI cC cI' cC' : Nat → Nat} {m : Nat} (h : ∀ j, j < m → kd j = kd' j ∧ td j = td' j ∧ lg j = lg' j) (hI : cI = cI') (hC : cC = cC') : ∀ i, i ≤ m → AdS kd td lg cI cC i = AdS kd' td' lg' cI' cC' i ∧ filS kd td lg cI cC i = filS kd' td' lg' cI' cC' i := by
  subst hI
  subst hC
  intro i
  induction i with
  | zero => intro _; exact ⟨rfl, rfl⟩
  | succ i ih =>
    intro hi
    obtain ⟨e1, e2⟩ := ih (by omega)
    obtain ⟨a, b, c⟩ := h i (by omega)
    refine ⟨?_, ?_⟩
    · show nxtS kd td lg cI cC i (AdS kd td lg cI cC i) = nxtS kd' td' lg' cI cC i (AdS kd' td' lg' cI cC i)
      unfold nxtS
      rw [a, b, c, e1]
    · show filS kd td lg cI cC i + _ = filS kd' td' lg' cI cC i + _
      rw [e1, e2, a, b, c]
theorem labS_congr {kd td lg kd' td' lg' : Nat → Int32} {cI cC cI' cC' : Nat → Nat} {m : Nat} {lab lab' : Nat → Int32} (h : ∀ j, j < m → kd j = kd' j ∧ td j = td' j ∧ lg j = lg' j) (hI : cI = cI') (hC : cC = cC') (hl : ∀ l, l < 8 → lab l = lab' l) : ∀ i, i ≤ m → ∀ l, l < 8 → labS kd td lg cI cC lab i l = labS kd' td' lg' cI' cC' lab' i l := by
  intro i
  induction i with
  | zero => intro _ l hl8; exact hl l hl8
  | succ i ih =>
    intro hi l hl8
    obtain ⟨a, b, c⟩ := h i (by omega)
    have e := (AdS_congr h hI hC i (by omega)).1
    show (if kd i = 3 then upd (labS kd td lg cI cC lab i) (Int32.toNatClampNeg (td i)) (nI (AdS kd td lg cI cC i)) else labS kd td lg cI cC lab i) l = (if kd' i = 3 then upd (labS kd' td' lg' cI' cC' lab' i) (Int32.toNatClampNeg (td' i)) (nI (AdS kd' td' lg' cI' cC' i)) else labS kd' td' lg' cI' cC' lab' i) l
    rw [a, b, e]
    by_cases q : kd' i = 3
    · rw [if_pos q, if_pos q]
      unfold upd
      by_cases z : l = Int32.toNatClampNeg (td' i)
      · rw [if_pos z, if_pos z]
      · rw [if_neg z, if_neg z]; exact ih (by omega) l hl8
    · rw [if_neg q, if_neg q]; exact ih (by omega) l hl8
theorem labS_bd {kd td lg : Nat → Int32} {cI cC : Nat → Nat} {m : Nat} {lab : Nat → Int32} (hA : ∀ i, i ≤ m → AdS kd td lg cI cC i < 4096) (hl : Bd lab 8) : ∀ i, i ≤ m → Bd (labS kd td lg cI cC lab i) 8 := by
  intro i
  induction i with
  | zero => intro _; exact hl
  | succ i ih =>
    intro hi l hl8
    show ∃ A, A < 4096 ∧ (if kd i = 3 then upd (labS kd td lg cI cC lab i) (Int32.toNatClampNeg (td i)) (nI (AdS kd td lg cI cC i)) else labS kd td lg cI cC lab i) l = nI A
    by_cases q : kd i = 3
    · rw [if_pos q]
      unfold upd
      by_cases z : l = Int32.toNatClampNeg (td i)
      · rw [if_pos z]; exact ⟨_, hA i (by omega), rfl⟩
      · rw [if_neg z]; exact ih (by omega) l hl8
    · rw [if_neg q]; exact ih (by omega) l hl8
/-- before a round -/
def BB (σ τ : St) (m ni nc : Nat) : Prop :=
  wfP σ m ∧ wfM τ m ∧ (∀ i, i < m → σ 8 i = τ 2 i ∧ σ 9 i = τ 3 i ∧ σ 24 i = τ 7 i ∧ (τ 7 i = 0 ∨ τ 7 i = 1)) ∧ (∀ i, i < 3 → σ 10 i = τ 4 i) ∧ Sk_i σ ni ∧ Sk_c σ nc ∧ τ 48 0 = nI ni ∧ τ 49 0 = nI nc ∧
  (∀ k, k < ni → σ 13 k = τ 8 k ∧ σ 14 k = τ 9 k ∧ (∃ l, l < 8 ∧ σ 13 k = nI l) ∧ (∃ r, r < m ∧ σ 8 r = 5 ∧ σ 14 k = nI r) ∧ σ 15 k = nI (cntE (σ 14) (σ 14 k) k)) ∧
  (∀ k, k < nc → σ 19 k = τ 10 k ∧ σ 20 k = τ 11 k ∧ (∃ r, r < m ∧ σ 8 r = 5 ∧ σ 20 k = nI r) ∧ σ 21 k = nI (cntE (σ 20) (σ 20 k) k)) ∧
  (∀ r, r < 24 → σ 16 r = nI (cntE (σ 14) (nI r) ni) ∧ σ 22 r = nI (cntE (σ 20) (nI r) nc)) ∧
  (∀ l, l < 8 → σ 27 l = τ 17 l) ∧ Bd (σ 27) 8
/-- laid -/
def LL (σ τ : St) (m ni nc : Nat) : Prop :=
  BB σ τ m ni nc ∧ (∀ j, j < m → σ 25 j = τ 12 j) ∧ Bd (σ 25) m ∧ (∀ k, k < ni → ad_i σ k = τ 13 k) ∧ Bd (ad_i σ) ni ∧ (∀ k, k < nc → ad_c σ k = τ 14 k) ∧ Bd (ad_c σ) nc ∧
  (∀ r, r < m → σ 8 r = 5 → endI σ r = τ 15 r ∧ ∃ S c, σ 23 r = nI S ∧ σ 22 r = nI c ∧ S + 4 * c < 4090 ∧ τ 16 r = nI (upN 4 (S + 4 * c))) ∧
  σ 53 0 = τ 51 0 ∧ σ 52 0 = τ 50 0 ∧ (∀ j, j < m → ∃ A, A < 4096 ∧ σ 25 j = nI A ∧ σ 26 j = nI (szI (σ 8 j) (σ 9 j) (σ 24 j) A))
theorem st_at {E c : Nat} : stN E c + 4 * c = atN E c := by
  unfold stN atN
  by_cases q : c = 0
  · rw [if_pos q, if_pos q]; omega
  · rw [if_neg q, if_neg q]
theorem lay_both {σ τ : St} {m ni nc : Nat} (h : BB σ τ m ni nc) : ∃ s t, fX2_lay σ = some s ∧ fX6_layAll τ = some t ∧ LL s t m ni nc ∧
    (∀ j, j ≠ 25 → j ≠ 26 → j ≠ 27 → j ≠ 17 → j ≠ 23 → j ≠ 53 → j ≠ 52 → s j = σ j) ∧ (∀ j, j ≠ 12 → j ≠ 17 → j ≠ 13 → j ≠ 14 → j ≠ 15 → j ≠ 16 → j ≠ 51 → j ≠ 50 → t j = τ j) := by
  obtain ⟨hp, hq, hit, hre, hsi, hsc, h48, h49, hki, hkc, hg, hlb, hlB⟩ := h
  have hni := hsi.1
  have hnc := hsc.1
  have hm := hp.1
  have eI : (fun r : Nat => cntE (σ 14) (nI r) ni) = fun r => cntE (τ 9) (nI r) ni := by
    funext r; exact cntE_congr (fun k hk => (hki k hk).2.1)
  have eC : (fun r : Nat => cntE (σ 20) (nI r) nc) = fun r => cntE (τ 11) (nI r) nc := by
    funext r; exact cntE_congr (fun k hk => (hkc k hk).2.1)
  have bI : ∀ r, (fun r : Nat => cntE (σ 14) (nI r) ni) r ≤ 12 := fun r => Nat.le_trans cntE_le hni
  have bC : ∀ r, (fun r : Nat => cntE (σ 20) (nI r) nc) r ≤ 16 := fun r => Nat.le_trans cntE_le hnc
  obtain ⟨u, a1, a2, a3, a4, a5, a6⟩ := layC_eq (σ := σ) (m := m) hp bI bC (fun r hr => (hg r hr).1) (fun r hr => (hg r hr).2)
  obtain ⟨v, b1, b2, b3, b4, b5, b6, b7, b8⟩ := layM_eq (τ := τ) (m := m) (ni := ni) (nc := nc) hq hni hnc h48 h49 eI eC
  have hkl : ∀ j, j < m → σ 8 j = τ 2 j ∧ σ 9 j = τ 3 j ∧ σ 24 j = τ 7 j := fun j hj => ⟨(hit j hj).1, (hit j hj).2.1, (hit j hj).2.2.1⟩
  have hAe := fun i (hi : i ≤ m) => AdS_congr (cI := fun r : Nat => cntE (σ 14) (nI r) ni) (cC := fun r : Nat => cntE (σ 20) (nI r) nc) hkl rfl rfl i hi
  have hAb := fun i (hi : i ≤ m) => AdS_le (kd := σ 8) (td := σ 9) (lg := σ 24) hp.2.2 bI bC i hi
  have hA4 : ∀ i, i ≤ m → AdS (σ 8) (σ 9) (σ 24) (fun r : Nat => cntE (σ 14) (nI r) ni) (fun r : Nat => cntE (σ 20) (nI r) nc) i < 4096 := fun i hi => by have := (hAb i hi).1; omega
  have fs : ∀ j, j ≠ 25 → j ≠ 26 → j ≠ 27 → j ≠ 17 → j ≠ 23 → j ≠ 53 → j ≠ 52 → (si u 52 (nI (AdS (σ 8) (σ 9) (σ 24) (fun r : Nat => cntE (σ 14) (nI r) ni) (fun r : Nat => cntE (σ 20) (nI r) nc) m))) j = σ j := fun j h1 h2 h3 h4 h5 h6 h7 => by rw [si_ne h7]; exact a2 j h1 h2 h3 h4 h5 h6
  have ft : ∀ j, j ≠ 12 → j ≠ 17 → j ≠ 13 → j ≠ 14 → j ≠ 15 → j ≠ 16 → j ≠ 51 → j ≠ 50 → (si v 50 (nI (AdS (τ 2) (τ 3) (τ 7) (fun r : Nat => cntE (σ 14) (nI r) ni) (fun r : Nat => cntE (σ 20) (nI r) nc) m))) j = τ j := fun j h1 h2 h3 h4 h5 h6 h7 h8 => by rw [si_ne h8]; exact b2 j h1 h2 h3 h4 h5 h6 h7
  refine ⟨_, _, a1, b1, ?_, fs, ft⟩
  generalize hS : si u 52 (nI (AdS (σ 8) (σ 9) (σ 24) (fun r : Nat => cntE (σ 14) (nI r) ni) (fun r : Nat => cntE (σ 20) (nI r) nc) m)) = s at fs ⊢
  generalize hT : si v 50 (nI (AdS (τ 2) (τ 3) (τ 7) (fun r : Nat => cntE (σ 14) (nI r) ni) (fun r : Nat => cntE (σ 20) (nI r) nc) m)) = t at ft ⊢
  have s25 : s 25 = u 25 := by rw [← hS, si_ne (by decide)]
  have s26 : s 26 = u 26 := by rw [← hS, si_ne (by decide)]
  have s27 : s 27 = u 27 := by rw [← hS, si_ne (by decide)]
  have s17 : s 17 = u 17 := by rw [← hS, si_ne (by decide)]
  have s23 : s 23 = u 23 := by rw [← hS, si_ne (by decide)]
  have s53 : s 53 = u 53 := by rw [← hS, si_ne (by decide)]
  have t12 : t 12 = v 12 := by rw [← hT, si_ne (by decide)]
  have t17 : t 17 = v 17 := by rw [← hT, si_ne (by decide)]
  have t13 : t 13 = v 13 := by rw [← hT, si_ne (by decide)]
  have t14 : t 14 = v 14 := by rw [← hT, si_ne (by decide)]
  have t15 : t 15 = v 15 := by rw [← hT, si_ne (by decide)]
  have t16 : t 16 = v 16 := by rw [← hT, si_ne (by decide)]
  have t51 : t 51 = v 51 := by rw [← hT, si_ne (by decide)]
  have c (j : Nat) (h1 : j ≠ 25) (h2 : j ≠ 26) (h3 : j ≠ 27) (h4 : j ≠ 17) (h5 : j ≠ 23) (h6 : j ≠ 53) (h7 : j ≠ 52) : s j = σ j := fs j h1 h2 h3 h4 h5 h6 h7
  have s8 := c 8 (by decide) (by decide) (by decide) (by decide) (by decide) (by decide) (by decide)
  have s9 := c 9 (by decide) (by decide) (by decide) (by decide) (by decide) (by decide) (by decide)
  have s24 := c 24 (by decide) (by decide) (by decide) (by decide) (by decide) (by decide) (by decide)
  have s10 := c 10 (by decide) (by decide) (by decide) (by decide) (by decide) (by decide) (by decide)
  have s13 := c 13 (by decide) (by decide) (by decide) (by decide) (by decide) (by decide) (by decide)
  have s14 := c 14 (by decide) (by decide) (by decide) (by decide) (by decide) (by decide) (by decide)
  have s15 := c 15 (by decide) (by decide) (by decide) (by decide) (by decide) (by decide) (by decide)
  have s16 := c 16 (by decide) (by decide) (by decide) (by decide) (by decide) (by decide) (by decide)
  have s19 := c 19 (by decide) (by decide) (by decide) (by decide) (by decide) (by decide) (by decide)
  have s20 := c 20 (by decide) (by decide) (by decide) (by decide) (by decide) (by decide) (by decide)
  have s21 := c 21 (by decide) (by decide) (by decide) (by decide) (by decide) (by decide) (by decide)
  have s22 := c 22 (by decide) (by decide) (by decide) (by decide) (by decide) (by decide) (by decide)
  have s48 := c 48 (by decide) (by decide) (by decide) (by decide) (by decide) (by decide) (by decide)
  have s56 := c 56 (by decide) (by decide) (by decide) (by decide) (by decide) (by decide) (by decide)
  have s57 := c 57 (by decide) (by decide) (by decide) (by decide) (by decide) (by decide) (by decide)
  have e (j : Nat) (h1 : j ≠ 12) (h2 : j ≠ 17) (h3 : j ≠ 13) (h4 : j ≠ 14) (h5 : j ≠ 15) (h6 : j ≠ 16) (h7 : j ≠ 51) (h8 : j ≠ 50) : t j = τ j := ft j h1 h2 h3 h4 h5 h6 h7 h8
  have r2 := e 2 (by decide) (by decide) (by decide) (by decide) (by decide) (by decide) (by decide) (by decide)
  have r3 := e 3 (by decide) (by decide) (by decide) (by decide) (by decide) (by decide) (by decide) (by decide)
  have r7 := e 7 (by decide) (by decide) (by decide) (by decide) (by decide) (by decide) (by decide) (by decide)
  have r4 := e 4 (by decide) (by decide) (by decide) (by decide) (by decide) (by decide) (by decide) (by decide)
  have r8 := e 8 (by decide) (by decide) (by decide) (by decide) (by decide) (by decide) (by decide) (by decide)
  have r9 := e 9 (by decide) (by decide) (by decide) (by decide) (by decide) (by decide) (by decide) (by decide)
  have r10 := e 10 (by decide) (by decide) (by decide) (by decide) (by decide) (by decide) (by decide) (by decide)
  have r11 := e 11 (by decide) (by decide) (by decide) (by decide) (by decide) (by decide) (by decide) (by decide)
  have r41 := e 41 (by decide) (by decide) (by decide) (by decide) (by decide) (by decide) (by decide) (by decide)
  have r48 := e 48 (by decide) (by decide) (by decide) (by decide) (by decide) (by decide) (by decide) (by decide)
  have r49 := e 49 (by decide) (by decide) (by decide) (by decide) (by decide) (by decide) (by decide) (by decide)
  have adi : ∀ k, k < ni → ∃ A, A < 4096 ∧ ad_i s k = nI A ∧ t 13 k = nI A := by
    intro k hk
    obtain ⟨_, k2, _, ⟨r, hr, r5, er⟩, k5⟩ := hki k hk
    have hb := (hAb r (by omega)).1
    have hc := Nat.le_trans (cntE_le (f := σ 14) (v := nI r) (n := k)) (show k ≤ 12 by omega)
    refine ⟨AdS (σ 8) (σ 9) (σ 24) (fun r : Nat => cntE (σ 14) (nI r) ni) (fun r : Nat => cntE (σ 20) (nI r) nc) r + 2 + 4 * cntE (σ 14) (nI r) k, ?_, ?_, ?_⟩
    · omega
    · unfold ad_i
      rw [s14, s15, s17, k5, er, nI_clamp (by omega), (a6 r hr r5).1, show (4 : Int32) = nI 4 from rfl, pk_mul, nI_add]
    · rw [t13, b6 k r hk hr (by rw [← (hit r hr).1]; exact r5) (by rw [← k2]; exact er), ← (hAe r (by omega)).1, cntE_congr (f := τ 9) (g := σ 14) (fun j hj => ((hki j (by omega)).2.1).symm)]
  have adc : ∀ k, k < nc → ∃ A, A < 4096 ∧ ad_c s k = nI A ∧ t 14 k = nI A := by
    intro k hk
    obtain ⟨_, k2, ⟨r, hr, r5, er⟩, k5⟩ := hkc k hk
    have hb := (hAb r (by omega)).1
    have hc := Nat.le_trans (cntE_le (f := σ 20) (v := nI r) (n := k)) (show k ≤ 16 by omega)
    have hci := bI r
    have hu := upN_ge (d := 4) (A := AdS (σ 8) (σ 9) (σ 24) (fun r : Nat => cntE (σ 14) (nI r) ni) (fun r : Nat => cntE (σ 20) (nI r) nc) r + 2 + 4 * cntE (σ 14) (nI r) ni) (by omega)
    have hpos : cntE (σ 20) (nI r) nc ≠ 0 := by
      have h1 : cntE (σ 20) (nI r) (k + 1) = cntE (σ 20) (nI r) k + (if σ 20 k = nI r then 1 else 0) := rfl
      rw [if_pos er] at h1
      have := cntE_mono (f := σ 20) (v := nI r) (a := k + 1) (b := nc) (by omega)
      omega
    refine ⟨upN 4 (AdS (σ 8) (σ 9) (σ 24) (fun r : Nat => cntE (σ 14) (nI r) ni) (fun r : Nat => cntE (σ 20) (nI r) nc) r + 2 + 4 * cntE (σ 14) (nI r) ni) + 4 * cntE (σ 20) (nI r) k, ?_, ?_, ?_⟩
    · have hci' : cntE (σ 14) (nI r) ni ≤ 12 := hci
      omega
    · unfold ad_c
      rw [s20, s21, s23, k5, er, nI_clamp (by omega), (a6 r hr r5).2, show (4 : Int32) = nI 4 from rfl, pk_mul, nI_add]
      unfold stN
      rw [if_neg hpos]
    · rw [t14, b7 k r hk hr (by rw [← (hit r hr).1]; exact r5) (by rw [← k2]; exact er), ← (hAe r (by omega)).1, cntE_congr (f := τ 11) (g := σ 20) (fun j hj => ((hkc j (by omega)).2.1).symm)]
  refine ⟨⟨wfP_fr hp s48 s8 s9, ⟨hq.1, by rw [r41]; exact hq.2.1, fun i hi => by rw [r2, r3]; exact hq.2.2 i hi⟩, fun i hi => by rw [s8, s9, s24, r2, r3, r7]; exact hit i hi, fun i hi => by rw [s10, r4]; exact hre i hi, Sk_i_fr hsi s56 s14, Sk_c_fr hsc s57 s20, by rw [r48]; exact h48, by rw [r49]; exact h49, fun k hk => by rw [s13, s14, s15, s8, r8, r9]; exact hki k hk, fun k hk => by rw [s19, s20, s21, s8, r10, r11]; exact hkc k hk, fun r hr => by rw [s16, s22, s14, s20]; exact hg r hr, fun l hl => ?_, ?_⟩, fun j hj => ?_, fun j hj => ?_, fun k hk => ?_, fun k hk => ?_, fun k hk => ?_, fun k hk => ?_, fun r hr h5 => ?_, ?_, ?_, fun j hj => ?_⟩
  · rw [s27, t17, a4, b4]; exact labS_congr hkl rfl rfl hlb m (Nat.le_refl _) l hl
  · rw [s27, a4]; exact labS_bd hA4 hlB m (Nat.le_refl _)
  · rw [s25, t12, (a3 j hj).1, b3 j hj, (hAe j (by omega)).1]
  · rw [s25]; exact ⟨_, hA4 j (by omega), (a3 j hj).1⟩
  · obtain ⟨A, _, x, y⟩ := adi k hk; rw [x, y]
  · obtain ⟨A, z, x, _⟩ := adi k hk; exact ⟨A, z, x⟩
  · obtain ⟨A, _, x, y⟩ := adc k hk; rw [x, y]
  · obtain ⟨A, z, x, _⟩ := adc k hk; exact ⟨A, z, x⟩
  · rw [s8] at h5
    have hb := (hAb r (by omega)).1
    have hci : cntE (σ 14) (nI r) ni ≤ 12 := bI r
    have hcc : cntE (σ 20) (nI r) nc ≤ 16 := bC r
    have hat := atN_le (E := AdS (σ 8) (σ 9) (σ 24) (fun r : Nat => cntE (σ 14) (nI r) ni) (fun r : Nat => cntE (σ 20) (nI r) nc) r + 2 + 4 * cntE (σ 14) (nI r) ni) hcc
    have hb8 := b8 r hr (by rw [← (hit r hr).1]; exact h5)
    refine ⟨?_, _, _, by rw [s23]; exact (a6 r hr h5).2, by rw [s22]; exact (hg r (by omega)).2, ?_, ?_⟩
    · unfold endI
      rw [s17, s16, (a6 r hr h5).1, (hg r (by omega)).1, show (4 : Int32) = nI 4 from rfl, pk_mul, nI_add, t15, hb8.1, (hAe r (by omega)).1]
    · rw [st_at]; exact Nat.lt_of_le_of_lt hat (by omega)
    · rw [st_at, t16, hb8.2, (hAe r (by omega)).1]
  · rw [s53, t51, a5, b5, (hAe m (Nat.le_refl _)).2]
  · rw [← hS, ← hT, si_at, si_at, (hAe m (Nat.le_refl _)).1]
  · rw [s25, s26, s8, s9, s24]; exact ⟨_, hA4 j (by omega), (a3 j hj).1, (a3 j hj).2⟩
/-! Laid alike, all go alike. -/
theorem aim_eq {σ τ : St} {m ni nc i : Nat} (h : LL σ τ m ni nc) (hi : i < m) : aimC σ ni nc i = aimM τ ni nc i := by
  obtain ⟨⟨hp, hq, hit, hre, hsi, hsc, h48, h49, hki, hkc, hg, hlb, hlB⟩, l25, b25, li, bi, lc, bc, le, l53, l52, lz⟩ := h
  have hni := hsi.1
  have hnc := hsc.1
  obtain ⟨k1, k2, k3, k4⟩ := hit i hi
  unfold aimC aimM aimV
  rw [k1, k2, k3, l25 i hi, hre 0 (by omega), hre 1 (by omega), hre 2 (by omega)]
  by_cases q1 : τ 2 i = 1
  · rw [if_pos q1, if_pos q1, conS_congr (nm := σ 19) (ad := ad_c σ) (nm' := τ 10) (ad' := τ 14) (by omega) (fun k hk => ⟨(hkc k hk).1, lc k hk⟩)]
    rcases conS_best (nm := τ 10) (ad := τ 14) (r2 := τ 4 2) (frm := τ 12 i) (v := τ 3 i) nc with e | ⟨j, hj, e⟩
    · rw [e, if_pos rfl, if_pos rfl]
    · rw [e, nI_clamp (by omega), lc j hj]
  · rw [if_neg q1, if_neg q1]
    by_cases q2 : τ 2 i = 2
    · obtain ⟨l, hl, el⟩ := wf_lab (hq.2.2 i hi) q2
      rw [if_pos q2, if_pos q2, el, nI_clamp (by omega), hlb l hl, aimL_congr (nm := σ 13) (ad := ad_i σ) (nm' := τ 8) (ad' := τ 13) (by omega) (fun k hk => ⟨(hki k hk).1, li k hk⟩)]
    · rw [if_neg q2, if_neg q2]
theorem iaim_eq {σ τ : St} {m ni nc k : Nat} (h : LL σ τ m ni nc) (hk : k < ni) : iaimC σ ni k = iaimM τ ni k := by
  obtain ⟨⟨hp, hq, hit, hre, hsi, hsc, h48, h49, hki, hkc, hg, hlb, hlB⟩, l25, b25, li, bi, lc, bc, le, l53, l52, lz⟩ := h
  have hni := hsi.1
  obtain ⟨k1, k2, ⟨l, hl, el⟩, _⟩ := hki k hk
  unfold iaimC iaimM
  rw [← k1, el, nI_clamp (by omega), hlb l hl, li k hk, hre 1 (by omega), aimL_congr (nm := σ 13) (ad := ad_i σ) (nm' := τ 8) (ad' := τ 13) (by omega) (fun k hk => ⟨(hki k hk).1, li k hk⟩)]
theorem LL_Mi {σ τ : St} {m ni nc : Nat} (h : LL σ τ m ni nc) : Mi τ ni := by
  obtain ⟨⟨hp, hq, hit, hre, hsi, hsc, h48, h49, hki, hkc, hg, hlb, hlB⟩, l25, b25, li, bi, lc, bc, le, l53, l52, lz⟩ := h
  exact ⟨hsi.1, h48, fun k hk => by rw [← li k hk]; exact bi k hk⟩
theorem LL_Mc {σ τ : St} {m ni nc : Nat} (h : LL σ τ m ni nc) : Mc τ nc := by
  obtain ⟨⟨hp, hq, hit, hre, hsi, hsc, h48, h49, hki, hkc, hg, hlb, hlB⟩, l25, b25, li, bi, lc, bc, le, l53, l52, lz⟩ := h
  exact ⟨hsc.1, h49, fun k hk => by rw [← lc k hk]; exact bc k hk⟩
theorem LL_B12 {σ τ : St} {m ni nc : Nat} (h : LL σ τ m ni nc) : Bd (τ 12) m := by
  obtain ⟨⟨hp, hq, hit, hre, hsi, hsc, h48, h49, hki, hkc, hg, hlb, hlB⟩, l25, b25, li, bi, lc, bc, le, l53, l52, lz⟩ := h
  exact fun k hk => by rw [← l25 k hk]; exact b25 k hk
theorem LL_B17 {σ τ : St} {m ni nc : Nat} (h : LL σ τ m ni nc) : Bd (τ 17) 8 := by
  obtain ⟨⟨hp, hq, hit, hre, hsi, hsc, h48, h49, hki, hkc, hg, hlb, hlB⟩, l25, b25, li, bi, lc, bc, le, l53, l52, lz⟩ := h
  exact fun k hk => by rw [← hlb k hk]; exact hlB k hk
/-! A round, as far as its mending. -/
theorem LL_fr {σ s τ : St} {m ni nc : Nat} (hl : LL σ τ m ni nc) (h : ∀ j, j ≠ 28 → j ≠ 29 → s j = σ j) : LL s τ m ni nc := by
  obtain ⟨⟨hp, hq, hit, hre, hsi, hsc, h48, h49, hki, hkc, hg, hlb, hlB⟩, l25, b25, li, bi, lc, bc, le, l53, l52, lz⟩ := hl
  have ai : ad_i s = ad_i σ := ad_i_fr (h 17 (by decide) (by decide)) (h 14 (by decide) (by decide)) (h 15 (by decide) (by decide))
  have ac : ad_c s = ad_c σ := ad_c_fr (h 23 (by decide) (by decide)) (h 20 (by decide) (by decide)) (h 21 (by decide) (by decide))
  have ei : endI s = endI σ := by funext r; unfold endI; rw [h 17 (by decide) (by decide), h 16 (by decide) (by decide)]
  have s8 := h 8 (by decide) (by decide)
  have s9 := h 9 (by decide) (by decide)
  have s24 := h 24 (by decide) (by decide)
  refine ⟨⟨wfP_fr hp (h 48 (by decide) (by decide)) s8 s9, hq, fun i hi => by rw [s8, s9, s24]; exact hit i hi, fun i hi => by rw [h 10 (by decide) (by decide)]; exact hre i hi, Sk_i_fr hsi (h 56 (by decide) (by decide)) (h 14 (by decide) (by decide)), Sk_c_fr hsc (h 57 (by decide) (by decide)) (h 20 (by decide) (by decide)), h48, h49, fun k hk => by rw [h 13 (by decide) (by decide), h 14 (by decide) (by decide), h 15 (by decide) (by decide), s8]; exact hki k hk, fun k hk => by rw [h 19 (by decide) (by decide), h 20 (by decide) (by decide), h 21 (by decide) (by decide), s8]; exact hkc k hk, fun r hr => by rw [h 16 (by decide) (by decide), h 22 (by decide) (by decide), h 14 (by decide) (by decide), h 20 (by decide) (by decide)]; exact hg r hr, fun l hl => by rw [h 27 (by decide) (by decide)]; exact hlb l hl, by rw [h 27 (by decide) (by decide)]; exact hlB⟩,
    fun j hj => by rw [h 25 (by decide) (by decide)]; exact l25 j hj, by rw [h 25 (by decide) (by decide)]; exact b25, by rw [ai]; exact li, by rw [ai]; exact bi, by rw [ac]; exact lc, by rw [ac]; exact bc, fun r hr h5 => by rw [s8] at h5; rw [ei, h 23 (by decide) (by decide), h 22 (by decide) (by decide)]; exact le r hr h5, by rw [h 53 (by decide) (by decide)]; exact l53, by rw [h 52 (by decide) (by decide)]; exact l52, fun j hj => by rw [h 25 (by decide) (by decide), h 26 (by decide) (by decide), s8, s9, s24]; exact lz j hj⟩
/-- laid and aimed on both sides -/
theorem round_aims {σ τ : St} {m ni nc : Nat} (h : BB σ τ m ni nc) : ∃ s0 s1 s t, fX2_lay σ = some s0 ∧ fX2_aimItems s0 = some s1 ∧ fX2_aimIslands s1 = some s ∧ fX6_layAll τ = some t ∧ LL s t m ni nc ∧ (∀ j, j < m → s 28 j = aimM t ni nc j) ∧ (∀ k, k < ni → s 29 k = iaimM t ni k) ∧
    (∀ j, j ≠ 25 → j ≠ 26 → j ≠ 27 → j ≠ 17 → j ≠ 23 → j ≠ 53 → j ≠ 52 → j ≠ 28 → j ≠ 29 → s j = σ j) ∧ (∀ j, j ≠ 12 → j ≠ 17 → j ≠ 13 → j ≠ 14 → j ≠ 15 → j ≠ 16 → j ≠ 51 → j ≠ 50 → t j = τ j) := by
  obtain ⟨s0, t, a1, a2, hl, f, g⟩ := lay_both h
  obtain ⟨⟨hp, hq, hit, hre, hsi, hsc, h48, h49, hki, hkc, hg, hlb, hlB⟩, _⟩ := id hl
  obtain ⟨s1, b1, b2, b3⟩ := aimItems_eq hp hsi hsc
  have hsi1 : Sk_i s1 ni := Sk_i_fr hsi (b2 56 (by decide)) (b2 14 (by decide))
  obtain ⟨s, c1, c2, c3⟩ := aimIslands_eq hsi1 (fun k hk => by rw [b2 13 (by decide)]; exact (hki k hk).2.2.1)
  refine ⟨s0, s1, s, t, a1, b1, c1, a2, LL_fr hl (fun j h1 h2 => by rw [c2 j h2, b2 j h1]), fun j hj => by rw [c2 28 (by decide), b3 j hj, aim_eq hl hj], fun k hk => ?_, fun j h1 h2 h3 h4 h5 h6 h7 h8 h9 => by rw [c2 j h9, b2 j h8]; exact f j h1 h2 h3 h4 h5 h6 h7, g⟩
  rw [c3 k hk, ← iaim_eq hl hk]
  unfold iaimC
  rw [ad_i_fr (b2 17 (by decide)) (b2 14 (by decide)) (b2 15 (by decide)), b2 13 (by decide), b2 27 (by decide), b2 10 (by decide)]
/-- the first astray is the same -/
theorem first_eq {s t : St} {m ni nc : Nat} (hl : LL s t m ni nc) (ha : ∀ j, j < m → s 28 j = aimM t ni nc j) (kind lg : Int32) : fX2_firstAstray s kind lg = some (fstS (strM t ni nc kind lg) 0 m) ∧ fX6_firstStuck t kind lg = some (fstS (strM t ni nc kind lg) 0 m) := by
  obtain ⟨⟨hp, hq, hit, _⟩, _⟩ := id hl
  refine ⟨?_, stuckM_eq hq (LL_Mi hl) (LL_Mc hl) (LL_B12 hl) (LL_B17 hl)⟩
  rw [astrayC_eq hp]
  congr 1
  refine fstS_congr (fun j _ h2 => ?_)
  obtain ⟨k1, k2, k3, k4⟩ := hit j (by omega)
  have e : lgI (s 24 j) = t 7 j := by
    rw [k3]
    rcases k4 with q | q
    · rw [q]; rfl
    · rw [q]; rfl
  unfold strC strM
  rw [k1, e, ha j (by omega)]
theorem ifirst_eq {s t : St} {m ni nc : Nat} (hl : LL s t m ni nc) (ha : ∀ k, k < ni → s 29 k = iaimM t ni k) : fX2_firstIslandAstray s = some (fstS (istM t ni) 0 ni) ∧ fX6_firstStuckIsland t = some (fstS (istM t ni) 0 ni) := by
  obtain ⟨⟨hp, hq, hit, hre, hsi, hsc, h48, h49, hki, hkc, hg, hlb, hlB⟩, _⟩ := id hl
  refine ⟨?_, istuckM_eq (LL_Mi hl) (LL_B17 hl) (fun k hk => by rw [← (hki k hk).1]; exact (hki k hk).2.2.1)⟩
  rw [iastrayC_eq hsi]
  congr 1
  refine fstS_congr (fun j _ h2 => ?_)
  unfold istC istM
  rw [ha j (by omega)]
/-! What mending keeps: BB behind a branch made long, a constant or an island more. -/
theorem BB_long {σ τ s t : St} {m ni nc i : Nat} (h : BB σ τ m ni nc) (hi : i < m) (hs : ∀ j, j ≠ 24 → j ≠ 50 → s j = σ j) (h24 : s 24 = upd (σ 24) i 1) (ht : ∀ j, j ≠ 7 → t j = τ j) (h7 : t 7 = upd (τ 7) i 1) : BB s t m ni nc := by
  obtain ⟨hp, hq, hit, hre, hsi, hsc, h48, h49, hki, hkc, hg, hlb, hlB⟩ := h
  refine ⟨wfP_fr hp (hs 48 (by decide) (by decide)) (hs 8 (by decide) (by decide)) (hs 9 (by decide) (by decide)), ⟨hq.1, by rw [ht 41 (by decide)]; exact hq.2.1, fun j hj => by rw [ht 2 (by decide), ht 3 (by decide)]; exact hq.2.2 j hj⟩, fun j hj => ?_, fun j hj => by rw [hs 10 (by decide) (by decide), ht 4 (by decide)]; exact hre j hj, Sk_i_fr hsi (hs 56 (by decide) (by decide)) (hs 14 (by decide) (by decide)), Sk_c_fr hsc (hs 57 (by decide) (by decide)) (hs 20 (by decide) (by decide)), by rw [ht 48 (by decide)]; exact h48, by rw [ht 49 (by decide)]; exact h49, fun k hk => by rw [hs 13 (by decide) (by decide), hs 14 (by decide) (by decide), hs 15 (by decide) (by decide), hs 8 (by decide) (by decide), ht 8 (by decide), ht 9 (by decide)]; exact hki k hk, fun k hk => by rw [hs 19 (by decide) (by decide), hs 20 (by decide) (by decide), hs 21 (by decide) (by decide), hs 8 (by decide) (by decide), ht 10 (by decide), ht 11 (by decide)]; exact hkc k hk, fun r hr => by rw [hs 16 (by decide) (by decide), hs 22 (by decide) (by decide), hs 14 (by decide) (by decide), hs 20 (by decide) (by decide)]; exact hg r hr, fun l hl => by rw [hs 27 (by decide) (by decide), ht 17 (by decide)]; exact hlb l hl, by rw [hs 27 (by decide) (by decide)]; exact hlB⟩
  obtain ⟨a, b, c, d⟩ := hit j hj
  rw [hs 8 (by decide) (by decide), hs 9 (by decide) (by decide), ht 2 (by decide), ht 3 (by decide), h24, h7]
  by_cases q : j = i
  · subst q; rw [pk_us, pk_us]; exact ⟨a, b, rfl, Or.inr rfl⟩
  · rw [pk_un q, pk_un q]; exact ⟨a, b, c, d⟩
theorem cntE_upd {f : Nat → Int32} {v x : Int32} {n k : Nat} (h : k ≤ n) : cntE (upd f n x) v k = cntE f v k := cntE_congr (fun i hi => pk_un (by omega))
theorem cntE_upd1 {f : Nat → Int32} {v x : Int32} {n : Nat} : cntE (upd f n x) v (n + 1) = cntE f v n + (if x = v then 1 else 0) := by
  show cntE (upd f n x) v n + (if upd f n x n = v then 1 else 0) = _
  rw [cntE_upd (Nat.le_refl _), pk_us]
theorem BB_addC {σ τ : St} {m ni nc r : Nat} {v : Int32} (h : BB σ τ m ni nc) (hn : nc < 16) (hr : r < m) (h5 : σ 8 r = 5) : BB (addK_c σ nc v r) (si (sa (sa τ 10 nc v) 11 nc (nI r)) 49 (nI (nc + 1))) m ni (nc + 1) := by
  obtain ⟨hp, hq, hit, hre, hsi, hsc, h48, h49, hki, hkc, hg, hlb, hlB⟩ := h
  have hm := hp.1
  have hs : ∀ j, j ≠ 19 → j ≠ 20 → j ≠ 21 → j ≠ 22 → j ≠ 57 → addK_c σ nc v r j = σ j := fun j h1 h2 h3 h4 h5 => by unfold addK_c; rw [si_ne h5, sa_ne h4, sa_ne h3, sa_ne h2, sa_ne h1]
  have ht : ∀ j, j ≠ 10 → j ≠ 11 → j ≠ 49 → (si (sa (sa τ 10 nc v) 11 nc (nI r)) 49 (nI (nc + 1))) j = τ j := fun j h1 h2 h3 => by rw [si_ne h3, sa_ne h2, sa_ne h1]
  have s19 : addK_c σ nc v r 19 = upd (σ 19) nc v := by unfold addK_c; rw [si_ne (by decide), sa_ne (by decide), sa_ne (by decide), sa_ne (by decide), sa_at]
  have s20 : addK_c σ nc v r 20 = upd (σ 20) nc (nI r) := by unfold addK_c; rw [si_ne (by decide), sa_ne (by decide), sa_ne (by decide), sa_at, sa_ne (by decide)]
  have s21 : addK_c σ nc v r 21 = upd (σ 21) nc (σ 22 r) := by unfold addK_c; rw [si_ne (by decide), sa_ne (by decide), sa_at, sa_ne (by decide), sa_ne (by decide)]
  have s22 : addK_c σ nc v r 22 = upd (σ 22) r (σ 22 r + 1) := by unfold addK_c; rw [si_ne (by decide), sa_at, sa_ne (by decide), sa_ne (by decide), sa_ne (by decide)]
  have s57 : addK_c σ nc v r 57 0 = nI (nc + 1) := by unfold addK_c; rw [si_at]
  have t10 : (si (sa (sa τ 10 nc v) 11 nc (nI r)) 49 (nI (nc + 1))) 10 = upd (τ 10) nc v := by rw [si_ne (by decide), sa_ne (by decide), sa_at]
  have t11 : (si (sa (sa τ 10 nc v) 11 nc (nI r)) 49 (nI (nc + 1))) 11 = upd (τ 11) nc (nI r) := by rw [si_ne (by decide), sa_at, sa_ne (by decide)]
  have e8 := hs 8 (by decide) (by decide) (by decide) (by decide) (by decide)
  have e9 := hs 9 (by decide) (by decide) (by decide) (by decide) (by decide)
  have e14 := hs 14 (by decide) (by decide) (by decide) (by decide) (by decide)
  refine ⟨wfP_fr hp (hs 48 (by decide) (by decide) (by decide) (by decide) (by decide)) e8 e9, ⟨hq.1, by rw [ht 41 (by decide) (by decide) (by decide)]; exact hq.2.1, fun j hj => by rw [ht 2 (by decide) (by decide) (by decide), ht 3 (by decide) (by decide) (by decide)]; exact hq.2.2 j hj⟩, fun j hj => by rw [e8, e9, hs 24 (by decide) (by decide) (by decide) (by decide) (by decide), ht 2 (by decide) (by decide) (by decide), ht 3 (by decide) (by decide) (by decide), ht 7 (by decide) (by decide) (by decide)]; exact hit j hj, fun j hj => by rw [hs 10 (by decide) (by decide) (by decide) (by decide) (by decide), ht 4 (by decide) (by decide) (by decide)]; exact hre j hj, Sk_i_fr hsi (hs 56 (by decide) (by decide) (by decide) (by decide) (by decide)) e14, ⟨by omega, s57, fun k hk => ?_⟩, by rw [ht 48 (by decide) (by decide) (by decide)]; exact h48, si_at _ _ _ _, fun k hk => by rw [hs 13 (by decide) (by decide) (by decide) (by decide) (by decide), e14, hs 15 (by decide) (by decide) (by decide) (by decide) (by decide), e8, ht 8 (by decide) (by decide) (by decide), ht 9 (by decide) (by decide) (by decide)]; exact hki k hk, fun k hk => ?_, fun r' hr' => ?_, fun l hl => by rw [hs 27 (by decide) (by decide) (by decide) (by decide) (by decide), ht 17 (by decide) (by decide) (by decide)]; exact hlb l hl, by rw [hs 27 (by decide) (by decide) (by decide) (by decide) (by decide)]; exact hlB⟩
  · rw [s20]
    by_cases q : k = nc
    · subst q; rw [pk_us]; exact ⟨r, by omega, rfl⟩
    · rw [pk_un q]; exact hsc.2.2 k (by omega)
  · rw [s19, s20, s21, t10, t11, e8]
    by_cases q : k = nc
    · subst q
      rw [pk_us, pk_us, pk_us, pk_us, pk_us, cntE_upd (Nat.le_refl _)]
      exact ⟨rfl, rfl, ⟨r, hr, h5, rfl⟩, (hg r (by omega)).2⟩
    · rw [pk_un q, pk_un q, pk_un q, pk_un q, pk_un q, cntE_upd (by omega)]
      exact hkc k (by omega)
  · rw [hs 16 (by decide) (by decide) (by decide) (by decide) (by decide), e14, s22, s20, cntE_upd1]
    refine ⟨(hg r' hr').1, ?_⟩
    by_cases q : r' = r
    · subst q; rw [pk_us, if_pos rfl, (hg r' hr').2, nI_1]
    · rw [pk_un q, if_neg (fun e => q ((nI_eq (a := r) (b := r') (by omega) (by omega)).mp e).symm), (hg r' hr').2]; rfl
/-! More of what is laid: addresses grow; a gap's end lies behind all that comes ahead; constants lie apart. -/
theorem nxtS_ge {kd td lg : Nat → Int32} {cI cC : Nat → Nat} {i A : Nat} : A ≤ nxtS kd td lg cI cC i A := by
  unfold nxtS
  by_cases q : kd i = 5
  · rw [if_pos q]
    unfold atN
    have := upN_ge (d := 4) (A := A + szI (kd i) (td i) (lg i) A + 4 * cI i) (by omega)
    by_cases z : cC i = 0
    · rw [if_pos z]; omega
    · rw [if_neg z]; omega
  · rw [if_neg q]; omega
theorem AdS_mono {kd td lg : Nat → Int32} {cI cC : Nat → Nat} {i j : Nat} (h : i ≤ j) : AdS kd td lg cI cC i ≤ AdS kd td lg cI cC j := by
  induction h with
  | refl => exact Nat.le_refl _
  | step _ ih => exact Nat.le_trans ih nxtS_ge
theorem stN_ge {E c : Nat} : E ≤ stN E c ∧ stN E c ≤ E + 3 := by
  unfold stN
  have := upN_ge (d := 4) (A := E) (by omega)
  by_cases q : c = 0
  · rw [if_pos q]; omega
  · rw [if_neg q]; omega
theorem con_ap {kd td lg : Nat → Int32} {cI cC : Nat → Nat} {r p r' p' : Nat} (h5 : kd r = 5) (hp : p < cC r) (hrr : r < r') : stN (AdS kd td lg cI cC r + 2 + 4 * cI r) (cC r) + 4 * p < stN (AdS kd td lg cI cC r' + 2 + 4 * cI r') (cC r') + 4 * p' := by
  have h1 : AdS kd td lg cI cC (r + 1) ≤ AdS kd td lg cI cC r' := AdS_mono hrr
  have e : AdS kd td lg cI cC (r + 1) = atN (AdS kd td lg cI cC r + 2 + 4 * cI r) (cC r) := by
    show nxtS kd td lg cI cC r (AdS kd td lg cI cC r) = _
    unfold nxtS
    rw [if_pos h5, szI_5' h5]
  have g := st_at (E := AdS kd td lg cI cC r + 2 + 4 * cI r) (c := cC r)
  have z := (stN_ge (E := AdS kd td lg cI cC r' + 2 + 4 * cI r') (c := cC r')).1
  omega
theorem cntE_lt {f : Nat → Int32} {v : Int32} {j n : Nat} (h : j < n) (e : f j = v) : cntE f v j < cntE f v n := by
  have h1 : cntE f v (j + 1) ≤ cntE f v n := cntE_mono h
  have h2 : cntE f v (j + 1) = cntE f v j + 1 := by
    show cntE f v j + (if f j = v then 1 else 0) = _
    rw [if_pos e]
  omega
def LX (s t : St) (m nc : Nat) : Prop := (∀ i r, i < r → r < m → s 8 r = 5 → ¬ t 16 r ≤ s 25 i) ∧ (∀ j k, j < nc → k < nc → ad_c s j = ad_c s k → j = k)
theorem lay_more {σ τ s t : St} {m ni nc : Nat} (h : BB σ τ m ni nc) (hs : fX2_lay σ = some s) (ht : fX6_layAll τ = some t) : LX s t m nc := by
  obtain ⟨hp, hq, hit, hre, hsi, hsc, h48, h49, hki, hkc, hg, hlb, hlB⟩ := h
  have hni := hsi.1
  have hnc := hsc.1
  have hm := hp.1
  have eI : (fun r : Nat => cntE (σ 14) (nI r) ni) = fun r => cntE (τ 9) (nI r) ni := by
    funext r; exact cntE_congr (fun k hk => (hki k hk).2.1)
  have eC : (fun r : Nat => cntE (σ 20) (nI r) nc) = fun r => cntE (τ 11) (nI r) nc := by
    funext r; exact cntE_congr (fun k hk => (hkc k hk).2.1)
  have bI : ∀ r, (fun r : Nat => cntE (σ 14) (nI r) ni) r ≤ 12 := fun r => Nat.le_trans cntE_le hni
  have bC : ∀ r, (fun r : Nat => cntE (σ 20) (nI r) nc) r ≤ 16 := fun r => Nat.le_trans cntE_le hnc
  obtain ⟨u, a1, a2, a3, a4, a5, a6⟩ := layC_eq (σ := σ) (m := m) hp bI bC (fun r hr => (hg r hr).1) (fun r hr => (hg r hr).2)
  obtain ⟨v, b1, b2, b3, b4, b5, b6, b7, b8⟩ := layM_eq (τ := τ) (m := m) (ni := ni) (nc := nc) hq hni hnc h48 h49 eI eC
  have hkl : ∀ j, j < m → σ 8 j = τ 2 j ∧ σ 9 j = τ 3 j ∧ σ 24 j = τ 7 j := fun j hj => ⟨(hit j hj).1, (hit j hj).2.1, (hit j hj).2.2.1⟩
  have hAe := fun i (hi : i ≤ m) => AdS_congr (cI := fun r : Nat => cntE (σ 14) (nI r) ni) (cC := fun r : Nat => cntE (σ 20) (nI r) nc) hkl rfl rfl i hi
  have hAb := fun i (hi : i ≤ m) => AdS_le (kd := σ 8) (td := σ 9) (lg := σ 24) hp.2.2 bI bC i hi
  have es := Option.some.inj (hs.symm.trans a1)
  have et := Option.some.inj (ht.symm.trans b1)
  have s8 : s 8 = σ 8 := by rw [es, si_ne (by decide)]; exact a2 8 (by decide) (by decide) (by decide) (by decide) (by decide) (by decide)
  have s20 : s 20 = σ 20 := by rw [es, si_ne (by decide)]; exact a2 20 (by decide) (by decide) (by decide) (by decide) (by decide) (by decide)
  have s21 : s 21 = σ 21 := by rw [es, si_ne (by decide)]; exact a2 21 (by decide) (by decide) (by decide) (by decide) (by decide) (by decide)
  have s25 : s 25 = u 25 := by rw [es, si_ne (by decide)]
  have s23 : s 23 = u 23 := by rw [es, si_ne (by decide)]
  have t16 : t 16 = v 16 := by rw [et, si_ne (by decide)]
  clear es et
  refine ⟨fun i r hir hr h5 => ?_, fun j k hj hk he => ?_⟩
  · rw [s8] at h5
    have h1 := (b8 r hr (by rw [← (hit r hr).1]; exact h5)).2
    rw [t16, h1, s25, (a3 i (by omega)).1, ← (hAe r (by omega)).1]
    have hb := (hAb r (by omega)).1
    have hci : cntE (σ 14) (nI r) ni ≤ 12 := bI r
    have hcc : cntE (σ 20) (nI r) nc ≤ 16 := bC r
    have hat := atN_le (E := AdS (σ 8) (σ 9) (σ 24) (fun r : Nat => cntE (σ 14) (nI r) ni) (fun r : Nat => cntE (σ 20) (nI r) nc) r + 2 + 4 * cntE (σ 14) (nI r) ni) hcc
    have hst := st_at (E := AdS (σ 8) (σ 9) (σ 24) (fun r : Nat => cntE (σ 14) (nI r) ni) (fun r : Nat => cntE (σ 20) (nI r) nc) r + 2 + 4 * cntE (σ 14) (nI r) ni) (c := cntE (σ 20) (nI r) nc)
    have hsg := (stN_ge (E := AdS (σ 8) (σ 9) (σ 24) (fun r : Nat => cntE (σ 14) (nI r) ni) (fun r : Nat => cntE (σ 20) (nI r) nc) r + 2 + 4 * cntE (σ 14) (nI r) ni) (c := cntE (σ 20) (nI r) nc)).1
    have hu := upN_ge (d := 4) (A := atN (AdS (σ 8) (σ 9) (σ 24) (fun r : Nat => cntE (σ 14) (nI r) ni) (fun r : Nat => cntE (σ 20) (nI r) nc) r + 2 + 4 * cntE (σ 14) (nI r) ni) (cntE (σ 20) (nI r) nc)) (by omega)
    have hmo := AdS_mono (kd := σ 8) (td := σ 9) (lg := σ 24) (cI := fun r : Nat => cntE (σ 14) (nI r) ni) (cC := fun r : Nat => cntE (σ 20) (nI r) nc) (i := i) (j := r) (by omega)
    exact nI_ge (a := AdS (σ 8) (σ 9) (σ 24) (fun r : Nat => cntE (σ 14) (nI r) ni) (fun r : Nat => cntE (σ 20) (nI r) nc) i) (b := upN 4 (atN (AdS (σ 8) (σ 9) (σ 24) (fun r : Nat => cntE (σ 14) (nI r) ni) (fun r : Nat => cntE (σ 20) (nI r) nc) r + 2 + 4 * cntE (σ 14) (nI r) ni) (cntE (σ 20) (nI r) nc))) (by omega) (by omega)
  · have ad : ∀ k, k < nc → ∃ r, r < m ∧ σ 8 r = 5 ∧ σ 20 k = nI r ∧ ad_c s k = nI (stN (AdS (σ 8) (σ 9) (σ 24) (fun r : Nat => cntE (σ 14) (nI r) ni) (fun r : Nat => cntE (σ 20) (nI r) nc) r + 2 + 4 * cntE (σ 14) (nI r) ni) (cntE (σ 20) (nI r) nc) + 4 * cntE (σ 20) (nI r) k) ∧ cntE (σ 20) (nI r) k < cntE (σ 20) (nI r) nc := by
      intro k hk
      obtain ⟨_, _, ⟨r, hr, r5, er⟩, k5⟩ := hkc k hk
      refine ⟨r, hr, r5, er, ?_, cntE_lt hk er⟩
      unfold ad_c
      rw [s20, s21, s23, k5, er, nI_clamp (by omega), (a6 r hr r5).2, show (4 : Int32) = nI 4 from rfl, pk_mul, nI_add]
    obtain ⟨r, hr, r5, er, ea, hc⟩ := ad j hj
    obtain ⟨r', hr', r5', er', ea', hc'⟩ := ad k hk
    have b1 := (hAb r (by omega)).1
    have b2 := (hAb r' (by omega)).1
    have c1 : cntE (σ 14) (nI r) ni ≤ 12 := bI r
    have c2 : cntE (σ 14) (nI r') ni ≤ 12 := bI r'
    have d1 : cntE (σ 20) (nI r) nc ≤ 16 := bC r
    have d2 : cntE (σ 20) (nI r') nc ≤ 16 := bC r'
    have z1 := (stN_ge (E := AdS (σ 8) (σ 9) (σ 24) (fun r : Nat => cntE (σ 14) (nI r) ni) (fun r : Nat => cntE (σ 20) (nI r) nc) r + 2 + 4 * cntE (σ 14) (nI r) ni) (c := cntE (σ 20) (nI r) nc)).2
    have z2 := (stN_ge (E := AdS (σ 8) (σ 9) (σ 24) (fun r : Nat => cntE (σ 14) (nI r) ni) (fun r : Nat => cntE (σ 20) (nI r) nc) r' + 2 + 4 * cntE (σ 14) (nI r') ni) (c := cntE (σ 20) (nI r') nc)).2
    have e := (nI_eq (by omega) (by omega)).mp (ea.symm.trans (he.trans ea'))
    rcases Nat.lt_trichotomy r r' with q | q | q
    · have := con_ap (kd := σ 8) (td := σ 9) (lg := σ 24) (cI := fun r : Nat => cntE (σ 14) (nI r) ni) (cC := fun r : Nat => cntE (σ 20) (nI r) nc) (p' := cntE (σ 20) (nI r') k) r5 hc q
      omega
    · subst q
      rcases Nat.lt_trichotomy j k with y | y | y
      · have := cntE_lt (f := σ 20) (v := nI r) y er
        omega
      · exact y
      · have := cntE_lt (f := σ 20) (v := nI r) y er'
        omega
    · have := con_ap (kd := σ 8) (td := σ 9) (lg := σ 24) (cI := fun r : Nat => cntE (σ 14) (nI r) ni) (cC := fun r : Nat => cntE (σ 20) (nI r) nc) (p' := cntE (σ 20) (nI r) j) r5' hc' q
      omega
/-- an island more -/
theorem BB_addI {σ τ : St} {m ni nc r l : Nat} (h : BB σ τ m ni nc) (hn : ni < 12) (hr : r < m) (h5 : σ 8 r = 5) (h8 : l < 8) : BB (addK_i σ ni (nI l) r) (si (sa (sa τ 8 ni (nI l)) 9 ni (nI r)) 48 (nI (ni + 1))) m (ni + 1) nc := by
  obtain ⟨hp, hq, hit, hre, hsi, hsc, h48, h49, hki, hkc, hg, hlb, hlB⟩ := h
  have hm := hp.1
  generalize hS : addK_i σ ni (nI l) r = s
  generalize hT : si (sa (sa τ 8 ni (nI l)) 9 ni (nI r)) 48 (nI (ni + 1)) = t
  have hs : ∀ j, ¬ (j = 13 ∨ j = 14 ∨ j = 15 ∨ j = 16 ∨ j = 56) → s j = σ j := fun j h => by
    rw [← hS]
    unfold addK_i
    rw [si_ne (by omega), sa_ne (by omega), sa_ne (by omega), sa_ne (by omega), sa_ne (by omega)]
  have ht : ∀ j, ¬ (j = 8 ∨ j = 9 ∨ j = 48) → t j = τ j := fun j h => by rw [← hT, si_ne (by omega), sa_ne (by omega), sa_ne (by omega)]
  have s13 : s 13 = upd (σ 13) ni (nI l) := by rw [← hS]; unfold addK_i; rw [si_ne (by decide), sa_ne (by decide), sa_ne (by decide), sa_ne (by decide), sa_at]
  have s14 : s 14 = upd (σ 14) ni (nI r) := by rw [← hS]; unfold addK_i; rw [si_ne (by decide), sa_ne (by decide), sa_ne (by decide), sa_at, sa_ne (by decide)]
  have s15 : s 15 = upd (σ 15) ni (σ 16 r) := by rw [← hS]; unfold addK_i; rw [si_ne (by decide), sa_ne (by decide), sa_at, sa_ne (by decide), sa_ne (by decide)]
  have s16 : s 16 = upd (σ 16) r (σ 16 r + 1) := by rw [← hS]; unfold addK_i; rw [si_ne (by decide), sa_at, sa_ne (by decide), sa_ne (by decide), sa_ne (by decide)]
  have s56 : s 56 0 = nI (ni + 1) := by rw [← hS]; unfold addK_i; rw [si_at]
  have t8 : t 8 = upd (τ 8) ni (nI l) := by rw [← hT, si_ne (by decide), sa_ne (by decide), sa_at]
  have t9 : t 9 = upd (τ 9) ni (nI r) := by rw [← hT, si_ne (by decide), sa_at, sa_ne (by decide)]
  have t48 : t 48 0 = nI (ni + 1) := by rw [← hT, si_at]
  clear hS hT
  refine ⟨wfP_fr hp (hs 48 (by decide)) (hs 8 (by decide)) (hs 9 (by decide)), ⟨hq.1, by rw [ht 41 (by decide)]; exact hq.2.1, fun j hj => by rw [ht 2 (by decide), ht 3 (by decide)]; exact hq.2.2 j hj⟩, fun j hj => by rw [hs 8 (by decide), hs 9 (by decide), hs 24 (by decide), ht 2 (by decide), ht 3 (by decide), ht 7 (by decide)]; exact hit j hj, fun j hj => by rw [hs 10 (by decide), ht 4 (by decide)]; exact hre j hj, ⟨by omega, s56, fun k hk => ?_⟩, Sk_c_fr hsc (hs 57 (by decide)) (hs 20 (by decide)), t48, by rw [ht 49 (by decide)]; exact h49, fun k hk => ?_, fun k hk => by rw [hs 19 (by decide), hs 20 (by decide), hs 21 (by decide), hs 8 (by decide), ht 10 (by decide), ht 11 (by decide)]; exact hkc k hk, fun r' hr' => ?_, fun l hl => by rw [hs 27 (by decide), ht 17 (by decide)]; exact hlb l hl, by rw [hs 27 (by decide)]; exact hlB⟩
  · rw [s14]
    by_cases q : k = ni
    · subst q; rw [pk_us]; exact ⟨r, by omega, rfl⟩
    · rw [pk_un q]; exact hsi.2.2 k (by omega)
  · rw [s13, s14, s15, t8, t9, hs 8 (by decide)]
    by_cases q : k = ni
    · subst q
      rw [pk_us, pk_us, pk_us, pk_us, pk_us, cntE_upd (Nat.le_refl _)]
      exact ⟨rfl, rfl, ⟨l, h8, rfl⟩, ⟨r, hr, h5, rfl⟩, (hg r (by omega)).1⟩
    · rw [pk_un q, pk_un q, pk_un q, pk_un q, pk_un q, cntE_upd (by omega)]
      exact hki k (by omega)
  · rw [s16, s14, hs 22 (by decide), hs 20 (by decide), cntE_upd1]
    refine ⟨?_, (hg r' hr').2⟩
    by_cases q : r' = r
    · subst q; rw [pk_us, if_pos rfl, (hg r' hr').1, nI_1]
    · rw [pk_un q, if_neg (fun e => q ((nI_eq (a := r) (b := r') (by omega) (by omega)).mp e).symm), (hg r' hr').1]; rfl
