/-! The digest: both mix the same numbers in the same order. -/
def dgS (f : Nat → Int32) (h : Int64) (i : Nat) : Nat → Int64
  | 0 => h
  | d + 1 => dgS f (31 * h + Int32.toInt64 (f i)) (i + 1) d
theorem dgS_add {f : Nat → Int32} : ∀ {a b i : Nat} {h : Int64}, dgS f h i (a + b) = dgS f (dgS f h i a) (i + a) b
  | 0, b, i, h => by rw [Nat.zero_add]; rfl
  | a + 1, b, i, h => by
    rw [show a + 1 + b = (a + b) + 1 from by omega]
    show dgS f (31 * h + Int32.toInt64 (f i)) (i + 1) (a + b) = dgS f (dgS f (31 * h + Int32.toInt64 (f i)) (i + 1) a) (i + (a + 1)) b
    rw [dgS_add, show i + 1 + a = i + (a + 1) from by omega]
theorem dgS_congr {f g : Nat → Int32} : ∀ {d i : Nat} {h : Int64}, (∀ j, i ≤ j → j < i + d → f j = g j) → dgS f h i d = dgS g h i d
  | 0, _, _, _ => rfl
  | d + 1, i, h, e => by
    show dgS f (31 * h + Int32.toInt64 (f i)) (i + 1) d = dgS g (31 * h + Int32.toInt64 (g i)) (i + 1) d
    rw [e i (Nat.le_refl _) (by omega), dgS_congr (fun j h1 h2 => e j (by omega) (by omega))]
theorem mix_eq (τ : St) (h x : Int64) : fX6_mix τ h x = some (31 * h + x) := rfl
theorem dg_digestItems_in {σ : St} {f : Nat → Int32} {i : Nat} (hq : ∀ j, j < 6 → fX5_item σ (nI i) (nI j) = some (f (6 * i + j))) (k5 : Int64 → Int32 → Option Int64) : ∀ (d j N : Nat) (h : Int64), j + d = 6 → d < N → fX5_digestItems_l20 σ k5 N h (nI i) (nI j) = k5 (dgS f h (6 * i + j) d) (nI (i + 1)) := by
  intro d
  induction d with
  | zero =>
    intro j N h hj hN
    obtain ⟨N, rfl⟩ : ∃ k, N = k + 1 := ⟨N - 1, by omega⟩
    have e : j = 6 := by omega
    subst e
    show fX5_digestItems_s20 σ k5 (fX5_digestItems_l20 σ k5 N) h (nI i) (nI 6) = _
    unfold fX5_digestItems_s20
    rw [if_pos (show (6 : Int32) ≤ nI 6 from by decide), nI_1]
    rfl
  | succ d ih =>
    intro j N h hj hN
    obtain ⟨N, rfl⟩ : ∃ k, N = k + 1 := ⟨N - 1, by omega⟩
    show fX5_digestItems_s20 σ k5 (fX5_digestItems_l20 σ k5 N) h (nI i) (nI j) = _
    unfold fX5_digestItems_s20
    rw [if_neg (show ¬ (6 : Int32) ≤ nI j from nI_ge (a := j) (b := 6) (by omega) (by omega)), hq j (by omega), bd1_s, nI_1, ih (j + 1) N _ (by omega) (by omega)]
    rfl
theorem dg_digestItems {σ : St} {f : Nat → Int32} {m : Nat} (hm : m ≤ 24) (hs : fX0_size_p σ = some (nI m)) (hq : ∀ i j, i < m → j < 6 → fX5_item σ (nI i) (nI j) = some (f (6 * i + j))) : ∀ (d i N : Nat) (h : Int64), i + d = m → d < N → fX5_digestItems_l5 σ N h (nI i) = some (dgS f h (6 * i) (6 * d)) := by
  intro d
  induction d with
  | zero =>
    intro i N h hi hN
    obtain ⟨N, rfl⟩ : ∃ k, N = k + 1 := ⟨N - 1, by omega⟩
    have e : i = m := by omega
    subst e
    show fX5_digestItems_s5 σ (fX5_digestItems_l5 σ N) h (nI i) = _
    unfold fX5_digestItems_s5
    rw [hs, bd1_s, if_pos (Int32.le_refl _)]
    rfl
  | succ d ih =>
    intro i N h hi hN
    obtain ⟨N, rfl⟩ : ∃ k, N = k + 1 := ⟨N - 1, by omega⟩
    have hi' : i < m := by omega
    show fX5_digestItems_s5 σ (fX5_digestItems_l5 σ N) h (nI i) = _
    unfold fX5_digestItems_s5
    rw [hs, bd1_s, if_neg (nI_ge hi' (by omega))]
    refine (dg_digestItems_in (f := f) (i := i) (fun j hj => hq i j hi' hj) (fX5_digestItems_l5 σ N) 6 0 FU h (by omega) (by unfold FU; omega)).trans ?_
    rw [ih (i + 1) N _ (by omega) (by omega), show 6 * (d + 1) = 6 + 6 * d from by omega, dgS_add, show 6 * (i + 1) = 6 * i + 6 from by omega]
    rfl
theorem dg_digestIslands_in {σ : St} {f : Nat → Int32} {i : Nat} (hq : ∀ j, j < 4 → fX5_island σ (nI i) (nI j) = some (f (4 * i + j))) (k5 : Int64 → Int32 → Option Int64) : ∀ (d j N : Nat) (h : Int64), j + d = 4 → d < N → fX5_digestIslands_l23 σ k5 N h (nI i) (nI j) = k5 (dgS f h (4 * i + j) d) (nI (i + 1)) := by
  intro d
  induction d with
  | zero =>
    intro j N h hj hN
    obtain ⟨N, rfl⟩ : ∃ k, N = k + 1 := ⟨N - 1, by omega⟩
    have e : j = 4 := by omega
    subst e
    show fX5_digestIslands_s23 σ k5 (fX5_digestIslands_l23 σ k5 N) h (nI i) (nI 4) = _
    unfold fX5_digestIslands_s23
    rw [if_pos (show (4 : Int32) ≤ nI 4 from by decide), nI_1]
    rfl
  | succ d ih =>
    intro j N h hj hN
    obtain ⟨N, rfl⟩ : ∃ k, N = k + 1 := ⟨N - 1, by omega⟩
    show fX5_digestIslands_s23 σ k5 (fX5_digestIslands_l23 σ k5 N) h (nI i) (nI j) = _
    unfold fX5_digestIslands_s23
    rw [if_neg (show ¬ (4 : Int32) ≤ nI j from nI_ge (a := j) (b := 4) (by omega) (by omega)), hq j (by omega), bd1_s, nI_1, ih (j + 1) N _ (by omega) (by omega)]
    rfl
theorem dg_digestIslands {σ : St} {f : Nat → Int32} {m : Nat} (hm : m ≤ 24) (hs : fX4_size_i σ = some (nI m)) (hq : ∀ i j, i < m → j < 4 → fX5_island σ (nI i) (nI j) = some (f (4 * i + j))) : ∀ (d i N : Nat) (h : Int64), i + d = m → d < N → fX5_digestIslands_l5 σ N h (nI i) = some (dgS f h (4 * i) (4 * d)) := by
  intro d
  induction d with
  | zero =>
    intro i N h hi hN
    obtain ⟨N, rfl⟩ : ∃ k, N = k + 1 := ⟨N - 1, by omega⟩
    have e : i = m := by omega
    subst e
    show fX5_digestIslands_s5 σ (fX5_digestIslands_l5 σ N) h (nI i) = _
    unfold fX5_digestIslands_s5
    rw [hs, bd1_s, if_pos (Int32.le_refl _)]
    rfl
  | succ d ih =>
    intro i N h hi hN
    obtain ⟨N, rfl⟩ : ∃ k, N = k + 1 := ⟨N - 1, by omega⟩
    have hi' : i < m := by omega
    show fX5_digestIslands_s5 σ (fX5_digestIslands_l5 σ N) h (nI i) = _
    unfold fX5_digestIslands_s5
    rw [hs, bd1_s, if_neg (nI_ge hi' (by omega))]
    refine (dg_digestIslands_in (f := f) (i := i) (fun j hj => hq i j hi' hj) (fX5_digestIslands_l5 σ N) 4 0 FU h (by omega) (by unfold FU; omega)).trans ?_
    rw [ih (i + 1) N _ (by omega) (by omega), show 4 * (d + 1) = 4 + 4 * d from by omega, dgS_add, show 4 * (i + 1) = 4 * i + 4 from by omega]
    rfl
theorem dg_digestConstants_in {σ : St} {f : Nat → Int32} {i : Nat} (hq : ∀ j, j < 4 → fX5_constant σ (nI i) (nI j) = some (f (4 * i + j))) (k5 : Int64 → Int32 → Option Int64) : ∀ (d j N : Nat) (h : Int64), j + d = 4 → d < N → fX5_digestConstants_l23 σ k5 N h (nI i) (nI j) = k5 (dgS f h (4 * i + j) d) (nI (i + 1)) := by
  intro d
  induction d with
  | zero =>
    intro j N h hj hN
    obtain ⟨N, rfl⟩ : ∃ k, N = k + 1 := ⟨N - 1, by omega⟩
    have e : j = 4 := by omega
    subst e
    show fX5_digestConstants_s23 σ k5 (fX5_digestConstants_l23 σ k5 N) h (nI i) (nI 4) = _
    unfold fX5_digestConstants_s23
    rw [if_pos (show (4 : Int32) ≤ nI 4 from by decide), nI_1]
    rfl
  | succ d ih =>
    intro j N h hj hN
    obtain ⟨N, rfl⟩ : ∃ k, N = k + 1 := ⟨N - 1, by omega⟩
    show fX5_digestConstants_s23 σ k5 (fX5_digestConstants_l23 σ k5 N) h (nI i) (nI j) = _
    unfold fX5_digestConstants_s23
    rw [if_neg (show ¬ (4 : Int32) ≤ nI j from nI_ge (a := j) (b := 4) (by omega) (by omega)), hq j (by omega), bd1_s, nI_1, ih (j + 1) N _ (by omega) (by omega)]
    rfl
theorem dg_digestConstants {σ : St} {f : Nat → Int32} {m : Nat} (hm : m ≤ 24) (hs : fX4_size_c σ = some (nI m)) (hq : ∀ i j, i < m → j < 4 → fX5_constant σ (nI i) (nI j) = some (f (4 * i + j))) : ∀ (d i N : Nat) (h : Int64), i + d = m → d < N → fX5_digestConstants_l5 σ N h (nI i) = some (dgS f h (4 * i) (4 * d)) := by
  intro d
  induction d with
  | zero =>
    intro i N h hi hN
    obtain ⟨N, rfl⟩ : ∃ k, N = k + 1 := ⟨N - 1, by omega⟩
    have e : i = m := by omega
    subst e
    show fX5_digestConstants_s5 σ (fX5_digestConstants_l5 σ N) h (nI i) = _
    unfold fX5_digestConstants_s5
    rw [hs, bd1_s, if_pos (Int32.le_refl _)]
    rfl
  | succ d ih =>
    intro i N h hi hN
    obtain ⟨N, rfl⟩ : ∃ k, N = k + 1 := ⟨N - 1, by omega⟩
    have hi' : i < m := by omega
    show fX5_digestConstants_s5 σ (fX5_digestConstants_l5 σ N) h (nI i) = _
    unfold fX5_digestConstants_s5
    rw [hs, bd1_s, if_neg (nI_ge hi' (by omega))]
    refine (dg_digestConstants_in (f := f) (i := i) (fun j hj => hq i j hi' hj) (fX5_digestConstants_l5 σ N) 4 0 FU h (by omega) (by unfold FU; omega)).trans ?_
    rw [ih (i + 1) N _ (by omega) (by omega), show 4 * (d + 1) = 4 + 4 * d from by omega, dgS_add, show 4 * (i + 1) = 4 * i + 4 from by omega]
    rfl
theorem dm_it {τ : St} {f : Nat → Int32} {m : Nat} (hm : m ≤ 24) (hs : τ 41 0 = nI m) (hq : ∀ i j, i < m → j < 6 → fX6_itemNow τ (nI i) (nI j) = some (f (6 * i + j))) : ∀ (d y N : Nat) (h : Int64), y + d = 6 * m → d < N → fX6_digest_l9 τ N h (nI y) = fX6_digest_l45 τ FU (dgS f h y d) 0 := by
  intro d
  induction d with
  | zero =>
    intro y N h hy hN
    obtain ⟨N, rfl⟩ : ∃ k, N = k + 1 := ⟨N - 1, by omega⟩
    show fX6_digest_s9 τ (fX6_digest_l9 τ N) h (nI y) = _
    unfold fX6_digest_s9
    rw [hs, show (6 : Int32) = nI 6 from rfl, pk_mul, if_pos (nI_le (by omega) (by omega))]
    rfl
  | succ d ih =>
    intro y N h hy hN
    obtain ⟨N, rfl⟩ : ∃ k, N = k + 1 := ⟨N - 1, by omega⟩
    have hy' : y < 6 * m := by omega
    show fX6_digest_s9 τ (fX6_digest_l9 τ N) h (nI y) = _
    unfold fX6_digest_s9
    rw [hs, show (6 : Int32) = nI 6 from rfl, pk_mul, if_neg (nI_ge hy' (by omega)), pk_rem (a := y) (d := 6) (by omega) (by omega) (by omega), pk_div (a := y) (d := 6) (by omega) (by omega) (by omega), hq (y / 6) (y % 6) (by omega) (by omega), bd1_s, mix_eq, bd1_s, nI_1, Nat.div_add_mod, ih (y + 1) N _ (by omega) (by omega)]
    rfl
theorem dm_is {τ : St} {f : Nat → Int32} {m : Nat} (hm : m ≤ 24) (hs : τ 48 0 = nI m) (hq : ∀ i j, i < m → j < 4 → fX6_islandNow τ (nI i) (nI j) = some (f (4 * i + j))) : ∀ (d y N : Nat) (h : Int64), y + d = 4 * m → d < N → fX6_digest_l45 τ N h (nI y) = fX6_digest_l78 τ FU (dgS f h y d) 0 := by
  intro d
  induction d with
  | zero =>
    intro y N h hy hN
    obtain ⟨N, rfl⟩ : ∃ k, N = k + 1 := ⟨N - 1, by omega⟩
    show fX6_digest_s45 τ (fX6_digest_l45 τ N) h (nI y) = _
    unfold fX6_digest_s45
    rw [hs, show (4 : Int32) = nI 4 from rfl, pk_mul, if_pos (nI_le (by omega) (by omega))]
    rfl
  | succ d ih =>
    intro y N h hy hN
    obtain ⟨N, rfl⟩ : ∃ k, N = k + 1 := ⟨N - 1, by omega⟩
    have hy' : y < 4 * m := by omega
    show fX6_digest_s45 τ (fX6_digest_l45 τ N) h (nI y) = _
    unfold fX6_digest_s45
    rw [hs, show (4 : Int32) = nI 4 from rfl, pk_mul, if_neg (nI_ge hy' (by omega)), pk_rem (a := y) (d := 4) (by omega) (by omega) (by omega), pk_div (a := y) (d := 4) (by omega) (by omega) (by omega), hq (y / 4) (y % 4) (by omega) (by omega), bd1_s, mix_eq, bd1_s, nI_1, Nat.div_add_mod, ih (y + 1) N _ (by omega) (by omega)]
    rfl
theorem dm_co {τ : St} {f : Nat → Int32} {m : Nat} (hm : m ≤ 24) (hs : τ 49 0 = nI m) (hq : ∀ i j, i < m → j < 4 → fX6_constantNow τ (nI i) (nI j) = some (f (4 * i + j))) : ∀ (d y N : Nat) (h : Int64), y + d = 4 * m → d < N → fX6_digest_l78 τ N h (nI y) = fX6_digest_l111 τ FU (dgS f h y d) 0 := by
  intro d
  induction d with
  | zero =>
    intro y N h hy hN
    obtain ⟨N, rfl⟩ : ∃ k, N = k + 1 := ⟨N - 1, by omega⟩
    show fX6_digest_s78 τ (fX6_digest_l78 τ N) h (nI y) = _
    unfold fX6_digest_s78
    rw [hs, show (4 : Int32) = nI 4 from rfl, pk_mul, if_pos (nI_le (by omega) (by omega))]
    rfl
  | succ d ih =>
    intro y N h hy hN
    obtain ⟨N, rfl⟩ : ∃ k, N = k + 1 := ⟨N - 1, by omega⟩
    have hy' : y < 4 * m := by omega
    show fX6_digest_s78 τ (fX6_digest_l78 τ N) h (nI y) = _
    unfold fX6_digest_s78
    rw [hs, show (4 : Int32) = nI 4 from rfl, pk_mul, if_neg (nI_ge hy' (by omega)), pk_rem (a := y) (d := 4) (by omega) (by omega) (by omega), pk_div (a := y) (d := 4) (by omega) (by omega) (by omega), hq (y / 4) (y % 4) (by omega) (by omega), bd1_s, mix_eq, bd1_s, nI_1, Nat.div_add_mod, ih (y + 1) N _ (by omega) (by omega)]
    rfl
theorem dg_pl {σ : St} {f : Nat → Int32} (hq : ∀ j, j < 9 → fX5_placed σ (nI j) = some (f j)) : ∀ (d j N : Nat) (h : Int64), j + d = 9 → d < N → fX5_digest_l22 σ N h (nI j) = fX5_digest_l49 σ FU (dgS f h j d) 0 := by
  intro d
  induction d with
  | zero =>
    intro j N h hj hN
    obtain ⟨N, rfl⟩ : ∃ k, N = k + 1 := ⟨N - 1, by omega⟩
    have e : j = 9 := by omega
    subst e
    show fX5_digest_s22 σ (fX5_digest_l22 σ N) h (nI 9) = _
    unfold fX5_digest_s22
    rw [if_pos (show (9 : Int32) ≤ nI 9 from by decide)]
    rfl
  | succ d ih =>
    intro j N h hj hN
    obtain ⟨N, rfl⟩ : ∃ k, N = k + 1 := ⟨N - 1, by omega⟩
    show fX5_digest_s22 σ (fX5_digest_l22 σ N) h (nI j) = _
    unfold fX5_digest_s22
    rw [if_neg (show ¬ (9 : Int32) ≤ nI j from nI_ge (a := j) (b := 9) (by omega) (by omega)), hq j (by omega), bd1_s, nI_1, ih (j + 1) N _ (by omega) (by omega)]
    rfl
theorem dg_ct {σ : St} {f : Nat → Int32} (hq : ∀ j, j < 8 → fX5_count σ (nI j) = some (f j)) : ∀ (d j N : Nat) (h : Int64), j + d = 8 → d < N → fX5_digest_l84 σ N h (nI j) = some (dgS f h j d) := by
  intro d
  induction d with
  | zero =>
    intro j N h hj hN
    obtain ⟨N, rfl⟩ : ∃ k, N = k + 1 := ⟨N - 1, by omega⟩
    have e : j = 8 := by omega
    subst e
    show fX5_digest_s84 σ (fX5_digest_l84 σ N) h (nI 8) = _
    unfold fX5_digest_s84
    rw [if_pos (show (8 : Int32) ≤ nI 8 from by decide)]
    rfl
  | succ d ih =>
    intro j N h hj hN
    obtain ⟨N, rfl⟩ : ∃ k, N = k + 1 := ⟨N - 1, by omega⟩
    show fX5_digest_s84 σ (fX5_digest_l84 σ N) h (nI j) = _
    unfold fX5_digest_s84
    rw [if_neg (show ¬ (8 : Int32) ≤ nI j from nI_ge (a := j) (b := 8) (by omega) (by omega)), hq j (by omega), bd1_s, nI_1, ih (j + 1) N _ (by omega) (by omega)]
    rfl
theorem dm_pl {τ : St} {f : Nat → Int32} (hq : ∀ j, j < 9 → fX6_placedNow τ (nI j) = some (f j)) : ∀ (d j N : Nat) (h : Int64), j + d = 9 → d < N → fX6_digest_l111 τ N h (nI j) = fX6_digest_l135 τ FU (dgS f h j d) 0 := by
  intro d
  induction d with
  | zero =>
    intro j N h hj hN
    obtain ⟨N, rfl⟩ : ∃ k, N = k + 1 := ⟨N - 1, by omega⟩
    have e : j = 9 := by omega
    subst e
    show fX6_digest_s111 τ (fX6_digest_l111 τ N) h (nI 9) = _
    unfold fX6_digest_s111
    rw [if_pos (show (9 : Int32) ≤ nI 9 from by decide)]
    rfl
  | succ d ih =>
    intro j N h hj hN
    obtain ⟨N, rfl⟩ : ∃ k, N = k + 1 := ⟨N - 1, by omega⟩
    show fX6_digest_s111 τ (fX6_digest_l111 τ N) h (nI j) = _
    unfold fX6_digest_s111
    rw [if_neg (show ¬ (9 : Int32) ≤ nI j from nI_ge (a := j) (b := 9) (by omega) (by omega)), hq j (by omega), bd1_s, mix_eq, bd1_s, nI_1, ih (j + 1) N _ (by omega) (by omega)]
    rfl
theorem dm_ct {τ : St} {f : Nat → Int32} (hq : ∀ j, j < 8 → fX6_howMany τ (nI j) = some (f j)) : ∀ (d j N : Nat) (h : Int64), j + d = 8 → d < N → fX6_digest_l162 τ N h (nI j) = some (dgS f h j d, dgS f h j d) := by
  intro d
  induction d with
  | zero =>
    intro j N h hj hN
    obtain ⟨N, rfl⟩ : ∃ k, N = k + 1 := ⟨N - 1, by omega⟩
    have e : j = 8 := by omega
    subst e
    show fX6_digest_s162 τ (fX6_digest_l162 τ N) h (nI 8) = _
    unfold fX6_digest_s162
    rw [if_pos (show (8 : Int32) ≤ nI 8 from by decide)]
    rfl
  | succ d ih =>
    intro j N h hj hN
    obtain ⟨N, rfl⟩ : ∃ k, N = k + 1 := ⟨N - 1, by omega⟩
    show fX6_digest_s162 τ (fX6_digest_l162 τ N) h (nI j) = _
    unfold fX6_digest_s162
    rw [if_neg (show ¬ (8 : Int32) ≤ nI j from nI_ge (a := j) (b := 8) (by omega) (by omega)), hq j (by omega), bd1_s, mix_eq, bd1_s, nI_1, ih (j + 1) N _ (by omega) (by omega)]
    rfl
theorem dg_le {σ : St} {n : Nat} (h50 : n ≤ 50) (hs : σ 42 0 = nI n) : ∀ (d i N : Nat) (h : Int64), i + d = n → d < N → fX5_digest_l49 σ N h (nI i) = fX5_digest_l84 σ FU (dgS (σ 2) h i d) 0 := by
  have hlen : fX1_length σ = some (nI n) := by unfold fX1_length; rw [hs]
  intro d
  induction d with
  | zero =>
    intro i N h hi hN
    obtain ⟨N, rfl⟩ : ∃ k, N = k + 1 := ⟨N - 1, by omega⟩
    have e : i = n := by omega
    subst e
    show fX5_digest_s49 σ (fX5_digest_l49 σ N) h (nI i) = _
    unfold fX5_digest_s49
    rw [hlen, bd1_s, if_pos (Int32.le_refl _)]
    rfl
  | succ d ih =>
    intro i N h hi hN
    obtain ⟨N, rfl⟩ : ∃ k, N = k + 1 := ⟨N - 1, by omega⟩
    have hi' : i < n := by omega
    show fX5_digest_s49 σ (fX5_digest_l49 σ N) h (nI i) = _
    unfold fX5_digest_s49
    rw [hlen, bd1_s, if_neg (nI_ge hi' (by omega)), letter_at h50 hs hi', bd1_s, nI_1, ih (i + 1) N _ (by omega) (by omega)]
    rfl
theorem dm_le {τ : St} {n : Nat} (h50 : n ≤ 50) (hs : τ 40 0 = nI n) : ∀ (d i N : Nat) (h : Int64), i + d = n → d < N → fX6_digest_l135 τ N h (nI i) = fX6_digest_l162 τ FU (dgS (τ 1) h i d) 0 := by
  intro d
  induction d with
  | zero =>
    intro i N h hi hN
    obtain ⟨N, rfl⟩ : ∃ k, N = k + 1 := ⟨N - 1, by omega⟩
    have e : i = n := by omega
    subst e
    show fX6_digest_s135 τ (fX6_digest_l135 τ N) h (nI i) = _
    unfold fX6_digest_s135
    rw [hs, if_pos (Int32.le_refl _)]
    rfl
  | succ d ih =>
    intro i N h hi hN
    obtain ⟨N, rfl⟩ : ∃ k, N = k + 1 := ⟨N - 1, by omega⟩
    have hi' : i < n := by omega
    show fX6_digest_s135 τ (fX6_digest_l135 τ N) h (nI i) = _
    unfold fX6_digest_s135
    rw [hs, if_neg (nI_ge hi' (by omega)), ck_t (ckN (i := i) (N := 50) (by omega) (by omega)), nI_clamp (by omega), mix_eq, bd1_s, nI_1, ih (i + 1) N _ (by omega) (by omega)]
    rfl
def fIt (σ : St) (y : Nat) : Int32 := (fX5_item σ (nI (y / 6)) (nI (y % 6))).getD 0
def fIs (σ : St) (y : Nat) : Int32 := (fX5_island σ (nI (y / 4)) (nI (y % 4))).getD 0
def fCo (σ : St) (y : Nat) : Int32 := (fX5_constant σ (nI (y / 4)) (nI (y % 4))).getD 0
def fPl (σ : St) (y : Nat) : Int32 := (fX5_placed σ (nI y)).getD 0
def fCt (σ : St) (y : Nat) : Int32 := (fX5_count σ (nI y)).getD 0
theorem eq_digest {σ τ : St} (h : Inv σ τ) (hh : Int64) : ∃ r, fX5_digest σ = some r ∧ fX6_digest τ hh = some (r, r) := by
  obtain ⟨n, m, ni, nc, hg, hr, hp, h40, h41⟩ := h
  obtain ⟨h50, g42, g40, gl⟩ := id hg
  obtain ⟨h24, hs, ht, _⟩ := id hr
  obtain ⟨⟨⟨_, _, _, _, hsi, hsc, h48, h49, _⟩, _⟩, _⟩ := id hp
  have hni := hsi.1
  have hnc := hsc.1
  have qI : ∀ i j, i < m → j < 6 → fX5_item σ (nI i) (nI j) = some (fIt σ (6 * i + j)) ∧ fX6_itemNow τ (nI i) (nI j) = some (fIt σ (6 * i + j)) := by
    intro i j hi hj
    obtain ⟨r, e1, e2⟩ := qi_item hr hp hi hj
    have e : fIt σ (6 * i + j) = r := by
      unfold fIt
      rw [show (6 * i + j) / 6 = i from by omega, show (6 * i + j) % 6 = j from by omega, e1]
      rfl
    rw [e]; exact ⟨e1, e2⟩
  have qS : ∀ i j, i < ni → j < 4 → fX5_island σ (nI i) (nI j) = some (fIs σ (4 * i + j)) ∧ fX6_islandNow τ (nI i) (nI j) = some (fIs σ (4 * i + j)) := by
    intro i j hi hj
    obtain ⟨r, e1, e2⟩ := qi_island hp hi hj
    have e : fIs σ (4 * i + j) = r := by
      unfold fIs
      rw [show (4 * i + j) / 4 = i from by omega, show (4 * i + j) % 4 = j from by omega, e1]
      rfl
    rw [e]; exact ⟨e1, e2⟩
  have qC : ∀ i j, i < nc → j < 4 → fX5_constant σ (nI i) (nI j) = some (fCo σ (4 * i + j)) ∧ fX6_constantNow τ (nI i) (nI j) = some (fCo σ (4 * i + j)) := by
    intro i j hi hj
    obtain ⟨r, e1, e2⟩ := qi_constant hp hi hj
    have e : fCo σ (4 * i + j) = r := by
      unfold fCo
      rw [show (4 * i + j) / 4 = i from by omega, show (4 * i + j) % 4 = j from by omega, e1]
      rfl
    rw [e]; exact ⟨e1, e2⟩
  have qP : ∀ j, j < 9 → fX5_placed σ (nI j) = some (fPl σ j) ∧ fX6_placedNow τ (nI j) = some (fPl σ j) := by
    intro j hj
    obtain ⟨r, e1, e2⟩ := qi_placed hp hj
    have e : fPl σ j = r := by unfold fPl; rw [e1]; rfl
    rw [e]; exact ⟨e1, e2⟩
  have qN : ∀ j, j < 8 → fX5_count σ (nI j) = some (fCt σ j) ∧ fX6_howMany τ (nI j) = some (fCt σ j) := by
    intro j hj
    obtain ⟨r, e1, e2⟩ := qi_count hg hr hp h40 h41 hj
    have e : fCt σ j = r := by unfold fCt; rw [e1]; rfl
    rw [e]; exact ⟨e1, e2⟩
  have eL : ∀ x : Int64, dgS (σ 2) x 0 n = dgS (τ 1) x 0 n := fun x => dgS_congr (fun j _ h2 => (gl j (by omega)).1)
  refine ⟨dgS (fCt σ) (dgS (τ 1) (dgS (fPl σ) (dgS (fCo σ) (dgS (fIs σ) (dgS (fIt σ) 1637 0 (6 * m)) 0 (4 * ni)) 0 (4 * nc)) 0 9) 0 n) 0 8, ?_, ?_⟩
  · unfold fX5_digest fX5_digestItems fX5_digestIslands fX5_digestConstants
    rw [show fX5_digestItems_l5 σ FU 1637 0 = some (dgS (fIt σ) 1637 0 (6 * m)) from dg_digestItems (f := fIt σ) h24 (by unfold fX0_size_p; rw [hs]) (fun i j hi hj => (qI i j hi hj).1) m 0 FU 1637 (by omega) (by unfold FU; omega), bd1_s]
    rw [show fX5_digestIslands_l5 σ FU (dgS (fIt σ) 1637 0 (6 * m)) 0 = some (dgS (fIs σ) (dgS (fIt σ) 1637 0 (6 * m)) 0 (4 * ni)) from dg_digestIslands (f := fIs σ) (by omega) (ssize_i hsi) (fun i j hi hj => (qS i j hi hj).1) ni 0 FU _ (by omega) (by unfold FU; omega), bd1_s]
    rw [show fX5_digestConstants_l5 σ FU (dgS (fIs σ) (dgS (fIt σ) 1637 0 (6 * m)) 0 (4 * ni)) 0 = some (dgS (fCo σ) (dgS (fIs σ) (dgS (fIt σ) 1637 0 (6 * m)) 0 (4 * ni)) 0 (4 * nc)) from dg_digestConstants (f := fCo σ) (by omega) (ssize_c hsc) (fun i j hi hj => (qC i j hi hj).1) nc 0 FU _ (by omega) (by unfold FU; omega), bd1_s]
    refine (dg_pl (f := fPl σ) (fun j hj => (qP j hj).1) 9 0 FU _ (by omega) (by unfold FU; omega)).trans ?_
    refine (dg_le h50 g42 n 0 FU _ (by omega) (by unfold FU; omega)).trans ?_
    rw [eL]
    exact dg_ct (f := fCt σ) (fun j hj => (qN j hj).1) 8 0 FU _ (by omega) (by unfold FU; omega)
  · unfold fX6_digest
    refine (dm_it (f := fIt σ) h24 ht (fun i j hi hj => (qI i j hi hj).2) (6 * m) 0 FU _ (by omega) (by unfold FU; omega)).trans ?_
    refine (dm_is (f := fIs σ) (m := ni) (by omega) h48 (fun i j hi hj => (qS i j hi hj).2) (4 * ni) 0 FU _ (by omega) (by unfold FU; omega)).trans ?_
    refine (dm_co (f := fCo σ) (m := nc) (by omega) h49 (fun i j hi hj => (qC i j hi hj).2) (4 * nc) 0 FU _ (by omega) (by unfold FU; omega)).trans ?_
    refine (dm_pl (f := fPl σ) (fun j hj => (qP j hj).2) 9 0 FU _ (by omega) (by unfold FU; omega)).trans ?_
    refine (dm_le h50 g40 n 0 FU _ (by omega) (by unfold FU; omega)).trans ?_
    exact dm_ct (f := fCt σ) (fun j hj => (qN j hj).2) 8 0 FU _ (by omega) (by unfold FU; omega)
