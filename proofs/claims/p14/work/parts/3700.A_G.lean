theorem it1 {A0 R : Type} {F : (A0 → Option R) → A0 → Option R} {z : A0 → Option R} (I : A0 → Prop) (μ : A0 → Nat) (P : A0 → R → Prop) (hs : ∀ (k : A0 → Option R) (x0 : A0), I x0 → (∀ (y0 : A0), I y0 → μ y0 < μ x0 → ∃ r, k y0 = some r ∧ P y0 r) → ∃ r, F k x0 = some r ∧ P x0 r) : ∀ (n : Nat) (x0 : A0), I x0 → μ x0 < n → ∃ r, itr F z n x0 = some r ∧ P x0 r := by
  intro n
  induction n with
  | zero => intro x0 _ h; exact absurd h (Nat.not_lt_zero _)
  | succ n ih => intro x0 hI hm; exact hs (itr F z n) x0 hI (fun y0 hJ hl => ih y0 hJ (by omega))
theorem it2 {A0 A1 R : Type} {F : (A0 → A1 → Option R) → A0 → A1 → Option R} {z : A0 → A1 → Option R} (I : A0 → A1 → Prop) (μ : A0 → A1 → Nat) (P : A0 → A1 → R → Prop) (hs : ∀ (k : A0 → A1 → Option R) (x0 : A0) (x1 : A1), I x0 x1 → (∀ (y0 : A0) (y1 : A1), I y0 y1 → μ y0 y1 < μ x0 x1 → ∃ r, k y0 y1 = some r ∧ P y0 y1 r) → ∃ r, F k x0 x1 = some r ∧ P x0 x1 r) : ∀ (n : Nat) (x0 : A0) (x1 : A1), I x0 x1 → μ x0 x1 < n → ∃ r, itr F z n x0 x1 = some r ∧ P x0 x1 r := by
  intro n
  induction n with
  | zero => intro x0 x1 _ h; exact absurd h (Nat.not_lt_zero _)
  | succ n ih => intro x0 x1 hI hm; exact hs (itr F z n) x0 x1 hI (fun y0 y1 hJ hl => ih y0 y1 hJ (by omega))
theorem it3 {A0 A1 A2 R : Type} {F : (A0 → A1 → A2 → Option R) → A0 → A1 → A2 → Option R} {z : A0 → A1 → A2 → Option R} (I : A0 → A1 → A2 → Prop) (μ : A0 → A1 → A2 → Nat) (P : A0 → A1 → A2 → R → Prop) (hs : ∀ (k : A0 → A1 → A2 → Option R) (x0 : A0) (x1 : A1) (x2 : A2), I x0 x1 x2 → (∀ (y0 : A0) (y1 : A1) (y2 : A2), I y0 y1 y2 → μ y0 y1 y2 < μ x0 x1 x2 → ∃ r, k y0 y1 y2 = some r ∧ P y0 y1 y2 r) → ∃ r, F k x0 x1 x2 = some r ∧ P x0 x1 x2 r) : ∀ (n : Nat) (x0 : A0) (x1 : A1) (x2 : A2), I x0 x1 x2 → μ x0 x1 x2 < n → ∃ r, itr F z n x0 x1 x2 = some r ∧ P x0 x1 x2 r := by
  intro n
  induction n with
  | zero => intro x0 x1 x2 _ h; exact absurd h (Nat.not_lt_zero _)
  | succ n ih => intro x0 x1 x2 hI hm; exact hs (itr F z n) x0 x1 x2 hI (fun y0 y1 y2 hJ hl => ih y0 y1 y2 hJ (by omega))
theorem it4 {A0 A1 A2 A3 R : Type} {F : (A0 → A1 → A2 → A3 → Option R) → A0 → A1 → A2 → A3 → Option R} {z : A0 → A1 → A2 → A3 → Option R} (I : A0 → A1 → A2 → A3 → Prop) (μ : A0 → A1 → A2 → A3 → Nat) (P : A0 → A1 → A2 → A3 → R → Prop) (hs : ∀ (k : A0 → A1 → A2 → A3 → Option R) (x0 : A0) (x1 : A1) (x2 : A2) (x3 : A3), I x0 x1 x2 x3 → (∀ (y0 : A0) (y1 : A1) (y2 : A2) (y3 : A3), I y0 y1 y2 y3 → μ y0 y1 y2 y3 < μ x0 x1 x2 x3 → ∃ r, k y0 y1 y2 y3 = some r ∧ P y0 y1 y2 y3 r) → ∃ r, F k x0 x1 x2 x3 = some r ∧ P x0 x1 x2 x3 r) : ∀ (n : Nat) (x0 : A0) (x1 : A1) (x2 : A2) (x3 : A3), I x0 x1 x2 x3 → μ x0 x1 x2 x3 < n → ∃ r, itr F z n x0 x1 x2 x3 = some r ∧ P x0 x1 x2 x3 r := by
  intro n
  induction n with
  | zero => intro x0 x1 x2 x3 _ h; exact absurd h (Nat.not_lt_zero _)
  | succ n ih => intro x0 x1 x2 x3 hI hm; exact hs (itr F z n) x0 x1 x2 x3 hI (fun y0 y1 y2 y3 hJ hl => ih y0 y1 y2 y3 hJ (by omega))
theorem it5 {A0 A1 A2 A3 A4 R : Type} {F : (A0 → A1 → A2 → A3 → A4 → Option R) → A0 → A1 → A2 → A3 → A4 → Option R} {z : A0 → A1 → A2 → A3 → A4 → Option R} (I : A0 → A1 → A2 → A3 → A4 → Prop) (μ : A0 → A1 → A2 → A3 → A4 → Nat) (P : A0 → A1 → A2 → A3 → A4 → R → Prop) (hs : ∀ (k : A0 → A1 → A2 → A3 → A4 → Option R) (x0 : A0) (x1 : A1) (x2 : A2) (x3 : A3) (x4 : A4), I x0 x1 x2 x3 x4 → (∀ (y0 : A0) (y1 : A1) (y2 : A2) (y3 : A3) (y4 : A4), I y0 y1 y2 y3 y4 → μ y0 y1 y2 y3 y4 < μ x0 x1 x2 x3 x4 → ∃ r, k y0 y1 y2 y3 y4 = some r ∧ P y0 y1 y2 y3 y4 r) → ∃ r, F k x0 x1 x2 x3 x4 = some r ∧ P x0 x1 x2 x3 x4 r) : ∀ (n : Nat) (x0 : A0) (x1 : A1) (x2 : A2) (x3 : A3) (x4 : A4), I x0 x1 x2 x3 x4 → μ x0 x1 x2 x3 x4 < n → ∃ r, itr F z n x0 x1 x2 x3 x4 = some r ∧ P x0 x1 x2 x3 x4 r := by
  intro n
  induction n with
  | zero => intro x0 x1 x2 x3 x4 _ h; exact absurd h (Nat.not_lt_zero _)
  | succ n ih => intro x0 x1 x2 x3 x4 hI hm; exact hs (itr F z n) x0 x1 x2 x3 x4 hI (fun y0 y1 y2 y3 y4 hJ hl => ih y0 y1 y2 y3 y4 hJ (by omega))
theorem it6 {A0 A1 A2 A3 A4 A5 R : Type} {F : (A0 → A1 → A2 → A3 → A4 → A5 → Option R) → A0 → A1 → A2 → A3 → A4 → A5 → Option R} {z : A0 → A1 → A2 → A3 → A4 → A5 → Option R} (I : A0 → A1 → A2 → A3 → A4 → A5 → Prop) (μ : A0 → A1 → A2 → A3 → A4 → A5 → Nat) (P : A0 → A1 → A2 → A3 → A4 → A5 → R → Prop) (hs : ∀ (k : A0 → A1 → A2 → A3 → A4 → A5 → Option R) (x0 : A0) (x1 : A1) (x2 : A2) (x3 : A3) (x4 : A4) (x5 : A5), I x0 x1 x2 x3 x4 x5 → (∀ (y0 : A0) (y1 : A1) (y2 : A2) (y3 : A3) (y4 : A4) (y5 : A5), I y0 y1 y2 y3 y4 y5 → μ y0 y1 y2 y3 y4 y5 < μ x0 x1 x2 x3 x4 x5 → ∃ r, k y0 y1 y2 y3 y4 y5 = some r ∧ P y0 y1 y2 y3 y4 y5 r) → ∃ r, F k x0 x1 x2 x3 x4 x5 = some r ∧ P x0 x1 x2 x3 x4 x5 r) : ∀ (n : Nat) (x0 : A0) (x1 : A1) (x2 : A2) (x3 : A3) (x4 : A4) (x5 : A5), I x0 x1 x2 x3 x4 x5 → μ x0 x1 x2 x3 x4 x5 < n → ∃ r, itr F z n x0 x1 x2 x3 x4 x5 = some r ∧ P x0 x1 x2 x3 x4 x5 r := by
  intro n
  induction n with
  | zero => intro x0 x1 x2 x3 x4 x5 _ h; exact absurd h (Nat.not_lt_zero _)
  | succ n ih => intro x0 x1 x2 x3 x4 x5 hI hm; exact hs (itr F z n) x0 x1 x2 x3 x4 x5 hI (fun y0 y1 y2 y3 y4 y5 hJ hl => ih y0 y1 y2 y3 y4 y5 hJ (by omega))
theorem it7 {A0 A1 A2 A3 A4 A5 A6 R : Type} {F : (A0 → A1 → A2 → A3 → A4 → A5 → A6 → Option R) → A0 → A1 → A2 → A3 → A4 → A5 → A6 → Option R} {z : A0 → A1 → A2 → A3 → A4 → A5 → A6 → Option R} (I : A0 → A1 → A2 → A3 → A4 → A5 → A6 → Prop) (μ : A0 → A1 → A2 → A3 → A4 → A5 → A6 → Nat) (P : A0 → A1 → A2 → A3 → A4 → A5 → A6 → R → Prop) (hs : ∀ (k : A0 → A1 → A2 → A3 → A4 → A5 → A6 → Option R) (x0 : A0) (x1 : A1) (x2 : A2) (x3 : A3) (x4 : A4) (x5 : A5) (x6 : A6), I x0 x1 x2 x3 x4 x5 x6 → (∀ (y0 : A0) (y1 : A1) (y2 : A2) (y3 : A3) (y4 : A4) (y5 : A5) (y6 : A6), I y0 y1 y2 y3 y4 y5 y6 → μ y0 y1 y2 y3 y4 y5 y6 < μ x0 x1 x2 x3 x4 x5 x6 → ∃ r, k y0 y1 y2 y3 y4 y5 y6 = some r ∧ P y0 y1 y2 y3 y4 y5 y6 r) → ∃ r, F k x0 x1 x2 x3 x4 x5 x6 = some r ∧ P x0 x1 x2 x3 x4 x5 x6 r) : ∀ (n : Nat) (x0 : A0) (x1 : A1) (x2 : A2) (x3 : A3) (x4 : A4) (x5 : A5) (x6 : A6), I x0 x1 x2 x3 x4 x5 x6 → μ x0 x1 x2 x3 x4 x5 x6 < n → ∃ r, itr F z n x0 x1 x2 x3 x4 x5 x6 = some r ∧ P x0 x1 x2 x3 x4 x5 x6 r := by
  intro n
  induction n with
  | zero => intro x0 x1 x2 x3 x4 x5 x6 _ h; exact absurd h (Nat.not_lt_zero _)
  | succ n ih => intro x0 x1 x2 x3 x4 x5 x6 hI hm; exact hs (itr F z n) x0 x1 x2 x3 x4 x5 x6 hI (fun y0 y1 y2 y3 y4 y5 y6 hJ hl => ih y0 y1 y2 y3 y4 y5 y6 hJ (by omega))
theorem nI24 {i : Nat} (h : i < 24) : ¬ (24 : Int32) ≤ nI i := nI_ge (a := i) (b := 24) h (by omega)
theorem ckN {i N : Nat} (h : i < N) (hN : N < 2 ^ 31) : ¬ (nI i < 0 ∨ N ≤ Int32.toNatClampNeg (nI i)) := nI_in h hN
theorem ck_t {α : Type} {c : Prop} [Decidable c] {x : Option α} (h : c) : ck c x = x := if_pos h
theorem bd1_s {α β : Type} {r : α} {f : α → Option β} : bd1 (some r) f = f r := rfl
theorem bd2_s {α β γ : Type} {r : α} {t : β} {f : α → β → Option γ} : bd2 (some (r, t)) f = f r t := rfl
theorem si_at (σ : St) (k : Nat) (v : Int32) (i : Nat) : si σ k v k i = v := by simp [si]
theorem si_ne {σ : St} {k j : Nat} {v : Int32} (h : j ≠ k) : si σ k v j = σ j := by simp [si, h]
theorem sa_at (σ : St) (k i : Nat) (v : Int32) : sa σ k i v k = upd (σ k) i v := by simp [sa]
theorem sa_ne {σ : St} {k i j : Nat} {v : Int32} (h : j ≠ k) : sa σ k i v j = σ j := by simp [sa, h]
theorem has_in_r {σ : St} {n i : Nat} (hn : σ 46 0 = nI n) (h24 : n ≤ 24) (hi : i < n) : fX0_has_r σ (nI i) = some 1 := by
  unfold fX0_has_r
  rw [hn, if_neg (nI_pos (by omega)), if_neg (nI_ge hi (by omega)), if_neg (nI24 (by omega)), if_neg (nI24 (by omega))]
theorem has_out_r {σ : St} {n : Nat} {x : Int32} (hn : σ 46 0 = nI n) (h24 : n ≤ 24) (hx : ¬ ∃ i, i < n ∧ x = nI i) : fX0_has_r σ x = some 0 := by
  unfold fX0_has_r
  by_cases h0 : x < 0
  · rw [if_pos h0]
  · rw [if_neg h0, hn]
    rcases pk_ix x (n := n) (by omega) with h1 | h1 | h1
    · exact absurd h1 h0
    · rw [if_pos h1]
    · exact absurd h1 hx
theorem kind_in_r {σ : St} {n i : Nat} (hn : σ 46 0 = nI n) (h24 : n ≤ 24) (hi : i < n) : fX0_kindOf_r σ (nI i) = some (σ 5 i) := by
  unfold fX0_kindOf_r
  rw [has_in_r hn h24 hi, bd1_s, if_neg (by decide), ck_t (ckN (by omega) (by omega)), nI_clamp (by omega)]
theorem told_in_r {σ : St} {n i : Nat} (hn : σ 46 0 = nI n) (h24 : n ≤ 24) (hi : i < n) : fX0_toldOf_r σ (nI i) = some (σ 6 i) := by
  unfold fX0_toldOf_r
  rw [has_in_r hn h24 hi, bd1_s, if_neg (by decide), ck_t (ckN (by omega) (by omega)), nI_clamp (by omega)]
def addS_r (σ : St) (n : Nat) (k w : Int32) : St := si (if k = 5 then si (sa (sa σ 5 n k) 6 n w) 47 (σ 47 0 + 1) else sa (sa σ 5 n k) 6 n w) 46 (nI (n + 1))
theorem add_in_r {σ : St} {n : Nat} {k w : Int32} (hn : σ 46 0 = nI n) (h24 : n < 24) : fX0_add_r σ k w = some (1, addS_r σ n k w) := by
  unfold fX0_add_r addS_r
  rw [hn, if_neg (nI_pos (by omega)), if_neg (nI24 h24), if_pos (show nI n < 24 from nI_lt (a := n) (b := 24) h24 (by omega)), ck_t (ckN h24 (by omega)), ck_t (ckN h24 (by omega)), nI_clamp (by omega)]
  by_cases h5 : k = 5
  · rw [if_pos h5, if_pos h5]
    unfold fX0_add_r_b68
    rw [si_ne (by decide), sa_ne (by decide), sa_ne (by decide), hn, nI_1]
  · rw [if_neg h5, if_neg h5]
    unfold fX0_add_r_b68
    rw [sa_ne (by decide), sa_ne (by decide), hn, nI_1]
theorem add_full_r {σ : St} {k w : Int32} (hn : σ 46 0 = nI 24) : fX0_add_r σ k w = some (0, σ) := by
  unfold fX0_add_r
  rw [hn, if_neg (nI_pos (by omega)), if_pos (show (24 : Int32) ≤ nI 24 from by decide)]
theorem addS_frame_r {σ : St} {n : Nat} {k w : Int32} {j : Nat} (h1 : j ≠ 5) (h2 : j ≠ 6) (h3 : j ≠ 46) (h4 : j ≠ 47) : addS_r σ n k w j = σ j := by
  unfold addS_r
  rw [si_ne h3]
  by_cases h5 : k = 5
  · rw [if_pos h5, si_ne h4, sa_ne h2, sa_ne h1]
  · rw [if_neg h5, sa_ne h2, sa_ne h1]
theorem addS_size_r {σ : St} {n : Nat} {k w : Int32} : addS_r σ n k w 46 0 = nI (n + 1) := by unfold addS_r; rw [si_at]
theorem addS_kinds_r {σ : St} {n : Nat} {k w : Int32} : addS_r σ n k w 5 = upd (σ 5) n k := by
  unfold addS_r
  rw [si_ne (by decide)]
  by_cases h5 : k = 5
  · rw [if_pos h5, si_ne (by decide), sa_ne (by decide), sa_at]
  · rw [if_neg h5, sa_ne (by decide), sa_at]
theorem addS_told_r {σ : St} {n : Nat} {k w : Int32} : addS_r σ n k w 6 = upd (σ 6) n w := by
  unfold addS_r
  rw [si_ne (by decide)]
  by_cases h5 : k = 5
  · rw [if_pos h5, si_ne (by decide), sa_at, sa_ne (by decide)]
  · rw [if_neg h5, sa_at, sa_ne (by decide)]
theorem addS_gaps_r {σ : St} {n : Nat} {k w : Int32} : addS_r σ n k w 47 0 = if k = 5 then σ 47 0 + 1 else σ 47 0 := by
  unfold addS_r
  rw [si_ne (by decide)]
  by_cases h5 : k = 5
  · rw [if_pos h5, if_pos h5, si_at]
  · rw [if_neg h5, if_neg h5, sa_ne (by decide), sa_ne (by decide)]
theorem has_in_p {σ : St} {n i : Nat} (hn : σ 48 0 = nI n) (h24 : n ≤ 24) (hi : i < n) : fX0_has_p σ (nI i) = some 1 := by
  unfold fX0_has_p
  rw [hn, if_neg (nI_pos (by omega)), if_neg (nI_ge hi (by omega)), if_neg (nI24 (by omega)), if_neg (nI24 (by omega))]
theorem has_out_p {σ : St} {n : Nat} {x : Int32} (hn : σ 48 0 = nI n) (h24 : n ≤ 24) (hx : ¬ ∃ i, i < n ∧ x = nI i) : fX0_has_p σ x = some 0 := by
  unfold fX0_has_p
  by_cases h0 : x < 0
  · rw [if_pos h0]
  · rw [if_neg h0, hn]
    rcases pk_ix x (n := n) (by omega) with h1 | h1 | h1
    · exact absurd h1 h0
    · rw [if_pos h1]
    · exact absurd h1 hx
theorem kind_in_p {σ : St} {n i : Nat} (hn : σ 48 0 = nI n) (h24 : n ≤ 24) (hi : i < n) : fX0_kindOf_p σ (nI i) = some (σ 8 i) := by
  unfold fX0_kindOf_p
  rw [has_in_p hn h24 hi, bd1_s, if_neg (by decide), ck_t (ckN (by omega) (by omega)), nI_clamp (by omega)]
theorem told_in_p {σ : St} {n i : Nat} (hn : σ 48 0 = nI n) (h24 : n ≤ 24) (hi : i < n) : fX0_toldOf_p σ (nI i) = some (σ 9 i) := by
  unfold fX0_toldOf_p
  rw [has_in_p hn h24 hi, bd1_s, if_neg (by decide), ck_t (ckN (by omega) (by omega)), nI_clamp (by omega)]
def addS_p (σ : St) (n : Nat) (k w : Int32) : St := si (if k = 5 then si (sa (sa σ 8 n k) 9 n w) 49 (σ 49 0 + 1) else sa (sa σ 8 n k) 9 n w) 48 (nI (n + 1))
theorem add_in_p {σ : St} {n : Nat} {k w : Int32} (hn : σ 48 0 = nI n) (h24 : n < 24) : fX0_add_p σ k w = some (1, addS_p σ n k w) := by
  unfold fX0_add_p addS_p
  rw [hn, if_neg (nI_pos (by omega)), if_neg (nI24 h24), if_pos (show nI n < 24 from nI_lt (a := n) (b := 24) h24 (by omega)), ck_t (ckN h24 (by omega)), ck_t (ckN h24 (by omega)), nI_clamp (by omega)]
  by_cases h5 : k = 5
  · rw [if_pos h5, if_pos h5]
    unfold fX0_add_p_b68
    rw [si_ne (by decide), sa_ne (by decide), sa_ne (by decide), hn, nI_1]
  · rw [if_neg h5, if_neg h5]
    unfold fX0_add_p_b68
    rw [sa_ne (by decide), sa_ne (by decide), hn, nI_1]
theorem add_full_p {σ : St} {k w : Int32} (hn : σ 48 0 = nI 24) : fX0_add_p σ k w = some (0, σ) := by
  unfold fX0_add_p
  rw [hn, if_neg (nI_pos (by omega)), if_pos (show (24 : Int32) ≤ nI 24 from by decide)]
theorem addS_frame_p {σ : St} {n : Nat} {k w : Int32} {j : Nat} (h1 : j ≠ 8) (h2 : j ≠ 9) (h3 : j ≠ 48) (h4 : j ≠ 49) : addS_p σ n k w j = σ j := by
  unfold addS_p
  rw [si_ne h3]
  by_cases h5 : k = 5
  · rw [if_pos h5, si_ne h4, sa_ne h2, sa_ne h1]
  · rw [if_neg h5, sa_ne h2, sa_ne h1]
theorem addS_size_p {σ : St} {n : Nat} {k w : Int32} : addS_p σ n k w 48 0 = nI (n + 1) := by unfold addS_p; rw [si_at]
theorem addS_kinds_p {σ : St} {n : Nat} {k w : Int32} : addS_p σ n k w 8 = upd (σ 8) n k := by
  unfold addS_p
  rw [si_ne (by decide)]
  by_cases h5 : k = 5
  · rw [if_pos h5, si_ne (by decide), sa_ne (by decide), sa_at]
  · rw [if_neg h5, sa_ne (by decide), sa_at]
theorem addS_told_p {σ : St} {n : Nat} {k w : Int32} : addS_p σ n k w 9 = upd (σ 9) n w := by
  unfold addS_p
  rw [si_ne (by decide)]
  by_cases h5 : k = 5
  · rw [if_pos h5, si_ne (by decide), sa_at, sa_ne (by decide)]
  · rw [if_neg h5, sa_at, sa_ne (by decide)]
theorem addS_gaps_p {σ : St} {n : Nat} {k w : Int32} : addS_p σ n k w 49 0 = if k = 5 then σ 49 0 + 1 else σ 49 0 := by
  unfold addS_p
  rw [si_ne (by decide)]
  by_cases h5 : k = 5
  · rw [if_pos h5, if_pos h5, si_at]
  · rw [if_neg h5, if_neg h5, sa_ne (by decide), sa_ne (by decide)]
/-- the page of class and reference -/
def RPg (σ τ : St) (n : Nat) : Prop := n ≤ 50 ∧ σ 42 0 = nI n ∧ τ 40 0 = nI n ∧ ∀ i, i < n → σ 2 i = τ 1 i ∧ ∃ c, c < 127 ∧ σ 2 i = nI c
theorem RPg_to {σ τ s t : St} {n : Nat} (h : RPg σ τ n) (a : s 42 = σ 42) (a2 : s 2 = σ 2) (b : t 40 = τ 40) (b1 : t 1 = τ 1) : RPg s t n := by
  obtain ⟨h1, h2, h3, h4⟩ := h
  exact ⟨h1, by rw [a]; exact h2, by rw [b]; exact h3, fun i hi => by rw [a2, b1]; exact h4 i hi⟩
theorem within_in {τ : St} {x a b : Int32} (h1 : ¬ x < a) (h2 : ¬ b < x) : fX6_within τ x a b = some 1 := by unfold fX6_within; rw [if_neg h1, if_neg h2]
theorem within_lo {τ : St} {x a b : Int32} (h1 : x < a) : fX6_within τ x a b = some 0 := by unfold fX6_within; rw [if_pos h1]
theorem within_hi {τ : St} {x a b : Int32} (h2 : b < x) : fX6_within τ x a b = some 0 := by
  unfold fX6_within
  by_cases h1 : x < a
  · rw [if_pos h1]
  · rw [if_neg h1, if_pos h2]
theorem n_lt50 {n : Nat} (h : n < 50) : nI n < (50 : Int32) := nI_lt (a := n) (b := 50) h (by omega)
/-- letter: both answer alike, and both pages go on alike; nothing else changes -/
theorem eq_letter {σ τ : St} {n : Nat} (h : RPg σ τ n) (x : Int32) : ∃ r s t n', fX5_letter σ x = some (r, s) ∧ fX6_letter τ x = some (r, t) ∧ RPg s t n' ∧ (∀ j, j ≠ 2 → j ≠ 42 → s j = σ j) ∧ (∀ j, j ≠ 1 → j ≠ 40 → t j = τ j) := by
  obtain ⟨h50, hs, ht, hl⟩ := h
  by_cases c1 : x < (32 : Int32)
  · refine ⟨-1002, σ, τ, n, if_pos c1, ?_, ⟨h50, hs, ht, hl⟩, fun _ _ _ => rfl, fun _ _ _ => rfl⟩
    unfold fX6_letter; rw [within_lo c1]; rfl
  by_cases c2 : x ≤ (126 : Int32)
  · have hw : fX6_within τ x 32 126 = some 1 := within_in c1 (by rw [Int32.not_lt]; exact c2)
    by_cases hf : n < 50
    · have ha : fX1_append σ x = some (1, si (sa σ 2 n x) 42 (nI (n + 1))) := by
        unfold fX1_append
        rw [hs, if_neg (nI_pos (by omega)), if_pos (n_lt50 hf), ck_t (ckN hf (by omega)), nI_clamp (by omega), nI_1]
      refine ⟨nI (n + 1), si (sa σ 2 n x) 42 (nI (n + 1)), si (sa τ 1 n x) 40 (nI (n + 1)), n + 1, ?_, ?_, ⟨by omega, si_at _ _ _ _, si_at _ _ _ _, fun i hi => ?_⟩, fun j h1 h2 => ?_, fun j h1 h2 => ?_⟩
      · unfold fX5_letter
        rw [if_neg c1, if_pos c2, ha, bd2_s, if_neg (by decide)]
        unfold fX1_length
        rw [si_at]; rfl
      · unfold fX6_letter
        rw [hw, bd1_s, if_neg (by decide), ht, if_neg (show ¬ nI n = 50 from fun e => by have := (nI_eq (a := n) (b := 50) (by omega) (by omega)).mp e; omega), ck_t (ckN hf (by omega)), nI_clamp (by omega), nI_1]
      · rw [si_ne (by decide), si_ne (by decide), sa_at, sa_at]
        by_cases hi2 : i = n
        · subst hi2; rw [pk_us, pk_us]
          have h00 : ¬ x < 0 := fun z => c1 (by rw [Int32.lt_iff_toInt_lt] at z ⊢; have e0 : (0 : Int32).toInt = 0 := rfl; have e32 : (32 : Int32).toInt = 32 := rfl; omega)
          obtain ⟨c, hc, e⟩ := nI_of2 (M := 126) (n := 126) rfl h00 c2
          exact ⟨rfl, c, by omega, e⟩
        · rw [pk_un hi2, pk_un hi2]; exact hl i (by omega)
      · rw [si_ne h2, sa_ne h1]
      · rw [si_ne h2, sa_ne h1]
    · have hn : n = 50 := by omega
      subst hn
      have ha : fX1_append σ x = some (0, σ) := by
        unfold fX1_append
        rw [hs, if_neg (nI_pos (by omega)), if_neg (show ¬ nI 50 < (50 : Int32) from by decide)]
      refine ⟨-1004, σ, τ, 50, ?_, ?_, ⟨h50, hs, ht, hl⟩, fun _ _ _ => rfl, fun _ _ _ => rfl⟩
      · unfold fX5_letter
        rw [if_neg c1, if_pos c2, ha, bd2_s, if_pos rfl]
      · unfold fX6_letter
        rw [hw, bd1_s, if_neg (by decide), ht, if_pos (show nI 50 = (50 : Int32) from by decide)]
  · have hw : fX6_within τ x 32 126 = some 0 := within_hi (by rw [← Int32.not_le]; exact c2)
    refine ⟨-1002, σ, τ, n, ?_, ?_, ⟨h50, hs, ht, hl⟩, fun _ _ _ => rfl, fun _ _ _ => rfl⟩
    · unfold fX5_letter; rw [if_neg c1, if_neg c2]
    · unfold fX6_letter; rw [hw]; rfl
theorem eq_blank {σ τ : St} {n : Nat} (h : RPg σ τ n) : ∃ r s t, fX5_blank σ = some (r, s) ∧ fX6_blank τ = some (r, t) ∧ RPg s t 0 ∧ (∀ j, j ≠ 42 → s j = σ j) ∧ (∀ j, j ≠ 40 → t j = τ j) := by
  obtain ⟨h50, hs, ht, hl⟩ := h
  refine ⟨nI n, si σ 42 0, si τ 40 0, ?_, ?_, ⟨by omega, si_at _ _ _ _, si_at _ _ _ _, fun i hi => absurd hi (Nat.not_lt_zero _)⟩, fun j h1 => si_ne h1, fun j h1 => si_ne h1⟩
  · show bd1 (some (σ 42 0)) _ = _
    rw [hs]; rfl
  · show some (τ 40 0, _) = _
    rw [ht]
/-- a letter of the page -/
theorem letter_at {σ : St} {n i : Nat} (h50 : n ≤ 50) (hs : σ 42 0 = nI n) (hi : i < n) : fX1_letterAt σ (nI i) = some (σ 2 i) := by
  unfold fX1_letterAt
  rw [hs, if_neg (nI_pos (by omega)), if_neg (nI_ge hi (by omega)), if_neg (show ¬ (50 : Int32) ≤ nI i from nI_ge (a := i) (b := 50) (by omega) (by omega)), ck_t (ckN (by omega) (by omega)), nI_clamp (by omega)]
/-! Reading: class and reference go along a page alike, but for a ninth ":" behind all eight labels. -/
def cnt5 (f : Nat → Int32) : Nat → Nat
  | 0 => 0
  | n + 1 => cnt5 f n + (if f n = 5 then 1 else 0)
theorem cnt5_congr {f g : Nat → Int32} : ∀ {n : Nat}, (∀ i, i < n → f i = g i) → cnt5 f n = cnt5 g n
  | 0, _ => rfl
  | n + 1, h => by
    unfold cnt5
    rw [cnt5_congr (fun i hi => h i (by omega)), h n (by omega)]
def wfI (k w : Int32) : Prop := ∃ a b : Nat, k = nI a ∧ w = nI b ∧ ((a = 0 ∧ 1 ≤ b ∧ b ≤ 40) ∨ (a = 1 ∧ b ≤ 9) ∨ (a = 2 ∧ b ≤ 7) ∨ (a = 3 ∧ b ≤ 7) ∨ (a = 4 ∧ (b = 2 ∨ b = 4 ∨ b = 8)) ∨ (a = 5 ∧ b = 0))
/-- the items read so far, and the labels met and wanted, are the same on both sides -/
def RR0 (σ τ : St) (n met want : Nat) : Prop :=
  n ≤ 24 ∧ σ 46 0 = nI n ∧ τ 44 0 = nI n ∧ (∀ i, i < n → σ 5 i = τ 5 i ∧ σ 6 i = τ 6 i ∧ wfI (σ 5 i) (σ 6 i)) ∧ σ 47 0 = nI (cnt5 (σ 5) n) ∧ met < 256 ∧ σ 44 0 = nI met ∧ τ 46 0 = nI met ∧ want < 256 ∧ σ 45 0 = nI want ∧ τ 47 0 = nI want
def keepS (τ : St) (n : Nat) (k w : Int32) : St := si (si (sa (sa τ 5 n k) 6 n w) 44 (nI (n + 1))) 45 (-1)
theorem keep_in {τ : St} {n : Nat} {k w : Int32} (hn : τ 44 0 = nI n) (h24 : n < 24) : fX6_keepItem τ k w = some (keepS τ n k w) := by
  unfold fX6_keepItem keepS
  rw [hn, ck_t (ckN h24 (by omega)), ck_t (ckN h24 (by omega)), nI_clamp (by omega), nI_1]
theorem RR0_add {σ τ : St} {n met want : Nat} {k w : Int32} (h : RR0 σ τ n met want) (h24 : n < 24) (hw : wfI k w) : RR0 (addS_r σ n k w) (keepS τ n k w) (n + 1) met want := by
  obtain ⟨h1, h2, h3, h4, h5, h6, h7, h8, h9, h10, h11⟩ := h
  have k5 : keepS τ n k w 5 = upd (τ 5) n k := by unfold keepS; rw [si_ne (by decide), si_ne (by decide), sa_ne (by decide), sa_at]
  have k6 : keepS τ n k w 6 = upd (τ 6) n w := by unfold keepS; rw [si_ne (by decide), si_ne (by decide), sa_at, sa_ne (by decide)]
  refine ⟨by omega, addS_size_r, ?_, fun i hi => ?_, ?_, h6, ?_, ?_, h9, ?_, ?_⟩
  · unfold keepS; rw [si_ne (by decide), si_at]
  · rw [addS_kinds_r, addS_told_r, k5, k6]
    by_cases e : i = n
    · subst e; rw [pk_us, pk_us, pk_us, pk_us]; exact ⟨rfl, rfl, hw⟩
    · rw [pk_un e, pk_un e, pk_un e, pk_un e]; exact h4 i (by omega)
  · rw [addS_gaps_r, addS_kinds_r]
    show _ = nI (cnt5 (upd (σ 5) n k) n + (if upd (σ 5) n k n = 5 then 1 else 0))
    rw [pk_us, cnt5_congr (f := upd (σ 5) n k) (g := σ 5) (fun i hi => pk_un (by omega))]
    by_cases e : k = 5
    · rw [if_pos e, if_pos e, h5, nI_1]
    · rw [if_neg e, if_neg e, h5]; rfl
  · rw [addS_frame_r (by decide) (by decide) (by decide) (by decide)]; exact h7
  · unfold keepS; rw [si_ne (by decide), si_ne (by decide), sa_ne (by decide), sa_ne (by decide)]; exact h8
  · rw [addS_frame_r (by decide) (by decide) (by decide) (by decide)]; exact h10
  · unfold keepS; rw [si_ne (by decide), si_ne (by decide), sa_ne (by decide), sa_ne (by decide)]; exact h11
/-- other numbers may change -/
theorem RR0_to {σ τ s t : St} {n met want met' want' : Nat} (h : RR0 σ τ n met want) (a5 : s 5 = σ 5) (a6 : s 6 = σ 6) (a46 : s 46 = σ 46) (a47 : s 47 = σ 47) (b5 : t 5 = τ 5) (b6 : t 6 = τ 6) (b44 : t 44 = τ 44)
    (m1 : met' < 256) (m2 : s 44 0 = nI met') (m3 : t 46 0 = nI met') (w1 : want' < 256) (w2 : s 45 0 = nI want') (w3 : t 47 0 = nI want') : RR0 s t n met' want' := by
  obtain ⟨h1, h2, h3, h4, h5, h6, h7, h8, h9, h10, h11⟩ := h
  exact ⟨h1, by rw [a46]; exact h2, by rw [b44]; exact h3, fun i hi => by rw [a5, a6, b5, b6]; exact h4 i hi, by rw [a47, a5]; exact h5, m1, m2, m3, w1, w2, w3⟩
def frC (σ s : St) : Prop := ∀ j, j ≠ 5 → j ≠ 6 → j ≠ 43 → j ≠ 44 → j ≠ 45 → j ≠ 46 → j ≠ 47 → s j = σ j
def frM (τ t : St) : Prop := ∀ j, j ≠ 5 → j ≠ 6 → j ≠ 44 → j ≠ 45 → j ≠ 46 → j ≠ 47 → t j = τ j
theorem frC_rf {σ : St} : frC σ σ := fun _ _ _ _ _ _ _ _ => rfl
theorem frM_rf {τ : St} : frM τ τ := fun _ _ _ _ _ _ _ => rfl
theorem frC.tr {σ s u : St} (h1 : frC σ s) (h2 : frC s u) : frC σ u := fun j a b c d e f g => (h2 j a b c d e f g).trans (h1 j a b c d e f g)
theorem frM.tr {σ s u : St} (h1 : frM σ s) (h2 : frM s u) : frM σ u := fun j a b d e f g => (h2 j a b d e f g).trans (h1 j a b d e f g)
theorem frC_add {σ : St} {n : Nat} {k w : Int32} : frC σ (addS_r σ n k w) := fun _ h5 h6 _ _ _ h46 h47 => addS_frame_r h5 h6 h46 h47
theorem frM_keep {τ : St} {n : Nat} {k w : Int32} : frM τ (keepS τ n k w) := fun j h5 h6 h44 h45 _ _ => by unfold keepS; rw [si_ne h45, si_ne h44, sa_ne h6, sa_ne h5]
theorem frC_si {σ : St} {k : Nat} {v : Int32} (h : k = 43 ∨ k = 44 ∨ k = 45) : frC σ (si σ k v) := fun j _ _ h3 h4 h5 _ _ => si_ne (by omega)
theorem frM_si {τ : St} {k : Nat} {v : Int32} (h : k = 45 ∨ k = 46 ∨ k = 47) : frM τ (si τ k v) := fun j _ _ _ h4 h5 h6 => si_ne (by omega)
def opOk (op : Int32) (n met : Nat) : Prop := op = -1 ∨ ((op = 0 ∨ op = 1 ∨ op = 2 ∨ op = 3 ∨ op = 4) ∧ n < 24)
def RR (σ τ : St) (n met want : Nat) (op : Int32) : Prop := RR0 σ τ n met want ∧ σ 43 0 = op ∧ τ 45 0 = op ∧ opOk op n met
def stepC (σ : St) (x : Int32) : Option (Int32 × St) := if σ 43 0 = (-1 : Int32) then fX3_begins σ x else fX3_ends σ x
/-- both take a letter; or both refuse it; or it is a ninth ":" -/
def StepOut (σ τ : St) (a b : Option (Int32 × St)) : Prop :=
  (∃ s t n met want op, a = some (1, s) ∧ b = some (1, t) ∧ RR s t n met want op ∧ frC σ s ∧ frM τ t) ∨
  (∃ s t, a = some (0, s) ∧ b = some (0, t) ∧ frC σ s ∧ frM τ t) ∨
  (∃ s t, a = some (0, s) ∧ b = some (1, t) ∧ frC σ s ∧ frM τ t ∧ t 45 0 = 3 ∧ t 46 0 = nI 255)
theorem kb_eq (σ τ : St) (x : Int32) : fX3_kindBegunBy σ x = fX6_kindBy τ x := rfl
theorem kb_val (σ : St) (x : Int32) : ∃ r, fX3_kindBegunBy σ x = some r ∧ (r = -1 ∨ r = 0 ∨ r = 1 ∨ r = 2 ∨ r = 3 ∨ r = 4 ∨ r = 5) := by
  unfold fX3_kindBegunBy
  by_cases h1 : x = 58
  · exact ⟨3, if_pos h1, by simp⟩
  rw [if_neg h1]
  by_cases h2 : x = 97
  · exact ⟨4, if_pos h2, by simp⟩
  rw [if_neg h2]
  by_cases h3 : x = 98
  · exact ⟨2, if_pos h3, by simp⟩
  rw [if_neg h3]
  by_cases h4 : x = 108
  · exact ⟨1, if_pos h4, by simp⟩
  rw [if_neg h4]
  by_cases h5 : x = 110
  · exact ⟨0, if_pos h5, by simp⟩
  rw [if_neg h5]
  by_cases h6 : x = 114
  · exact ⟨5, if_pos h6, by simp⟩
  rw [if_neg h6]
  exact ⟨-1, rfl, by simp⟩
theorem step_first {σ τ : St} {n met want : Nat} (h0 : RR0 σ τ n met want) (ho : σ 43 0 = -1) (ho2 : τ 45 0 = -1) (x : Int32) : StepOut σ τ (fX3_begins σ x) (fX6_takesFirst τ x) := by
  obtain ⟨r, hr, hv⟩ := kb_val σ x
  have hr2 : fX6_kindBy τ x = some r := by rw [← kb_eq σ τ x]; exact hr
  have h0' := h0
  obtain ⟨h1, h2, h3, h4, h5, h6, h7, h8, h9, h10, h11⟩ := h0
  unfold fX3_begins fX6_takesFirst
  rw [hr, hr2, bd1_s, bd1_s]
  by_cases e1 : r = -1
  · rw [if_pos e1, if_pos e1]
    exact Or.inr (Or.inl ⟨σ, τ, rfl, rfl, frC_rf, frM_rf⟩)
  rw [if_neg e1, if_neg e1, show fX0_size_r σ = some (nI n) from by unfold fX0_size_r; rw [h2], bd1_s, h3]
  by_cases hn : n < 24
  · rw [if_pos (show nI n < (24 : Int32) from nI_lt (a := n) (b := 24) hn (by omega)), if_neg (show ¬ nI n = (24 : Int32) from fun e => by have := (nI_eq (a := n) (b := 24) (by omega) (by omega)).mp e; omega)]
    by_cases e5 : r = 5
    · rw [if_pos e5, if_pos e5, add_in_r h2 hn, bd2_s, ck_t (Or.inr rfl), keep_in h3 hn, bd1_s]
      refine Or.inl ⟨_, _, n + 1, met, want, -1, rfl, rfl, ⟨RR0_add h0' hn ⟨5, 0, rfl, rfl, by omega⟩, ?_, ?_, Or.inl rfl⟩, frC_add, frM_keep⟩
      · rw [addS_frame_r (by decide) (by decide) (by decide) (by decide)]; exact ho
      · unfold keepS; rw [si_at]
    · rw [if_neg e5, if_neg e5]
      have go : StepOut σ τ (fX3_begins_b56 σ r) (some ((1 : Int32), si τ 45 r)) := by
        unfold fX3_begins_b56
        refine Or.inl ⟨si σ 43 r, si τ 45 r, n, met, want, r, rfl, rfl, ⟨?_, si_at _ _ _ _, si_at _ _ _ _, Or.inr ⟨?_, hn⟩⟩, frC_si (Or.inl rfl), frM_si (Or.inl rfl)⟩
        · exact RR0_to h0' (si_ne (by decide)) (si_ne (by decide)) (si_ne (by decide)) (si_ne (by decide)) (si_ne (by decide)) (si_ne (by decide)) (si_ne (by decide)) h6 (by rw [si_ne (by decide)]; exact h7) (by rw [si_ne (by decide)]; exact h8) h9 (by rw [si_ne (by decide)]; exact h10) (by rw [si_ne (by decide)]; exact h11)
        · rcases hv with h | h | h | h | h | h | h
          · exact absurd h e1
          · exact Or.inl h
          · exact Or.inr (Or.inl h)
          · exact Or.inr (Or.inr (Or.inl h))
          · exact Or.inr (Or.inr (Or.inr (Or.inl h)))
          · exact Or.inr (Or.inr (Or.inr (Or.inr h)))
          · exact absurd h e5
      by_cases e3 : r = 3
      · rw [if_pos e3, h7]
        by_cases e255 : nI met = (255 : Int32)
        · rw [if_pos e255]
          refine Or.inr (Or.inr ⟨σ, si τ 45 r, rfl, rfl, frC_rf, frM_si (Or.inl rfl), ?_, ?_⟩)
          · rw [si_at, e3]
          · rw [si_ne (by decide), h8, e255]; rfl
        · rw [if_neg e255]; exact go
      · rw [if_neg e3]; exact go
  · have hn24 : n = 24 := by omega
    subst hn24
    rw [if_neg (show ¬ nI 24 < (24 : Int32) from by decide), if_pos (show nI 24 = (24 : Int32) from by decide)]
    exact Or.inr (Or.inl ⟨σ, τ, rfl, rfl, frC_rf, frM_rf⟩)
theorem d_0_m : ¬ (0 : Int32) = -1 := by decide
theorem d_0_1 : ¬ (0 : Int32) = 1 := by decide
theorem d_0_2 : ¬ (0 : Int32) = 2 := by decide
theorem d_0_3 : ¬ (0 : Int32) = 3 := by decide
theorem d_0_4 : ¬ (0 : Int32) = 4 := by decide
theorem d_1_m : ¬ (1 : Int32) = -1 := by decide
theorem d_1_0 : ¬ (1 : Int32) = 0 := by decide
theorem d_1_2 : ¬ (1 : Int32) = 2 := by decide
theorem d_1_3 : ¬ (1 : Int32) = 3 := by decide
theorem d_1_4 : ¬ (1 : Int32) = 4 := by decide
theorem d_2_m : ¬ (2 : Int32) = -1 := by decide
theorem d_2_0 : ¬ (2 : Int32) = 0 := by decide
theorem d_2_1 : ¬ (2 : Int32) = 1 := by decide
theorem d_2_3 : ¬ (2 : Int32) = 3 := by decide
theorem d_2_4 : ¬ (2 : Int32) = 4 := by decide
theorem d_3_m : ¬ (3 : Int32) = -1 := by decide
theorem d_3_0 : ¬ (3 : Int32) = 0 := by decide
theorem d_3_1 : ¬ (3 : Int32) = 1 := by decide
theorem d_3_2 : ¬ (3 : Int32) = 2 := by decide
theorem d_3_4 : ¬ (3 : Int32) = 4 := by decide
theorem d_4_m : ¬ (4 : Int32) = -1 := by decide
theorem d_4_0 : ¬ (4 : Int32) = 0 := by decide
theorem d_4_1 : ¬ (4 : Int32) = 1 := by decide
theorem d_4_2 : ¬ (4 : Int32) = 2 := by decide
theorem d_4_3 : ¬ (4 : Int32) = 3 := by decide
theorem t_48_1 : ∀ c, c < 127 → (nI c - 48 < (1 : Int32) ↔ c < 49) := by decide +kernel
theorem t_9_48 : ∀ c, c < 127 → ((9 : Int32) < nI c - 48 ↔ 57 < c) := by decide +kernel
theorem t_48_0 : ∀ c, c < 127 → (nI c - 48 < (0 : Int32) ↔ c < 48) := by decide +kernel
theorem t_3_48 : ∀ c, c < 127 → ((3 : Int32) < nI c - 48 ↔ 51 < c) := by decide +kernel
theorem t_65_0 : ∀ c, c < 127 → (nI c - 65 < (0 : Int32) ↔ c < 65) := by decide +kernel
theorem t_7_65 : ∀ c, c < 127 → ((7 : Int32) < nI c - 65 ↔ 72 < c) := by decide +kernel
theorem t_l49 : ∀ c, c < 127 → (nI c < (49 : Int32) ↔ c < 49) := by decide +kernel
theorem t_l48 : ∀ c, c < 127 → (nI c < (48 : Int32) ↔ c < 48) := by decide +kernel
theorem t_g57 : ∀ c, c < 127 → ((57 : Int32) < nI c ↔ 57 < c) := by decide +kernel
theorem t_g51 : ∀ c, c < 127 → ((51 : Int32) < nI c ↔ 51 < c) := by decide +kernel
theorem t_l65 : ∀ c, c < 127 → (nI c < (65 : Int32) ↔ c < 65) := by decide +kernel
theorem t_g73 : ∀ c, c < 127 → ((73 : Int32) ≤ nI c ↔ 73 ≤ c) := by decide +kernel
theorem t_bit : ∀ m, m < 256 → ∀ l, l < 8 → ((nI m &&& ((1 : Int32) <<< (nI l &&& 31))) = 0 ↔ ¬ ((nI m >>> (nI l &&& 31)) &&& (1 : Int32)) = 1) := by decide +kernel
theorem t_or : ∀ m, m < 256 → ∀ l, l < 8 → nI m ||| ((1 : Int32) <<< (nI l &&& 31)) = nI (m ||| 2 ^ l) ∧ m ||| 2 ^ l < 256 := by decide +kernel
theorem t_or0 : ∀ m, m < 256 → nI m ||| (0 : Int32) = nI m := by decide +kernel
theorem t_all : ∀ l, l < 8 → ((nI 255 >>> (nI l &&& 31)) &&& (1 : Int32)) = 1 := by decide +kernel
theorem t_sub48 {c : Nat} (h : 48 ≤ c) : nI c - (48 : Int32) = nI (c - 48) := pk_sub h
theorem t_sub65 {c : Nat} (h : 65 ≤ c) : nI c - (65 : Int32) = nI (c - 65) := pk_sub h
/-- the end of a figure: an item more on both sides -/
theorem fig_ok {σ τ : St} {n met want : Nat} {k w : Int32} (h0 : RR0 σ τ n met want) (hn : n < 24) (hw : wfI k w) : StepOut σ τ (bd2 (fX0_add_r (si σ 43 (-1 : Int32)) k w) fun r s => (if r = 0 then (some ((0 : Int32), s)) else (some ((1 : Int32), s)))) (bd2 (fX6_takesFigure_b66 τ 1 w k) fun r s => ck (r = 0 ∨ r = 1) (some (r, s))) := by
  obtain ⟨h1, h2, h3, h4, h5, h6, h7, h8, h9, h10, h11⟩ := id h0
  have h2' : (si σ 43 (-1 : Int32)) 46 0 = nI n := by rw [si_ne (by decide)]; exact h2
  have hk : fX6_takesFigure_b66 τ 1 w k = some (1, keepS τ n k w) := by
    unfold fX6_takesFigure_b66; rw [keep_in h3 hn, bd1_s, ck_t (Or.inr rfl)]
  rw [add_in_r h2' hn, bd2_s, if_neg (by decide), hk, bd2_s, ck_t (Or.inr rfl)]
  have h0' : RR0 (si σ 43 (-1)) τ n met want := RR0_to h0 (si_ne (by decide)) (si_ne (by decide)) (si_ne (by decide)) (si_ne (by decide)) rfl rfl rfl h6 (by rw [si_ne (by decide)]; exact h7) h8 h9 (by rw [si_ne (by decide)]; exact h10) h11
  refine Or.inl ⟨_, _, n + 1, met, want, -1, rfl, rfl, ⟨RR0_add h0' hn hw, ?_, ?_, Or.inl rfl⟩, (frC_si (Or.inl rfl)).tr frC_add, frM_keep⟩
  · rw [addS_frame_r (by decide) (by decide) (by decide) (by decide), si_at]
  · unfold keepS; rw [si_at]
theorem fig_bad {σ τ : St} {y : Int32} : StepOut σ τ (some ((0 : Int32), si σ 43 (-1 : Int32))) (bd2 (fX6_takesFigure_b41 τ y 0) fun r s => ck (r = 0 ∨ r = 1) (some (r, s))) := by
  have hk : fX6_takesFigure_b41 τ y 0 = some (0, τ) := by unfold fX6_takesFigure_b41; rw [if_pos rfl, ck_t (Or.inl rfl)]
  rw [hk, bd2_s, ck_t (Or.inl rfl)]
  exact Or.inr (Or.inl ⟨_, _, rfl, rfl, frC_si (Or.inl rfl), frM_rf⟩)
theorem step_0 {σ τ : St} {n met want c : Nat} (h0 : RR0 σ τ n met want) (hn : n < 24) (ho : σ 43 0 = 0) (ho2 : τ 45 0 = 0) (hc : c < 127) : StepOut σ τ (fX3_ends σ (nI c)) (fX6_takes τ (nI c)) := by
  unfold fX3_ends fX6_takes
  rw [ho, ho2, if_pos rfl, if_neg d_0_m, if_neg d_0_2, if_neg d_0_3]
  unfold fX6_takesFigure
  rw [ho2, if_pos rfl]
  by_cases c1 : c < 49
  · rw [if_pos ((t_l49 c hc).mpr c1), within_lo ((t_48_1 c hc).mpr c1), bd1_s]; exact fig_bad
  rw [if_neg (fun z => c1 ((t_l49 c hc).mp z))]
  by_cases c2 : 57 < c
  · rw [if_pos ((t_g57 c hc).mpr c2), within_hi ((t_9_48 c hc).mpr c2), bd1_s]; exact fig_bad
  rw [if_neg (fun z => c2 ((t_g57 c hc).mp z)), within_in (fun z => c1 ((t_48_1 c hc).mp z)) (fun z => c2 ((t_9_48 c hc).mp z)), bd1_s]
  unfold fX6_takesFigure_b41
  rw [if_neg d_1_0, ho2, if_neg d_0_4, t_sub48 (by omega)]
  exact fig_ok h0 hn ⟨0, c - 48, rfl, rfl, by omega⟩
theorem step_1 {σ τ : St} {n met want c : Nat} (h0 : RR0 σ τ n met want) (hn : n < 24) (ho : σ 43 0 = 1) (ho2 : τ 45 0 = 1) (hc : c < 127) : StepOut σ τ (fX3_ends σ (nI c)) (fX6_takes τ (nI c)) := by
  unfold fX3_ends fX6_takes
  rw [ho, ho2, if_neg d_1_0, if_pos rfl, if_neg d_1_m, if_neg d_1_2, if_neg d_1_3]
  unfold fX6_takesFigure
  rw [ho2, if_neg d_1_0, if_pos rfl]
  by_cases c1 : c < 48
  · rw [if_pos ((t_l48 c hc).mpr c1), within_lo ((t_48_0 c hc).mpr c1), bd1_s]; exact fig_bad
  rw [if_neg (fun z => c1 ((t_l48 c hc).mp z))]
  by_cases c2 : 57 < c
  · rw [if_pos ((t_g57 c hc).mpr c2), within_hi ((t_9_48 c hc).mpr c2), bd1_s]; exact fig_bad
  rw [if_neg (fun z => c2 ((t_g57 c hc).mp z)), within_in (fun z => c1 ((t_48_0 c hc).mp z)) (fun z => c2 ((t_9_48 c hc).mp z)), bd1_s]
  unfold fX6_takesFigure_b41
  rw [if_neg d_1_0, ho2, if_neg d_1_4, t_sub48 (by omega)]
  exact fig_ok h0 hn ⟨1, c - 48, rfl, rfl, by omega⟩
theorem step_4 {σ τ : St} {n met want c : Nat} (h0 : RR0 σ τ n met want) (hn : n < 24) (ho : σ 43 0 = 4) (ho2 : τ 45 0 = 4) (hc : c < 127) : StepOut σ τ (fX3_ends σ (nI c)) (fX6_takes τ (nI c)) := by
  unfold fX3_ends fX6_takes
  rw [ho, ho2, if_neg d_4_0, if_neg d_4_1, if_pos rfl, if_neg d_4_m, if_neg d_4_2, if_neg d_4_3]
  unfold fX6_takesFigure
  rw [ho2, if_neg d_4_0, if_neg d_4_1]
  by_cases c1 : c < 49
  · rw [if_pos ((t_l49 c hc).mpr c1), within_lo ((t_48_1 c hc).mpr c1), bd1_s]; exact fig_bad
  rw [if_neg (fun z => c1 ((t_l49 c hc).mp z))]
  by_cases c2 : 51 < c
  · rw [if_pos ((t_g51 c hc).mpr c2), within_hi ((t_3_48 c hc).mpr c2), bd1_s]; exact fig_bad
  rw [if_neg (fun z => c2 ((t_g51 c hc).mp z)), within_in (fun z => c1 ((t_48_1 c hc).mp z)) (fun z => c2 ((t_3_48 c hc).mp z)), bd1_s]
  unfold fX6_takesFigure_b41
  rw [if_neg d_1_0, ho2, if_pos rfl]
  refine fig_ok h0 hn ?_
  rcases (show c = 49 ∨ c = 50 ∨ c = 51 by omega) with rfl | rfl | rfl
  · exact ⟨4, 2, rfl, by decide, by omega⟩
  · exact ⟨4, 4, rfl, by decide, by omega⟩
  · exact ⟨4, 8, rfl, by decide, by omega⟩
theorem lab_bad {σ τ : St} {n met want c : Nat} (hc : c < 127) (hx : c < 65 ∨ 73 ≤ c) (op : Int32) : StepOut σ τ (fX3_ends_b145 (si σ 43 (-1 : Int32)) (nI c) op) (fX6_takes_b30 τ (nI c)) := by
  unfold fX3_ends_b145 fX6_takes_b30 fX6_takesLetter
  rcases hx with h | h
  · rw [if_pos ((t_l65 c hc).mpr h), within_lo ((t_65_0 c hc).mpr h), bd1_s, if_pos rfl, bd2_s, ck_t (Or.inl rfl)]
    exact Or.inr (Or.inl ⟨_, _, rfl, rfl, frC_si (Or.inl rfl), frM_rf⟩)
  · rw [if_neg (fun z => by have := (t_l65 c hc).mp z; omega), if_pos ((t_g73 c hc).mpr h), within_hi ((t_7_65 c hc).mpr (by omega)), bd1_s, if_pos rfl, bd2_s, ck_t (Or.inl rfl)]
    exact Or.inr (Or.inl ⟨_, _, rfl, rfl, frC_si (Or.inl rfl), frM_rf⟩)
theorem step_2 {σ τ : St} {n met want c : Nat} (h0 : RR0 σ τ n met want) (hn : n < 24) (ho : σ 43 0 = 2) (ho2 : τ 45 0 = 2) (hc : c < 127) : StepOut σ τ (fX3_ends σ (nI c)) (fX6_takes τ (nI c)) := by
  unfold fX3_ends fX6_takes
  rw [ho, ho2, if_neg d_2_0, if_neg d_2_1, if_neg d_2_4, if_neg d_2_m, if_pos rfl]
  by_cases hx : c < 65 ∨ 73 ≤ c
  · exact lab_bad (n := n) (met := met) (want := want) hc hx 2
  obtain ⟨l, rfl⟩ : ∃ l, c = 65 + l := ⟨c - 65, by omega⟩
  have hl : l < 8 := by omega
  obtain ⟨h1, h2, h3, h4, h5, h6, h7, h8, h9, h10, h11⟩ := id h0
  unfold fX3_ends_b145 fX6_takes_b30 fX6_takesLetter
  rw [if_neg (fun z => by have := (t_l65 _ hc).mp z; omega), if_neg (fun z => by have := (t_g73 _ hc).mp z; omega), within_in (fun z => by have := (t_65_0 _ hc).mp z; omega) (fun z => by have := (t_7_65 _ hc).mp z; omega), bd1_s, if_neg d_1_0, ho2, if_neg d_2_3, t_sub65 (by omega), show 65 + l - 65 = l by omega]
  unfold fX3_endsWithLabel fX6_takesLetter_b37 fX6_takesLetter_b57 fX6_takesLetter_b81
  rw [if_pos rfl, ho2, if_neg d_2_3, if_pos rfl]
  have e1 : (si σ 43 (-1 : Int32)) 45 0 = nI want := by rw [si_ne (by decide)]; exact h10
  rw [e1, (t_or want h9 l hl).1, h8, t_or0 met h6]
  have e2 : (si (si σ 43 (-1 : Int32)) 45 (nI (want ||| 2 ^ l))) 46 0 = nI n := by rw [si_ne (by decide), si_ne (by decide)]; exact h2
  have e3 : (si (si τ 46 (nI met)) 47 (nI want ||| (1 : Int32) <<< (nI l &&& 31))) 44 0 = nI n := by rw [si_ne (by decide), si_ne (by decide)]; exact h3
  rw [h11]
  rw [add_in_r e2 hn, bd2_s, ck_t (Or.inr rfl), bd2_s, if_neg (by decide), keep_in e3 hn, bd1_s, bd2_s, ck_t (Or.inr rfl), (t_or want h9 l hl).1]
  have hk : (si τ 46 (nI met)) 45 0 = 2 := by rw [si_ne (by decide)]; exact ho2
  rw [hk]
  have h0' : RR0 (si (si σ 43 (-1 : Int32)) 45 (nI (want ||| 2 ^ l))) (si (si τ 46 (nI met)) 47 (nI (want ||| 2 ^ l))) n met (want ||| 2 ^ l) :=
    RR0_to h0 (by rw [si_ne (by decide), si_ne (by decide)]) (by rw [si_ne (by decide), si_ne (by decide)]) (by rw [si_ne (by decide), si_ne (by decide)]) (by rw [si_ne (by decide), si_ne (by decide)]) (by rw [si_ne (by decide), si_ne (by decide)]) (by rw [si_ne (by decide), si_ne (by decide)]) (by rw [si_ne (by decide), si_ne (by decide)]) h6 (by rw [si_ne (by decide), si_ne (by decide)]; exact h7) (by rw [si_ne (by decide), si_at]) (t_or want h9 l hl).2 (si_at _ _ _ _) (si_at _ _ _ _)
  refine Or.inl ⟨_, _, n + 1, met, want ||| 2 ^ l, -1, rfl, rfl, ⟨RR0_add h0' hn ⟨2, l, rfl, rfl, by omega⟩, ?_, ?_, Or.inl rfl⟩, ((frC_si (Or.inl rfl)).tr (frC_si (Or.inr (Or.inr rfl)))).tr frC_add, ((frM_si (Or.inr (Or.inl rfl))).tr (frM_si (Or.inr (Or.inr rfl)))).tr frM_keep⟩
  · rw [addS_frame_r (by decide) (by decide) (by decide) (by decide), si_ne (by decide), si_at]
  · unfold keepS; rw [si_at]
theorem step_3 {σ τ : St} {n met want c : Nat} (h0 : RR0 σ τ n met want) (hn : n < 24) (ho : σ 43 0 = 3) (ho2 : τ 45 0 = 3) (hc : c < 127) : StepOut σ τ (fX3_ends σ (nI c)) (fX6_takes τ (nI c)) := by
  unfold fX3_ends fX6_takes
  rw [ho, ho2, if_neg d_3_0, if_neg d_3_1, if_neg d_3_4, if_neg d_3_m, if_neg d_3_2, if_pos rfl]
  by_cases hx : c < 65 ∨ 73 ≤ c
  · exact lab_bad (n := n) (met := met) (want := want) hc hx 3
  obtain ⟨l, rfl⟩ : ∃ l, c = 65 + l := ⟨c - 65, by omega⟩
  have hl : l < 8 := by omega
  obtain ⟨h1, h2, h3, h4, h5, h6, h7, h8, h9, h10, h11⟩ := id h0
  unfold fX3_ends_b145 fX6_takes_b30 fX6_takesLetter
  rw [if_neg (fun z => by have := (t_l65 _ hc).mp z; omega), if_neg (fun z => by have := (t_g73 _ hc).mp z; omega), within_in (fun z => by have := (t_65_0 _ hc).mp z; omega) (fun z => by have := (t_7_65 _ hc).mp z; omega), bd1_s, if_neg d_1_0, ho2, if_pos rfl, t_sub65 (by omega), show 65 + l - 65 = l by omega, h8]
  unfold fX3_endsWithLabel
  have e1 : (si σ 43 (-1 : Int32)) 44 0 = nI met := by rw [si_ne (by decide)]; exact h7
  rw [if_neg d_3_2, e1]
  by_cases hb : ((nI met >>> (nI l &&& 31)) &&& (1 : Int32)) = 1
  · rw [if_pos hb, if_neg (fun z => (t_bit met h6 l hl).mp z hb), bd2_s, if_pos rfl, bd2_s, ck_t (Or.inl rfl)]
    exact Or.inr (Or.inl ⟨_, _, rfl, rfl, frC_si (Or.inl rfl), frM_rf⟩)
  rw [if_neg hb, if_pos ((t_bit met h6 l hl).mpr hb)]
  unfold fX6_takesLetter_b37 fX6_takesLetter_b57 fX6_takesLetter_b81
  rw [ho2, if_pos rfl, if_neg d_3_2, h8, (t_or met h6 l hl).1, h11, t_or0 want h9]
  have e2 : (si (si σ 43 (-1 : Int32)) 44 (nI (met ||| 2 ^ l))) 46 0 = nI n := by rw [si_ne (by decide), si_ne (by decide)]; exact h2
  have e3 : (si (si τ 46 (nI (met ||| 2 ^ l))) 47 (nI want)) 44 0 = nI n := by rw [si_ne (by decide), si_ne (by decide)]; exact h3
  rw [add_in_r e2 hn, bd2_s, ck_t (Or.inr rfl), bd2_s, if_neg (by decide), keep_in e3 hn, bd1_s, bd2_s, ck_t (Or.inr rfl)]
  have hk : (si τ 46 (nI (met ||| 2 ^ l))) 45 0 = 3 := by rw [si_ne (by decide)]; exact ho2
  rw [hk]
  have h0' : RR0 (si (si σ 43 (-1 : Int32)) 44 (nI (met ||| 2 ^ l))) (si (si τ 46 (nI (met ||| 2 ^ l))) 47 (nI want)) n (met ||| 2 ^ l) want :=
    RR0_to h0 (by rw [si_ne (by decide), si_ne (by decide)]) (by rw [si_ne (by decide), si_ne (by decide)]) (by rw [si_ne (by decide), si_ne (by decide)]) (by rw [si_ne (by decide), si_ne (by decide)]) (by rw [si_ne (by decide), si_ne (by decide)]) (by rw [si_ne (by decide), si_ne (by decide)]) (by rw [si_ne (by decide), si_ne (by decide)]) (t_or met h6 l hl).2 (si_at _ _ _ _) (by rw [si_ne (by decide), si_at]) h9 (by rw [si_ne (by decide), si_ne (by decide)]; exact h10) (si_at _ _ _ _)
  refine Or.inl ⟨_, _, n + 1, met ||| 2 ^ l, want, -1, rfl, rfl, ⟨RR0_add h0' hn ⟨3, l, rfl, rfl, by omega⟩, ?_, ?_, Or.inl rfl⟩, ((frC_si (Or.inl rfl)).tr (frC_si (Or.inr (Or.inl rfl)))).tr frC_add, ((frM_si (Or.inr (Or.inl rfl))).tr (frM_si (Or.inr (Or.inr rfl)))).tr frM_keep⟩
  · rw [addS_frame_r (by decide) (by decide) (by decide) (by decide), si_ne (by decide), si_at]
  · unfold keepS; rw [si_at]
/-- one letter -/
theorem step_any {σ τ : St} {n met want c : Nat} {op : Int32} (h : RR σ τ n met want op) (hc : c < 127) : StepOut σ τ (stepC σ (nI c)) (fX6_takes τ (nI c)) := by
  obtain ⟨h0, ho, ho2, hop⟩ := h
  unfold stepC
  rcases hop with e | ⟨e, hn⟩
  · rw [ho, if_pos e]
    unfold fX6_takes
    rw [ho2, if_pos e]
    have hs := step_first h0 (ho.trans e) (ho2.trans e) (nI c)
    rcases hs with ⟨s, t, n', met', want', op', a, b, r, f, g⟩ | ⟨s, t, a, b, f, g⟩ | ⟨s, t, a, b, f, g, u, v⟩
    · rw [b, bd2_s, ck_t (Or.inr rfl)]
      exact Or.inl ⟨s, t, n', met', want', op', a, rfl, r, f, g⟩
    · rw [b, bd2_s, ck_t (Or.inl rfl)]
      exact Or.inr (Or.inl ⟨s, t, a, rfl, f, g⟩)
    · rw [b, bd2_s, ck_t (Or.inr rfl)]
      exact Or.inr (Or.inr ⟨s, t, a, rfl, f, g, u, v⟩)
  · rcases e with rfl | rfl | rfl | rfl | rfl
    · rw [ho, if_neg (by decide)]; exact step_0 h0 hn ho ho2 hc
    · rw [ho, if_neg (by decide)]; exact step_1 h0 hn ho ho2 hc
    · rw [ho, if_neg (by decide)]; exact step_2 h0 hn ho ho2 hc
    · rw [ho, if_neg (by decide)]; exact step_3 h0 hn ho ho2 hc
    · rw [ho, if_neg (by decide)]; exact step_4 h0 hn ho ho2 hc
/-! The whole page is gone along. -/
theorem ninth_next {t : St} {c : Nat} (h3 : t 45 0 = 3) (h4 : t 46 0 = nI 255) (hc : c < 127) : fX6_takes t (nI c) = some (0, t) := by
  unfold fX6_takes
  rw [h3, if_neg d_3_m, if_neg d_3_2, if_pos rfl]
  unfold fX6_takes_b30 fX6_takesLetter
  by_cases h : c < 65
  · rw [within_lo ((t_65_0 c hc).mpr h), bd1_s, if_pos rfl, bd2_s, ck_t (Or.inl rfl)]
  by_cases h' : 72 < c
  · rw [within_hi ((t_7_65 c hc).mpr h'), bd1_s, if_pos rfl, bd2_s, ck_t (Or.inl rfl)]
  rw [within_in (fun z => h ((t_65_0 c hc).mp z)) (fun z => h' ((t_7_65 c hc).mp z)), bd1_s, if_neg d_1_0, h3, if_pos rfl, h4, t_sub65 (by omega), t_all (c - 65) (by omega), if_pos rfl, bd2_s, ck_t (Or.inl rfl)]
def ReadOut (n : Nat) (p : Int32) (s : St) (q : Int32) (t : St) : Prop :=
  (p = nI n ∧ q = nI n ∧ ∃ m met want op, RR s t m met want op) ∨ ((∃ i, i < n ∧ p = nI i) ∧ ((∃ i, i < n ∧ q = nI i) ∨ (q = nI n ∧ t 45 0 = 3)))
theorem readC_end {σ : St} {n N : Nat} (h : σ 42 0 = nI n) : fX3_read_l24 (N + 1) σ (nI n) = some (nI n, σ) := by
  show fX3_read_s24 (fX3_read_l24 N) σ (nI n) = _
  unfold fX3_read_s24 fX1_length
  rw [h, bd1_s, if_pos (Int32.le_refl _), bd1_s]
theorem readC_step {σ : St} {n i N c : Nat} (h50 : n ≤ 50) (h : σ 42 0 = nI n) (hi : i < n) (hc : σ 2 i = nI c) : fX3_read_l24 (N + 1) σ (nI i) = bd2 (stepC σ (nI c)) (fun r s => fX3_read_b59 (fX3_read_l24 N) s (nI i) r) := by
  show fX3_read_s24 (fX3_read_l24 N) σ (nI i) = _
  unfold fX3_read_s24 stepC
  rw [letter_at h50 h hi, bd1_s, hc]
  unfold fX1_length
  rw [h, bd1_s, if_neg (nI_ge hi (by omega))]
  by_cases e : σ 43 0 = (-1 : Int32)
  · rw [if_pos e, if_pos e]
  · rw [if_neg e, if_neg e]
theorem readM_end {τ : St} {n N : Nat} (h : τ 40 0 = nI n) : fX6_goAlong_l22 (N + 1) τ (nI n) = some (nI n, τ) := by
  show fX6_goAlong_s22 (fX6_goAlong_l22 N) τ (nI n) = _
  unfold fX6_goAlong_s22
  rw [h, if_pos (Int32.le_refl _)]
theorem readM_step {τ : St} {n i N c : Nat} (h50 : n ≤ 50) (h : τ 40 0 = nI n) (hi : i < n) (hc : τ 1 i = nI c) : fX6_goAlong_l22 (N + 1) τ (nI i) = bd2 (fX6_takes τ (nI c)) (fun r s => if r = 0 then some (nI i, s) else fX6_goAlong_l22 N s (nI (i + 1))) := by
  show fX6_goAlong_s22 (fX6_goAlong_l22 N) τ (nI i) = _
  unfold fX6_goAlong_s22
  rw [h, if_neg (nI_ge hi (by omega)), ck_t (ckN (by omega) (by omega)), nI_clamp (by omega), hc, nI_1]
theorem read_loop {n : Nat} : ∀ (d i : Nat) (σ τ : St) (N M : Nat), i + d = n → d < N → d < M → RPg σ τ n → (∃ m met want op, RR σ τ m met want op) → ∃ p s q t, fX3_read_l24 N σ (nI i) = some (p, s) ∧ fX6_goAlong_l22 M τ (nI i) = some (q, t) ∧ frC σ s ∧ frM τ t ∧ ReadOut n p s q t := by
  intro d
  induction d with
  | zero =>
    intro i σ τ N M h hN hM hp hr
    obtain ⟨N, rfl⟩ : ∃ k, N = k + 1 := ⟨N - 1, by omega⟩
    obtain ⟨M, rfl⟩ : ∃ k, M = k + 1 := ⟨M - 1, by omega⟩
    have hi : i = n := by omega
    subst hi
    exact ⟨_, _, _, _, readC_end hp.2.1, readM_end hp.2.2.1, frC_rf, frM_rf, Or.inl ⟨rfl, rfl, hr⟩⟩
  | succ d ih =>
    intro i σ τ N M h hN hM hp hr
    obtain ⟨N, rfl⟩ : ∃ k, N = k + 1 := ⟨N - 1, by omega⟩
    obtain ⟨M, rfl⟩ : ∃ k, M = k + 1 := ⟨M - 1, by omega⟩
    have hi : i < n := by omega
    obtain ⟨h50, hs, ht, hl⟩ := id hp
    obtain ⟨hst, c, hc, hc2⟩ := hl i hi
    obtain ⟨m, met, want, op, hrr⟩ := hr
    rw [readC_step h50 hs hi hc2, readM_step h50 ht hi (by rw [← hst]; exact hc2)]
    rcases step_any hrr hc with ⟨s, t, n', met', want', op', a, b, r, f, g⟩ | ⟨s, t, a, b, f, g⟩ | ⟨s, t, a, b, f, g, u, v⟩
    · have hp' : RPg s t n := RPg_to hp (f 42 (by decide) (by decide) (by decide) (by decide) (by decide) (by decide) (by decide)) (f 2 (by decide) (by decide) (by decide) (by decide) (by decide) (by decide) (by decide)) (g 40 (by decide) (by decide) (by decide) (by decide) (by decide) (by decide)) (g 1 (by decide) (by decide) (by decide) (by decide) (by decide) (by decide))
      obtain ⟨p, s2, q, t2, e1, e2, f2, g2, out⟩ := ih (i + 1) s t N M (by omega) (by omega) (by omega) hp' ⟨n', met', want', op', r⟩
      refine ⟨p, s2, q, t2, ?_, ?_, f.tr f2, g.tr g2, out⟩
      · rw [a, bd2_s]; unfold fX3_read_b59; rw [if_neg d_1_0, nI_1]; exact e1
      · rw [b, bd2_s, if_neg d_1_0]; exact e2
    · refine ⟨nI i, s, nI i, t, ?_, ?_, f, g, Or.inr ⟨⟨i, hi, rfl⟩, Or.inl ⟨i, hi, rfl⟩⟩⟩
      · rw [a, bd2_s]; unfold fX3_read_b59; rw [if_pos rfl]
      · rw [b, bd2_s, if_pos rfl]
    · have ht' : t 40 0 = nI n := by rw [g 40 (by decide) (by decide) (by decide) (by decide) (by decide) (by decide)]; exact ht
      obtain ⟨M, rfl⟩ : ∃ k, M = k + 1 := ⟨M - 1, by omega⟩
      by_cases hn : i + 1 = n
      · refine ⟨nI i, s, nI n, t, ?_, ?_, f, g, Or.inr ⟨⟨i, hi, rfl⟩, Or.inr ⟨rfl, u⟩⟩⟩
        · rw [a, bd2_s]; unfold fX3_read_b59; rw [if_pos rfl]
        · rw [b, bd2_s, if_neg d_1_0, hn]; exact readM_end ht'
      · obtain ⟨hst2, c2, hcc, hc3⟩ := hl (i + 1) (by omega)
        refine ⟨nI i, s, nI (i + 1), t, ?_, ?_, f, g, Or.inr ⟨⟨i, hi, rfl⟩, Or.inl ⟨i + 1, by omega, rfl⟩⟩⟩
        · rw [a, bd2_s]; unfold fX3_read_b59; rw [if_pos rfl]
        · rw [b, bd2_s, if_neg d_1_0, readM_step h50 ht' (show i + 1 < n by omega) (c := c2) (by rw [g 1 (by decide) (by decide) (by decide) (by decide) (by decide) (by decide), ← hst2]; exact hc3), ninth_next u v hcc, bd2_s, if_pos rfl]
theorem eq_read {σ τ : St} {n : Nat} (h : RPg σ τ n) : ∃ p s q t, fX3_read σ = some (p, s) ∧ fX6_goAlong τ = some (q, t) ∧ frC σ s ∧ frM τ t ∧ ReadOut n p s q t := by
  have hn50 := h.1
  have f0 : frC σ (si (si (si (si (si σ 46 0) 47 0) 43 (-1)) 44 0) 45 0) := fun j h5 h6 h43 h44 h45 h46 h47 => by rw [si_ne h45, si_ne h44, si_ne h43, si_ne h47, si_ne h46]
  have g0 : frM τ (si (si (si (si τ 44 0) 45 (-1)) 46 0) 47 0) := fun j h5 h6 h44 h45 h46 h47 => by rw [si_ne h47, si_ne h46, si_ne h45, si_ne h44]
  have hp : RPg (si (si (si (si (si σ 46 0) 47 0) 43 (-1)) 44 0) 45 0) (si (si (si (si τ 44 0) 45 (-1)) 46 0) 47 0) n := RPg_to h (f0 42 (by decide) (by decide) (by decide) (by decide) (by decide) (by decide) (by decide)) (f0 2 (by decide) (by decide) (by decide) (by decide) (by decide) (by decide) (by decide)) (g0 40 (by decide) (by decide) (by decide) (by decide) (by decide) (by decide)) (g0 1 (by decide) (by decide) (by decide) (by decide) (by decide) (by decide))
  obtain ⟨p, s, q, t, e1, e2, f, g, out⟩ := read_loop n 0 _ _ FU FU (by omega) (by unfold FU; omega) (by unfold FU; omega) hp ⟨0, 0, 0, -1, ⟨by omega, rfl, rfl, fun i hi => absurd hi (Nat.not_lt_zero _), rfl, by omega, rfl, rfl, by omega, rfl, rfl⟩, rfl, rfl, Or.inl rfl⟩
  exact ⟨p, s, q, t, e1, e2, f0.tr f, g0.tr g, out⟩
/-! code, reach, grow: as far as their placing. -/
/-- the program of class and reference -/
def RPr (σ τ : St) (m : Nat) : Prop := m ≤ 24 ∧ σ 48 0 = nI m ∧ τ 41 0 = nI m ∧ (∀ i, i < m → σ 8 i = τ 2 i ∧ σ 9 i = τ 3 i ∧ wfI (σ 8 i) (σ 9 i)) ∧ σ 49 0 = nI (cnt5 (σ 8) m)
theorem RPr_to {σ τ s t : St} {m : Nat} (h : RPr σ τ m) (a8 : s 8 = σ 8) (a9 : s 9 = σ 9) (a48 : s 48 = σ 48) (a49 : s 49 = σ 49) (b2 : t 2 = τ 2) (b3 : t 3 = τ 3) (b41 : t 41 = τ 41) : RPr s t m := by
  obtain ⟨h1, h2, h3, h4, h5⟩ := h
  exact ⟨h1, by rw [a48]; exact h2, by rw [b41]; exact h3, fun i hi => by rw [a8, a9, b2, b3]; exact h4 i hi, by rw [a49, a8]; exact h5⟩
theorem take_loop {m : Nat} (h24 : m ≤ 24) : ∀ (d i : Nat) (σ : St) (N : Nat), i + d = m → d < N → σ 46 0 = nI m → σ 48 0 = nI i → (∀ j, j < i → σ 8 j = σ 5 j ∧ σ 9 j = σ 6 j) → σ 49 0 = nI (cnt5 (σ 5) i) → ∃ s, fX0_takeFrom_p_l6 N σ (nI i) = some s ∧ s 48 0 = nI m ∧ (∀ j, j < m → s 8 j = σ 5 j ∧ s 9 j = σ 6 j) ∧ s 49 0 = nI (cnt5 (σ 5) m) ∧ (∀ j, j ≠ 8 → j ≠ 9 → j ≠ 48 → j ≠ 49 → s j = σ j) := by
  intro d
  induction d with
  | zero =>
    intro i σ N h hN h46 h48 hc hg
    obtain ⟨N, rfl⟩ : ∃ k, N = k + 1 := ⟨N - 1, by omega⟩
    have hi : i = m := by omega
    subst hi
    refine ⟨σ, ?_, h48, hc, hg, fun _ _ _ _ _ => rfl⟩
    show fX0_takeFrom_p_s6 (fX0_takeFrom_p_l6 N) σ (nI i) = _
    unfold fX0_takeFrom_p_s6 fX0_size_r
    rw [h46, bd1_s, if_pos (Int32.le_refl _)]
  | succ d ih =>
    intro i σ N h hN h46 h48 hc hg
    obtain ⟨N, rfl⟩ : ∃ k, N = k + 1 := ⟨N - 1, by omega⟩
    have hi : i < m := by omega
    have a46 : addS_p σ i (σ 5 i) (σ 6 i) 46 = σ 46 := addS_frame_p (by decide) (by decide) (by decide) (by decide)
    have a5 : addS_p σ i (σ 5 i) (σ 6 i) 5 = σ 5 := addS_frame_p (by decide) (by decide) (by decide) (by decide)
    have a6 : addS_p σ i (σ 5 i) (σ 6 i) 6 = σ 6 := addS_frame_p (by decide) (by decide) (by decide) (by decide)
    obtain ⟨s, e1, e2, e3, e4, e5⟩ := ih (i + 1) (addS_p σ i (σ 5 i) (σ 6 i)) N (by omega) (by omega) (by rw [a46]; exact h46) addS_size_p (fun j hj => by
      rw [addS_kinds_p, addS_told_p, a5, a6]
      by_cases e : j = i
      · subst e; rw [pk_us, pk_us]; exact ⟨rfl, rfl⟩
      · rw [pk_un e, pk_un e]; exact hc j (by omega)) (by
      rw [addS_gaps_p, a5]
      show _ = nI (cnt5 (σ 5) i + (if σ 5 i = 5 then 1 else 0))
      by_cases e : σ 5 i = 5
      · rw [if_pos e, if_pos e, hg, nI_1]
      · rw [if_neg e, if_neg e, hg]; rfl)
    rw [a5, a6] at e3
    rw [a5] at e4
    refine ⟨s, ?_, e2, e3, e4, fun j h8 h9 h48 h49 => by rw [e5 j h8 h9 h48 h49, addS_frame_p h8 h9 h48 h49]⟩
    show fX0_takeFrom_p_s6 (fX0_takeFrom_p_l6 N) σ (nI i) = _
    unfold fX0_takeFrom_p_s6
    rw [show fX0_size_r σ = some (nI m) from by unfold fX0_size_r; rw [h46], bd1_s, if_neg (nI_ge hi (by omega)), if_neg (nI24 (by omega)), kind_in_r h46 h24 hi, bd1_s, told_in_r h46 h24 hi, bd1_s, add_in_p h48 (by omega), bd2_s, nI_1]
    exact e1
theorem take_all {σ : St} {m : Nat} (h24 : m ≤ 24) (h46 : σ 46 0 = nI m) : ∃ s, fX0_takeFrom_p σ = some s ∧ s 48 0 = nI m ∧ (∀ j, j < m → s 8 j = σ 5 j ∧ s 9 j = σ 6 j) ∧ s 49 0 = nI (cnt5 (σ 5) m) ∧ (∀ j, j ≠ 8 → j ≠ 9 → j ≠ 48 → j ≠ 49 → s j = σ j) := by
  obtain ⟨s, e1, e2, e3, e4, e5⟩ := take_loop h24 m 0 (si (si σ 48 0) 49 0) FU (by omega) (by unfold FU; omega) (by rw [si_ne (by decide), si_ne (by decide)]; exact h46) rfl (fun j hj => absurd hj (Nat.not_lt_zero _)) rfl
  exact ⟨s, e1, e2, e3, e4, fun j h8 h9 h48 h49 => by rw [e5 j h8 h9 h48 h49, si_ne h49, si_ne h48]⟩
theorem copy_loop {m : Nat} (h24 : m ≤ 24) : ∀ (d i : Nat) (τ : St) (N : Nat), i + d = m → d < N → τ 41 0 = nI m → (∀ j, j < i → τ 2 j = τ 5 j ∧ τ 3 j = τ 6 j) → ∃ t, fX6_code_l54 N τ (nI i) = bd1 (fX6_placeAll (si (si t 42 ((t 42 0) + (1 : Int32))) 40 (0 : Int32))) (fun s10 => some ((s10 41 0), s10)) ∧ (∀ j, j < m → t 2 j = τ 5 j ∧ t 3 j = τ 6 j) ∧ (∀ j, j ≠ 2 → j ≠ 3 → t j = τ j) := by
  intro d
  induction d with
  | zero =>
    intro i τ N h hN h41 hc
    obtain ⟨N, rfl⟩ : ∃ k, N = k + 1 := ⟨N - 1, by omega⟩
    have hi : i = m := by omega
    subst hi
    refine ⟨τ, ?_, hc, fun _ _ _ => rfl⟩
    show fX6_code_s54 (fX6_code_l54 N) τ (nI i) = _
    unfold fX6_code_s54
    rw [h41, if_pos (Int32.le_refl _)]
  | succ d ih =>
    intro i τ N h hN h41 hc
    obtain ⟨N, rfl⟩ : ∃ k, N = k + 1 := ⟨N - 1, by omega⟩
    have hi : i < m := by omega
    obtain ⟨t, e1, e2, e3⟩ := ih (i + 1) (sa (sa τ 2 i (τ 5 i)) 3 i (τ 6 i)) N (by omega) (by omega) (by rw [sa_ne (by decide), sa_ne (by decide)]; exact h41) (fun j hj => by
      rw [sa_at, sa_ne (show (2 : Nat) ≠ 3 by decide), sa_at, sa_ne (show (5 : Nat) ≠ 3 by decide), sa_ne (show (5 : Nat) ≠ 2 by decide), sa_ne (show (6 : Nat) ≠ 3 by decide), sa_ne (show (6 : Nat) ≠ 2 by decide), sa_ne (show (3 : Nat) ≠ 2 by decide)]
      by_cases e : j = i
      · subst e; rw [pk_us, pk_us]; exact ⟨rfl, rfl⟩
      · rw [pk_un e, pk_un e]; exact hc j (by omega))
    refine ⟨t, ?_, fun j hj => ?_, fun j h2 h3 => by rw [e3 j h2 h3, sa_ne h3, sa_ne h2]⟩
    · show fX6_code_s54 (fX6_code_l54 N) τ (nI i) = _
      unfold fX6_code_s54
      have c := ckN (i := i) (N := 24) (by omega) (by omega)
      rw [h41, if_neg (nI_ge hi (by omega)), ck_t c, ck_t c, ck_t c, ck_t c, nI_clamp (by omega), nI_1]
      exact e1
    · have := e2 j hj
      rw [sa_ne (show (5 : Nat) ≠ 3 by decide), sa_ne (show (5 : Nat) ≠ 2 by decide), sa_ne (show (6 : Nat) ≠ 3 by decide), sa_ne (show (6 : Nat) ≠ 2 by decide)] at this
      exact this
/-- code: both refuse, or both go on to place the same program -/
theorem code_split {σ τ : St} {n : Nat} (h : RPg σ τ n) :
    (∃ s t, fX5_code σ = some (-1003, s) ∧ fX6_code τ = some (-1003, t) ∧ frC σ s ∧ frM τ t) ∨
    (∃ s t m, 0 < m ∧ fX5_code σ = bd1 (fX2_placeAll s) (fun s19 => bd1 (fX0_size_p s19) fun r21 => some (r21, s19)) ∧ fX6_code τ = bd1 (fX6_placeAll t) (fun s10 => some ((s10 41 0), s10)) ∧ RPr s t m ∧ RPg s t 0 ∧ s 40 0 = σ 40 0 + 1 ∧ t 42 0 = τ 42 0 + 1 ∧
      (∀ j, j = 10 ∨ j = 41 ∨ (12 ≤ j ∧ j ≤ 39) ∨ 50 ≤ j → s j = σ j) ∧ (∀ j, j = 4 ∨ j = 43 ∨ (7 ≤ j ∧ j ≤ 39) ∨ 48 ≤ j → t j = τ j)) := by
  obtain ⟨p, s, q, t, e1, e2, f, g, out⟩ := eq_read h
  obtain ⟨h50, hs, ht, hl⟩ := h
  have s42 : s 42 0 = nI n := by rw [f 42 (by decide) (by decide) (by decide) (by decide) (by decide) (by decide) (by decide)]; exact hs
  have t40 : t 40 0 = nI n := by rw [g 40 (by decide) (by decide) (by decide) (by decide) (by decide) (by decide)]; exact ht
  have hlen : fX1_length s = some (nI n) := by unfold fX1_length; rw [s42]
  rcases out with ⟨rfl, rfl, m, met, want, op, hrr, ho, ho2, hop⟩ | ⟨⟨i, hi, rfl⟩, hq⟩
  · obtain ⟨h1, h2, h3, h4, h5, h6, h7, h8, h9, h10, h11⟩ := id hrr
    have nlt : ¬ nI n < nI n := nI_nlt (Nat.le_refl _) (by omega)
    by_cases bad : m = 0 ∨ ¬ op = -1 ∨ ¬ (nI want &&& (nI met ^^^ (-1 : Int32))) = 0
    · left
      refine ⟨s, t, ?_, ?_, f, g⟩
      · unfold fX5_code
        rw [e1, bd2_s, hlen, bd1_s, if_neg nlt]
        have hw : fX3_isWhole s = some 0 := by
          unfold fX3_isWhole fX0_size_r
          rw [h2, bd1_s, ho, h10, h7]
          by_cases m0 : m = 0
          · subst m0; rw [if_pos (by decide)]
          · rw [if_neg (nI_nle (by omega) (by omega))]
            by_cases o1 : op = -1
            · rw [if_pos o1, if_neg (by rcases bad with b | b | b; exact absurd b m0; exact absurd o1 b; exact b)]
            · rw [if_neg o1]
        rw [hw, bd1_s, if_pos rfl]
      · unfold fX6_code
        rw [e2, bd2_s, t40, if_neg nlt, ho2, h3, h11, h8]
        by_cases o1 : op = -1
        · rw [if_pos o1]
          by_cases m0 : m = 0
          · subst m0; rw [if_pos (by decide)]
          · rw [if_neg (nI_ne0 (by omega) (by omega)), if_neg (by rcases bad with b | b | b; exact absurd b m0; exact absurd o1 b; exact b)]
        · rw [if_neg o1]
    · right
      have m0 : ¬ m = 0 := fun z => bad (Or.inl z)
      have o1 : op = -1 := Decidable.byContradiction (fun z => bad (Or.inr (Or.inl z)))
      have b1 : (nI want &&& (nI met ^^^ (-1 : Int32))) = 0 := Decidable.byContradiction (fun z => bad (Or.inr (Or.inr z)))
      obtain ⟨s1, a1, a2, a3, a4, a5⟩ := take_all h1 h2
      obtain ⟨t1, b2, b3, b4⟩ := copy_loop h1 m 0 (si t 41 (nI m)) FU (by omega) (by unfold FU; omega) (si_at _ _ _ _) (fun j hj => absurd hj (Nat.not_lt_zero _))
      have hcl : fX1_clear s1 = some (si s1 42 0) := rfl
      refine ⟨si (si s1 42 0) 40 ((si s1 42 0) 40 0 + 1), si (si t1 42 (t1 42 0 + 1)) 40 0, m, Nat.pos_of_ne_zero m0, ?_, ?_, ⟨h1, ?_, ?_, fun i hi => ?_, ?_⟩, ⟨by omega, ?_, ?_, fun i hi => absurd hi (Nat.not_lt_zero _)⟩, ?_, ?_, fun j hj => ?_, fun j hj => ?_⟩
      · unfold fX5_code
        rw [e1, bd2_s, hlen, bd1_s, if_neg nlt]
        have hw : fX3_isWhole s = some 1 := by
          unfold fX3_isWhole fX0_size_r
          rw [h2, bd1_s, ho, h10, h7, if_neg (nI_nle (by omega) (by omega)), if_pos o1, if_pos b1]
        rw [hw, bd1_s, if_neg d_1_0, a1, bd1_s, hcl, bd1_s]
      · unfold fX6_code
        rw [e2, bd2_s, t40, if_neg nlt, ho2, h3, h11, h8, if_pos o1, if_neg (nI_ne0 (by omega) (by omega)), if_pos b1]
        exact b2
      · rw [si_ne (by decide), si_ne (by decide)]; exact a2
      · rw [si_ne (by decide), si_ne (by decide), b4 41 (by decide) (by decide), si_at]
      · rw [si_ne (show (8 : Nat) ≠ 40 by decide), si_ne (show (8 : Nat) ≠ 42 by decide), si_ne (show (9 : Nat) ≠ 40 by decide), si_ne (show (9 : Nat) ≠ 42 by decide), si_ne (show (2 : Nat) ≠ 40 by decide), si_ne (show (2 : Nat) ≠ 42 by decide), si_ne (show (3 : Nat) ≠ 40 by decide), si_ne (show (3 : Nat) ≠ 42 by decide), (a3 i hi).1, (a3 i hi).2, (b3 i hi).1, (b3 i hi).2, si_ne (show (5 : Nat) ≠ 41 by decide), si_ne (show (6 : Nat) ≠ 41 by decide)]
        exact h4 i hi
      · rw [si_ne (show (49 : Nat) ≠ 40 by decide), si_ne (show (49 : Nat) ≠ 42 by decide), si_ne (show (8 : Nat) ≠ 40 by decide), si_ne (show (8 : Nat) ≠ 42 by decide), a4, cnt5_congr (f := s 5) (g := s1 8) (fun i hi => ((a3 i hi).1).symm)]
      · rw [si_ne (by decide), si_at]; rfl
      · rw [si_at]; rfl
      · rw [si_at, si_ne (by decide), a5 40 (by decide) (by decide) (by decide) (by decide), f 40 (by decide) (by decide) (by decide) (by decide) (by decide) (by decide) (by decide)]
      · rw [si_ne (by decide), si_at, b4 42 (by decide) (by decide), si_ne (by decide), g 42 (by decide) (by decide) (by decide) (by decide) (by decide) (by decide)]
      · rw [si_ne (by omega), si_ne (by omega), a5 j (by omega) (by omega) (by omega) (by omega), f j (by omega) (by omega) (by omega) (by omega) (by omega) (by omega) (by omega)]
      · rw [si_ne (by omega), si_ne (by omega), b4 j (by omega) (by omega), si_ne (by omega), g j (by omega) (by omega) (by omega) (by omega) (by omega) (by omega)]
  · left
    refine ⟨s, t, ?_, ?_, f, g⟩
    · unfold fX5_code
      rw [e1, bd2_s, hlen, bd1_s, if_pos (nI_lt hi (by omega))]
    · unfold fX6_code
      rcases hq with ⟨i', hi', rfl⟩ | ⟨rfl, h3⟩
      · rw [e2, bd2_s, t40, if_pos (nI_lt hi' (by omega))]
      · rw [e2, bd2_s, t40, if_neg (nI_nlt (Nat.le_refl _) (by omega)), h3, if_neg d_3_m]
/-! What reaches what: exact answers of the class's readers of its placing. -/
def farI (a b : Int32) : Int32 := if b ≤ a then a - b else b - a
theorem far_eq (σ : St) (a b : Int32) : fX5_far σ a b = some (farI a b) := by
  unfold fX5_far farI
  by_cases h : b ≤ a
  · rw [if_pos h, if_pos h]
  · rw [if_neg h, if_neg h]
theorem apart_eq (τ : St) (a b : Int32) : fX6_apart τ a b = some (farI a b) := by
  unfold fX6_apart farI
  by_cases h : b ≤ a
  · rw [if_pos h, if_pos h]
  · rw [if_neg h, if_neg h]
theorem nI8 {i : Nat} (h : i < 8) : ¬ (8 : Int32) ≤ nI i := nI_ge (a := i) (b := 8) h (by omega)
theorem lab_in {σ : St} {l : Nat} (h : l < 8) : fX2_labelAddress σ (nI l) = some (σ 27 l) := by
  unfold fX2_labelAddress
  rw [if_neg (nI_pos (by omega)), if_neg (nI8 h), ck_t (ckN h (by omega)), nI_clamp (by omega)]
theorem itm_in {σ : St} {i : Nat} (h : i < 24) : fX4_isItem σ (nI i) = some 1 := by
  unfold fX4_isItem
  rw [if_neg (nI_pos (by omega)), if_neg (nI24 h)]
theorem addressOf_in {σ : St} {i : Nat} (h : i < 24) : fX2_addressOf σ (nI i) = some (σ 25 i) := by
  unfold fX2_addressOf
  rw [if_neg (nI_pos (by omega)), if_neg (show ¬ (24 : Int32) ≤ nI i from nI_ge (a := i) (b := 24) h (by omega)), ck_t (ckN h (by omega)), nI_clamp (by omega)]
theorem sizeOf_in {σ : St} {i : Nat} (h : i < 24) : fX2_sizeOf σ (nI i) = some (σ 26 i) := by
  unfold fX2_sizeOf
  rw [if_neg (nI_pos (by omega)), if_neg (show ¬ (24 : Int32) ≤ nI i from nI_ge (a := i) (b := 24) h (by omega)), ck_t (ckN h (by omega)), nI_clamp (by omega)]
theorem aimOf_in {σ : St} {i : Nat} (h : i < 24) : fX2_aimOf σ (nI i) = some (σ 28 i) := by
  unfold fX2_aimOf
  rw [if_neg (nI_pos (by omega)), if_neg (show ¬ (24 : Int32) ≤ nI i from nI_ge (a := i) (b := 24) h (by omega)), ck_t (ckN h (by omega)), nI_clamp (by omega)]
theorem islandAimOf_in {σ : St} {i : Nat} (h : i < 12) : fX2_islandAimOf σ (nI i) = some (σ 29 i) := by
  unfold fX2_islandAimOf
  rw [if_neg (nI_pos (by omega)), if_neg (show ¬ (12 : Int32) ≤ nI i from nI_ge (a := i) (b := 12) h (by omega)), ck_t (ckN h (by omega)), nI_clamp (by omega)]
theorem isLong_in {σ : St} {i : Nat} (h : i < 24) : fX2_isLong σ (nI i) = some (if σ 24 i = 0 then 0 else 1) := by
  unfold fX2_isLong
  rw [if_neg (nI_pos (by omega)), if_neg (nI24 h), ck_t (ckN h (by omega)), nI_clamp (by omega)]
  by_cases e : σ 24 i = 0
  · rw [if_pos e, if_pos e]
  · rw [if_neg e, if_neg e]
theorem straight_in {σ : St} {l : Nat} {x : Int32} (h : l < 8) : fX2_goesStraight σ x (nI l) = some (if σ 10 1 < farI x (σ 27 l) then 0 else 1) := by
  unfold fX2_goesStraight
  rw [lab_in h, bd1_s, far_eq, bd1_s, show Int32.toNatClampNeg (1 : Int32) = 1 from by decide]
  by_cases e : σ 10 1 < farI x (σ 27 l)
  · rw [if_pos e, if_pos e]
  · rw [if_neg e, if_neg e]
theorem short_in {σ : St} {l : Nat} {x : Int32} (h : l < 8) : fX2_shortAim σ x (nI l) = some (if σ 10 0 < farI x (σ 27 l) then -1 else σ 27 l) := by
  unfold fX2_shortAim
  rw [lab_in h, bd1_s, far_eq, bd1_s, show Int32.toNatClampNeg (0 : Int32) = 0 from by decide]
  by_cases e : σ 10 0 < farI x (σ 27 l)
  · rw [if_pos e, if_pos e]
  · rw [if_neg e, if_neg e]
/-- where a thing of the stock lies -/
def ad_i (σ : St) (k : Nat) : Int32 := σ 17 (Int32.toNatClampNeg (σ 14 k)) + 4 * σ 15 k
def Sk_i (σ : St) (n : Nat) : Prop := n ≤ 12 ∧ σ 56 0 = nI n ∧ ∀ k, k < n → ∃ r, r < 24 ∧ σ 14 k = nI r
theorem capN_i {i : Nat} (h : i < 12) : ¬ (12 : Int32) ≤ nI i := nI_ge (a := i) (b := 12) h (by omega)
theorem shas_in_i {σ : St} {n k : Nat} (hs : Sk_i σ n) (hk : k < n) : fX4_has_i σ (nI k) = some 1 := by
  obtain ⟨h1, h2, h3⟩ := hs
  unfold fX4_has_i
  rw [h2, if_neg (nI_pos (by omega)), if_neg (nI_ge hk (by omega)), if_neg (capN_i (by omega))]
theorem shas_out_i {σ : St} {n : Nat} {x : Int32} (hs : Sk_i σ n) (hx : ¬ ∃ i, i < n ∧ x = nI i) : fX4_has_i σ x = some 0 := by
  obtain ⟨h1, h2, h3⟩ := hs
  unfold fX4_has_i
  by_cases h0 : x < 0
  · rw [if_pos h0]
  · rw [if_neg h0, h2]
    rcases pk_ix x (n := n) (by omega) with h1 | h1 | h1
    · exact absurd h1 h0
    · rw [if_pos h1]
    · exact absurd h1 hx
theorem ssize_i {σ : St} {n : Nat} (hs : Sk_i σ n) : fX4_size_i σ = some (nI n) := by unfold fX4_size_i; rw [hs.2.1]
theorem sname_i {σ : St} {n k : Nat} (hs : Sk_i σ n) (hk : k < n) : fX4_nameOf_i σ (nI k) = some (σ 13 k) := by
  have h1 := hs.1
  unfold fX4_nameOf_i
  rw [shas_in_i hs hk, bd1_s, if_neg d_1_0, ck_t (ckN (by omega) (by omega)), nI_clamp (by omega)]
theorem sret_i {σ : St} {n k : Nat} (hs : Sk_i σ n) (hk : k < n) : fX4_returnOf_i σ (nI k) = some (σ 14 k) := by
  have h1 := hs.1
  unfold fX4_returnOf_i
  rw [shas_in_i hs hk, bd1_s, if_neg d_1_0, ck_t (ckN (by omega) (by omega)), nI_clamp (by omega)]
theorem saddr_i {σ : St} {n k : Nat} (hs : Sk_i σ n) (hk : k < n) : fX4_addressOf_i σ (nI k) = some (ad_i σ k) := by
  have h1 := hs.1
  obtain ⟨r, hr, er⟩ := hs.2.2 k hk
  unfold fX4_addressOf_i ad_i
  rw [shas_in_i hs hk, bd1_s, if_neg d_1_0, ck_t (ckN (by omega) (by omega)), nI_clamp (by omega), er, itm_in hr, bd1_s, if_neg d_1_0, ck_t (ckN hr (by omega)), ck_t (show ¬ (nI k < 0 ∨ 12 ≤ k) from fun z => z.elim (nI_pos (by omega)) (by omega))]
theorem saddr_m1_i {σ : St} {n : Nat} (hs : Sk_i σ n) : fX4_addressOf_i σ (-1) = some (-1) := by
  unfold fX4_addressOf_i
  rw [shas_out_i hs (fun ⟨i, hi, e⟩ => by have := hs.1; exact absurd (show (-1 : Int32) < 0 from by decide) (by rw [e]; exact nI_pos (by omega))), bd1_s, if_pos rfl]
/-- where a thing of the stock lies -/
def ad_c (σ : St) (k : Nat) : Int32 := σ 23 (Int32.toNatClampNeg (σ 20 k)) + 4 * σ 21 k
def Sk_c (σ : St) (n : Nat) : Prop := n ≤ 16 ∧ σ 57 0 = nI n ∧ ∀ k, k < n → ∃ r, r < 24 ∧ σ 20 k = nI r
theorem capN_c {i : Nat} (h : i < 16) : ¬ (16 : Int32) ≤ nI i := nI_ge (a := i) (b := 16) h (by omega)
theorem shas_in_c {σ : St} {n k : Nat} (hs : Sk_c σ n) (hk : k < n) : fX4_has_c σ (nI k) = some 1 := by
  obtain ⟨h1, h2, h3⟩ := hs
  unfold fX4_has_c
  rw [h2, if_neg (nI_pos (by omega)), if_neg (nI_ge hk (by omega)), if_neg (capN_c (by omega))]
theorem shas_out_c {σ : St} {n : Nat} {x : Int32} (hs : Sk_c σ n) (hx : ¬ ∃ i, i < n ∧ x = nI i) : fX4_has_c σ x = some 0 := by
  obtain ⟨h1, h2, h3⟩ := hs
  unfold fX4_has_c
  by_cases h0 : x < 0
  · rw [if_pos h0]
  · rw [if_neg h0, h2]
    rcases pk_ix x (n := n) (by omega) with h1 | h1 | h1
    · exact absurd h1 h0
    · rw [if_pos h1]
    · exact absurd h1 hx
theorem ssize_c {σ : St} {n : Nat} (hs : Sk_c σ n) : fX4_size_c σ = some (nI n) := by unfold fX4_size_c; rw [hs.2.1]
theorem sname_c {σ : St} {n k : Nat} (hs : Sk_c σ n) (hk : k < n) : fX4_nameOf_c σ (nI k) = some (σ 19 k) := by
  have h1 := hs.1
  unfold fX4_nameOf_c
  rw [shas_in_c hs hk, bd1_s, if_neg d_1_0, ck_t (ckN (by omega) (by omega)), nI_clamp (by omega)]
theorem sret_c {σ : St} {n k : Nat} (hs : Sk_c σ n) (hk : k < n) : fX4_returnOf_c σ (nI k) = some (σ 20 k) := by
  have h1 := hs.1
  unfold fX4_returnOf_c
  rw [shas_in_c hs hk, bd1_s, if_neg d_1_0, ck_t (ckN (by omega) (by omega)), nI_clamp (by omega)]
theorem saddr_c {σ : St} {n k : Nat} (hs : Sk_c σ n) (hk : k < n) : fX4_addressOf_c σ (nI k) = some (ad_c σ k) := by
  have h1 := hs.1
  obtain ⟨r, hr, er⟩ := hs.2.2 k hk
  unfold fX4_addressOf_c ad_c
  rw [shas_in_c hs hk, bd1_s, if_neg d_1_0, ck_t (ckN (by omega) (by omega)), nI_clamp (by omega), er, itm_in hr, bd1_s, if_neg d_1_0, ck_t (ckN hr (by omega)), ck_t (show ¬ (nI k < 0 ∨ 16 ≤ k) from fun z => z.elim (nI_pos (by omega)) (by omega))]
theorem saddr_m1_c {σ : St} {n : Nat} (hs : Sk_c σ n) : fX4_addressOf_c σ (-1) = some (-1) := by
  unfold fX4_addressOf_c
  rw [shas_out_c hs (fun ⟨i, hi, e⟩ => by have := hs.1; exact absurd (show (-1 : Int32) < 0 from by decide) (by rw [e]; exact nI_pos (by omega))), bd1_s, if_pos rfl]
/-- the island over which one goes: the best so far, and what is left from it -/
def islS (nm ad : Nat → Int32) (to r1 frm lb : Int32) : Nat → Int32 × Int32
  | 0 => (-1, farI frm to)
  | k + 1 => if (nm k = lb ∧ ¬ r1 < farI (ad k) frm) ∧ (farI (ad k) to < (islS nm ad to r1 frm lb k).2 ∨ (¬ (islS nm ad to r1 frm lb k).1 = -1 ∧ farI (ad k) to = (islS nm ad to r1 frm lb k).2 ∧ ¬ ad (Int32.toNatClampNeg (islS nm ad to r1 frm lb k).1) ≤ ad k)) then (nI k, farI (ad k) to) else islS nm ad to r1 frm lb k
theorem islS_best {nm ad : Nat → Int32} {to r1 frm lb : Int32} : ∀ k, (islS nm ad to r1 frm lb k).1 = -1 ∨ ∃ j, j < k ∧ (islS nm ad to r1 frm lb k).1 = nI j
  | 0 => Or.inl rfl
  | k + 1 => by
    unfold islS
    by_cases h : (nm k = lb ∧ ¬ r1 < farI (ad k) frm) ∧ (farI (ad k) to < (islS nm ad to r1 frm lb k).2 ∨ (¬ (islS nm ad to r1 frm lb k).1 = -1 ∧ farI (ad k) to = (islS nm ad to r1 frm lb k).2 ∧ ¬ ad (Int32.toNatClampNeg (islS nm ad to r1 frm lb k).1) ≤ ad k))
    · rw [if_pos h]; exact Or.inr ⟨k, by omega, rfl⟩
    · rw [if_neg h]
      rcases islS_best (nm := nm) (ad := ad) (to := to) (r1 := r1) (frm := frm) (lb := lb) k with e | ⟨j, hj, e⟩
      · exact Or.inl e
      · exact Or.inr ⟨j, by omega, e⟩
theorem nI_m1 {j : Nat} (h : j < 2 ^ 31) : ¬ nI j = -1 := fun e => absurd (show (-1 : Int32) < 0 from by decide) (by rw [← e]; exact nI_pos h)
theorem islC_b117 {σ : St} {K : Int32 → Int32 → Int32 → Int32 → Int32 → Int32 → Option Int32} {y1 y2 y3 y4 y5 y8 lead ahead : Int32} {k : Nat} : fX2_islandFor_b117 σ K y1 y2 y3 y4 y5 (nI k) y8 lead ahead = if (¬ lead = 0) ∧ (y8 < y5 ∨ ¬ ahead = 0) then K y1 y2 y3 (nI k) y8 (nI (k + 1)) else K y1 y2 y3 y4 y5 (nI (k + 1)) := by
  unfold fX2_islandFor_b117 fX2_islandFor_b136
  rw [nI_1]
  by_cases h1 : lead = 0
  · rw [if_pos h1, if_neg (fun z => z.1 h1)]
  · rw [if_neg h1]
    by_cases h2 : y8 < y5
    · rw [if_pos h2, if_pos ⟨h1, Or.inl h2⟩]
    · rw [if_neg h2]
      by_cases h3 : ahead = 0
      · rw [if_pos h3, if_neg (fun z => z.2.elim h2 (fun q => q h3))]
      · rw [if_neg h3, if_pos ⟨h1, Or.inr h3⟩]
theorem islC_b83 {σ : St} {n : Nat} (hs : Sk_i σ n) {K : Int32 → Int32 → Int32 → Int32 → Int32 → Int32 → Option Int32} {y1 y2 y3 y4 y5 y8 lead : Int32} {k : Nat} (hk : k < n) (hb : y4 = -1 ∨ ∃ j, j < k ∧ y4 = nI j) : fX2_islandFor_b83 σ K y1 y2 y3 y4 y5 (nI k) (ad_i σ k) y8 lead = if (¬ lead = 0) ∧ (y8 < y5 ∨ (¬ y4 = -1 ∧ y8 = y5 ∧ ¬ ad_i σ (Int32.toNatClampNeg y4) ≤ ad_i σ k)) then K y1 y2 y3 (nI k) y8 (nI (k + 1)) else K y1 y2 y3 y4 y5 (nI (k + 1)) := by
  unfold fX2_islandFor_b83 fX2_islandFor_b116
  have hn := hs.1
  by_cases h1 : y4 = -1
  · rw [if_pos h1, islC_b117]
    by_cases c : (¬ lead = 0) ∧ y8 < y5
    · rw [if_pos ⟨c.1, Or.inl c.2⟩, if_pos ⟨c.1, Or.inl c.2⟩]
    · rw [if_neg (fun z => z.2.elim (fun q => c ⟨z.1, q⟩) (fun q => q rfl)), if_neg (fun z => z.2.elim (fun q => c ⟨z.1, q⟩) (fun q => q.1 h1))]
  · rw [if_neg h1]
    obtain ⟨j, hj, ej⟩ := hb.resolve_left h1
    by_cases h2 : y8 = y5
    · rw [if_pos h2, ej, saddr_i hs (by omega), bd1_s, nI_clamp (by omega)]
      by_cases h3 : ad_i σ j ≤ ad_i σ k
      · rw [if_pos h3, islC_b117]
        by_cases c : (¬ lead = 0) ∧ y8 < y5
        · rw [if_pos ⟨c.1, Or.inl c.2⟩, if_pos ⟨c.1, Or.inl c.2⟩]
        · rw [if_neg (fun z => z.2.elim (fun q => c ⟨z.1, q⟩) (fun q => q rfl)), if_neg (fun z => z.2.elim (fun q => c ⟨z.1, q⟩) (fun q => q.2.2 h3))]
      · rw [if_neg h3, islC_b117]
        by_cases c : lead = 0
        · rw [if_neg (fun z => z.1 c), if_neg (fun z => z.1 c)]
        · rw [if_pos ⟨c, Or.inr d_1_0⟩, if_pos ⟨c, Or.inr ⟨nI_m1 (by omega), h2, h3⟩⟩]
    · rw [if_neg h2, islC_b117]
      by_cases c : (¬ lead = 0) ∧ y8 < y5
      · rw [if_pos ⟨c.1, Or.inl c.2⟩, if_pos ⟨c.1, Or.inl c.2⟩]
      · rw [if_neg (fun z => z.2.elim (fun q => c ⟨z.1, q⟩) (fun q => q rfl)), if_neg (fun z => z.2.elim (fun q => c ⟨z.1, q⟩) (fun q => h2 q.2.1))]
theorem islC_loop {σ : St} {n : Nat} (hs : Sk_i σ n) {frm lb to : Int32} : ∀ (d k N : Nat), k + d = n → d < N → fX2_islandFor_l19 σ N frm lb to (islS (σ 13) (ad_i σ) to (σ 10 1) frm lb k).1 (islS (σ 13) (ad_i σ) to (σ 10 1) frm lb k).2 (nI k) = some (islS (σ 13) (ad_i σ) to (σ 10 1) frm lb n).1 := by
  have hn := hs.1
  intro d
  induction d with
  | zero =>
    intro k N h hN
    obtain ⟨N, rfl⟩ : ∃ k, N = k + 1 := ⟨N - 1, by omega⟩
    have hk : k = n := by omega
    subst hk
    show fX2_islandFor_s19 σ (fX2_islandFor_l19 σ N) _ _ _ _ _ _ = _
    unfold fX2_islandFor_s19
    rw [ssize_i hs, bd1_s, if_pos (Int32.le_refl _)]
  | succ d ih =>
    intro k N h hN
    obtain ⟨N, rfl⟩ : ∃ k, N = k + 1 := ⟨N - 1, by omega⟩
    have hk : k < n := by omega
    have hb := islS_best (nm := σ 13) (ad := ad_i σ) (to := to) (r1 := σ 10 1) (frm := frm) (lb := lb) k
    have e := ih (k + 1) N (by omega) (by omega)
    rw [show islS (σ 13) (ad_i σ) to (σ 10 1) frm lb (k + 1) = (if (σ 13 k = lb ∧ ¬ σ 10 1 < farI (ad_i σ k) frm) ∧ (farI (ad_i σ k) to < (islS (σ 13) (ad_i σ) to (σ 10 1) frm lb k).2 ∨ (¬ (islS (σ 13) (ad_i σ) to (σ 10 1) frm lb k).1 = -1 ∧ farI (ad_i σ k) to = (islS (σ 13) (ad_i σ) to (σ 10 1) frm lb k).2 ∧ ¬ ad_i σ (Int32.toNatClampNeg (islS (σ 13) (ad_i σ) to (σ 10 1) frm lb k).1) ≤ ad_i σ k)) then (nI k, farI (ad_i σ k) to) else islS (σ 13) (ad_i σ) to (σ 10 1) frm lb k) from rfl] at e
    show fX2_islandFor_s19 σ (fX2_islandFor_l19 σ N) _ _ _ _ _ _ = _
    generalize islS (σ 13) (ad_i σ) to (σ 10 1) frm lb k = p at hb e ⊢
    unfold fX2_islandFor_s19
    rw [ssize_i hs, bd1_s, if_neg (nI_ge hk (by omega)), saddr_i hs hk, bd1_s, far_eq, bd1_s, sname_i hs hk, bd1_s]
    have lead0 : fX2_islandFor_b83 σ (fX2_islandFor_l19 σ N) frm lb to p.1 p.2 (nI k) (ad_i σ k) (farI (ad_i σ k) to) 0 = fX2_islandFor_l19 σ N frm lb to p.1 p.2 (nI (k + 1)) := by
      rw [islC_b83 hs hk hb, if_neg (fun z => z.1 rfl)]
    by_cases h1 : σ 13 k = lb
    · rw [if_pos h1, far_eq, bd1_s, show Int32.toNatClampNeg (1 : Int32) = 1 from by decide]
      by_cases h2 : σ 10 1 < farI (ad_i σ k) frm
      · rw [if_pos h2]
        unfold fX2_islandFor_b82
        rw [lead0]
        rw [if_neg (fun z => z.1.2 h2)] at e
        exact e
      · rw [if_neg h2, islC_b83 hs hk hb]
        by_cases h3 : farI (ad_i σ k) to < p.2 ∨ (¬ p.1 = -1 ∧ farI (ad_i σ k) to = p.2 ∧ ¬ ad_i σ (Int32.toNatClampNeg p.1) ≤ ad_i σ k)
        · rw [if_pos ⟨d_1_0, h3⟩]
          rw [if_pos ⟨⟨h1, h2⟩, h3⟩] at e
          exact e
        · rw [if_neg (fun z => h3 z.2)]
          rw [if_neg (fun z => h3 z.2)] at e
          exact e
    · rw [if_neg h1]
      unfold fX2_islandFor_b82
      rw [lead0]
      rw [if_neg (fun z => h1 z.1.1)] at e
      exact e
/-- islandFor, exactly -/
theorem islC_eq {σ : St} {n l : Nat} (hs : Sk_i σ n) (hl : l < 8) (frm : Int32) : fX2_islandFor σ frm (nI l) = some (islS (σ 13) (ad_i σ) (σ 27 l) (σ 10 1) frm (nI l) n).1 := by
  have hn := hs.1
  unfold fX2_islandFor
  rw [lab_in hl, bd1_s, far_eq, bd1_s]
  exact islC_loop hs n 0 FU (by omega) (by unfold FU; omega)
def aimL (nm ad : Nat → Int32) (to r1 frm lb : Int32) (n : Nat) : Int32 := if r1 < farI frm to then (if (islS nm ad to r1 frm lb n).1 = -1 then -1 else ad (Int32.toNatClampNeg (islS nm ad to r1 frm lb n).1)) else to
theorem long_in {σ : St} {n l : Nat} (hs : Sk_i σ n) (hl : l < 8) (frm : Int32) : fX2_longAim σ frm (nI l) = some (aimL (σ 13) (ad_i σ) (σ 27 l) (σ 10 1) frm (nI l) n) := by
  have hn := hs.1
  unfold fX2_longAim aimL
  rw [straight_in hl, bd1_s]
  by_cases h : σ 10 1 < farI frm (σ 27 l)
  · rw [if_pos h, if_pos rfl, if_pos h, islC_eq hs hl, bd1_s]
    rcases islS_best (nm := σ 13) (ad := ad_i σ) (to := σ 27 l) (r1 := σ 10 1) (frm := frm) (lb := nI l) n with e | ⟨j, hj, e⟩
    · rw [e, saddr_m1_i hs, bd1_s, if_pos rfl]
    · rw [e, saddr_i hs hj, bd1_s, if_neg (nI_m1 (by omega)), nI_clamp (by omega)]
  · rw [if_neg h, if_neg d_1_0, if_neg h, lab_in hl, bd1_s]
/-! The same of the reference: constants, islands. -/
def dst (a b : Nat) : Nat := a - b + (b - a)
theorem far_nI {a b : Nat} (ha : a < 4096) (hb : b < 4096) : farI (nI a) (nI b) = nI (dst a b) := by
  unfold farI dst
  by_cases h : b ≤ a
  · rw [if_pos (nI_le h (by omega)), pk_sub h, show a - b + (b - a) = a - b by omega]
  · rw [if_neg (nI_ge (by omega) (by omega)), pk_sub (by omega), show a - b + (b - a) = b - a by omega]
theorem dst_lt {a b : Nat} (ha : a < 4096) (hb : b < 4096) : dst a b < 4096 := by unfold dst; omega
/-- addresses are small -/
def Bd (f : Nat → Int32) (n : Nat) : Prop := ∀ k, k < n → ∃ A, A < 4096 ∧ f k = nI A
/-- what is left from the best so far -/
theorem islS_inv {nm ad : Nat → Int32} {to r1 frm lb : Int32} {F T : Nat} (hF : F < 4096) (hT : T < 4096) (ef : frm = nI F) (et : to = nI T) : ∀ (k : Nat), Bd ad k → ∃ P, (islS nm ad to r1 frm lb k).2 = nI P ∧ P < 4096 ∧ (((islS nm ad to r1 frm lb k).1 = -1 ∧ P = dst F T) ∨ (∃ j, j < k ∧ (islS nm ad to r1 frm lb k).1 = nI j ∧ nI P = farI (ad j) to ∧ P < dst F T)) := by
  intro k
  induction k with
  | zero => intro _; exact ⟨dst F T, by rw [← far_nI hF hT, ← ef, ← et]; rfl, dst_lt hF hT, Or.inl ⟨rfl, rfl⟩⟩
  | succ k ih =>
    intro hb
    obtain ⟨P, e2, hP, hc⟩ := ih (fun j hj => hb j (by omega))
    obtain ⟨A, hA, eA⟩ := hb k (by omega)
    unfold islS
    by_cases h : (nm k = lb ∧ ¬ r1 < farI (ad k) frm) ∧ (farI (ad k) to < (islS nm ad to r1 frm lb k).2 ∨ (¬ (islS nm ad to r1 frm lb k).1 = -1 ∧ farI (ad k) to = (islS nm ad to r1 frm lb k).2 ∧ ¬ ad (Int32.toNatClampNeg (islS nm ad to r1 frm lb k).1) ≤ ad k))
    · rw [if_pos h]
      have eL : farI (ad k) to = nI (dst A T) := by rw [eA, et]; exact far_nI hA hT
      have hL := dst_lt hA hT
      refine ⟨dst A T, eL, hL, Or.inr ⟨k, by omega, rfl, eL.symm, ?_⟩⟩
      rw [eL, e2] at h
      rcases h.2 with h2 | ⟨h2, h3, _⟩
      · have := (nI_ltI (by omega) (by omega)).mp h2
        rcases hc with ⟨_, e⟩ | ⟨_, _, _, _, e⟩ <;> omega
      · have := (nI_eq (by omega) (by omega)).mp h3
        rcases hc with ⟨e, _⟩ | ⟨_, _, _, _, e⟩
        · exact absurd e h2
        · omega
    · rw [if_neg h]
      refine ⟨P, e2, hP, ?_⟩
      rcases hc with hc | ⟨j, hj, q⟩
      · exact Or.inl hc
      · exact Or.inr ⟨j, by omega, q⟩
def Mi (τ : St) (n : Nat) : Prop := n ≤ 12 ∧ τ 48 0 = nI n ∧ Bd (τ 13) n
theorem islM_loop {τ : St} {n l F T : Nat} (hs : Mi τ n) (hl : l < 8) (hF : F < 4096) (hT : T < 4096) (eT : τ 17 l = nI T) : ∀ (d k N : Nat), k + d = n → d < N → fX6_islandFor_l5 τ N (nI F) (nI l) (islS (τ 8) (τ 13) (τ 17 l) (τ 4 1) (nI F) (nI l) k).1 (nI k) = some (islS (τ 8) (τ 13) (τ 17 l) (τ 4 1) (nI F) (nI l) n).1 := by
  obtain ⟨hn, hs2, hB⟩ := hs
  intro d
  induction d with
  | zero =>
    intro k N h hN
    obtain ⟨N, rfl⟩ : ∃ k, N = k + 1 := ⟨N - 1, by omega⟩
    have hk : k = n := by omega
    subst hk
    show fX6_islandFor_s5 τ (fX6_islandFor_l5 τ N) _ _ _ _ = _
    unfold fX6_islandFor_s5
    rw [hs2, if_pos (Int32.le_refl _)]
  | succ d ih =>
    intro k N h hN
    obtain ⟨N, rfl⟩ : ∃ k, N = k + 1 := ⟨N - 1, by omega⟩
    have hk : k < n := by omega
    obtain ⟨P, e2, hP, hc⟩ := islS_inv (nm := τ 8) (ad := τ 13) (to := τ 17 l) (r1 := τ 4 1) (frm := nI F) (lb := nI l) hF hT rfl eT k (fun j hj => hB j (by omega))
    have e := ih (k + 1) N (by omega) (by omega)
    rw [show islS (τ 8) (τ 13) (τ 17 l) (τ 4 1) (nI F) (nI l) (k + 1) = (if (τ 8 k = nI l ∧ ¬ τ 4 1 < farI (τ 13 k) (nI F)) ∧ (farI (τ 13 k) (τ 17 l) < (islS (τ 8) (τ 13) (τ 17 l) (τ 4 1) (nI F) (nI l) k).2 ∨ (¬ (islS (τ 8) (τ 13) (τ 17 l) (τ 4 1) (nI F) (nI l) k).1 = -1 ∧ farI (τ 13 k) (τ 17 l) = (islS (τ 8) (τ 13) (τ 17 l) (τ 4 1) (nI F) (nI l) k).2 ∧ ¬ τ 13 (Int32.toNatClampNeg (islS (τ 8) (τ 13) (τ 17 l) (τ 4 1) (nI F) (nI l) k).1) ≤ τ 13 k)) then (nI k, farI (τ 13 k) (τ 17 l)) else islS (τ 8) (τ 13) (τ 17 l) (τ 4 1) (nI F) (nI l) k) from rfl] at e
    show fX6_islandFor_s5 τ (fX6_islandFor_l5 τ N) _ _ _ _ = _
    generalize islS (τ 8) (τ 13) (τ 17 l) (τ 4 1) (nI F) (nI l) k = p at e2 hc e ⊢
    obtain ⟨A, hA, eA⟩ := hB k hk
    have eL : farI (τ 13 k) (τ 17 l) = nI (dst A T) := by rw [eA, eT]; exact far_nI hA hT
    have eD : farI (nI F) (τ 17 l) = nI (dst F T) := by rw [eT]; exact far_nI hF hT
    have hL := dst_lt hA hT
    have hD := dst_lt hF hT
    have c12 : ¬ (nI k < 0 ∨ 12 ≤ Int32.toNatClampNeg (nI k)) := ckN (by omega) (by omega)
    have c8 : ¬ (nI l < 0 ∨ 8 ≤ Int32.toNatClampNeg (nI l)) := ckN hl (by omega)
    unfold fX6_islandFor_s5
    rw [hs2, if_neg (nI_ge hk (by omega)), ck_t c12, ck_t c8, nI_clamp (n := k) (by omega), nI_clamp (n := l) (by omega), apart_eq, bd1_s, ck_t (show ¬ (nI k < 0 ∨ 12 ≤ k) from fun z => z.elim (nI_pos (by omega)) (by omega)), nI_1]
    by_cases h1 : τ 8 k = nI l
    · rw [if_pos h1, ck_t (show ¬ (nI k < 0 ∨ 12 ≤ k) from fun z => z.elim (nI_pos (by omega)) (by omega)), apart_eq, bd1_s, show Int32.toNatClampNeg (1 : Int32) = 1 from by decide]
      by_cases h2 : τ 4 1 < farI (τ 13 k) (nI F)
      · rw [if_pos h2]
        rw [if_neg (fun z => z.1.2 h2)] at e
        exact e
      · rw [if_neg h2, ck_t (show ¬ (nI l < 0 ∨ 8 ≤ l) from fun z => z.elim (nI_pos (by omega)) (by omega)), apart_eq, bd1_s, eL, eD]
        rw [eL, e2] at e
        by_cases h3 : dst F T ≤ dst A T
        · rw [if_pos (nI_le h3 (by omega))]
          rw [if_neg (fun z => by
            rcases z.2 with q | ⟨q1, q2, _⟩
            · have := (nI_ltI (by omega) (by omega)).mp q
              rcases hc with ⟨_, c⟩ | ⟨_, _, _, _, c⟩ <;> omega
            · have := (nI_eq (by omega) (by omega)).mp q2
              rcases hc with ⟨c, _⟩ | ⟨_, _, _, _, c⟩
              · exact absurd c q1
              · omega)] at e
          exact e
        · rw [if_neg (nI_ge (by omega) (by omega))]
          rcases hc with ⟨c1, c2⟩ | ⟨j, hj, c1, c2, c3⟩
          · rw [if_pos c1]
            unfold fX6_islandFor_b103 fX6_islandFor_b135
            rw [if_pos (show nI (dst A T) < (1048576 : Int32) from nI_lt (a := dst A T) (b := 1048576) (by omega) (by omega)), nI_1]
            rw [if_pos ⟨⟨h1, h2⟩, Or.inl (nI_lt (by omega) (by omega))⟩] at e
            exact e
          · have hj12 : j < 12 := by omega
            rw [if_neg (by rw [c1]; exact nI_m1 (by omega)), c1, ck_t (ckN hj12 (by omega)), ck_t (show ¬ (nI l < 0 ∨ 8 ≤ l) from fun z => z.elim (nI_pos (by omega)) (by omega)), nI_clamp (n := j) (by omega), apart_eq, bd1_s, ← c2]
            rw [c1, nI_clamp (n := j) (by omega)] at e
            unfold fX6_islandFor_b103 fX6_islandFor_b135
            rw [nI_1]
            by_cases h4 : nI (dst A T) < nI P
            · rw [if_pos h4]
              rw [if_pos ⟨⟨h1, h2⟩, Or.inl h4⟩] at e
              exact e
            · rw [if_neg h4]
              by_cases h5 : nI (dst A T) = nI P
              · rw [if_pos h5, ck_t c12, ck_t (ckN hj12 (by omega)), nI_clamp (n := k) (by omega), nI_clamp (n := j) (by omega)]
                by_cases h6 : τ 13 j ≤ τ 13 k
                · rw [if_pos h6]
                  rw [if_neg (fun z => z.2.elim h4 (fun q => q.2.2 h6)), c1] at e
                  exact e
                · rw [if_neg h6]
                  rw [if_pos ⟨⟨h1, h2⟩, Or.inr ⟨nI_m1 (by omega), h5, h6⟩⟩] at e
                  exact e
              · rw [if_neg h5]
                rw [if_neg (fun z => z.2.elim h4 (fun q => h5 q.2.1)), c1] at e
                exact e
    · rw [if_neg h1]
      rw [if_neg (fun z => h1 z.1.1)] at e
      exact e
theorem islM_eq {τ : St} {n l F T : Nat} (hs : Mi τ n) (hl : l < 8) (hF : F < 4096) (hT : T < 4096) (eT : τ 17 l = nI T) : fX6_islandFor τ (nI F) (nI l) = some (islS (τ 8) (τ 13) (τ 17 l) (τ 4 1) (nI F) (nI l) n).1 := by
  have hn := hs.1
  exact islM_loop hs hl hF hT eT n 0 FU (by omega) (by unfold FU; omega)
theorem reachM_in {τ : St} {l : Nat} {x : Int32} (h : l < 8) : fX6_reachesLabel τ x (nI l) = some (if τ 4 1 < farI x (τ 17 l) then 0 else 1) := by
  unfold fX6_reachesLabel
  rw [ck_t (ckN h (by omega)), nI_clamp (by omega), apart_eq, bd1_s, show Int32.toNatClampNeg (1 : Int32) = 1 from by decide]
  by_cases e : τ 4 1 < farI x (τ 17 l)
  · rw [if_pos e, if_pos e]
  · rw [if_neg e, if_neg e]
theorem goesM_in {τ : St} {n l F T : Nat} (hs : Mi τ n) (hl : l < 8) (hF : F < 4096) (hT : T < 4096) (eT : τ 17 l = nI T) : fX6_goesFrom τ (nI F) (nI l) = some (aimL (τ 8) (τ 13) (τ 17 l) (τ 4 1) (nI F) (nI l) n) := by
  have hn := hs.1
  unfold fX6_goesFrom aimL
  rw [reachM_in hl, bd1_s]
  by_cases h : τ 4 1 < farI (nI F) (τ 17 l)
  · rw [if_pos h, if_pos rfl, if_pos h, islM_eq hs hl hF hT eT, bd1_s]
    rcases islS_best (nm := τ 8) (ad := τ 13) (to := τ 17 l) (r1 := τ 4 1) (frm := nI F) (lb := nI l) n with e | ⟨j, hj, e⟩
    · rw [e, if_pos rfl, if_pos rfl]
    · rw [e, if_neg (nI_m1 (by omega)), if_neg (nI_m1 (by omega)), ck_t (ckN (by omega) (by omega)), nI_clamp (by omega)]
  · rw [if_neg h, if_neg d_1_0, if_neg h, ck_t (ckN hl (by omega)), nI_clamp (by omega)]
/-- what is read alone of islands below n decides -/
theorem islS_congr {nm ad nm' ad' : Nat → Int32} {to r1 frm lb : Int32} : ∀ {k : Nat}, k < 2 ^ 31 → (∀ i, i < k → nm i = nm' i ∧ ad i = ad' i) → islS nm ad to r1 frm lb k = islS nm' ad' to r1 frm lb k
  | 0, _, _ => rfl
  | k + 1, hk, h => by
    have ih := islS_congr (to := to) (r1 := r1) (frm := frm) (lb := lb) (show k < 2 ^ 31 by omega) (fun i (hi : i < k) => h i (by omega))
    have hb := islS_best (nm := nm) (ad := ad) (to := to) (r1 := r1) (frm := frm) (lb := lb) k
    unfold islS
    rw [← ih, (h k (by omega)).1, (h k (by omega)).2]
    rcases hb with e | ⟨j, hj, e⟩
    · rw [e]; simp
    · rw [e, nI_clamp (by omega), (h j (by omega)).2]
theorem aimL_congr {nm ad nm' ad' : Nat → Int32} {to r1 frm lb : Int32} {n : Nat} (hn : n < 2 ^ 31) (h : ∀ i, i < n → nm i = nm' i ∧ ad i = ad' i) : aimL nm ad to r1 frm lb n = aimL nm' ad' to r1 frm lb n := by
  unfold aimL
  rw [← islS_congr hn h]
  rcases islS_best (nm := nm) (ad := ad) (to := to) (r1 := r1) (frm := frm) (lb := lb) n with e | ⟨j, hj, e⟩
  · rw [e]; simp
  · rw [e, nI_clamp (by omega), (h j hj).2]
