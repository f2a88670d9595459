theorem it1 {A0 R : Type} {F : (A0 → Option R) → A0 → Option R} {z : A0 → Option R} (I : A0 → Prop) (μ : A0 → Nat) (P : A0 → R → Prop) (hs : ∀ (k : A0 → Option R) (x0 : A0), I x0 → (∀ (y0 : A0), I y0 → μ y0 < μ x0 → ∃ r, k y0 = some r ∧ P y0 r) → ∃ r, F k x0 = some r ∧ P x0 r) : ∀ (n : Nat) (x0 : A0), I x0 → μ x0 < n → ∃ r, itr F z n x0 = some r ∧ P x0 r := by
  intro n
  induction n with
  | zero => intro x0 _ h; exact absurd h (Nat.not_lt_zero _)
  | succ n ih => intro x0 hI hm; exact hs (itr F z n) x0 hI (fun y0 hJ hl => ih y0 hJ (by omega))
theorem it2 {A0 A1 R : Type} {F : (A0 → A1 → Option R) → A0 → A1 → Option R} {z : A0 → A1 → Option R} (I : A0 → A1 → Prop) (μ : A0 → A1 → Nat) (P : A0 → A1 → R → Prop) (hs : ∀ (k : A0 → A1 → Option R) (x0 : A0) (x1 : A1), I x0 x1 → (∀ (y0 : A0) (y1 : A1), I y0 y1 → μ y0 y1 < μ x0 x1 → ∃ r, k y0 y1 = some r ∧ P y0 y1 r) → ∃ r, F k x0 x1 = some r ∧ P x0 x1 r) : ∀ (n : Nat) (x0 : A0) (x1 : A1), I x0 x1 → μ x0 x1 < n → ∃ r, itr F z n x0 x1 = some r ∧ P x0 x1 r := by
  intro n
  induction n with
  | zero => intro x0 x1 _ h; exact absurd h (Nat.not_lt_zero _)
  | succ n ih => intro x0 x1 hI hm; exact hs (itr F z n) x0 x1 hI (fun y0 y1 hJ hl => ih y0 y1 hJ (by omega))
theorem it3 {A0 A1 A2 R : Type} {F : (A0 → A1 → A2 → Option R) → A0 → A1 → A2 → Option R} {z : A0 → A1 → A2 → Option R} (I : A0 → A1 → A2 → Prop) (μ : A0 → A1 → A2 → Nat) (P : A0 → A1 → A2 → R → Prop) (hs : ∀ (k : A0 → A1 → A2 → Option R) (x0 : A0) (x1 : A1) (x2 : A2), I x0 x1 x2 → (∀ (y0 : A0) (y1 : A1) (y2 : A2), I y0 y1 y2 → μ y0 y1 y2 < μ x0 x1 x2 → ∃ r, k y0 y1 y2 = some r ∧ P y0 y1 y2 r) → ∃ r, F k x0 x1 x2 = some r ∧ P x0 x1 x2 r) : ∀ (n : Nat) (x0 : A0) (x1 : A1) (x2 : A2), I x0 x1 x2 → μ x0 x1 x2 < n → ∃ r, itr F z n x0 x1 x2 = some r ∧ P x0 x1 x2 r := by
  intro n
  induction n with
  | zero => intro x0 x1 x2 _ h; exact absurd h (Nat.not_lt_zero _)
  | succ n ih => intro x0 x1 x2 hI hm; exact hs (itr F z n) x0 x1 x2 hI (fun y0 y1 y2 hJ hl => ih y0 y1 y2 hJ (by omega))
theorem it4 {A0 A1 A2 A3 R : Type} {F : (A0 → A1 → A2 → A3 → Option R) → A0 → A1 → A2 → A3 → Option R} {z : A0 → A1 → A2 → A3 → Option R} (I : A0 → A1 → A2 → A3 → Prop) (μ : A0 → A1 → A2 → A3 → Nat) (P : A0 → A1 → A2 → A3 → R → Prop) (hs : ∀ (k : A0 → A1 → A2 → A3 → Option R) (x0 : A0) (x1 : A1) (x2 : A2) (x3 : A3), I x0 x1 x2 x3 → (∀ (y0 : A0) (y1 : A1) (y2 : A2) (y3 : A3), I y0 y1 y2 y3 → μ y0 y1 y2 y3 < μ x0 x1 x2 x3 → ∃ r, k y0 y1 y2 y3 = some r ∧ P y0 y1 y2 y3 r) → ∃ r, F k x0 x1 x2 x3 = some r ∧ P x0 x1 x2 x3 r) : ∀ (n : Nat) (x0 : A0) (x1 : A1) (x2 : A2) (x3 : A3), I x0 x1 x2 x3 → μ x0 x1 x2 x3 < n → ∃ r, itr F z n x0 x1 x2 x3 = some r ∧ P x0 x1 x2 x3 r := by
  intro n
  induction n with
  | zero => intro x0 x1 x2 x3 _ h; exact absurd h (Nat.not_lt_zero _)
  | succ n ih => intro x0 x1 x2 x3 hI hm; exact hs (itr F z n) x0 x1 x2 x3 hI (fun y0 y1 y2 y3 hJ hl => ih y0 y1 y2 y3 hJ (by omega))
theorem it5 {A0 A1 A2 A3 A4 R : Type} {F : (A0 → A1 → A2 → A3 → A4 → Option R) → A0 → A1 → A2 → A3 → A4 → Option R} {z : A0 → A1 → A2 → A3 → A4 → Option R} (I : A0 → A1 → A2 → A3 → A4 → Prop) (μ : A0 → A1 → A2 → A3 → A4 → Nat) (P : A0 → A1 → A2 → A3 → A4 → R → Prop) (hs : ∀ (k : A0 → A1 → A2 → A3 → A4 → Option R) (x0 : A0) (x1 : A1) (x2 : A2) (x3 : A3) (x4 : A4), I x0 x1 x2 x3 x4 → (∀ (y0 : A0) (y1 : A1) (y2 : A2) (y3 : A3) (y4 : A4), I y0 y1 y2 y3 y4 → μ y0 y1 y2 y3 y4 < μ x0 x1 x2 x3 x4 → ∃ r, k y0 y1 y2 y3 y4 = some r ∧ P y0 y1 y2 y3 y4 r) → ∃ r, F k x0 x1 x2 x3 x4 = some r ∧ P x0 x1 x2 x3 x4 r) : ∀ (n : Nat) (x0 : A0) (x1 : A1) (x2 : A2) (x3 : A3) (x4 : A4), I x0 x1 x2 x3 x4 → μ x0 x1 x2 x3 x4 < n → ∃ r, itr F z n x0 x1 x2 x3 x4 = some r ∧ P x0 x1 x2 x3 x4 r := by
  intro n
  induction n with
  | zero => intro x0 x1 x2 x3 x4 _ h; exact absurd h (Nat.not_lt_zero _)
  | succ n ih => intro x0 x1 x2 x3 x4 hI hm; exact hs (itr F z n) x0 x1 x2 x3 x4 hI (fun y0 y1 y2 y3 y4 hJ hl => ih y0 y1 y2 y3 y4 hJ (by omega))
theorem it6 {A0 A1 A2 A3 A4 A5 R : Type} {F : (A0 → A1 → A2 → A3 → A4 → A5 → Option R) → A0 → A1 → A2 → A3 → A4 → A5 → Option R} {z : A0 → A1 → A2 → A3 → A4 → A5 → Option R} (I : A0 → A1 → A2 → A3 → A4 → A5 → Prop) (μ : A0 → A1 → A2 → A3 → A4 → A5 → Nat) (P : A0 → A1 → A2 → A3 → A4 → A5 → R → Prop) (hs : ∀ (k : A0 → A1 → A2 → A3 → A4 → A5 → Option R) (x0 : A0) (x1 : A1) (x2 : A2) (x3 : A3) (x4 : A4) (x5 : A5), I x0 x1 x2 x3 x4 x5 → (∀ (y0 : A0) (y1 : A1) (y2 : A2) (y3 : A3) (y4 : A4) (y5 : A5), I y0 y1 y2 y3 y4 y5 → μ y0 y1 y2 y3 y4 y5 < μ x0 x1 x2 x3 x4 x5 → ∃ r, k y0 y1 y2 y3 y4 y5 = some r ∧ P y0 y1 y2 y3 y4 y5 r) → ∃ r, F k x0 x1 x2 x3 x4 x5 = some r ∧ P x0 x1 x2 x3 x4 x5 r) : ∀ (n : Nat) (x0 : A0) (x1 : A1) (x2 : A2) (x3 : A3) (x4 : A4) (x5 : A5), I x0 x1 x2 x3 x4 x5 → μ x0 x1 x2 x3 x4 x5 < n → ∃ r, itr F z n x0 x1 x2 x3 x4 x5 = some r ∧ P x0 x1 x2 x3 x4 x5 r := by
  intro n
  induction n with
  | zero => intro x0 x1 x2 x3 x4 x5 _ h; exact absurd h (Nat.not_lt_zero _)
  | succ n ih => intro x0 x1 x2 x3 x4 x5 hI hm; exact hs (itr F z n) x0 x1 x2 x3 x4 x5 hI (fun y0 y1 y2 y3 y4 y5 hJ hl => ih y0 y1 y2 y3 y4 y5 hJ (by omega))
theorem it7 {A0 A1 A2 A3 A4 A5 A6 R : Type} {F : (A0 → A1 → A2 → A3 → A4 → A5 → A6 → Option R) → A0 → A1 → A2 → A3 → A4 → A5 → A6 → Option R} {z : A0 → A1 → A2 → A3 → A4 → A5 → A6 → Option R} (I : A0 → A1 → A2 → A3 → A4 → A5 → A6 → Prop) (μ : A0 → A1 → A2 → A3 → A4 → A5 → A6 → Nat) (P : A0 → A1 → A2 → A3 → A4 → A5 → A6 → R → Prop) (hs : ∀ (k : A0 → A1 → A2 → A3 → A4 → A5 → A6 → Option R) (x0 : A0) (x1 : A1) (x2 : A2) (x3 : A3) (x4 : A4) (x5 : A5) (x6 : A6), I x0 x1 x2 x3 x4 x5 x6 → (∀ (y0 : A0) (y1 : A1) (y2 : A2) (y3 : A3) (y4 : A4) (y5 : A5) (y6 : A6), I y0 y1 y2 y3 y4 y5 y6 → μ y0 y1 y2 y3 y4 y5 y6 < μ x0 x1 x2 x3 x4 x5 x6 → ∃ r, k y0 y1 y2 y3 y4 y5 y6 = some r ∧ P y0 y1 y2 y3 y4 y5 y6 r) → ∃ r, F k x0 x1 x2 x3 x4 x5 x6 = some r ∧ P x0 x1 x2 x3 x4 x5 x6 r) : ∀ (n : Nat) (x0 : A0) (x1 : A1) (x2 : A2) (x3 : A3) (x4 : A4) (x5 : A5) (x6 : A6), I x0 x1 x2 x3 x4 x5 x6 → μ x0 x1 x2 x3 x4 x5 x6 < n → ∃ r, itr F z n x0 x1 x2 x3 x4 x5 x6 = some r ∧ P x0 x1 x2 x3 x4 x5 x6 r := by
  intro n
  induction n with
  | zero => intro x0 x1 x2 x3 x4 x5 x6 _ h; exact absurd h (Nat.not_lt_zero _)
  | succ n ih => intro x0 x1 x2 x3 x4 x5 x6 hI hm; exact hs (itr F z n) x0 x1 x2 x3 x4 x5 x6 hI (fun y0 y1 y2 y3 y4 y5 y6 hJ hl => ih y0 y1 y2 y3 y4 y5 y6 hJ (by omega))
theorem nI24 {i : Nat} (h : i < 24) : ¬ (24 : Int32) ≤ nI i := nI_ge (a := i) (b := 24) h (by omega)
theorem ckN {i N : Nat} (h : i < N) (hN : N < 2 ^ 31) : ¬ (nI i < 0 ∨ N ≤ Int32.toNatClampNeg (nI i)) := nI_in h hN
theorem ck_t {α : Type} {c : Prop} [Decidable c] {x : Option α} (h : c) : ck c x = x := if_pos h
theorem bd1_s {α β : Type} {r : α} {f : α → Option β} : bd1 (some r) f = f r := rfl
theorem bd2_s {α β γ : Type} {r : α} {t : β} {f : α → β → Option γ} : bd2 (some (r, t)) f = f r t := rfl
theorem si_at (σ : St) (k : Nat) (v : Int32) (i : Nat) : si σ k v k i = v := by simp [si]
theorem si_ne {σ : St} {k j : Nat} {v : Int32} (h : j ≠ k) : si σ k v j = σ j := by simp [si, h]
theorem sa_at (σ : St) (k i : Nat) (v : Int32) : sa σ k i v k = upd (σ k) i v := by simp [sa]
theorem sa_ne {σ : St} {k i j : Nat} {v : Int32} (h : j ≠ k) : sa σ k i v j = σ j := by simp [sa, h]
theorem has_in_r {σ : St} {n i : Nat} (hn : σ 46 0 = nI n) (h24 : n ≤ 24) (hi : i < n) : fX0_has_r σ (nI i) = some 1 := by
  unfold fX0_has_r
  rw [hn, if_neg (nI_pos (by omega)), if_neg (nI_ge hi (by omega)), if_neg (nI24 (by omega)), if_neg (nI24 (by omega))]
theorem has_out_r {σ : St} {n : Nat} {x : Int32} (hn : σ 46 0 = nI n) (h24 : n ≤ 24) (hx : ¬ ∃ i, i < n ∧ x = nI i) : fX0_has_r σ x = some 0 := by
  unfold fX0_has_r
  by_cases h0 : x < 0
  · rw [if_pos h0]
  · rw [if_neg h0, hn]
    rcases pk_ix x (n := n) (by omega) with h1 | h1 | h1
    · exact absurd h1 h0
    · rw [if_pos h1]
    · exact absurd h1 hx
theorem kind_in_r {σ : St} {n i : Nat} (hn : σ 46 0 = nI n) (h24 : n ≤ 24) (hi : i < n) : fX0_kindOf_r σ (nI i) = some (σ 5 i) := by
  unfold fX0_kindOf_r
  rw [has_in_r hn h24 hi, bd1_s, if_neg (by decide), ck_t (ckN (by omega) (by omega)), nI_clamp (by omega)]
theorem told_in_r {σ : St} {n i : Nat} (hn : σ 46 0 = nI n) (h24 : n ≤ 24) (hi : i < n) : fX0_toldOf_r σ (nI i) = some (σ 6 i) := by
  unfold fX0_toldOf_r
  rw [has_in_r hn h24 hi, bd1_s, if_neg (by decide), ck_t (ckN (by omega) (by omega)), nI_clamp (by omega)]
def addS_r (σ : St) (n : Nat) (k w : Int32) : St := si (if k = 5 then si (sa (sa σ 5 n k) 6 n w) 47 (σ 47 0 + 1) else sa (sa σ 5 n k) 6 n w) 46 (nI (n + 1))
theorem add_in_r {σ : St} {n : Nat} {k w : Int32} (hn : σ 46 0 = nI n) (h24 : n < 24) : fX0_add_r σ k w = some (1, addS_r σ n k w) := by
  unfold fX0_add_r addS_r
  rw [hn, if_neg (nI_pos (by omega)), if_neg (nI24 h24), if_pos (show nI n < 24 from nI_lt (a := n) (b := 24) h24 (by omega)), ck_t (ckN h24 (by omega)), ck_t (ckN h24 (by omega)), nI_clamp (by omega)]
  by_cases h5 : k = 5
  · rw [if_pos h5, if_pos h5]
    unfold fX0_add_r_b68
    rw [si_ne (by decide), sa_ne (by decide), sa_ne (by decide), hn, nI_1]
  · rw [if_neg h5, if_neg h5]
    unfold fX0_add_r_b68
    rw [sa_ne (by decide), sa_ne (by decide), hn, nI_1]
theorem add_full_r {σ : St} {k w : Int32} (hn : σ 46 0 = nI 24) : fX0_add_r σ k w = some (0, σ) := by
  unfold fX0_add_r
  rw [hn, if_neg (nI_pos (by omega)), if_pos (show (24 : Int32) ≤ nI 24 from by decide)]
theorem addS_frame_r {σ : St} {n : Nat} {k w : Int32} {j : Nat} (h1 : j ≠ 5) (h2 : j ≠ 6) (h3 : j ≠ 46) (h4 : j ≠ 47) : addS_r σ n k w j = σ j := by
  unfold addS_r
  rw [si_ne h3]
  by_cases h5 : k = 5
  · rw [if_pos h5, si_ne h4, sa_ne h2, sa_ne h1]
  · rw [if_neg h5, sa_ne h2, sa_ne h1]
theorem addS_size_r {σ : St} {n : Nat} {k w : Int32} : addS_r σ n k w 46 0 = nI (n + 1) := by unfold addS_r; rw [si_at]
theorem addS_kinds_r {σ : St} {n : Nat} {k w : Int32} : addS_r σ n k w 5 = upd (σ 5) n k := by
  unfold addS_r
  rw [si_ne (by decide)]
  by_cases h5 : k = 5
  · rw [if_pos h5, si_ne (by decide), sa_ne (by decide), sa_at]
  · rw [if_neg h5, sa_ne (by decide), sa_at]
theorem addS_told_r {σ : St} {n : Nat} {k w : Int32} : addS_r σ n k w 6 = upd (σ 6) n w := by
  unfold addS_r
  rw [si_ne (by decide)]
  by_cases h5 : k = 5
  · rw [if_pos h5, si_ne (by decide), sa_at, sa_ne (by decide)]
  · rw [if_neg h5, sa_at, sa_ne (by decide)]
theorem addS_gaps_r {σ : St} {n : Nat} {k w : Int32} : addS_r σ n k w 47 0 = if k = 5 then σ 47 0 + 1 else σ 47 0 := by
  unfold addS_r
  rw [si_ne (by decide)]
  by_cases h5 : k = 5
  · rw [if_pos h5, if_pos h5, si_at]
  · rw [if_neg h5, if_neg h5, sa_ne (by decide), sa_ne (by decide)]
theorem has_in_p {σ : St} {n i : Nat} (hn : σ 48 0 = nI n) (h24 : n ≤ 24) (hi : i < n) : fX0_has_p σ (nI i) = some 1 := by
  unfold fX0_has_p
  rw [hn, if_neg (nI_pos (by omega)), if_neg (nI_ge hi (by omega)), if_neg (nI24 (by omega)), if_neg (nI24 (by omega))]
theorem has_out_p {σ : St} {n : Nat} {x : Int32} (hn : σ 48 0 = nI n) (h24 : n ≤ 24) (hx : ¬ ∃ i, i < n ∧ x = nI i) : fX0_has_p σ x = some 0 := by
  unfold fX0_has_p
  by_cases h0 : x < 0
  · rw [if_pos h0]
  · rw [if_neg h0, hn]
    rcases pk_ix x (n := n) (by omega) with h1 | h1 | h1
    · exact absurd h1 h0
    · rw [if_pos h1]
    · exact absurd h1 hx
theorem kind_in_p {σ : St} {n i : Nat} (hn : σ 48 0 = nI n) (h24 : n ≤ 24) (hi : i < n) : fX0_kindOf_p σ (nI i) = some (σ 8 i) := by
  unfold fX0_kindOf_p
  rw [has_in_p hn h24 hi, bd1_s, if_neg (by decide), ck_t (ckN (by omega) (by omega)), nI_clamp (by omega)]
theorem told_in_p {σ : St} {n i : Nat} (hn : σ 48 0 = nI n) (h24 : n ≤ 24) (hi : i < n) : fX0_toldOf_p σ (nI i) = some (σ 9 i) := by
  unfold fX0_toldOf_p
  rw [has_in_p hn h24 hi, bd1_s, if_neg (by decide), ck_t (ckN (by omega) (by omega)), nI_clamp (by omega)]
def addS_p (σ : St) (n : Nat) (k w : Int32) : St := si (if k = 5 then si (sa (sa σ 8 n k) 9 n w) 49 (σ 49 0 + 1) else sa (sa σ 8 n k) 9 n w) 48 (nI (n + 1))
theorem add_in_p {σ : St} {n : Nat} {k w : Int32} (hn : σ 48 0 = nI n) (h24 : n < 24) : fX0_add_p σ k w = some (1, addS_p σ n k w) := by
  unfold fX0_add_p addS_p
  rw [hn, if_neg (nI_pos (by omega)), if_neg (nI24 h24), if_pos (show nI n < 24 from nI_lt (a := n) (b := 24) h24 (by omega)), ck_t (ckN h24 (by omega)), ck_t (ckN h24 (by omega)), nI_clamp (by omega)]
  by_cases h5 : k = 5
  · rw [if_pos h5, if_pos h5]
    unfold fX0_add_p_b68
    rw [si_ne (by decide), sa_ne (by decide), sa_ne (by decide), hn, nI_1]
  · rw [if_neg h5, if_neg h5]
    unfold fX0_add_p_b68
    rw [sa_ne (by decide), sa_ne (by decide), hn, nI_1]
theorem add_full_p {σ : St} {k w : Int32} (hn : σ 48 0 = nI 24) : fX0_add_p σ k w = some (0, σ) := by
  unfold fX0_add_p
  rw [hn, if_neg (nI_pos (by omega)), if_pos (show (24 : Int32) ≤ nI 24 from by decide)]
theorem addS_frame_p {σ : St} {n : Nat} {k w : Int32} {j : Nat} (h1 : j ≠ 8) (h2 : j ≠ 9) (h3 : j ≠ 48) (h4 : j ≠ 49) : addS_p σ n k w j = σ j := by
  unfold addS_p
  rw [si_ne h3]
  by_cases h5 : k = 5
  · rw [if_pos h5, si_ne h4, sa_ne h2, sa_ne h1]
  · rw [if_neg h5, sa_ne h2, sa_ne h1]
theorem addS_size_p {σ : St} {n : Nat} {k w : Int32} : addS_p σ n k w 48 0 = nI (n + 1) := by unfold addS_p; rw [si_at]
theorem addS_kinds_p {σ : St} {n : Nat} {k w : Int32} : addS_p σ n k w 8 = upd (σ 8) n k := by
  unfold addS_p
  rw [si_ne (by decide)]
  by_cases h5 : k = 5
  · rw [if_pos h5, si_ne (by decide), sa_ne (by decide), sa_at]
  · rw [if_neg h5, sa_ne (by decide), sa_at]
theorem addS_told_p {σ : St} {n : Nat} {k w : Int32} : addS_p σ n k w 9 = upd (σ 9) n w := by
  unfold addS_p
  rw [si_ne (by decide)]
  by_cases h5 : k = 5
  · rw [if_pos h5, si_ne (by decide), sa_at, sa_ne (by decide)]
  · rw [if_neg h5, sa_at, sa_ne (by decide)]
theorem addS_gaps_p {σ : St} {n : Nat} {k w : Int32} : addS_p σ n k w 49 0 = if k = 5 then σ 49 0 + 1 else σ 49 0 := by
  unfold addS_p
  rw [si_ne (by decide)]
  by_cases h5 : k = 5
  · rw [if_pos h5, if_pos h5, si_at]
  · rw [if_neg h5, if_neg h5, sa_ne (by decide), sa_ne (by decide)]
/-- the page of class and reference -/
def RPg (σ τ : St) (n : Nat) : Prop := n ≤ 50 ∧ σ 42 0 = nI n ∧ τ 40 0 = nI n ∧ ∀ i, i < n → σ 2 i = τ 1 i ∧ ∃ c, c < 127 ∧ σ 2 i = nI c
theorem RPg_to {σ τ s t : St} {n : Nat} (h : RPg σ τ n) (a : s 42 = σ 42) (a2 : s 2 = σ 2) (b : t 40 = τ 40) (b1 : t 1 = τ 1) : RPg s t n := by
  obtain ⟨h1, h2, h3, h4⟩ := h
  exact ⟨h1, by rw [a]; exact h2, by rw [b]; exact h3, fun i hi => by rw [a2, b1]; exact h4 i hi⟩
theorem within_in {τ : St} {x a b : Int32} (h1 : ¬ x < a) (h2 : ¬ b < x) : fX6_within τ x a b = some 1 := by unfold fX6_within; rw [if_neg h1, if_neg h2]
theorem within_lo {τ : St} {x a b : Int32} (h1 : x < a) : fX6_within τ x a b = some 0 := by unfold fX6_within; rw [if_pos h1]
theorem within_hi {τ : St} {x a b : Int32} (h2 : b < x) : fX6_within τ x a b = some 0 := by
  unfold fX6_within
  by_cases h1 : x < a
  · rw [if_pos h1]
  · rw [if_neg h1, if_pos h2]
theorem n_lt50 {n : Nat} (h : n < 50) : nI n < (50 : Int32) := nI_lt (a := n) (b := 50) h (by omega)
/-- letter: both answer alike, and both pages go on alike; nothing else changes -/
theorem eq_letter {σ τ : St} {n : Nat} (h : RPg σ τ n) (x : Int32) : ∃ r s t n', fX5_letter σ x = some (r, s) ∧ fX6_letter τ x = some (r, t) ∧ RPg s t n' ∧ (∀ j, j ≠ 2 → j ≠ 42 → s j = σ j) ∧ (∀ j, j ≠ 1 → j ≠ 40 → t j = τ j) := by
  obtain ⟨h50, hs, ht, hl⟩ := h
  by_cases c1 : x < (32 : Int32)
  · refine ⟨-1002, σ, τ, n, if_pos c1, ?_, ⟨h50, hs, ht, hl⟩, fun _ _ _ => rfl, fun _ _ _ => rfl⟩
    unfold fX6_letter; rw [within_lo c1]; rfl
  by_cases c2 : x ≤ (126 : Int32)
  · have hw : fX6_within τ x 32 126 = some 1 := within_in c1 (by rw [Int32.not_lt]; exact c2)
    by_cases hf : n < 50
    · have ha : fX1_append σ x = some (1, si (sa σ 2 n x) 42 (nI (n + 1))) := by
        unfold fX1_append
        rw [hs, if_neg (nI_pos (by omega)), if_pos (n_lt50 hf), ck_t (ckN hf (by omega)), nI_clamp (by omega), nI_1]
      refine ⟨nI (n + 1), si (sa σ 2 n x) 42 (nI (n + 1)), si (sa τ 1 n x) 40 (nI (n + 1)), n + 1, ?_, ?_, ⟨by omega, si_at _ _ _ _, si_at _ _ _ _, fun i hi => ?_⟩, fun j h1 h2 => ?_, fun j h1 h2 => ?_⟩
      · unfold fX5_letter
        rw [if_neg c1, if_pos c2, ha, bd2_s, if_neg (by decide)]
        unfold fX1_length
        rw [si_at]; rfl
      · unfold fX6_letter
        rw [hw, bd1_s, if_neg (by decide), ht, if_neg (show ¬ nI n = 50 from fun e => by have := (nI_eq (a := n) (b := 50) (by omega) (by omega)).mp e; omega), ck_t (ckN hf (by omega)), nI_clamp (by omega), nI_1]
      · rw [si_ne (by decide), si_ne (by decide), sa_at, sa_at]
        by_cases hi2 : i = n
        · subst hi2; rw [pk_us, pk_us]
          have h00 : ¬ x < 0 := fun z => c1 (by rw [Int32.lt_iff_toInt_lt] at z ⊢; have e0 : (0 : Int32).toInt = 0 := rfl; have e32 : (32 : Int32).toInt = 32 := rfl; omega)
          obtain ⟨c, hc, e⟩ := nI_of2 (M := 126) (n := 126) rfl h00 c2
          exact ⟨rfl, c, by omega, e⟩
        · rw [pk_un hi2, pk_un hi2]; exact hl i (by omega)
      · rw [si_ne h2, sa_ne h1]
      · rw [si_ne h2, sa_ne h1]
    · have hn : n = 50 := by omega
      subst hn
      have ha : fX1_append σ x = some (0, σ) := by
        unfold fX1_append
        rw [hs, if_neg (nI_pos (by omega)), if_neg (show ¬ nI 50 < (50 : Int32) from by decide)]
      refine ⟨-1004, σ, τ, 50, ?_, ?_, ⟨h50, hs, ht, hl⟩, fun _ _ _ => rfl, fun _ _ _ => rfl⟩
      · unfold fX5_letter
        rw [if_neg c1, if_pos c2, ha, bd2_s, if_pos rfl]
      · unfold fX6_letter
        rw [hw, bd1_s, if_neg (by decide), ht, if_pos (show nI 50 = (50 : Int32) from by decide)]
  · have hw : fX6_within τ x 32 126 = some 0 := within_hi (by rw [← Int32.not_le]; exact c2)
    refine ⟨-1002, σ, τ, n, ?_, ?_, ⟨h50, hs, ht, hl⟩, fun _ _ _ => rfl, fun _ _ _ => rfl⟩
    · unfold fX5_letter; rw [if_neg c1, if_neg c2]
    · unfold fX6_letter; rw [hw]; rfl
theorem eq_blank {σ τ : St} {n : Nat} (h : RPg σ τ n) : ∃ r s t, fX5_blank σ = some (r, s) ∧ fX6_blank τ = some (r, t) ∧ RPg s t 0 ∧ (∀ j, j ≠ 42 → s j = σ j) ∧ (∀ j, j ≠ 40 → t j = τ j) := by
  obtain ⟨h50, hs, ht, hl⟩ := h
  refine ⟨nI n, si σ 42 0, si τ 40 0, ?_, ?_, ⟨by omega, si_at _ _ _ _, si_at _ _ _ _, fun i hi => absurd hi (Nat.not_lt_zero _)⟩, fun j h1 => si_ne h1, fun j h1 => si_ne h1⟩
  · show bd1 (some (σ 42 0)) _ = _
    rw [hs]; rfl
  · show some (τ 40 0, _) = _
    rw [ht]
/-- a letter of the page -/
theorem letter_at {σ : St} {n i : Nat} (h50 : n ≤ 50) (hs : σ 42 0 = nI n) (hi : i < n) : fX1_letterAt σ (nI i) = some (σ 2 i) := by
  unfold fX1_letterAt
  rw [hs, if_neg (nI_pos (by omega)), if_neg (nI_ge hi (by omega)), if_neg (show ¬ (50 : Int32) ≤ nI i from nI_ge (a := i) (b := 50) (by omega) (by omega)), ck_t (ckN (by omega) (by omega)), nI_clamp (by omega)]
