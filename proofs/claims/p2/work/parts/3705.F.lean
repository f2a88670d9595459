/-! What reaches what: exact answers of the class's readers of its placing. -/
def farI (a b : Int32) : Int32 := if b ≤ a then a - b else b - a
theorem far_eq (σ : St) (a b : Int32) : fX5_far σ a b = some (farI a b) := by
  unfold fX5_far farI
  by_cases h : b ≤ a
  · rw [if_pos h, if_pos h]
  · rw [if_neg h, if_neg h]
theorem apart_eq (τ : St) (a b : Int32) : fX6_apart τ a b = some (farI a b) := by
  unfold fX6_apart farI
  by_cases h : b ≤ a
  · rw [if_pos h, if_pos h]
  · rw [if_neg h, if_neg h]
theorem nI8 {i : Nat} (h : i < 8) : ¬ (8 : Int32) ≤ nI i := nI_ge (a := i) (b := 8) h (by omega)
theorem lab_in {σ : St} {l : Nat} (h : l < 8) : fX2_labelAddress σ (nI l) = some (σ 27 l) := by
  unfold fX2_labelAddress
  rw [if_neg (nI_pos (by omega)), if_neg (nI8 h), ck_t (ckN h (by omega)), nI_clamp (by omega)]
theorem itm_in {σ : St} {i : Nat} (h : i < 24) : fX4_isItem σ (nI i) = some 1 := by
  unfold fX4_isItem
  rw [if_neg (nI_pos (by omega)), if_neg (nI24 h)]
theorem addressOf_in {σ : St} {i : Nat} (h : i < 24) : fX2_addressOf σ (nI i) = some (σ 25 i) := by
  unfold fX2_addressOf
  rw [if_neg (nI_pos (by omega)), if_neg (show ¬ (24 : Int32) ≤ nI i from nI_ge (a := i) (b := 24) h (by omega)), ck_t (ckN h (by omega)), nI_clamp (by omega)]
theorem sizeOf_in {σ : St} {i : Nat} (h : i < 24) : fX2_sizeOf σ (nI i) = some (σ 26 i) := by
  unfold fX2_sizeOf
  rw [if_neg (nI_pos (by omega)), if_neg (show ¬ (24 : Int32) ≤ nI i from nI_ge (a := i) (b := 24) h (by omega)), ck_t (ckN h (by omega)), nI_clamp (by omega)]
theorem aimOf_in {σ : St} {i : Nat} (h : i < 24) : fX2_aimOf σ (nI i) = some (σ 28 i) := by
  unfold fX2_aimOf
  rw [if_neg (nI_pos (by omega)), if_neg (show ¬ (24 : Int32) ≤ nI i from nI_ge (a := i) (b := 24) h (by omega)), ck_t (ckN h (by omega)), nI_clamp (by omega)]
theorem islandAimOf_in {σ : St} {i : Nat} (h : i < 12) : fX2_islandAimOf σ (nI i) = some (σ 29 i) := by
  unfold fX2_islandAimOf
  rw [if_neg (nI_pos (by omega)), if_neg (show ¬ (12 : Int32) ≤ nI i from nI_ge (a := i) (b := 12) h (by omega)), ck_t (ckN h (by omega)), nI_clamp (by omega)]
theorem isLong_in {σ : St} {i : Nat} (h : i < 24) : fX2_isLong σ (nI i) = some (if σ 24 i = 0 then 0 else 1) := by
  unfold fX2_isLong
  rw [if_neg (nI_pos (by omega)), if_neg (nI24 h), ck_t (ckN h (by omega)), nI_clamp (by omega)]
  by_cases e : σ 24 i = 0
  · rw [if_pos e, if_pos e]
  · rw [if_neg e, if_neg e]
theorem straight_in {σ : St} {l : Nat} {x : Int32} (h : l < 8) : fX2_goesStraight σ x (nI l) = some (if σ 10 1 < farI x (σ 27 l) then 0 else 1) := by
  unfold fX2_goesStraight
  rw [lab_in h, bd1_s, far_eq, bd1_s, show Int32.toNatClampNeg (1 : Int32) = 1 from by decide]
  by_cases e : σ 10 1 < farI x (σ 27 l)
  · rw [if_pos e, if_pos e]
  · rw [if_neg e, if_neg e]
theorem short_in {σ : St} {l : Nat} {x : Int32} (h : l < 8) : fX2_shortAim σ x (nI l) = some (if σ 10 0 < farI x (σ 27 l) then -1 else σ 27 l) := by
  unfold fX2_shortAim
  rw [lab_in h, bd1_s, far_eq, bd1_s, show Int32.toNatClampNeg (0 : Int32) = 0 from by decide]
  by_cases e : σ 10 0 < farI x (σ 27 l)
  · rw [if_pos e, if_pos e]
  · rw [if_neg e, if_neg e]
/-- where a thing of the stock lies -/
def ad_i (σ : St) (k : Nat) : Int32 := σ 17 (Int32.toNatClampNeg (σ 14 k)) + 4 * σ 15 k
def Sk_i (σ : St) (n : Nat) : Prop := n ≤ 12 ∧ σ 56 0 = nI n ∧ ∀ k, k < n → ∃ r, r < 24 ∧ σ 14 k = nI r
theorem capN_i {i : Nat} (h : i < 12) : ¬ (12 : Int32) ≤ nI i := nI_ge (a := i) (b := 12) h (by omega)
theorem shas_in_i {σ : St} {n k : Nat} (hs : Sk_i σ n) (hk : k < n) : fX4_has_i σ (nI k) = some 1 := by
  obtain ⟨h1, h2, h3⟩ := hs
  unfold fX4_has_i
  rw [h2, if_neg (nI_pos (by omega)), if_neg (nI_ge hk (by omega)), if_neg (capN_i (by omega))]
theorem shas_out_i {σ : St} {n : Nat} {x : Int32} (hs : Sk_i σ n) (hx : ¬ ∃ i, i < n ∧ x = nI i) : fX4_has_i σ x = some 0 := by
  obtain ⟨h1, h2, h3⟩ := hs
  unfold fX4_has_i
  by_cases h0 : x < 0
  · rw [if_pos h0]
  · rw [if_neg h0, h2]
    rcases pk_ix x (n := n) (by omega) with h1 | h1 | h1
    · exact absurd h1 h0
    · rw [if_pos h1]
    · exact absurd h1 hx
theorem ssize_i {σ : St} {n : Nat} (hs : Sk_i σ n) : fX4_size_i σ = some (nI n) := by unfold fX4_size_i; rw [hs.2.1]
theorem sname_i {σ : St} {n k : Nat} (hs : Sk_i σ n) (hk : k < n) : fX4_nameOf_i σ (nI k) = some (σ 13 k) := by
  have h1 := hs.1
  unfold fX4_nameOf_i
  rw [shas_in_i hs hk, bd1_s, if_neg d_1_0, ck_t (ckN (by omega) (by omega)), nI_clamp (by omega)]
theorem sret_i {σ : St} {n k : Nat} (hs : Sk_i σ n) (hk : k < n) : fX4_returnOf_i σ (nI k) = some (σ 14 k) := by
  have h1 := hs.1
  unfold fX4_returnOf_i
  rw [shas_in_i hs hk, bd1_s, if_neg d_1_0, ck_t (ckN (by omega) (by omega)), nI_clamp (by omega)]
theorem saddr_i {σ : St} {n k : Nat} (hs : Sk_i σ n) (hk : k < n) : fX4_addressOf_i σ (nI k) = some (ad_i σ k) := by
  have h1 := hs.1
  obtain ⟨r, hr, er⟩ := hs.2.2 k hk
  unfold fX4_addressOf_i ad_i
  rw [shas_in_i hs hk, bd1_s, if_neg d_1_0, ck_t (ckN (by omega) (by omega)), nI_clamp (by omega), er, itm_in hr, bd1_s, if_neg d_1_0, ck_t (ckN hr (by omega)), ck_t (show ¬ (nI k < 0 ∨ 12 ≤ k) from fun z => z.elim (nI_pos (by omega)) (by omega))]
theorem saddr_m1_i {σ : St} {n : Nat} (hs : Sk_i σ n) : fX4_addressOf_i σ (-1) = some (-1) := by
  unfold fX4_addressOf_i
  rw [shas_out_i hs (fun ⟨i, hi, e⟩ => by have := hs.1; exact absurd (show (-1 : Int32) < 0 from by decide) (by rw [e]; exact nI_pos (by omega))), bd1_s, if_pos rfl]
/-- where a thing of the stock lies -/
def ad_c (σ : St) (k : Nat) : Int32 := σ 23 (Int32.toNatClampNeg (σ 20 k)) + 4 * σ 21 k
def Sk_c (σ : St) (n : Nat) : Prop := n ≤ 16 ∧ σ 57 0 = nI n ∧ ∀ k, k < n → ∃ r, r < 24 ∧ σ 20 k = nI r
theorem capN_c {i : Nat} (h : i < 16) : ¬ (16 : Int32) ≤ nI i := nI_ge (a := i) (b := 16) h (by omega)
theorem shas_in_c {σ : St} {n k : Nat} (hs : Sk_c σ n) (hk : k < n) : fX4_has_c σ (nI k) = some 1 := by
  obtain ⟨h1, h2, h3⟩ := hs
  unfold fX4_has_c
  rw [h2, if_neg (nI_pos (by omega)), if_neg (nI_ge hk (by omega)), if_neg (capN_c (by omega))]
theorem shas_out_c {σ : St} {n : Nat} {x : Int32} (hs : Sk_c σ n) (hx : ¬ ∃ i, i < n ∧ x = nI i) : fX4_has_c σ x = some 0 := by
  obtain ⟨h1, h2, h3⟩ := hs
  unfold fX4_has_c
  by_cases h0 : x < 0
  · rw [if_pos h0]
  · rw [if_neg h0, h2]
    rcases pk_ix x (n := n) (by omega) with h1 | h1 | h1
    · exact absurd h1 h0
    · rw [if_pos h1]
    · exact absurd h1 hx
theorem ssize_c {σ : St} {n : Nat} (hs : Sk_c σ n) : fX4_size_c σ = some (nI n) := by unfold fX4_size_c; rw [hs.2.1]
theorem sname_c {σ : St} {n k : Nat} (hs : Sk_c σ n) (hk : k < n) : fX4_nameOf_c σ (nI k) = some (σ 19 k) := by
  have h1 := hs.1
  unfold fX4_nameOf_c
  rw [shas_in_c hs hk, bd1_s, if_neg d_1_0, ck_t (ckN (by omega) (by omega)), nI_clamp (by omega)]
theorem sret_c {σ : St} {n k : Nat} (hs : Sk_c σ n) (hk : k < n) : fX4_returnOf_c σ (nI k) = some (σ 20 k) := by
  have h1 := hs.1
  unfold fX4_returnOf_c
  rw [shas_in_c hs hk, bd1_s, if_neg d_1_0, ck_t (ckN (by omega) (by omega)), nI_clamp (by omega)]
theorem saddr_c {σ : St} {n k : Nat} (hs : Sk_c σ n) (hk : k < n) : fX4_addressOf_c σ (nI k) = some (ad_c σ k) := by
  have h1 := hs.1
  obtain ⟨r, hr, er⟩ := hs.2.2 k hk
  unfold fX4_addressOf_c ad_c
  rw [shas_in_c hs hk, bd1_s, if_neg d_1_0, ck_t (ckN (by omega) (by omega)), nI_clamp (by omega), er, itm_in hr, bd1_s, if_neg d_1_0, ck_t (ckN hr (by omega)), ck_t (show ¬ (nI k < 0 ∨ 16 ≤ k) from fun z => z.elim (nI_pos (by omega)) (by omega))]
theorem saddr_m1_c {σ : St} {n : Nat} (hs : Sk_c σ n) : fX4_addressOf_c σ (-1) = some (-1) := by
  unfold fX4_addressOf_c
  rw [shas_out_c hs (fun ⟨i, hi, e⟩ => by have := hs.1; exact absurd (show (-1 : Int32) < 0 from by decide) (by rw [e]; exact nI_pos (by omega))), bd1_s, if_pos rfl]
/-- the island over which one goes: the best so far, and what is left from it -/
def islS (nm ad : Nat → Int32) (to r1 frm lb : Int32) : Nat → Int32 × Int32
  | 0 => (-1, farI frm to)
  | k + 1 => if (nm k = lb ∧ ¬ r1 < farI (ad k) frm) ∧ (farI (ad k) to < (islS nm ad to r1 frm lb k).2 ∨ (¬ (islS nm ad to r1 frm lb k).1 = -1 ∧ farI (ad k) to = (islS nm ad to r1 frm lb k).2 ∧ ¬ ad (Int32.toNatClampNeg (islS nm ad to r1 frm lb k).1) ≤ ad k)) then (nI k, farI (ad k) to) else islS nm ad to r1 frm lb k
theorem islS_best {nm ad : Nat → Int32} {to r1 frm lb : Int32} : ∀ k, (islS nm ad to r1 frm lb k).1 = -1 ∨ ∃ j, j < k ∧ (islS nm ad to r1 frm lb k).1 = nI j
  | 0 => Or.inl rfl
  | k + 1 => by
    unfold islS
    by_cases h : (nm k = lb ∧ ¬ r1 < farI (ad k) frm) ∧ (farI (ad k) to < (islS nm ad to r1 frm lb k).2 ∨ (¬ (islS nm ad to r1 frm lb k).1 = -1 ∧ farI (ad k) to = (islS nm ad to r1 frm lb k).2 ∧ ¬ ad (Int32.toNatClampNeg (islS nm ad to r1 frm lb k).1) ≤ ad k))
    · rw [if_pos h]; exact Or.inr ⟨k, by omega, rfl⟩
    · rw [if_neg h]
      rcases islS_best (nm := nm) (ad := ad) (to := to) (r1 := r1) (frm := frm) (lb := lb) k with e | ⟨j, hj, e⟩
      · exact Or.inl e
      · exact Or.inr ⟨j, by omega, e⟩
theorem nI_m1 {j : Nat} (h : j < 2 ^ 31) : ¬ nI j = -1 := fun e => absurd (show (-1 : Int32) < 0 from by decide) (by rw [← e]; exact nI_pos h)
theorem islC_b117 {σ : St} {K : Int32 → Int32 → Int32 → Int32 → Int32 → Int32 → Option Int32} {y1 y2 y3 y4 y5 y8 lead ahead : Int32} {k : Nat} : fX2_islandFor_b117 σ K y1 y2 y3 y4 y5 (nI k) y8 lead ahead = if (¬ lead = 0) ∧ (y8 < y5 ∨ ¬ ahead = 0) then K y1 y2 y3 (nI k) y8 (nI (k + 1)) else K y1 y2 y3 y4 y5 (nI (k + 1)) := by
  unfold fX2_islandFor_b117 fX2_islandFor_b136
  rw [nI_1]
  by_cases h1 : lead = 0
  · rw [if_pos h1, if_neg (fun z => z.1 h1)]
  · rw [if_neg h1]
    by_cases h2 : y8 < y5
    · rw [if_pos h2, if_pos ⟨h1, Or.inl h2⟩]
    · rw [if_neg h2]
      by_cases h3 : ahead = 0
      · rw [if_pos h3, if_neg (fun z => z.2.elim h2 (fun q => q h3))]
      · rw [if_neg h3, if_pos ⟨h1, Or.inr h3⟩]
theorem islC_b83 {σ : St} {n : Nat} (hs : Sk_i σ n) {K : Int32 → Int32 → Int32 → Int32 → Int32 → Int32 → Option Int32} {y1 y2 y3 y4 y5 y8 lead : Int32} {k : Nat} (hk : k < n) (hb : y4 = -1 ∨ ∃ j, j < k ∧ y4 = nI j) : fX2_islandFor_b83 σ K y1 y2 y3 y4 y5 (nI k) (ad_i σ k) y8 lead = if (¬ lead = 0) ∧ (y8 < y5 ∨ (¬ y4 = -1 ∧ y8 = y5 ∧ ¬ ad_i σ (Int32.toNatClampNeg y4) ≤ ad_i σ k)) then K y1 y2 y3 (nI k) y8 (nI (k + 1)) else K y1 y2 y3 y4 y5 (nI (k + 1)) := by
  unfold fX2_islandFor_b83 fX2_islandFor_b116
  have hn := hs.1
  by_cases h1 : y4 = -1
  · rw [if_pos h1, islC_b117]
    by_cases c : (¬ lead = 0) ∧ y8 < y5
    · rw [if_pos ⟨c.1, Or.inl c.2⟩, if_pos ⟨c.1, Or.inl c.2⟩]
    · rw [if_neg (fun z => z.2.elim (fun q => c ⟨z.1, q⟩) (fun q => q rfl)), if_neg (fun z => z.2.elim (fun q => c ⟨z.1, q⟩) (fun q => q.1 h1))]
  · rw [if_neg h1]
    obtain ⟨j, hj, ej⟩ := hb.resolve_left h1
    by_cases h2 : y8 = y5
    · rw [if_pos h2, ej, saddr_i hs (by omega), bd1_s, nI_clamp (by omega)]
      by_cases h3 : ad_i σ j ≤ ad_i σ k
      · rw [if_pos h3, islC_b117]
        by_cases c : (¬ lead = 0) ∧ y8 < y5
        · rw [if_pos ⟨c.1, Or.inl c.2⟩, if_pos ⟨c.1, Or.inl c.2⟩]
        · rw [if_neg (fun z => z.2.elim (fun q => c ⟨z.1, q⟩) (fun q => q rfl)), if_neg (fun z => z.2.elim (fun q => c ⟨z.1, q⟩) (fun q => q.2.2 h3))]
      · rw [if_neg h3, islC_b117]
        by_cases c : lead = 0
        · rw [if_neg (fun z => z.1 c), if_neg (fun z => z.1 c)]
        · rw [if_pos ⟨c, Or.inr d_1_0⟩, if_pos ⟨c, Or.inr ⟨nI_m1 (by omega), h2, h3⟩⟩]
    · rw [if_neg h2, islC_b117]
      by_cases c : (¬ lead = 0) ∧ y8 < y5
      · rw [if_pos ⟨c.1, Or.inl c.2⟩, if_pos ⟨c.1, Or.inl c.2⟩]
      · rw [if_neg (fun z => z.2.elim (fun q => c ⟨z.1, q⟩) (fun q => q rfl)), if_neg (fun z => z.2.elim (fun q => c ⟨z.1, q⟩) (fun q => h2 q.2.1))]
theorem islC_loop {σ : St} {n : Nat} (hs : Sk_i σ n) {frm lb to : Int32} : ∀ (d k N : Nat), k + d = n → d < N → fX2_islandFor_l19 σ N frm lb to (islS (σ 13) (ad_i σ) to (σ 10 1) frm lb k).1 (islS (σ 13) (ad_i σ) to (σ 10 1) frm lb k).2 (nI k) = some (islS (σ 13) (ad_i σ) to (σ 10 1) frm lb n).1 := by
  have hn := hs.1
  intro d
  induction d with
  | zero =>
    intro k N h hN
    obtain ⟨N, rfl⟩ : ∃ k, N = k + 1 := ⟨N - 1, by omega⟩
    have hk : k = n := by omega
    subst hk
    show fX2_islandFor_s19 σ (fX2_islandFor_l19 σ N) _ _ _ _ _ _ = _
    unfold fX2_islandFor_s19
    rw [ssize_i hs, bd1_s, if_pos (Int32.le_refl _)]
  | succ d ih =>
    intro k N h hN
    obtain ⟨N, rfl⟩ : ∃ k, N = k + 1 := ⟨N - 1, by omega⟩
    have hk : k < n := by omega
    have hb := islS_best (nm := σ 13) (ad := ad_i σ) (to := to) (r1 := σ 10 1) (frm := frm) (lb := lb) k
    have e := ih (k + 1) N (by omega) (by omega)
    rw [show islS (σ 13) (ad_i σ) to (σ 10 1) frm lb (k + 1) = (if (σ 13 k = lb ∧ ¬ σ 10 1 < farI (ad_i σ k) frm) ∧ (farI (ad_i σ k) to < (islS (σ 13) (ad_i σ) to (σ 10 1) frm lb k).2 ∨ (¬ (islS (σ 13) (ad_i σ) to (σ 10 1) frm lb k).1 = -1 ∧ farI (ad_i σ k) to = (islS (σ 13) (ad_i σ) to (σ 10 1) frm lb k).2 ∧ ¬ ad_i σ (Int32.toNatClampNeg (islS (σ 13) (ad_i σ) to (σ 10 1) frm lb k).1) ≤ ad_i σ k)) then (nI k, farI (ad_i σ k) to) else islS (σ 13) (ad_i σ) to (σ 10 1) frm lb k) from rfl] at e
    show fX2_islandFor_s19 σ (fX2_islandFor_l19 σ N) _ _ _ _ _ _ = _
    generalize islS (σ 13) (ad_i σ) to (σ 10 1) frm lb k = p at hb e ⊢
    unfold fX2_islandFor_s19
    rw [ssize_i hs, bd1_s, if_neg (nI_ge hk (by omega)), saddr_i hs hk, bd1_s, far_eq, bd1_s, sname_i hs hk, bd1_s]
    have lead0 : fX2_islandFor_b83 σ (fX2_islandFor_l19 σ N) frm lb to p.1 p.2 (nI k) (ad_i σ k) (farI (ad_i σ k) to) 0 = fX2_islandFor_l19 σ N frm lb to p.1 p.2 (nI (k + 1)) := by
      rw [islC_b83 hs hk hb, if_neg (fun z => z.1 rfl)]
    by_cases h1 : σ 13 k = lb
    · rw [if_pos h1, far_eq, bd1_s, show Int32.toNatClampNeg (1 : Int32) = 1 from by decide]
      by_cases h2 : σ 10 1 < farI (ad_i σ k) frm
      · rw [if_pos h2]
        unfold fX2_islandFor_b82
        rw [lead0]
        rw [if_neg (fun z => z.1.2 h2)] at e
        exact e
      · rw [if_neg h2, islC_b83 hs hk hb]
        by_cases h3 : farI (ad_i σ k) to < p.2 ∨ (¬ p.1 = -1 ∧ farI (ad_i σ k) to = p.2 ∧ ¬ ad_i σ (Int32.toNatClampNeg p.1) ≤ ad_i σ k)
        · rw [if_pos ⟨d_1_0, h3⟩]
          rw [if_pos ⟨⟨h1, h2⟩, h3⟩] at e
          exact e
        · rw [if_neg (fun z => h3 z.2)]
          rw [if_neg (fun z => h3 z.2)] at e
          exact e
    · rw [if_neg h1]
      unfold fX2_islandFor_b82
      rw [lead0]
      rw [if_neg (fun z => h1 z.1.1)] at e
      exact e
/-- islandFor, exactly -/
theorem islC_eq {σ : St} {n l : Nat} (hs : Sk_i σ n) (hl : l < 8) (frm : Int32) : fX2_islandFor σ frm (nI l) = some (islS (σ 13) (ad_i σ) (σ 27 l) (σ 10 1) frm (nI l) n).1 := by
  have hn := hs.1
  unfold fX2_islandFor
  rw [lab_in hl, bd1_s, far_eq, bd1_s]
  exact islC_loop hs n 0 FU (by omega) (by unfold FU; omega)
def aimL (nm ad : Nat → Int32) (to r1 frm lb : Int32) (n : Nat) : Int32 := if r1 < farI frm to then (if (islS nm ad to r1 frm lb n).1 = -1 then -1 else ad (Int32.toNatClampNeg (islS nm ad to r1 frm lb n).1)) else to
theorem long_in {σ : St} {n l : Nat} (hs : Sk_i σ n) (hl : l < 8) (frm : Int32) : fX2_longAim σ frm (nI l) = some (aimL (σ 13) (ad_i σ) (σ 27 l) (σ 10 1) frm (nI l) n) := by
  have hn := hs.1
  unfold fX2_longAim aimL
  rw [straight_in hl, bd1_s]
  by_cases h : σ 10 1 < farI frm (σ 27 l)
  · rw [if_pos h, if_pos rfl, if_pos h, islC_eq hs hl, bd1_s]
    rcases islS_best (nm := σ 13) (ad := ad_i σ) (to := σ 27 l) (r1 := σ 10 1) (frm := frm) (lb := nI l) n with e | ⟨j, hj, e⟩
    · rw [e, saddr_m1_i hs, bd1_s, if_pos rfl]
    · rw [e, saddr_i hs hj, bd1_s, if_neg (nI_m1 (by omega)), nI_clamp (by omega)]
  · rw [if_neg h, if_neg d_1_0, if_neg h, lab_in hl, bd1_s]
