/-! Where an item, or an island, goes: class (laid down in its rows) and reference (asked). -/
def aimV (kd td lg adr lab rc inm iad : Nat → Int32) (ni : Nat) (cnm cad : Nat → Int32) (nc i : Nat) : Int32 :=
  if kd i = 1 then (if conS cnm cad (rc 2) (adr i) (td i) nc = -1 then -1 else cad (Int32.toNatClampNeg (conS cnm cad (rc 2) (adr i) (td i) nc)))
  else if kd i = 2 then (if lg i = 0 then (if rc 0 < farI (adr i) (lab (Int32.toNatClampNeg (td i))) then -1 else lab (Int32.toNatClampNeg (td i))) else aimL inm iad (lab (Int32.toNatClampNeg (td i))) (rc 1) (adr i) (td i) ni) else -1
def aimC (σ : St) (ni nc i : Nat) : Int32 := aimV (σ 8) (σ 9) (σ 24) (σ 25) (σ 27) (σ 10) (σ 13) (ad_i σ) ni (σ 19) (ad_c σ) nc i
def aimM (τ : St) (ni nc i : Nat) : Int32 := aimV (τ 2) (τ 3) (τ 7) (τ 12) (τ 17) (τ 4) (τ 8) (τ 13) ni (τ 10) (τ 14) nc i
def iaimC (σ : St) (ni k : Nat) : Int32 := aimL (σ 13) (ad_i σ) (σ 27 (Int32.toNatClampNeg (σ 13 k))) (σ 10 1) (ad_i σ k) (σ 13 k) ni
def iaimM (τ : St) (ni k : Nat) : Int32 := aimL (τ 8) (τ 13) (τ 17 (Int32.toNatClampNeg (τ 8 k))) (τ 4 1) (τ 13 k) (τ 8 k) ni
theorem ad_i_fr {s σ : St} (h17 : s 17 = σ 17) (h14 : s 14 = σ 14) (h15 : s 15 = σ 15) : ad_i s = ad_i σ := by funext k; unfold ad_i; rw [h17, h14, h15]
theorem ad_c_fr {s σ : St} (h17 : s 23 = σ 23) (h14 : s 20 = σ 20) (h15 : s 21 = σ 21) : ad_c s = ad_c σ := by funext k; unfold ad_c; rw [h17, h14, h15]
theorem aimC_fr {s σ : St} {ni nc : Nat} (h : ∀ j, j ≠ 28 → s j = σ j) : aimC s ni nc = aimC σ ni nc := by
  funext i
  unfold aimC
  rw [ad_i_fr (h 17 (by decide)) (h 14 (by decide)) (h 15 (by decide)), ad_c_fr (h 23 (by decide)) (h 20 (by decide)) (h 21 (by decide)), h 8 (by decide), h 9 (by decide), h 24 (by decide), h 25 (by decide), h 27 (by decide), h 10 (by decide), h 13 (by decide), h 19 (by decide)]
theorem iaimC_fr {s σ : St} {ni : Nat} (h : ∀ j, j ≠ 29 → s j = σ j) : iaimC s ni = iaimC σ ni := by
  funext i
  unfold iaimC
  rw [ad_i_fr (h 17 (by decide)) (h 14 (by decide)) (h 15 (by decide)), h 27 (by decide), h 10 (by decide), h 13 (by decide)]
def wfP (σ : St) (m : Nat) : Prop := m ≤ 24 ∧ σ 48 0 = nI m ∧ ∀ i, i < m → wfI (σ 8 i) (σ 9 i)
theorem wf_lab {k w : Int32} (h : wfI k w) (hk : k = 2) : ∃ l, l < 8 ∧ w = nI l := by
  obtain ⟨a, b, ea, eb, hc⟩ := h
  have : a = 2 := (nI_eq (a := a) (b := 2) (by omega) (by omega)).mp (by rw [← ea]; exact hk)
  exact ⟨b, by omega, eb⟩
theorem aimC_step {σ : St} {m ni nc i : Nat} (hp : wfP σ m) (hi : Sk_i σ ni) (hc : Sk_c σ nc) (him : i < m) (K : St → Int32 → Option St) : fX2_aimItems_s2 K σ (nI i) = K (sa σ 28 i (aimC σ ni nc i)) (nI (i + 1)) := by
  obtain ⟨h1, h2, h3⟩ := hp
  have c24 : ¬ (nI i < 0 ∨ 24 ≤ Int32.toNatClampNeg (nI i)) := ckN (by omega) (by omega)
  unfold fX2_aimItems_s2 aimC aimV
  rw [show fX0_size_p σ = some (nI m) from by unfold fX0_size_p; rw [h2], bd1_s, if_neg (nI_ge him (by omega)), if_neg (nI24 (by omega)), told_in_p h2 h1 him, bd1_s, kind_in_p h2 h1 him, bd1_s]
  by_cases k1 : σ 8 i = 1
  · have hcn := hc.1
    rw [if_pos k1, if_pos k1, addressOf_in (by omega), bd1_s, conC_eq hc, bd1_s]
    rcases conS_best (nm := σ 19) (ad := ad_c σ) (r2 := σ 10 2) (frm := σ 25 i) (v := σ 9 i) nc with e | ⟨j, hj, e⟩
    · rw [e, saddr_m1_c hc, bd1_s, ck_t c24, nI_clamp (by omega), nI_1, if_pos rfl]
    · rw [e, saddr_c hc hj, bd1_s, ck_t c24, nI_clamp (n := i) (by omega), nI_1, if_neg (nI_m1 (by omega)), nI_clamp (n := j) (by omega)]
  · rw [if_neg k1, if_neg k1]
    by_cases k2 : σ 8 i = 2
    · obtain ⟨l, hl, el⟩ := wf_lab (h3 i him) k2
      rw [if_pos k2, if_pos k2, isLong_in (by omega), bd1_s, el, nI_clamp (n := l) (by omega)]
      unfold fX2_aimItems_b126
      by_cases g : σ 24 i = 0
      · rw [if_pos g, if_pos rfl, if_pos g, addressOf_in (by omega), bd1_s, short_in hl, bd1_s, ck_t c24, nI_clamp (n := i) (by omega), nI_1]
      · rw [if_neg g, if_neg d_1_0, if_neg g, addressOf_in (by omega), bd1_s, long_in hi hl, bd1_s, ck_t c24, nI_clamp (n := i) (by omega), nI_1]
    · rw [if_neg k2, if_neg k2, ck_t c24, nI_clamp (by omega), nI_1]
theorem Sk_i_fr {s σ : St} {n : Nat} (h : Sk_i σ n) (h56 : s 56 = σ 56) (h14 : s 14 = σ 14) : Sk_i s n := ⟨h.1, by rw [h56]; exact h.2.1, fun k hk => by rw [h14]; exact h.2.2 k hk⟩
theorem Sk_c_fr {s σ : St} {n : Nat} (h : Sk_c σ n) (h57 : s 57 = σ 57) (h20 : s 20 = σ 20) : Sk_c s n := ⟨h.1, by rw [h57]; exact h.2.1, fun k hk => by rw [h20]; exact h.2.2 k hk⟩
theorem wfP_fr {s σ : St} {m : Nat} (h : wfP σ m) (h48 : s 48 = σ 48) (h8 : s 8 = σ 8) (h9 : s 9 = σ 9) : wfP s m := ⟨h.1, by rw [h48]; exact h.2.1, fun i hi => by rw [h8, h9]; exact h.2.2 i hi⟩
theorem aimItems_loop {σ : St} {m ni nc : Nat} (hp : wfP σ m) (hi : Sk_i σ ni) (hc : Sk_c σ nc) : ∀ (d i : Nat) (s : St) (N : Nat), i + d = m → d < N → (∀ j, j ≠ 28 → s j = σ j) → (∀ j, j < i → s 28 j = aimC σ ni nc j) → ∃ t, fX2_aimItems_l2 N s (nI i) = some t ∧ (∀ j, j ≠ 28 → t j = σ j) ∧ (∀ j, j < m → t 28 j = aimC σ ni nc j) := by
  intro d
  induction d with
  | zero =>
    intro i s N h hN hf ha
    obtain ⟨N, rfl⟩ : ∃ k, N = k + 1 := ⟨N - 1, by omega⟩
    have hk : i = m := by omega
    subst hk
    refine ⟨s, ?_, hf, ha⟩
    show fX2_aimItems_s2 (fX2_aimItems_l2 N) s (nI i) = _
    unfold fX2_aimItems_s2 fX0_size_p
    rw [hf 48 (by decide), hp.2.1, bd1_s, if_pos (Int32.le_refl _)]
  | succ d ih =>
    intro i s N h hN hf ha
    obtain ⟨N, rfl⟩ : ∃ k, N = k + 1 := ⟨N - 1, by omega⟩
    have hm := hp.1
    obtain ⟨t, e1, e2, e3⟩ := ih (i + 1) (sa s 28 i (aimC σ ni nc i)) N (by omega) (by omega) (fun j hj => by rw [sa_ne hj]; exact hf j hj) (fun j hj => by
      rw [sa_at]
      by_cases e : j = i
      · subst e; rw [pk_us]
      · rw [pk_un e]; exact ha j (by omega))
    refine ⟨t, ?_, e2, e3⟩
    show fX2_aimItems_s2 (fX2_aimItems_l2 N) s (nI i) = _
    rw [aimC_step (m := m) (ni := ni) (nc := nc) (wfP_fr hp (hf 48 (by decide)) (hf 8 (by decide)) (hf 9 (by decide))) (Sk_i_fr hi (hf 56 (by decide)) (hf 14 (by decide))) (Sk_c_fr hc (hf 57 (by decide)) (hf 20 (by decide))) (by omega), aimC_fr hf]
    exact e1
theorem aimItems_eq {σ : St} {m ni nc : Nat} (hp : wfP σ m) (hi : Sk_i σ ni) (hc : Sk_c σ nc) : ∃ t, fX2_aimItems σ = some t ∧ (∀ j, j ≠ 28 → t j = σ j) ∧ (∀ j, j < m → t 28 j = aimC σ ni nc j) := by
  have hm := hp.1
  exact aimItems_loop hp hi hc m 0 σ FU (by omega) (by unfold FU; omega) (fun _ _ => rfl) (fun j hj => absurd hj (Nat.not_lt_zero _))
def nmL (f : Nat → Int32) (n : Nat) : Prop := ∀ k, k < n → ∃ l, l < 8 ∧ f k = nI l
theorem aimIslands_loop {σ : St} {ni : Nat} (hi : Sk_i σ ni) (hl : nmL (σ 13) ni) : ∀ (d k : Nat) (s : St) (N : Nat), k + d = ni → d < N → (∀ j, j ≠ 29 → s j = σ j) → (∀ j, j < k → s 29 j = iaimC σ ni j) → ∃ t, fX2_aimIslands_l2 N s (nI k) = some t ∧ (∀ j, j ≠ 29 → t j = σ j) ∧ (∀ j, j < ni → t 29 j = iaimC σ ni j) := by
  have hn := hi.1
  intro d
  induction d with
  | zero =>
    intro k s N h hN hf ha
    obtain ⟨N, rfl⟩ : ∃ k, N = k + 1 := ⟨N - 1, by omega⟩
    have hk : k = ni := by omega
    subst hk
    refine ⟨s, ?_, hf, ha⟩
    show fX2_aimIslands_s2 (fX2_aimIslands_l2 N) s (nI k) = _
    unfold fX2_aimIslands_s2
    rw [ssize_i (Sk_i_fr hi (hf 56 (by decide)) (hf 14 (by decide))), bd1_s, if_pos (Int32.le_refl _)]
  | succ d ih =>
    intro k s N h hN hf ha
    obtain ⟨N, rfl⟩ : ∃ k, N = k + 1 := ⟨N - 1, by omega⟩
    have hk : k < ni := by omega
    have hs := Sk_i_fr hi (hf 56 (by decide)) (hf 14 (by decide))
    obtain ⟨t, e1, e2, e3⟩ := ih (k + 1) (sa s 29 k (iaimC σ ni k)) N (by omega) (by omega) (fun j hj => by rw [sa_ne hj]; exact hf j hj) (fun j hj => by
      rw [sa_at]
      by_cases e : j = k
      · subst e; rw [pk_us]
      · rw [pk_un e]; exact ha j (by omega))
    refine ⟨t, ?_, e2, e3⟩
    obtain ⟨l, hl8, el⟩ := hl k hk
    have c12 : ¬ (nI k < 0 ∨ 12 ≤ Int32.toNatClampNeg (nI k)) := ckN (by omega) (by omega)
    show fX2_aimIslands_s2 (fX2_aimIslands_l2 N) s (nI k) = _
    unfold fX2_aimIslands_s2
    have es : s 13 k = nI l := by rw [hf 13 (by decide)]; exact el
    rw [ssize_i hs, bd1_s, if_neg (nI_ge hk (by omega)), if_neg (capN_i (by omega)), saddr_i hs hk, bd1_s, sname_i hs hk, bd1_s, es, long_in hs hl8, bd1_s, ck_t c12, nI_clamp (by omega), nI_1]
    have : aimL (s 13) (ad_i s) (s 27 l) (s 10 1) (ad_i s k) (nI l) ni = iaimC σ ni k := by
      rw [← iaimC_fr hf]; unfold iaimC; rw [es, nI_clamp (by omega)]
    rw [this]
    exact e1
theorem aimIslands_eq {σ : St} {ni : Nat} (hi : Sk_i σ ni) (hl : nmL (σ 13) ni) : ∃ t, fX2_aimIslands σ = some t ∧ (∀ j, j ≠ 29 → t j = σ j) ∧ (∀ j, j < ni → t 29 j = iaimC σ ni j) := by
  have hn := hi.1
  exact aimIslands_loop hi hl ni 0 σ FU (by omega) (by unfold FU; omega) (fun _ _ => rfl) (fun j hj => absurd hj (Nat.not_lt_zero _))
/-- the reference, asked -/
theorem goesTo_eq {τ : St} {m ni nc i : Nat} (hm : m ≤ 24) (hw : ∀ i, i < m → wfI (τ 2 i) (τ 3 i)) (hi : Mi τ ni) (hc : Mc τ nc) (hB : Bd (τ 12) m) (hL : Bd (τ 17) 8) (him : i < m) : fX6_goesTo τ (nI i) = some (aimM τ ni nc i) := by
  have c24 : ¬ (nI i < 0 ∨ 24 ≤ Int32.toNatClampNeg (nI i)) := ckN (by omega) (by omega)
  have c24' : ¬ (nI i < 0 ∨ 24 ≤ i) := fun z => z.elim (nI_pos (by omega)) (by omega)
  obtain ⟨F, hF, eF⟩ := hB i him
  have hni := hi.1
  have hnc := hc.1
  unfold fX6_goesTo aimM aimV
  rw [ck_t c24, nI_clamp (n := i) (by omega)]
  by_cases k1 : τ 2 i = 1
  · rw [if_pos k1, if_pos k1, conM_eq hc (by omega) hF eF, bd1_s, eF]
    rcases conS_best (nm := τ 10) (ad := τ 14) (r2 := τ 4 2) (frm := nI F) (v := τ 3 i) nc with e | ⟨j, hj, e⟩
    · rw [e, if_pos rfl, if_pos rfl]
    · rw [e, if_neg (nI_m1 (by omega)), if_neg (nI_m1 (by omega)), ck_t (ckN (by omega) (by omega))]
  · rw [if_neg k1, if_neg k1, ck_t c24']
    by_cases k2 : τ 2 i = 2
    · obtain ⟨l, hl, el⟩ := wf_lab (hw i him) k2
      obtain ⟨T, hT, eT⟩ := hL l hl
      rw [if_pos k2, if_pos k2, ck_t c24']
      by_cases g : τ 7 i = 0
      · rw [if_pos g, if_pos g]
        unfold fX6_shortGoes
        rw [ck_t c24, nI_clamp (n := i) (by omega), el, ck_t (ckN hl (by omega)), ck_t c24', nI_clamp (n := l) (by omega), apart_eq, bd1_s, show Int32.toNatClampNeg (0 : Int32) = 0 from by decide]
        by_cases q : τ 4 0 < farI (τ 12 i) (τ 17 l)
        · rw [if_pos q, if_pos q, bd1_s]
        · rw [if_neg q, if_neg q, bd1_s]
      · rw [if_neg g, if_neg g, ck_t c24', ck_t c24', el, eF, goesM_in hi hl hF hT eT, bd1_s, nI_clamp (by omega)]
    · rw [if_neg k2, if_neg k2]
