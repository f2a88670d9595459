/-! hops: both go the same way; each hop comes nearer, so twelve are the most. -/
def cntD (A : Nat → Nat) (T P : Nat) : Nat → Nat
  | 0 => 0
  | k + 1 => cntD A T P k + (if dst (A k) T < P then 1 else 0)
theorem cntD_le {A : Nat → Nat} {T P : Nat} : ∀ n, cntD A T P n ≤ n
  | 0 => Nat.le_refl _
  | n + 1 => by
    have := cntD_le (A := A) (T := T) (P := P) n
    show cntD A T P n + (if dst (A n) T < P then 1 else 0) ≤ n + 1
    by_cases q : dst (A n) T < P
    · rw [if_pos q]; omega
    · rw [if_neg q]; omega
theorem cntD_mono {A : Nat → Nat} {T P Q : Nat} (h : Q ≤ P) : ∀ n, cntD A T Q n ≤ cntD A T P n
  | 0 => Nat.le_refl _
  | n + 1 => by
    have := cntD_mono (A := A) (T := T) h n
    show cntD A T Q n + (if dst (A n) T < Q then 1 else 0) ≤ cntD A T P n + (if dst (A n) T < P then 1 else 0)
    by_cases q : dst (A n) T < Q
    · rw [if_pos q, if_pos (show dst (A n) T < P by omega)]; omega
    · rw [if_neg q]; omega
theorem cntD_lt {A : Nat → Nat} {T P Q j : Nat} (hj : dst (A j) T = Q) (hQ : Q < P) : ∀ n, j < n → cntD A T Q n + 1 ≤ cntD A T P n
  | 0, h => absurd h (Nat.not_lt_zero _)
  | n + 1, h => by
    show cntD A T Q n + (if dst (A n) T < Q then 1 else 0) + 1 ≤ cntD A T P n + (if dst (A n) T < P then 1 else 0)
    by_cases e : j = n
    · subst e
      have := cntD_mono (A := A) (T := T) (Nat.le_of_lt hQ) j
      rw [if_neg (show ¬ dst (A j) T < Q by omega), if_pos (show dst (A j) T < P by omega)]; omega
    · have := cntD_lt hj hQ n (by omega)
      by_cases q : dst (A n) T < Q
      · rw [if_pos q, if_pos (show dst (A n) T < P by omega)]; omega
      · rw [if_neg q]; omega
def adN (σ : St) (k : Nat) : Nat := Int32.toNatClampNeg (ad_i σ k)
theorem hop_step {σ τ : St} {m ni nc l T y F : Nat} (hl : LL σ τ m ni nc) (h8 : l < 8) (hT : T < 4096) (eT : σ 27 l = nI T) (hF : F < 4096) (hy : y ≤ 12) :
    (∃ r, ∀ KC KM, fX2_hopsFrom_s41 σ KC (nI l) (nI F) (nI y) = some r ∧ fX6_hopsNow_s41 τ KM (nI l) (nI F) (nI y) = some r) ∨
    (∃ F', F' < 4096 ∧ cntD (adN σ) T (dst F' T) ni + 1 ≤ cntD (adN σ) T (dst F T) ni ∧ ∀ KC KM, fX2_hopsFrom_s41 σ KC (nI l) (nI F) (nI y) = KC (nI l) (nI F') (nI (y + 1)) ∧ fX6_hopsNow_s41 τ KM (nI l) (nI F) (nI y) = KM (nI l) (nI F') (nI (y + 1))) := by
  obtain ⟨⟨wp, wq, bit, hre, hsi, hsc, h48, h49, hki, hkc, hg, hlb, hlB⟩, l25, b25, li, bi, lc, bc, le, l53, l52, lz⟩ := id hl
  have hni := hsi.1
  have eT' : τ 17 l = nI T := by rw [← hlb l h8]; exact eT
  have n12 : ¬ (12 : Int32) < nI y := nI_nlt (a := 12) (b := y) hy (by omega)
  have hr1 : σ 10 1 = τ 4 1 := hre 1 (by omega)
  unfold fX2_hopsFrom_s41 fX6_hopsNow_s41
  by_cases q : τ 4 1 < farI (nI F) (nI T)
  · have q1 : fX2_goesStraight σ (nI F) (nI l) = some 0 := by rw [straight_in h8, hr1, eT, if_pos q]
    have q2 : fX6_reachesLabel τ (nI F) (nI l) = some 0 := by rw [reachM_in h8, eT', if_pos q]
    have i2 := islM_eq (LL_Mi hl) h8 hF hT eT'
    have i1 : fX2_islandFor σ (nI F) (nI l) = some (islS (τ 8) (τ 13) (τ 17 l) (τ 4 1) (nI F) (nI l) ni).1 := by
      rw [islC_eq hsi h8 (nI F), hr1, eT, eT', islS_congr (nm := σ 13) (ad := ad_i σ) (nm' := τ 8) (ad' := τ 13) (by omega) (fun k hk => ⟨(hki k hk).1, li k hk⟩)]
    obtain ⟨P, p1, p2, p3⟩ := islS_inv (nm := τ 8) (ad := τ 13) (to := τ 17 l) (r1 := τ 4 1) (frm := nI F) (lb := nI l) hF hT rfl eT' ni (LL_Mi hl).2.2
    rcases p3 with ⟨e, _⟩ | ⟨j, hj, e, ep, hP⟩
    · refine Or.inl ⟨-1, fun KC KM => ⟨?_, ?_⟩⟩
      · rw [if_neg n12, q1, bd1_s, if_pos rfl, i1, bd1_s, e, if_pos rfl]
      · rw [q2, bd1_s, if_pos rfl, i2, bd1_s, e, if_pos rfl]
    · obtain ⟨A, hA, eA⟩ := bi j hj
      have eA' : τ 13 j = nI A := by rw [← li j hj]; exact eA
      rw [eA', eT', far_nI hA hT] at ep
      have hPA : P = dst A T := (nI_eq (by omega) (Nat.lt_trans (dst_lt hA hT) (by omega))).mp ep
      subst hPA
      refine Or.inr ⟨A, hA, cntD_lt (A := adN σ) (j := j) (by unfold adN; rw [eA, nI_clamp (by omega)]) hP ni hj, fun KC KM => ⟨?_, ?_⟩⟩
      · rw [if_neg n12, q1, bd1_s, if_pos rfl, i1, bd1_s, e, if_neg (nI_m1 (by omega)), saddr_i hsi hj, bd1_s, eA, nI_1]
      · rw [q2, bd1_s, if_pos rfl, i2, bd1_s, e, if_neg (nI_m1 (by omega)), ck_t (ckN (i := j) (N := 12) (by omega) (by omega)), nI_clamp (by omega), eA', nI_1]
  · have q1 : fX2_goesStraight σ (nI F) (nI l) = some 1 := by rw [straight_in h8, hr1, eT, if_neg q]
    have q2 : fX6_reachesLabel τ (nI F) (nI l) = some 1 := by rw [reachM_in h8, eT', if_neg q]
    refine Or.inl ⟨nI y, fun KC KM => ⟨?_, ?_⟩⟩
    · rw [if_neg n12, q1, bd1_s, if_neg d_1_0]
    · rw [q2, bd1_s, if_neg d_1_0]
theorem hop_loop {σ τ : St} {m ni nc l T : Nat} (hl : LL σ τ m ni nc) (h8 : l < 8) (hT : T < 4096) (eT : σ 27 l = nI T) : ∀ (c y F N M : Nat), F < 4096 → y + c ≤ 12 → cntD (adN σ) T (dst F T) ni ≤ c → c < N → c < M → ∃ r, fX2_hopsFrom_l41 σ N (nI l) (nI F) (nI y) = some r ∧ fX6_hopsNow_l41 τ M (nI l) (nI F) (nI y) = some r := by
  intro c
  induction c with
  | zero =>
    intro y F N M hF hy hc hN hM
    obtain ⟨N, rfl⟩ : ∃ k, N = k + 1 := ⟨N - 1, by omega⟩
    obtain ⟨M, rfl⟩ : ∃ k, M = k + 1 := ⟨M - 1, by omega⟩
    rcases hop_step hl h8 hT eT hF (show y ≤ 12 by omega) with ⟨r, hr⟩ | ⟨F', _, h2, _⟩
    · exact ⟨r, (hr (fX2_hopsFrom_l41 σ N) (fX6_hopsNow_l41 τ M)).1, (hr (fX2_hopsFrom_l41 σ N) (fX6_hopsNow_l41 τ M)).2⟩
    · omega
  | succ c ih =>
    intro y F N M hF hy hc hN hM
    obtain ⟨N, rfl⟩ : ∃ k, N = k + 1 := ⟨N - 1, by omega⟩
    obtain ⟨M, rfl⟩ : ∃ k, M = k + 1 := ⟨M - 1, by omega⟩
    rcases hop_step hl h8 hT eT hF (show y ≤ 12 by omega) with ⟨r, hr⟩ | ⟨F', h1, h2, h3⟩
    · exact ⟨r, (hr (fX2_hopsFrom_l41 σ N) (fX6_hopsNow_l41 τ M)).1, (hr (fX2_hopsFrom_l41 σ N) (fX6_hopsNow_l41 τ M)).2⟩
    · obtain ⟨r, e1, e2⟩ := ih (y + 1) F' N M h1 (by omega) (by omega) (by omega) (by omega)
      refine ⟨r, ?_, ?_⟩
      · show fX2_hopsFrom_s41 σ (fX2_hopsFrom_l41 σ N) (nI l) (nI F) (nI y) = _
        rw [(h3 (fX2_hopsFrom_l41 σ N) (fX6_hopsNow_l41 τ M)).1]; exact e1
      · show fX6_hopsNow_s41 τ (fX6_hopsNow_l41 τ M) (nI l) (nI F) (nI y) = _
        rw [(h3 (fX2_hopsFrom_l41 σ N) (fX6_hopsNow_l41 τ M)).2]; exact e2
theorem shortM_eq {τ : St} {m ni nc i l : Nat} (h24 : m ≤ 24) (hi : i < m) (h8 : l < 8) (k2 : τ 2 i = 2) (g : τ 7 i = 0) (el : τ 3 i = nI l) : fX6_shortGoes τ (nI i) = some (aimM τ ni nc i) := by
  have c24 : ¬ (nI i < 0 ∨ 24 ≤ Int32.toNatClampNeg (nI i)) := ckN (by omega) (by omega)
  have c24' : ¬ (nI i < 0 ∨ 24 ≤ i) := fun z => z.elim (nI_pos (by omega)) (by omega)
  unfold fX6_shortGoes aimM aimV
  rw [if_neg (show ¬ τ 2 i = 1 from by rw [k2]; decide), if_pos k2, if_pos g, ck_t c24, nI_clamp (n := i) (by omega), el, ck_t (ckN h8 (by omega)), ck_t c24', nI_clamp (n := l) (by omega), apart_eq, bd1_s, show Int32.toNatClampNeg (0 : Int32) = 0 from by decide]
  by_cases q : τ 4 0 < farI (τ 12 i) (τ 17 l)
  · rw [if_pos q, if_pos q]
  · rw [if_neg q, if_neg q]
theorem eq_hops {σ τ : St} (h : Inv σ τ) (x : Int32) : ∃ r, fX5_hops σ x = some r ∧ fX6_hops τ x = some r := by
  obtain ⟨n, m, ni, nc, hg, hr, hp, _, _⟩ := h
  obtain ⟨h24, hs, ht, hit, hgp⟩ := id hr
  by_cases hx : ∃ i, i < m ∧ x = nI i
  · obtain ⟨i, hi, rfl⟩ := hx
    have c1 := ckN (i := i) (N := 24) (by omega) (by omega)
    have c2 : ¬ (nI i < 0 ∨ 24 ≤ i) := fun z => z.elim (nI_pos (by omega)) (by omega)
    unfold fX5_hops fX6_hops
    rw [has_in_p hs h24 hi, isItem_in h24 ht hi, bd1_s, bd1_s, if_neg d_1_0, if_neg d_1_0, kind_in_p hs h24 hi, bd1_s, ck_t c1, nI_clamp (by omega), ← (hit i hi).1]
    by_cases k2 : σ 8 i = 2
    · obtain ⟨hl, hinj, ha, hia, h50, h51, h54, h55, h53, h0⟩ := hp
      obtain ⟨⟨wp, wq, bit, hre, hsi, hsc, h48, h49, hki, hkc, hgg, hlb, hlB⟩, l25, b25, li, bi, lc, bc, le, l53, l52, lz⟩ := id hl
      obtain ⟨l, h8, el⟩ := wf_lab (wp.2.2 i hi) k2
      have el' : τ 3 i = nI l := by rw [← (hit i hi).2.1]; exact el
      have k2' : τ 2 i = 2 := by rw [← (hit i hi).1]; exact k2
      rw [if_pos k2, if_pos k2]
      unfold fX2_hopsFrom fX6_hopsNow
      rw [told_in_p hs h24 hi, bd1_s, addressOf_in (by omega), bd1_s, isLong_in (by omega), bd1_s, ck_t c1, ck_t c1, nI_clamp (by omega), el, el']
      by_cases q : σ 24 i = 0
      · have q' : τ 7 i = 0 := by rw [← (bit i hi).2.2.1]; exact q
        rw [if_pos q, if_pos rfl, aimOf_in (by omega), bd1_s, if_pos q', shortM_eq (ni := ni) (nc := nc) h24 hi h8 k2' q' el', bd1_s, ha i hi]
        by_cases z : aimM τ ni nc i = -1
        · exact ⟨-1, by rw [if_pos z, bd1_s], by rw [if_pos z, bd1_s]⟩
        · exact ⟨0, by rw [if_neg z, bd1_s], by rw [if_neg z, bd1_s]⟩
      · have q' : ¬ τ 7 i = 0 := by rw [← (bit i hi).2.2.1]; exact q
        obtain ⟨F, hF, eF⟩ := b25 i hi
        obtain ⟨T, hT, eT⟩ := hlB l h8
        have hni := hsi.1
        have hc := cntD_le (A := adN σ) (T := T) (P := dst F T) ni
        obtain ⟨r, e1, e2⟩ := hop_loop hl h8 hT eT 12 0 F FU FU hF (by omega) (by omega) (by unfold FU; omega) (by unfold FU; omega)
        rw [if_neg q, if_neg d_1_0, if_neg q', ck_t c2, ← l25 i hi, eF]
        exact ⟨r, by rw [show fX2_hopsFrom_l41 σ FU (nI l) (nI F) 0 = some r from e1, bd1_s], by rw [show fX6_hopsNow_l41 τ FU (nI l) (nI F) 0 = some r from e2, bd1_s]⟩
    · exact ⟨-1003, by rw [if_neg k2], by rw [if_neg k2]⟩
  · refine ⟨-1001, ?_, ?_⟩
    · unfold fX5_hops
      rw [has_out_p hs h24 hx, bd1_s, if_pos rfl]
    · unfold fX6_hops
      rw [isItem_out h24 ht hx, bd1_s, if_pos rfl]
