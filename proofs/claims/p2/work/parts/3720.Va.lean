/-! More of what is laid: addresses grow; a gap's end lies behind all that comes ahead; constants lie apart. -/
theorem nxtS_ge {kd td lg : Nat → Int32} {cI cC : Nat → Nat} {i A : Nat} : A ≤ nxtS kd td lg cI cC i A := by
  unfold nxtS
  by_cases q : kd i = 5
  · rw [if_pos q]
    unfold atN
    have := upN_ge (d := 4) (A := A + szI (kd i) (td i) (lg i) A + 4 * cI i) (by omega)
    by_cases z : cC i = 0
    · rw [if_pos z]; omega
    · rw [if_neg z]; omega
  · rw [if_neg q]; omega
theorem AdS_mono {kd td lg : Nat → Int32} {cI cC : Nat → Nat} {i j : Nat} (h : i ≤ j) : AdS kd td lg cI cC i ≤ AdS kd td lg cI cC j := by
  induction h with
  | refl => exact Nat.le_refl _
  | step _ ih => exact Nat.le_trans ih nxtS_ge
theorem stN_ge {E c : Nat} : E ≤ stN E c ∧ stN E c ≤ E + 3 := by
  unfold stN
  have := upN_ge (d := 4) (A := E) (by omega)
  by_cases q : c = 0
  · rw [if_pos q]; omega
  · rw [if_neg q]; omega
theorem con_ap {kd td lg : Nat → Int32} {cI cC : Nat → Nat} {r p r' p' : Nat} (h5 : kd r = 5) (hp : p < cC r) (hrr : r < r') : stN (AdS kd td lg cI cC r + 2 + 4 * cI r) (cC r) + 4 * p < stN (AdS kd td lg cI cC r' + 2 + 4 * cI r') (cC r') + 4 * p' := by
  have h1 : AdS kd td lg cI cC (r + 1) ≤ AdS kd td lg cI cC r' := AdS_mono hrr
  have e : AdS kd td lg cI cC (r + 1) = atN (AdS kd td lg cI cC r + 2 + 4 * cI r) (cC r) := by
    show nxtS kd td lg cI cC r (AdS kd td lg cI cC r) = _
    unfold nxtS
    rw [if_pos h5, szI_5' h5]
  have g := st_at (E := AdS kd td lg cI cC r + 2 + 4 * cI r) (c := cC r)
  have z := (stN_ge (E := AdS kd td lg cI cC r' + 2 + 4 * cI r') (c := cC r')).1
  omega
theorem cntE_lt {f : Nat → Int32} {v : Int32} {j n : Nat} (h : j < n) (e : f j = v) : cntE f v j < cntE f v n := by
  have h1 : cntE f v (j + 1) ≤ cntE f v n := cntE_mono h
  have h2 : cntE f v (j + 1) = cntE f v j + 1 := by
    show cntE f v j + (if f j = v then 1 else 0) = _
    rw [if_pos e]
  omega
def LX (s t : St) (m nc : Nat) : Prop := (∀ i r, i < r → r < m → s 8 r = 5 → ¬ t 16 r ≤ s 25 i) ∧ (∀ j k, j < nc → k < nc → ad_c s j = ad_c s k → j = k)
theorem lay_more {σ τ s t : St} {m ni nc : Nat} (h : BB σ τ m ni nc) (hs : fX2_lay σ = some s) (ht : fX6_layAll τ = some t) : LX s t m nc := by
  obtain ⟨hp, hq, hit, hre, hsi, hsc, h48, h49, hki, hkc, hg, hlb, hlB⟩ := h
  have hni := hsi.1
  have hnc := hsc.1
  have hm := hp.1
  have eI : (fun r : Nat => cntE (σ 14) (nI r) ni) = fun r => cntE (τ 9) (nI r) ni := by
    funext r; exact cntE_congr (fun k hk => (hki k hk).2.1)
  have eC : (fun r : Nat => cntE (σ 20) (nI r) nc) = fun r => cntE (τ 11) (nI r) nc := by
    funext r; exact cntE_congr (fun k hk => (hkc k hk).2.1)
  have bI : ∀ r, (fun r : Nat => cntE (σ 14) (nI r) ni) r ≤ 12 := fun r => Nat.le_trans cntE_le hni
  have bC : ∀ r, (fun r : Nat => cntE (σ 20) (nI r) nc) r ≤ 16 := fun r => Nat.le_trans cntE_le hnc
  obtain ⟨u, a1, a2, a3, a4, a5, a6⟩ := layC_eq (σ := σ) (m := m) hp bI bC (fun r hr => (hg r hr).1) (fun r hr => (hg r hr).2)
  obtain ⟨v, b1, b2, b3, b4, b5, b6, b7, b8⟩ := layM_eq (τ := τ) (m := m) (ni := ni) (nc := nc) hq hni hnc h48 h49 eI eC
  have hkl : ∀ j, j < m → σ 8 j = τ 2 j ∧ σ 9 j = τ 3 j ∧ σ 24 j = τ 7 j := fun j hj => ⟨(hit j hj).1, (hit j hj).2.1, (hit j hj).2.2.1⟩
  have hAe := fun i (hi : i ≤ m) => AdS_congr (cI := fun r : Nat => cntE (σ 14) (nI r) ni) (cC := fun r : Nat => cntE (σ 20) (nI r) nc) hkl rfl rfl i hi
  have hAb := fun i (hi : i ≤ m) => AdS_le (kd := σ 8) (td := σ 9) (lg := σ 24) hp.2.2 bI bC i hi
  have es := Option.some.inj (hs.symm.trans a1)
  have et := Option.some.inj (ht.symm.trans b1)
  have s8 : s 8 = σ 8 := by rw [es, si_ne (by decide)]; exact a2 8 (by decide) (by decide) (by decide) (by decide) (by decide) (by decide)
  have s20 : s 20 = σ 20 := by rw [es, si_ne (by decide)]; exact a2 20 (by decide) (by decide) (by decide) (by decide) (by decide) (by decide)
  have s21 : s 21 = σ 21 := by rw [es, si_ne (by decide)]; exact a2 21 (by decide) (by decide) (by decide) (by decide) (by decide) (by decide)
  have s25 : s 25 = u 25 := by rw [es, si_ne (by decide)]
  have s23 : s 23 = u 23 := by rw [es, si_ne (by decide)]
  have t16 : t 16 = v 16 := by rw [et, si_ne (by decide)]
  clear es et
  refine ⟨fun i r hir hr h5 => ?_, fun j k hj hk he => ?_⟩
  · rw [s8] at h5
    have h1 := (b8 r hr (by rw [← (hit r hr).1]; exact h5)).2
    rw [t16, h1, s25, (a3 i (by omega)).1, ← (hAe r (by omega)).1]
    have hb := (hAb r (by omega)).1
    have hci : cntE (σ 14) (nI r) ni ≤ 12 := bI r
    have hcc : cntE (σ 20) (nI r) nc ≤ 16 := bC r
    have hat := atN_le (E := AdS (σ 8) (σ 9) (σ 24) (fun r : Nat => cntE (σ 14) (nI r) ni) (fun r : Nat => cntE (σ 20) (nI r) nc) r + 2 + 4 * cntE (σ 14) (nI r) ni) hcc
    have hst := st_at (E := AdS (σ 8) (σ 9) (σ 24) (fun r : Nat => cntE (σ 14) (nI r) ni) (fun r : Nat => cntE (σ 20) (nI r) nc) r + 2 + 4 * cntE (σ 14) (nI r) ni) (c := cntE (σ 20) (nI r) nc)
    have hsg := (stN_ge (E := AdS (σ 8) (σ 9) (σ 24) (fun r : Nat => cntE (σ 14) (nI r) ni) (fun r : Nat => cntE (σ 20) (nI r) nc) r + 2 + 4 * cntE (σ 14) (nI r) ni) (c := cntE (σ 20) (nI r) nc)).1
    have hu := upN_ge (d := 4) (A := atN (AdS (σ 8) (σ 9) (σ 24) (fun r : Nat => cntE (σ 14) (nI r) ni) (fun r : Nat => cntE (σ 20) (nI r) nc) r + 2 + 4 * cntE (σ 14) (nI r) ni) (cntE (σ 20) (nI r) nc)) (by omega)
    have hmo := AdS_mono (kd := σ 8) (td := σ 9) (lg := σ 24) (cI := fun r : Nat => cntE (σ 14) (nI r) ni) (cC := fun r : Nat => cntE (σ 20) (nI r) nc) (i := i) (j := r) (by omega)
    exact nI_ge (a := AdS (σ 8) (σ 9) (σ 24) (fun r : Nat => cntE (σ 14) (nI r) ni) (fun r : Nat => cntE (σ 20) (nI r) nc) i) (b := upN 4 (atN (AdS (σ 8) (σ 9) (σ 24) (fun r : Nat => cntE (σ 14) (nI r) ni) (fun r : Nat => cntE (σ 20) (nI r) nc) r + 2 + 4 * cntE (σ 14) (nI r) ni) (cntE (σ 20) (nI r) nc))) (by omega) (by omega)
  · have ad : ∀ k, k < nc → ∃ r, r < m ∧ σ 8 r = 5 ∧ σ 20 k = nI r ∧ ad_c s k = nI (stN (AdS (σ 8) (σ 9) (σ 24) (fun r : Nat => cntE (σ 14) (nI r) ni) (fun r : Nat => cntE (σ 20) (nI r) nc) r + 2 + 4 * cntE (σ 14) (nI r) ni) (cntE (σ 20) (nI r) nc) + 4 * cntE (σ 20) (nI r) k) ∧ cntE (σ 20) (nI r) k < cntE (σ 20) (nI r) nc := by
      intro k hk
      obtain ⟨_, _, ⟨r, hr, r5, er⟩, k5⟩ := hkc k hk
      refine ⟨r, hr, r5, er, ?_, cntE_lt hk er⟩
      unfold ad_c
      rw [s20, s21, s23, k5, er, nI_clamp (by omega), (a6 r hr r5).2, show (4 : Int32) = nI 4 from rfl, pk_mul, nI_add]
    obtain ⟨r, hr, r5, er, ea, hc⟩ := ad j hj
    obtain ⟨r', hr', r5', er', ea', hc'⟩ := ad k hk
    have b1 := (hAb r (by omega)).1
    have b2 := (hAb r' (by omega)).1
    have c1 : cntE (σ 14) (nI r) ni ≤ 12 := bI r
    have c2 : cntE (σ 14) (nI r') ni ≤ 12 := bI r'
    have d1 : cntE (σ 20) (nI r) nc ≤ 16 := bC r
    have d2 : cntE (σ 20) (nI r') nc ≤ 16 := bC r'
    have z1 := (stN_ge (E := AdS (σ 8) (σ 9) (σ 24) (fun r : Nat => cntE (σ 14) (nI r) ni) (fun r : Nat => cntE (σ 20) (nI r) nc) r + 2 + 4 * cntE (σ 14) (nI r) ni) (c := cntE (σ 20) (nI r) nc)).2
    have z2 := (stN_ge (E := AdS (σ 8) (σ 9) (σ 24) (fun r : Nat => cntE (σ 14) (nI r) ni) (fun r : Nat => cntE (σ 20) (nI r) nc) r' + 2 + 4 * cntE (σ 14) (nI r') ni) (c := cntE (σ 20) (nI r') nc)).2
    have e := (nI_eq (by omega) (by omega)).mp (ea.symm.trans (he.trans ea'))
    rcases Nat.lt_trichotomy r r' with q | q | q
    · have := con_ap (kd := σ 8) (td := σ 9) (lg := σ 24) (cI := fun r : Nat => cntE (σ 14) (nI r) ni) (cC := fun r : Nat => cntE (σ 20) (nI r) nc) (p' := cntE (σ 20) (nI r') k) r5 hc q
      omega
    · subst q
      rcases Nat.lt_trichotomy j k with y | y | y
      · have := cntE_lt (f := σ 20) (v := nI r) y er
        omega
      · exact y
      · have := cntE_lt (f := σ 20) (v := nI r) y er'
        omega
    · have := con_ap (kd := σ 8) (td := σ 9) (lg := σ 24) (cI := fun r : Nat => cntE (σ 14) (nI r) ni) (cC := fun r : Nat => cntE (σ 20) (nI r) nc) (p' := cntE (σ 20) (nI r) j) r5' hc' q
      omega
/-- an island more -/
theorem BB_addI {σ τ : St} {m ni nc r l : Nat} (h : BB σ τ m ni nc) (hn : ni < 12) (hr : r < m) (h5 : σ 8 r = 5) (h8 : l < 8) : BB (addK_i σ ni (nI l) r) (si (sa (sa τ 8 ni (nI l)) 9 ni (nI r)) 48 (nI (ni + 1))) m (ni + 1) nc := by
  obtain ⟨hp, hq, hit, hre, hsi, hsc, h48, h49, hki, hkc, hg, hlb, hlB⟩ := h
  have hm := hp.1
  generalize hS : addK_i σ ni (nI l) r = s
  generalize hT : si (sa (sa τ 8 ni (nI l)) 9 ni (nI r)) 48 (nI (ni + 1)) = t
  have hs : ∀ j, ¬ (j = 13 ∨ j = 14 ∨ j = 15 ∨ j = 16 ∨ j = 56) → s j = σ j := fun j h => by
    rw [← hS]
    unfold addK_i
    rw [si_ne (by omega), sa_ne (by omega), sa_ne (by omega), sa_ne (by omega), sa_ne (by omega)]
  have ht : ∀ j, ¬ (j = 8 ∨ j = 9 ∨ j = 48) → t j = τ j := fun j h => by rw [← hT, si_ne (by omega), sa_ne (by omega), sa_ne (by omega)]
  have s13 : s 13 = upd (σ 13) ni (nI l) := by rw [← hS]; unfold addK_i; rw [si_ne (by decide), sa_ne (by decide), sa_ne (by decide), sa_ne (by decide), sa_at]
  have s14 : s 14 = upd (σ 14) ni (nI r) := by rw [← hS]; unfold addK_i; rw [si_ne (by decide), sa_ne (by decide), sa_ne (by decide), sa_at, sa_ne (by decide)]
  have s15 : s 15 = upd (σ 15) ni (σ 16 r) := by rw [← hS]; unfold addK_i; rw [si_ne (by decide), sa_ne (by decide), sa_at, sa_ne (by decide), sa_ne (by decide)]
  have s16 : s 16 = upd (σ 16) r (σ 16 r + 1) := by rw [← hS]; unfold addK_i; rw [si_ne (by decide), sa_at, sa_ne (by decide), sa_ne (by decide), sa_ne (by decide)]
  have s56 : s 56 0 = nI (ni + 1) := by rw [← hS]; unfold addK_i; rw [si_at]
  have t8 : t 8 = upd (τ 8) ni (nI l) := by rw [← hT, si_ne (by decide), sa_ne (by decide), sa_at]
  have t9 : t 9 = upd (τ 9) ni (nI r) := by rw [← hT, si_ne (by decide), sa_at, sa_ne (by decide)]
  have t48 : t 48 0 = nI (ni + 1) := by rw [← hT, si_at]
  clear hS hT
  refine ⟨wfP_fr hp (hs 48 (by decide)) (hs 8 (by decide)) (hs 9 (by decide)), ⟨hq.1, by rw [ht 41 (by decide)]; exact hq.2.1, fun j hj => by rw [ht 2 (by decide), ht 3 (by decide)]; exact hq.2.2 j hj⟩, fun j hj => by rw [hs 8 (by decide), hs 9 (by decide), hs 24 (by decide), ht 2 (by decide), ht 3 (by decide), ht 7 (by decide)]; exact hit j hj, fun j hj => by rw [hs 10 (by decide), ht 4 (by decide)]; exact hre j hj, ⟨by omega, s56, fun k hk => ?_⟩, Sk_c_fr hsc (hs 57 (by decide)) (hs 20 (by decide)), t48, by rw [ht 49 (by decide)]; exact h49, fun k hk => ?_, fun k hk => by rw [hs 19 (by decide), hs 20 (by decide), hs 21 (by decide), hs 8 (by decide), ht 10 (by decide), ht 11 (by decide)]; exact hkc k hk, fun r' hr' => ?_, fun l hl => by rw [hs 27 (by decide), ht 17 (by decide)]; exact hlb l hl, by rw [hs 27 (by decide)]; exact hlB⟩
  · rw [s14]
    by_cases q : k = ni
    · subst q; rw [pk_us]; exact ⟨r, by omega, rfl⟩
    · rw [pk_un q]; exact hsi.2.2 k (by omega)
  · rw [s13, s14, s15, t8, t9, hs 8 (by decide)]
    by_cases q : k = ni
    · subst q
      rw [pk_us, pk_us, pk_us, pk_us, pk_us, cntE_upd (Nat.le_refl _)]
      exact ⟨rfl, rfl, ⟨l, h8, rfl⟩, ⟨r, hr, h5, rfl⟩, (hg r (by omega)).1⟩
    · rw [pk_un q, pk_un q, pk_un q, pk_un q, pk_un q, cntE_upd (by omega)]
      exact hki k (by omega)
  · rw [s16, s14, hs 22 (by decide), hs 20 (by decide), cntE_upd1]
    refine ⟨?_, (hg r' hr').2⟩
    by_cases q : r' = r
    · subst q; rw [pk_us, if_pos rfl, (hg r' hr').1, nI_1]
    · rw [pk_un q, if_neg (fun e => q ((nI_eq (a := r) (b := r') (by omega) (by omega)).mp e).symm), (hg r' hr').1]; rfl
