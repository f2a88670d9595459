/-! Between calls: what class and reference have in common; the calls that change something. -/
def Inv (σ τ : St) : Prop := ∃ n m ni nc, RPg σ τ n ∧ RPr σ τ m ∧ Pla σ τ m ni nc ∧ σ 40 0 = τ 42 0 ∧ σ 41 0 = τ 43 0
theorem inv_letter {σ τ : St} (h : Inv σ τ) (x : Int32) : ∃ r s t, fX5_letter σ x = some (r, s) ∧ fX6_letter τ x = some (r, t) ∧ Inv s t := by
  obtain ⟨n, m, ni, nc, hg, hr, hp, h40, h41⟩ := h
  obtain ⟨r, s, t, n', e1, e2, g', f, g⟩ := eq_letter hg x
  exact ⟨r, s, t, e1, e2, n', m, ni, nc, g', RPr_to hr (f 8 (by decide) (by decide)) (f 9 (by decide) (by decide)) (f 48 (by decide) (by decide)) (f 49 (by decide) (by decide)) (g 2 (by decide) (by decide)) (g 3 (by decide) (by decide)) (g 41 (by decide) (by decide)), Pla_to hp (fun j hj => f j (by omega) (by omega)) (fun j hj => g j (by omega) (by omega)), by rw [f 40 (by decide) (by decide), g 42 (by decide) (by decide)]; exact h40, by rw [f 41 (by decide) (by decide), g 43 (by decide) (by decide)]; exact h41⟩
theorem inv_blank {σ τ : St} (h : Inv σ τ) : ∃ r s t, fX5_blank σ = some (r, s) ∧ fX6_blank τ = some (r, t) ∧ Inv s t := by
  obtain ⟨n, m, ni, nc, hg, hr, hp, h40, h41⟩ := h
  obtain ⟨r, s, t, e1, e2, g', f, g⟩ := eq_blank hg
  exact ⟨r, s, t, e1, e2, 0, m, ni, nc, g', RPr_to hr (f 8 (by decide)) (f 9 (by decide)) (f 48 (by decide)) (f 49 (by decide)) (g 2 (by decide)) (g 3 (by decide)) (g 41 (by decide)), Pla_to hp (fun j hj => f j (by omega)) (fun j hj => g j (by omega)), by rw [f 40 (by decide), g 42 (by decide)]; exact h40, by rw [f 41 (by decide), g 43 (by decide)]; exact h41⟩
/-- reading changes nothing that is asked of later -/
theorem Inv_read {σ τ s t : St} (h : Inv σ τ) (f : frC σ s) (g : frM τ t) : Inv s t := by
  obtain ⟨n, m, ni, nc, hg, hr, hp, h40, h41⟩ := h
  have f' : ∀ j, ¬ (j = 5 ∨ j = 6 ∨ (43 ≤ j ∧ j ≤ 47)) → s j = σ j := fun j hj => f j (by omega) (by omega) (by omega) (by omega) (by omega) (by omega) (by omega)
  have g' : ∀ j, ¬ (j = 5 ∨ j = 6 ∨ (44 ≤ j ∧ j ≤ 47)) → t j = τ j := fun j hj => g j (by omega) (by omega) (by omega) (by omega) (by omega) (by omega)
  exact ⟨n, m, ni, nc, RPg_to hg (f' 42 (by decide)) (f' 2 (by decide)) (g' 40 (by decide)) (g' 1 (by decide)), RPr_to hr (f' 8 (by decide)) (f' 9 (by decide)) (f' 48 (by decide)) (f' 49 (by decide)) (g' 2 (by decide)) (g' 3 (by decide)) (g' 41 (by decide)), Pla_to hp (fun j hj => f' j (by omega)) (fun j hj => g' j (by omega)), by rw [f' 40 (by decide), g' 42 (by decide)]; exact h40, by rw [f' 41 (by decide), g' 43 (by decide)]; exact h41⟩
/-- fault: both answer (perhaps otherwise), and nothing that is asked of later changes -/
theorem inv_fault {σ τ : St} (h : Inv σ τ) : ∃ r q s t, fX5_fault σ = some (r, s) ∧ fX6_fault τ = some (q, t) ∧ Inv s t := by
  obtain ⟨n, m, ni, nc, hg, hr, hp, h40, h41⟩ := id h
  obtain ⟨p, s, q, t, e1, e2, f, g, _⟩ := eq_read hg
  refine ⟨p, q, s, t, ?_, ?_, Inv_read h f g⟩
  · unfold fX5_fault; rw [e1, bd2_s]
  · unfold fX6_fault; rw [e2, bd2_s]
theorem inv_code {σ τ : St} (h : Inv σ τ) : ∃ r s t, fX5_code σ = some (r, s) ∧ fX6_code τ = some (r, t) ∧ Inv s t := by
  obtain ⟨n, m, ni, nc, hg, hr, hp, h40, h41⟩ := id h
  rcases code_split hg with ⟨s, t, e1, e2, f, g⟩ | ⟨s, t, m', hm', e1, e2, hr', hg', s40, t42, f, g⟩
  · exact ⟨-1003, s, t, e1, e2, Inv_read h f g⟩
  · obtain ⟨⟨⟨_, _, _, hre, _, _, _, _, _, _, _, hlb, hlB⟩, _⟩, _⟩ := hp
    obtain ⟨u, v, p1, p2, ⟨ni', nc', hpl⟩, fu, fv⟩ := place_both hr' (fun i hi => by rw [f 10 (by decide), g 4 (by decide)]; exact hre i hi) (fun l hl => by rw [f 27 (by decide), g 17 (by decide)]; exact hlb l hl) (by rw [f 27 (by decide)]; exact hlB) (fun z => absurd z (by omega))
    have u48 : u 48 0 = nI m' := by rw [fu 48 (by decide)]; exact hr'.2.1
    have v41 : v 41 0 = nI m' := by rw [fv 41 (by decide)]; exact hr'.2.2.1
    refine ⟨nI m', u, v, ?_, ?_, 0, m', ni', nc', RPg_to hg' (fu 42 (by decide)) (fu 2 (by decide)) (fv 40 (by decide)) (fv 1 (by decide)), RPr_to hr' (fu 8 (by decide)) (fu 9 (by decide)) (fu 48 (by decide)) (fu 49 (by decide)) (fv 2 (by decide)) (fv 3 (by decide)) (fv 41 (by decide)), hpl, ?_, ?_⟩
    · rw [e1, p1, bd1_s]
      unfold fX0_size_p
      rw [bd1_s, u48]
    · rw [e2, p2, bd1_s, v41]
    · rw [fu 40 (by decide), fv 42 (by decide), s40, t42, h40]
    · rw [fu 41 (by decide), fv 43 (by decide), f 41 (by decide), g 43 (by decide)]; exact h41
theorem inv_reach {σ τ : St} (h : Inv σ τ) (x1 x2 : Int32) : ∃ r s t, fX5_reach σ x1 x2 = some (r, s) ∧ fX6_reach τ x1 x2 = some (r, t) ∧ Inv s t := by
  by_cases c0 : x1 < 0
  · refine ⟨-1002, σ, τ, if_pos c0, ?_, h⟩
    unfold fX6_reach
    rw [within_lo c0, bd1_s, if_pos rfl]
  by_cases c2 : x1 ≤ (2 : Int32)
  · obtain ⟨k, hk, rfl⟩ := nI_of2 (M := 2) (n := 2) rfl c0 c2
    have c1 := ckN (i := k) (N := 3) (by omega) (by omega)
    have eM : fX6_reach τ (nI k) x2 = fX6_reach_b30 τ (nI k) x2 (mr k) (lr k) x2 := by
      unfold fX6_reach
      rw [within_in c0 (by rw [Int32.not_lt]; exact c2), bd1_s, if_neg d_1_0]
      unfold fX6_reach_b19 mr lr
      by_cases q : k = 0
      · subst q
        rw [if_pos (show nI 0 = (0 : Int32) from by decide), if_pos (show nI 0 = (0 : Int32) from by decide), if_pos rfl, if_pos rfl]
      · rw [if_neg (nI_ne0 (by omega) (by omega)), if_neg (nI_ne0 (by omega) (by omega)), if_neg q, if_neg q]
    rw [eM]
    unfold fX6_reach_b30
    by_cases c3 : x2 < lr k
    · refine ⟨-1002, σ, τ, ?_, ?_, h⟩
      · unfold fX5_reach
        rw [if_neg c0, if_pos c2, ck_t c1, nI_clamp (by omega), if_pos c3]
      · rw [within_lo c3, bd1_s, if_pos rfl]
    by_cases c4 : x2 ≤ mr k
    · obtain ⟨n, m, ni, nc, hg, hr, hp, h40, h41⟩ := id h
      obtain ⟨⟨⟨_, _, _, hre, _, _, _, _, _, _, _, hlb, hlB⟩, _, _, _, _, _, _, _, l53, l52, _⟩, _, _, _, _, _, _, _, _, h0⟩ := hp
      have f : ∀ j, ¬ (j = 10 ∨ j = 41) → (si (sa σ 10 k x2) 41 (σ 41 0 + 1)) j = σ j := fun j hj => by rw [si_ne (by omega), sa_ne (by omega)]
      have g : ∀ j, ¬ (j = 4 ∨ j = 43) → (si (sa τ 4 k x2) 43 (τ 43 0 + 1)) j = τ j := fun j hj => by rw [si_ne (by omega), sa_ne (by omega)]
      have hr' : RPr (si (sa σ 10 k x2) 41 (σ 41 0 + 1)) (si (sa τ 4 k x2) 43 (τ 43 0 + 1)) m := RPr_to hr (f 8 (by decide)) (f 9 (by decide)) (f 48 (by decide)) (f 49 (by decide)) (g 2 (by decide)) (g 3 (by decide)) (g 41 (by decide))
      obtain ⟨u, v, p1, p2, ⟨ni', nc', hpl⟩, fu, fv⟩ := place_both hr' (fun i hi => by
        rw [si_ne (by decide), sa_at, si_ne (by decide), sa_at]
        by_cases q : i = k
        · subst q; rw [pk_us, pk_us]
        · rw [pk_un q, pk_un q]; exact hre i hi) (fun l hl => by rw [f 27 (by decide), g 17 (by decide)]; exact hlb l hl) (by rw [f 27 (by decide)]; exact hlB) (fun z => by rw [g 50 (by decide), g 51 (by decide), ← l53, ← l52]; exact h0 z)
      refine ⟨σ 10 k, u, v, ?_, ?_, n, m, ni', nc', RPg_to hg (by rw [fu 42 (by decide), f 42 (by decide)]) (by rw [fu 2 (by decide), f 2 (by decide)]) (by rw [fv 40 (by decide), g 40 (by decide)]) (by rw [fv 1 (by decide), g 1 (by decide)]), RPr_to hr' (fu 8 (by decide)) (fu 9 (by decide)) (fu 48 (by decide)) (fu 49 (by decide)) (fv 2 (by decide)) (fv 3 (by decide)) (fv 41 (by decide)), hpl, by rw [fu 40 (by decide), f 40 (by decide), fv 42 (by decide), g 42 (by decide)]; exact h40, by rw [fu 41 (by decide), si_at, fv 43 (by decide), si_at, h41]⟩
      · unfold fX5_reach
        rw [if_neg c0, if_pos c2, ck_t c1, nI_clamp (by omega), if_neg c3]
        rw [nI_clamp (by omega)] at c1
        rw [ck_t (by exact c1), if_pos c4, ck_t (by exact c1), ck_t (by exact c1), p1, bd1_s]
      · rw [within_in c3 (by rw [Int32.not_lt]; exact c4), bd1_s, if_neg d_1_0, ck_t c1, ck_t c1, nI_clamp (by omega), p2, bd1_s, hre k (by omega)]
    · refine ⟨-1002, σ, τ, ?_, ?_, h⟩
      · unfold fX5_reach
        rw [if_neg c0, if_pos c2, ck_t c1, nI_clamp (by omega), if_neg c3]
        rw [nI_clamp (by omega)] at c1
        rw [ck_t (by exact c1), if_neg c4]
      · rw [within_hi (by rw [← Int32.not_le]; exact c4), bd1_s, if_pos rfl]
  · refine ⟨-1002, σ, τ, ?_, ?_, h⟩
    · unfold fX5_reach
      rw [if_neg c0, if_neg c2]
    · unfold fX6_reach
      rw [within_hi (by rw [← Int32.not_le]; exact c2), bd1_s, if_pos rfl]
theorem win_in {τ : St} {n i : Nat} (hn : n < 2 ^ 30) (hi : i < n) : fX6_within τ (nI i) 0 (nI n - 1) = some 1 := by
  obtain ⟨k, rfl⟩ : ∃ k, n = k + 1 := ⟨n - 1, by omega⟩
  rw [nI_pred]
  exact within_in (nI_pos (by omega)) (nI_nlt (by omega) (by omega))
theorem win_out {τ : St} {n : Nat} {x : Int32} (hn : n < 2 ^ 30) (hx : ¬ ∃ i, i < n ∧ x = nI i) : fX6_within τ x 0 (nI n - 1) = some 0 := by
  rcases pk_ix x (n := n) (by omega) with h1 | h1 | h1
  · exact within_lo h1
  · refine within_hi ?_
    have e := pk_sub_toInt (a := n) (b := 1) hn (by omega)
    have e2 : (nI n).toInt = (n : Int) := nI_toInt (by omega)
    rw [Int32.le_iff_toInt_le, e2] at h1
    rw [Int32.lt_iff_toInt_lt, show (1 : Int32) = nI 1 from rfl, e]
    omega
  · exact absurd h1 hx
theorem isItem_in {τ : St} {m i : Nat} (h24 : m ≤ 24) (h41 : τ 41 0 = nI m) (hi : i < m) : fX6_isItem τ (nI i) = some 1 := by
  unfold fX6_isItem
  rw [h41, win_in (by omega) hi, bd1_s, ck_t (Or.inr rfl)]
theorem isItem_out {τ : St} {m : Nat} {x : Int32} (h24 : m ≤ 24) (h41 : τ 41 0 = nI m) (hx : ¬ ∃ i, i < m ∧ x = nI i) : fX6_isItem τ x = some 0 := by
  unfold fX6_isItem
  rw [h41, win_out (by omega) hx, bd1_s, ck_t (Or.inl rfl)]
theorem inv_grow {σ τ : St} (h : Inv σ τ) (x1 x2 : Int32) : ∃ r s t, fX5_grow σ x1 x2 = some (r, s) ∧ fX6_grow τ x1 x2 = some (r, t) ∧ Inv s t := by
  obtain ⟨n, m, ni, nc, hg, hr, hp, h40, h41⟩ := id h
  obtain ⟨h24, hs, ht, hit, hgp⟩ := id hr
  by_cases hx : ∃ i, i < m ∧ x1 = nI i
  · obtain ⟨i, hi, rfl⟩ := hx
    have hh := has_in_p hs h24 hi
    have c1 := ckN (i := i) (N := 24) (by omega) (by omega)
    unfold fX5_grow fX6_grow
    rw [hh, isItem_in h24 ht hi, bd1_s, bd1_s, if_neg d_1_0, if_neg d_1_0]
    by_cases c3 : x2 < (1 : Int32)
    · refine ⟨-1002, σ, τ, ?_, ?_, h⟩
      · rw [if_pos c3]
      · rw [within_lo c3, bd1_s, if_pos rfl]
    by_cases c4 : x2 ≤ (40 : Int32)
    · have hw : fX6_within τ x2 1 40 = some 1 := within_in c3 (by rw [Int32.not_lt]; exact c4)
      rw [if_neg c3, if_pos c4, kind_in_p hs h24 hi, hw, bd1_s, bd1_s, if_neg d_1_0, ck_t c1, nI_clamp (by omega), ← (hit i hi).1]
      by_cases c5 : σ 8 i = 0
      · have c1' : ¬ (nI i < 0 ∨ 24 ≤ i) := by rw [nI_clamp (by omega)] at c1; exact c1
        have c00 : ¬ x2 < 0 := fun z => c3 (by rw [Int32.lt_iff_toInt_lt] at z ⊢; have e0 : (0 : Int32).toInt = 0 := rfl; have e1 : (1 : Int32).toInt = 1 := rfl; omega)
        obtain ⟨b, hb, eb⟩ := nI_of2 (M := 40) (n := 40) rfl c00 c4
        have hb1 : 1 ≤ b := by
          rcases Nat.eq_zero_or_pos b with z | z
          · subst z; exact absurd (show x2 < 1 from by rw [eb]; decide) c3
          · exact z
        obtain ⟨⟨⟨_, _, _, hre, _, _, _, _, _, _, _, hlb, hlB⟩, _, _, _, _, _, _, _, l53, l52, _⟩, _, _, _, _, _, _, _, _, h0⟩ := hp
        have f : ∀ j, ¬ (j = 9 ∨ j = 41) → (si (sa σ 9 i x2) 41 ((sa σ 9 i x2) 41 0 + 1)) j = σ j := fun j hj => by rw [si_ne (by omega), sa_ne (by omega)]
        have g : ∀ j, ¬ (j = 3 ∨ j = 43) → (si (sa τ 3 i x2) 43 (τ 43 0 + 1)) j = τ j := fun j hj => by rw [si_ne (by omega), sa_ne (by omega)]
        have f9 : (si (sa σ 9 i x2) 41 ((sa σ 9 i x2) 41 0 + 1)) 9 = upd (σ 9) i x2 := by rw [si_ne (by decide), sa_at]
        have g3 : (si (sa τ 3 i x2) 43 (τ 43 0 + 1)) 3 = upd (τ 3) i x2 := by rw [si_ne (by decide), sa_at]
        have hr' : RPr (si (sa σ 9 i x2) 41 ((sa σ 9 i x2) 41 0 + 1)) (si (sa τ 3 i x2) 43 (τ 43 0 + 1)) m := by
          refine ⟨h24, by rw [f 48 (by decide)]; exact hs, by rw [g 41 (by decide)]; exact ht, fun j hj => ?_, by rw [f 49 (by decide), f 8 (by decide)]; exact hgp⟩
          rw [f 8 (by decide), g 2 (by decide), f9, g3]
          by_cases q : j = i
          · subst q
            rw [pk_us, pk_us]
            exact ⟨(hit j hj).1, rfl, 0, b, by rw [c5]; rfl, eb, Or.inl ⟨rfl, hb1, hb⟩⟩
          · rw [pk_un q, pk_un q]; exact hit j hj
        obtain ⟨u, v, p1, p2, ⟨ni', nc', hpl⟩, fu, fv⟩ := place_both hr' (fun i hi => by rw [f 10 (by decide), g 4 (by decide)]; exact hre i hi) (fun l hl => by rw [f 27 (by decide), g 17 (by decide)]; exact hlb l hl) (by rw [f 27 (by decide)]; exact hlB) (fun z => by rw [g 50 (by decide), g 51 (by decide), ← l53, ← l52]; exact h0 z)
        refine ⟨σ 9 i, u, v, ?_, ?_, n, m, ni', nc', RPg_to hg (by rw [fu 42 (by decide), f 42 (by decide)]) (by rw [fu 2 (by decide), f 2 (by decide)]) (by rw [fv 40 (by decide), g 40 (by decide)]) (by rw [fv 1 (by decide), g 1 (by decide)]), RPr_to hr' (fu 8 (by decide)) (fu 9 (by decide)) (fu 48 (by decide)) (fu 49 (by decide)) (fv 2 (by decide)) (fv 3 (by decide)) (fv 41 (by decide)), hpl, by rw [fu 40 (by decide), f 40 (by decide), fv 42 (by decide), g 42 (by decide)]; exact h40, by rw [fu 41 (by decide), si_at, fv 43 (by decide), si_at, sa_ne (by decide), h41]⟩
        · have ht : fX0_tell_p σ (nI i) x2 = some (sa σ 9 i x2) := by
            unfold fX0_tell_p
            rw [hh, bd1_s, if_neg d_1_0, ck_t c1, nI_clamp (by omega)]
          rw [if_pos c5, told_in_p hs h24 hi, bd1_s, ht, bd1_s, p1, bd1_s]
        · rw [if_pos c5, ck_t c1', ck_t c1', p2, bd1_s, (hit i hi).2.1]
      · exact ⟨-1003, σ, τ, by rw [if_neg c5], by rw [if_neg c5], h⟩
    · refine ⟨-1002, σ, τ, ?_, ?_, h⟩
      · rw [if_neg c3, if_neg c4]
      · rw [within_hi (by rw [← Int32.not_le]; exact c4), bd1_s, if_pos rfl]
  · refine ⟨-1001, σ, τ, ?_, ?_, h⟩
    · unfold fX5_grow
      rw [has_out_p hs h24 hx, bd1_s, if_pos rfl]
    · unfold fX6_grow
      rw [isItem_out h24 ht hx, bd1_s, if_pos rfl]
