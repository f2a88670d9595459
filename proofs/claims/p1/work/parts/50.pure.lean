/-! p1: one call on a fresh object: class and reference answer alike (pure). -/
theorem ck_t {α : Type} {c : Prop} [Decidable c] {x : Option α} (h : c) : ck c x = x := if_pos h
theorem bd1_s {α β : Type} {r : α} {f : α → Option β} : bd1 (some r) f = f r := rfl
theorem bd2_s {α β γ : Type} {r : α} {t : β} {f : α → β → Option γ} : bd2 (some (r, t)) f = f r t := rfl
theorem i_nlt {x : Int32} (h : ¬ x < 0) : (0 : Int32) ≤ x := by
  rw [Int32.le_iff_toInt_le]; rw [Int32.lt_iff_toInt_lt] at h; omega
theorem i_m1 {x : Int32} (h : ¬ x < 0) : ((0 : Int32) - (1 : Int32)) < x := by
  have h0 : ((0 : Int32) - (1 : Int32)).toInt = -1 := by decide
  have h1 : (0 : Int32).toInt = 0 := by decide
  rw [Int32.lt_iff_toInt_lt] at h ⊢; omega
theorem op_letter (v : Int32) : ∃ r s t, fX5_letter sg0 v = some (r, s) ∧ fX6_letter ta0 v = some (r, t) := by
  by_cases h1 : v < (32 : Int32)
  · refine ⟨-1002, sg0, ta0, if_pos h1, ?_⟩
    have hw : fX6_within ta0 v 32 126 = some 0 := if_pos h1
    unfold fX6_letter; rw [hw]; rfl
  · by_cases h2 : v ≤ (126 : Int32)
    · have ha : fX1_append sg0 v = some (1, si (sa sg0 2 (Int32.toNatClampNeg (sg0 42 0)) v) 42 ((sg0 42 0) + (1 : Int32))) := rfl
      have hw : fX6_within ta0 v 32 126 = some 1 := by
        unfold fX6_within; rw [if_neg h1, if_neg (by rw [Int32.not_lt]; exact h2)]
      refine ⟨1, si (sa sg0 2 (Int32.toNatClampNeg (sg0 42 0)) v) 42 ((sg0 42 0) + (1 : Int32)), si (sa ta0 1 (Int32.toNatClampNeg (ta0 40 0)) v) 40 ((ta0 40 0) + (1 : Int32)), ?_, ?_⟩
      · unfold fX5_letter; rw [if_neg h1, if_pos h2, ha]; rfl
      · unfold fX6_letter; rw [hw]; rfl
    · have hw : fX6_within ta0 v 32 126 = some 0 := by
        unfold fX6_within; rw [if_neg h1, if_pos (by rw [← Int32.not_le]; exact h2)]
      refine ⟨-1002, sg0, ta0, ?_, ?_⟩
      · unfold fX5_letter; rw [if_neg h1, if_neg h2]
      · unfold fX6_letter; rw [hw]; rfl
theorem op_blank : ∃ r s t, fX5_blank sg0 = some (r, s) ∧ fX6_blank ta0 = some (r, t) := ⟨0, _, _, rfl, rfl⟩
theorem op_fault : ∃ r s t, fX5_fault sg0 = some (r, s) ∧ fX6_fault ta0 = some (r, t) := ⟨0, _, _, rfl, rfl⟩
theorem op_code : ∃ r s t, fX5_code sg0 = some (r, s) ∧ fX6_code ta0 = some (r, t) := ⟨-1003, _, _, rfl, rfl⟩
theorem has0 (v : Int32) : fX0_has_p sg0 v = some 0 := by
  unfold fX0_has_p
  by_cases h : v < 0
  · rw [if_pos h]
  · rw [if_neg h, if_pos (show sg0 48 0 ≤ v from i_nlt h)]
theorem hasi0 (v : Int32) : fX4_has_i sg0 v = some 0 := by
  unfold fX4_has_i
  by_cases h : v < 0
  · rw [if_pos h]
  · rw [if_neg h, if_pos (show sg0 56 0 ≤ v from i_nlt h)]
theorem hasc0 (v : Int32) : fX4_has_c sg0 v = some 0 := by
  unfold fX4_has_c
  by_cases h : v < 0
  · rw [if_pos h]
  · rw [if_neg h, if_pos (show sg0 57 0 ≤ v from i_nlt h)]
theorem wi0 (v : Int32) : fX6_within ta0 v 0 ((0 : Int32) - (1 : Int32)) = some 0 := by
  unfold fX6_within
  by_cases h : v < 0
  · rw [if_pos h]
  · rw [if_neg h, if_pos (i_m1 h)]
theorem isI0 (v : Int32) : fX6_isItem ta0 v = some 0 := by
  have h := wi0 v
  unfold fX6_isItem
  show bd1 (fX6_within ta0 v 0 ((0 : Int32) - (1 : Int32))) _ = _
  rw [h]; rfl
theorem op_grow (v w : Int32) : ∃ r s t, fX5_grow sg0 v w = some (r, s) ∧ fX6_grow ta0 v w = some (r, t) := by
  refine ⟨-1001, sg0, ta0, ?_, ?_⟩
  · unfold fX5_grow; rw [has0]; rfl
  · unfold fX6_grow; rw [isI0]; rfl
theorem op_item (v w : Int32) : ∃ r, fX5_item sg0 v w = some r ∧ fX6_item ta0 v w = some r := by
  refine ⟨-1001, ?_, ?_⟩
  · unfold fX5_item; rw [has0]; rfl
  · unfold fX6_item; rw [isI0]; rfl
theorem op_hops (v : Int32) : ∃ r, fX5_hops sg0 v = some r ∧ fX6_hops ta0 v = some r := by
  refine ⟨-1001, ?_, ?_⟩
  · unfold fX5_hops; rw [has0]; rfl
  · unfold fX6_hops; rw [isI0]; rfl
theorem op_island (v w : Int32) : ∃ r, fX5_island sg0 v w = some r ∧ fX6_island ta0 v w = some r := by
  refine ⟨-1001, ?_, ?_⟩
  · unfold fX5_island; rw [hasi0]; rfl
  · unfold fX6_island
    show bd1 (fX6_within ta0 v 0 ((0 : Int32) - (1 : Int32))) _ = _
    rw [wi0]; rfl
theorem op_constant (v w : Int32) : ∃ r, fX5_constant sg0 v w = some r ∧ fX6_constant ta0 v w = some r := by
  refine ⟨-1001, ?_, ?_⟩
  · unfold fX5_constant; rw [hasc0]; rfl
  · unfold fX6_constant
    show bd1 (fX6_within ta0 v 0 ((0 : Int32) - (1 : Int32))) _ = _
    rw [wi0]; rfl
theorem op_placed (v : Int32) : ∃ r, fX5_placed sg0 v = some r ∧ fX6_placed ta0 v = some r := by
  by_cases h0 : v = 0
  · subst h0; exact ⟨1, rfl, rfl⟩
  by_cases h1 : v = 1
  · subst h1; exact ⟨0, rfl, rfl⟩
  by_cases h2 : v = 2
  · subst h2; exact ⟨0, rfl, rfl⟩
  by_cases h3 : v = 3
  · subst h3; exact ⟨0, rfl, rfl⟩
  by_cases h4 : v = 4
  · subst h4; exact ⟨0, rfl, rfl⟩
  by_cases h5 : v = 5
  · subst h5; exact ⟨-1, rfl, rfl⟩
  by_cases h6 : v = 6
  · subst h6; exact ⟨0, rfl, rfl⟩
  by_cases h7 : v = 7
  · subst h7; exact ⟨0, rfl, rfl⟩
  by_cases h8 : v = 8
  · subst h8; exact ⟨0, rfl, rfl⟩
  refine ⟨-1002, ?_, ?_⟩
  · unfold fX5_placed
    rw [if_neg h0, if_neg h1, if_neg h2, if_neg h3, if_neg h4, if_neg h5, if_neg h6, if_neg h7, if_neg h8]
  · have hw : fX6_within ta0 v 0 8 = some 0 := by
      unfold fX6_within
      by_cases hn : v < 0
      · rw [if_pos hn]
      · rw [if_neg hn]
        have g0 := lv_neT h0 (a := 0) rfl
        have g1 := lv_neT h1 (a := 1) rfl
        have g2 := lv_neT h2 (a := 2) rfl
        have g3 := lv_neT h3 (a := 3) rfl
        have g4 := lv_neT h4 (a := 4) rfl
        have g5 := lv_neT h5 (a := 5) rfl
        have g6 := lv_neT h6 (a := 6) rfl
        have g7 := lv_neT h7 (a := 7) rfl
        have g8 := lv_neT h8 (a := 8) rfl
        have z0 : (0 : Int32).toInt = 0 := rfl
        have z8 : (8 : Int32).toInt = 8 := rfl
        rw [Int32.lt_iff_toInt_lt] at hn
        rw [if_pos (by rw [Int32.lt_iff_toInt_lt]; omega)]
    unfold fX6_placed; rw [hw]; rfl
theorem op_count (v : Int32) : ∃ r, fX5_count sg0 v = some r ∧ fX6_count ta0 v = some r := by
  by_cases h0 : v = 0
  · subst h0; exact ⟨0, rfl, rfl⟩
  by_cases h1 : v = 1
  · subst h1; exact ⟨0, rfl, rfl⟩
  by_cases h2 : v = 2
  · subst h2; exact ⟨0, rfl, rfl⟩
  by_cases h3 : v = 3
  · subst h3; exact ⟨8, rfl, rfl⟩
  by_cases h4 : v = 4
  · subst h4; exact ⟨32, rfl, rfl⟩
  by_cases h5 : v = 5
  · subst h5; exact ⟨24, rfl, rfl⟩
  by_cases h6 : v = 6
  · subst h6; exact ⟨0, rfl, rfl⟩
  by_cases h7 : v = 7
  · subst h7; exact ⟨0, rfl, rfl⟩
  refine ⟨-1002, ?_, ?_⟩
  · unfold fX5_count
    rw [if_neg h0, if_neg h1, if_neg h2, if_neg h3, if_neg h4, if_neg h5, if_neg h6, if_neg h7]
  · unfold fX6_count fX6_howMany
    rw [if_neg h0, if_neg h1, if_neg h2, if_neg h3, if_neg h4, if_neg h5, if_neg h6, if_neg h7]; rfl
theorem dg_eq : (fX5_digest sg0) = (fX6_digest ta0 0).map Prod.fst := by decide +kernel
theorem dg_some : (fX6_digest ta0 0).isSome = true := by decide +kernel
theorem op_digest : ∃ r h2, fX5_digest sg0 = some r ∧ fX6_digest ta0 0 = some (r, h2) := by
  obtain ⟨⟨r, h2⟩, e⟩ := Option.isSome_iff_exists.mp dg_some
  exact ⟨r, h2, by rw [dg_eq, e]; rfl, e⟩
/-- the class's clearing of its placing ends: three loops of 24 -/
theorem lp24 {F : (St → Int32 → Option St) → St → Int32 → Option St} (g : St → Nat → St) (hs : ∀ k σ (i : Nat), i < 24 → F k σ (nI i) = k (g σ i) (nI (i + 1))) (he : ∀ k σ, ∃ t, F k σ (nI 24) = some t ∧ ∀ j : Nat, (j ≠ 50 ∧ j ≠ 51 ∧ j ≠ 52 ∧ j ≠ 53 ∧ j ≠ 54 ∧ j ≠ 55) → t j = σ j) (hg : ∀ σ i (j : Nat), (j ≠ 16 ∧ j ≠ 17 ∧ j ≠ 22 ∧ j ≠ 23 ∧ j ≠ 24) → g σ i j = σ j) :
    ∀ (d i n : Nat) (σ : St), i + d = 24 → d < n → ∃ t, itr F (fun _ _ => none) n σ (nI i) = some t ∧ ∀ j : Nat, j = 48 → t j = σ j := by
  intro d
  induction d with
  | zero =>
    intro i n σ h hn
    obtain ⟨m, rfl⟩ : ∃ m, n = m + 1 := ⟨n - 1, by omega⟩
    have hi : i = 24 := by omega
    subst hi
    obtain ⟨t, h1, h2⟩ := he (itr F (fun _ _ => none) m) σ
    exact ⟨t, h1, fun j hj => h2 j (by omega)⟩
  | succ d ih =>
    intro i n σ h hn
    obtain ⟨m, rfl⟩ : ∃ m, n = m + 1 := ⟨n - 1, by omega⟩
    obtain ⟨t, h1, h2⟩ := ih (i + 1) m (g σ i) (by omega) (by omega)
    refine ⟨t, ?_, fun j hj => ?_⟩
    · show F (itr F (fun _ _ => none) m) σ (nI i) = some t
      rw [hs _ σ i (by omega)]; exact h1
    · rw [h2 j hj, hg σ i j (by omega)]
theorem nI24 {i : Nat} (h : i < 24) : ¬ (24 : Int32) ≤ nI i := nI_ge (a := i) (b := 24) h (by omega)
theorem ck24 {i : Nat} (h : i < 24) : ¬ (nI i < 0 ∨ 24 ≤ Int32.toNatClampNeg (nI i)) := nI_in h (by omega)
theorem clear_i (σ : St) : ∃ t, fX4_clear_i σ = some t ∧ ∀ j : Nat, j = 48 → t j = σ j := by
  obtain ⟨t, h1, h2⟩ := lp24 (F := fX4_clear_i_s7) (fun σ i => sa (sa σ 16 (Int32.toNatClampNeg (nI i)) 0) 17 (Int32.toNatClampNeg (nI i)) 0) (fun k σ i hi => by
      unfold fX4_clear_i_s7; rw [if_neg (nI24 hi), ck_t (ck24 hi), ck_t (ck24 hi), show nI i + (1 : Int32) = nI (i + 1) from nI_1 i]) (fun k σ => ⟨σ, if_pos (by decide), fun _ _ => rfl⟩)
    (fun σ i j hj => by simp [sa, hj]) 24 0 FU (si σ 56 0) rfl (by decide)
  exact ⟨t, h1, fun j hj => by rw [h2 j hj, hj]; rfl⟩
theorem clear_c (σ : St) : ∃ t, fX4_clear_c σ = some t ∧ ∀ j : Nat, j = 48 → t j = σ j := by
  obtain ⟨t, h1, h2⟩ := lp24 (F := fX4_clear_c_s7) (fun σ i => sa (sa σ 22 (Int32.toNatClampNeg (nI i)) 0) 23 (Int32.toNatClampNeg (nI i)) 0) (fun k σ i hi => by
      unfold fX4_clear_c_s7; rw [if_neg (nI24 hi), ck_t (ck24 hi), ck_t (ck24 hi), show nI i + (1 : Int32) = nI (i + 1) from nI_1 i]) (fun k σ => ⟨σ, if_pos (by decide), fun _ _ => rfl⟩)
    (fun σ i j hj => by simp [sa, hj]) 24 0 FU (si σ 57 0) rfl (by decide)
  exact ⟨t, h1, fun j hj => by rw [h2 j hj, hj]; rfl⟩
theorem clear_l (σ : St) : ∃ t, fX2_clear_l16 FU σ 0 = some t ∧ ∀ j : Nat, j = 48 → t j = σ j :=
  lp24 (F := fX2_clear_s16) (fun σ i => sa σ 24 (Int32.toNatClampNeg (nI i)) 0) (fun k σ i hi => by
      unfold fX2_clear_s16; rw [if_neg (nI24 hi), ck_t (ck24 hi), show nI i + (1 : Int32) = nI (i + 1) from nI_1 i]) (fun k σ => ⟨_, if_pos (by decide), fun j hj => by simp [si, hj]⟩)
    (fun σ i j hj => by simp [sa, hj]) 24 0 FU σ rfl (by decide)
theorem placeAll0 (σ : St) (h : σ 48 0 = 0) : ∃ t, fX2_placeAll σ = some t := by
  obtain ⟨t1, e1, f1⟩ := clear_i σ
  obtain ⟨t2, e2, f2⟩ := clear_c t1
  obtain ⟨t3, e3, f3⟩ := clear_l t2
  have hc : fX2_clear σ = some t3 := by unfold fX2_clear; rw [e1, bd1_s, e2, bd1_s]; exact e3
  have hs : fX0_size_p t3 = some 0 := by
    show some (t3 48 0) = some 0
    rw [f3 48 rfl, f2 48 rfl, f1 48 rfl, h]
  refine ⟨t3, ?_⟩
  unfold fX2_placeAll; rw [hc, bd1_s, hs, bd1_s, if_pos rfl]
theorem placeAllM0 (σ : St) (h : σ 41 0 = 0) : ∃ t, fX6_placeAll σ = some t := by
  refine ⟨si (si (si (si (si (si σ 48 (0 : Int32)) 49 (0 : Int32)) 52 (0 : Int32)) 53 (1 : Int32)) 54 (0 : Int32)) 55 (-1 : Int32), ?_⟩
  have h' : (si (si (si (si (si (si σ 48 (0 : Int32)) 49 (0 : Int32)) 52 (0 : Int32)) 53 (1 : Int32)) 54 (0 : Int32)) 55 (-1 : Int32)) 41 0 = 0 := h
  show fX6_placeAll_s32 (fX6_placeAll_l32 3999) _ 0 = _
  unfold fX6_placeAll_s32
  rw [h', if_pos (by decide), if_pos (by decide)]
  rfl
theorem op_reach (v w : Int32) : ∃ r s t, fX5_reach sg0 v w = some (r, s) ∧ fX6_reach ta0 v w = some (r, t) := by
  by_cases h0 : v < 0
  · refine ⟨-1002, sg0, ta0, if_pos h0, ?_⟩
    have hw : fX6_within ta0 v 0 2 = some 0 := if_pos h0
    unfold fX6_reach; rw [hw]; rfl
  by_cases h2 : v ≤ (2 : Int32)
  · have hw : fX6_within ta0 v 0 2 = some 1 := by
      unfold fX6_within; rw [if_neg h0, if_neg (by rw [Int32.not_lt]; exact h2)]
    have hin : ¬ (v < 0 ∨ 3 ≤ Int32.toNatClampNeg v) := by
      have z0 : (0 : Int32).toInt = 0 := rfl
      have z2 : (2 : Int32).toInt = 2 := rfl
      refine vp_in_iff.mpr ?_
      rw [Int32.lt_iff_toInt_lt] at h0; rw [Int32.le_iff_toInt_le] at h2
      omega
    have key : ∀ lo hi : Int32, lr (Int32.toNatClampNeg v) = lo → mr (Int32.toNatClampNeg v) = hi → fX6_reach ta0 v w = fX6_reach_b30 ta0 v w hi lo w → ∃ r s t, fX5_reach sg0 v w = some (r, s) ∧ fX6_reach ta0 v w = some (r, t) := by
      intro lo hi e1 e2 e3
      rw [e3]
      unfold fX5_reach fX6_reach_b30
      rw [if_neg h0, if_pos h2, ck_t hin, e1]
      by_cases c1 : w < lo
      · have hw1 : fX6_within ta0 w lo hi = some 0 := if_pos c1
        rw [if_pos c1, hw1]
        exact ⟨-1002, sg0, ta0, rfl, rfl⟩
      · rw [if_neg c1, ck_t hin, e2]
        by_cases c2 : w ≤ hi
        · have hw1 : fX6_within ta0 w lo hi = some 1 := by
            unfold fX6_within; rw [if_neg c1, if_neg (by rw [Int32.not_lt]; exact c2)]
          obtain ⟨t1, ht1⟩ := placeAll0 (si (sa sg0 10 (Int32.toNatClampNeg v) w) 41 ((sg0 41 0) + (1 : Int32))) rfl
          obtain ⟨t2, ht2⟩ := placeAllM0 (si (sa ta0 4 (Int32.toNatClampNeg v) w) 43 ((ta0 43 0) + (1 : Int32))) rfl
          rw [if_pos c2, ck_t hin, ck_t hin, ht1, hw1, bd1_s, bd1_s, if_neg (by decide), ck_t hin, ck_t hin, ht2]
          exact ⟨_, t1, t2, rfl, rfl⟩
        · have hw1 : fX6_within ta0 w lo hi = some 0 := by
            unfold fX6_within; rw [if_neg c1, if_pos (by rw [← Int32.not_le]; exact c2)]
          rw [if_neg c2, hw1]
          exact ⟨-1002, sg0, ta0, rfl, rfl⟩
    by_cases hz : v = 0
    · subst hz
      exact key 2 60 rfl rfl rfl
    · have hc : Int32.toNatClampNeg v ≠ 0 := by
        intro hh
        obtain ⟨j, hj, rfl⟩ := vp_in_of hin (by omega)
        rw [nI_clamp (by omega)] at hh
        subst hh; exact hz nI_0
      refine key 4 120 (if_neg hc) (if_neg hc) ?_
      unfold fX6_reach; rw [hw, bd1_s, if_neg (by decide), if_neg hz]
      unfold fX6_reach_b19; rw [if_neg hz]
  · refine ⟨-1002, sg0, ta0, ?_, ?_⟩
    · unfold fX5_reach; rw [if_neg h0, if_neg h2]
    · have hw : fX6_within ta0 v 0 2 = some 0 := by
        unfold fX6_within; rw [if_neg h0, if_pos (by rw [← Int32.not_le]; exact h2)]
      unfold fX6_reach; rw [hw]; rfl
theorem fin3 (xs : Nat → Int32) (σ τ : St) (hh : Int64) : fL_l18 3 xs 3999 σ τ hh ((0 : Int32) + (3 : Int32)) = some 1 := by
  show fL_s18 3 xs (fL_l18 3 xs 3998) σ τ hh ((0 : Int32) + (3 : Int32)) = some 1
  exact if_pos (by decide)
set_option maxHeartbeats 4000000 in
theorem pure3 (xs : Nat → Int32) : fL_s18 3 xs (fL_l18 3 xs 3999) sg0 ta0 0 0 = some 1 := by
  unfold fL_s18
  rw [if_neg (by decide), ck_t (by decide)]
  have c1 : ¬ (((0 : Int32) + (1 : Int32)) < 0 ∨ 3 ≤ Int32.toNatClampNeg ((0 : Int32) + (1 : Int32))) := by decide
  have c2 : ¬ (((0 : Int32) + (2 : Int32)) < 0 ∨ 3 ≤ Int32.toNatClampNeg ((0 : Int32) + (2 : Int32))) := by decide
  generalize xs (Int32.toNatClampNeg ((0 : Int32) + (1 : Int32))) = v
  generalize xs (Int32.toNatClampNeg ((0 : Int32) + (2 : Int32))) = w
  by_cases h0 : xs (Int32.toNatClampNeg 0) &&& 15 = 0
  · obtain ⟨r, s, t, e1, e2⟩ := op_letter v
    rw [if_pos h0, ck_t c1, e1, bd2_s, ck_t c1, e2, bd2_s, if_pos rfl]; exact fin3 xs _ _ _
  rw [if_neg h0]
  by_cases h1 : xs (Int32.toNatClampNeg 0) &&& 15 = 1
  · obtain ⟨r, s, t, e1, e2⟩ := op_blank
    rw [if_pos h1, e1, bd2_s, e2, bd2_s, if_pos rfl]; exact fin3 xs _ _ _
  rw [if_neg h1]
  by_cases h2 : xs (Int32.toNatClampNeg 0) &&& 15 = 2
  · obtain ⟨r, s, t, e1, e2⟩ := op_fault
    rw [if_pos h2, e1, bd2_s, e2, bd2_s, if_pos rfl]; exact fin3 xs _ _ _
  rw [if_neg h2]
  by_cases h3 : xs (Int32.toNatClampNeg 0) &&& 15 = 3
  · obtain ⟨r, s, t, e1, e2⟩ := op_code
    rw [if_pos h3, e1, bd2_s, e2, bd2_s, if_pos rfl]; exact fin3 xs _ _ _
  rw [if_neg h3]
  by_cases h4 : xs (Int32.toNatClampNeg 0) &&& 15 = 4
  · obtain ⟨r, s, t, e1, e2⟩ := op_reach v w
    rw [if_pos h4, ck_t c1, ck_t c2, e1, bd2_s, ck_t c1, ck_t c2, e2, bd2_s, if_pos rfl]; exact fin3 xs _ _ _
  rw [if_neg h4]
  by_cases h5 : xs (Int32.toNatClampNeg 0) &&& 15 = 5
  · obtain ⟨r, s, t, e1, e2⟩ := op_grow v w
    rw [if_pos h5, ck_t c1, ck_t c2, e1, bd2_s, ck_t c1, ck_t c2, e2, bd2_s, if_pos rfl]; exact fin3 xs _ _ _
  rw [if_neg h5]
  by_cases h6 : xs (Int32.toNatClampNeg 0) &&& 15 = 6
  · obtain ⟨r, e1, e2⟩ := op_item v w
    rw [if_pos h6, ck_t c1, ck_t c2, e1, bd1_s, ck_t c1, ck_t c2, e2, bd1_s, if_pos rfl]; exact fin3 xs _ _ _
  rw [if_neg h6]
  by_cases h7 : xs (Int32.toNatClampNeg 0) &&& 15 = 7
  · obtain ⟨r, e1, e2⟩ := op_island v w
    rw [if_pos h7, ck_t c1, ck_t c2, e1, bd1_s, ck_t c1, ck_t c2, e2, bd1_s, if_pos rfl]; exact fin3 xs _ _ _
  rw [if_neg h7]
  by_cases h8 : xs (Int32.toNatClampNeg 0) &&& 15 = 8
  · obtain ⟨r, e1, e2⟩ := op_constant v w
    rw [if_pos h8, ck_t c1, ck_t c2, e1, bd1_s, ck_t c1, ck_t c2, e2, bd1_s, if_pos rfl]; exact fin3 xs _ _ _
  rw [if_neg h8]
  by_cases h9 : xs (Int32.toNatClampNeg 0) &&& 15 = 9
  · obtain ⟨r, e1, e2⟩ := op_hops v
    rw [if_pos h9, ck_t c1, e1, bd1_s, ck_t c1, e2, bd1_s, if_pos rfl]; exact fin3 xs _ _ _
  rw [if_neg h9]
  by_cases h10 : xs (Int32.toNatClampNeg 0) &&& 15 = 10
  · obtain ⟨r, e1, e2⟩ := op_placed v
    rw [if_pos h10, ck_t c1, e1, bd1_s, ck_t c1, e2, bd1_s, if_pos rfl]; exact fin3 xs _ _ _
  rw [if_neg h10]
  by_cases h11 : xs (Int32.toNatClampNeg 0) &&& 15 = 11
  · obtain ⟨r, e1, e2⟩ := op_count v
    rw [if_pos h11, ck_t c1, e1, bd1_s, ck_t c1, e2, bd1_s, if_pos rfl]; exact fin3 xs _ _ _
  rw [if_neg h11]
  by_cases h12 : xs (Int32.toNatClampNeg 0) &&& 15 = 12
  · obtain ⟨r, h2, e1, e2⟩ := op_digest
    rw [if_pos h12, e1, bd1_s, e2, bd2_s, if_pos (by simp [lg_cmp])]; exact fin3 xs _ _ _
  rw [if_neg h12]
  exact fin3 xs _ _ _
theorem pure_law {L : Nat} {xs : Nat → Int32} (hL : L ≤ 3) : fL_l18 L xs FU sg0 ta0 0 0 = some 1 := by
  show fL_s18 L xs (fL_l18 L xs 3999) sg0 ta0 0 0 = some 1
  match L, hL with
  | 0, _ => exact if_pos (by decide)
  | 1, _ => exact if_pos (by decide)
  | 2, _ => exact if_pos (by decide)
  | 3, _ => exact pure3 xs
  | n + 4, h => exact absurd h (by omega)
