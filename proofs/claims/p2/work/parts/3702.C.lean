theorem d_0_m : ¬ (0 : Int32) = -1 := by decide
theorem d_0_1 : ¬ (0 : Int32) = 1 := by decide
theorem d_0_2 : ¬ (0 : Int32) = 2 := by decide
theorem d_0_3 : ¬ (0 : Int32) = 3 := by decide
theorem d_0_4 : ¬ (0 : Int32) = 4 := by decide
theorem d_1_m : ¬ (1 : Int32) = -1 := by decide
theorem d_1_0 : ¬ (1 : Int32) = 0 := by decide
theorem d_1_2 : ¬ (1 : Int32) = 2 := by decide
theorem d_1_3 : ¬ (1 : Int32) = 3 := by decide
theorem d_1_4 : ¬ (1 : Int32) = 4 := by decide
theorem d_2_m : ¬ (2 : Int32) = -1 := by decide
theorem d_2_0 : ¬ (2 : Int32) = 0 := by decide
theorem d_2_1 : ¬ (2 : Int32) = 1 := by decide
theorem d_2_3 : ¬ (2 : Int32) = 3 := by decide
theorem d_2_4 : ¬ (2 : Int32) = 4 := by decide
theorem d_3_m : ¬ (3 : Int32) = -1 := by decide
theorem d_3_0 : ¬ (3 : Int32) = 0 := by decide
theorem d_3_1 : ¬ (3 : Int32) = 1 := by decide
theorem d_3_2 : ¬ (3 : Int32) = 2 := by decide
theorem d_3_4 : ¬ (3 : Int32) = 4 := by decide
theorem d_4_m : ¬ (4 : Int32) = -1 := by decide
theorem d_4_0 : ¬ (4 : Int32) = 0 := by decide
theorem d_4_1 : ¬ (4 : Int32) = 1 := by decide
theorem d_4_2 : ¬ (4 : Int32) = 2 := by decide
theorem d_4_3 : ¬ (4 : Int32) = 3 := by decide
theorem t_48_1 : ∀ c, c < 127 → (nI c - 48 < (1 : Int32) ↔ c < 49) := by decide +kernel
theorem t_9_48 : ∀ c, c < 127 → ((9 : Int32) < nI c - 48 ↔ 57 < c) := by decide +kernel
theorem t_48_0 : ∀ c, c < 127 → (nI c - 48 < (0 : Int32) ↔ c < 48) := by decide +kernel
theorem t_3_48 : ∀ c, c < 127 → ((3 : Int32) < nI c - 48 ↔ 51 < c) := by decide +kernel
theorem t_65_0 : ∀ c, c < 127 → (nI c - 65 < (0 : Int32) ↔ c < 65) := by decide +kernel
theorem t_7_65 : ∀ c, c < 127 → ((7 : Int32) < nI c - 65 ↔ 72 < c) := by decide +kernel
theorem t_l49 : ∀ c, c < 127 → (nI c < (49 : Int32) ↔ c < 49) := by decide +kernel
theorem t_l48 : ∀ c, c < 127 → (nI c < (48 : Int32) ↔ c < 48) := by decide +kernel
theorem t_g57 : ∀ c, c < 127 → ((57 : Int32) < nI c ↔ 57 < c) := by decide +kernel
theorem t_g51 : ∀ c, c < 127 → ((51 : Int32) < nI c ↔ 51 < c) := by decide +kernel
theorem t_l65 : ∀ c, c < 127 → (nI c < (65 : Int32) ↔ c < 65) := by decide +kernel
theorem t_g73 : ∀ c, c < 127 → ((73 : Int32) ≤ nI c ↔ 73 ≤ c) := by decide +kernel
theorem t_bit : ∀ m, m < 256 → ∀ l, l < 8 → ((nI m &&& ((1 : Int32) <<< (nI l &&& 31))) = 0 ↔ ¬ ((nI m >>> (nI l &&& 31)) &&& (1 : Int32)) = 1) := by decide +kernel
theorem t_or : ∀ m, m < 256 → ∀ l, l < 8 → nI m ||| ((1 : Int32) <<< (nI l &&& 31)) = nI (m ||| 2 ^ l) ∧ m ||| 2 ^ l < 256 := by decide +kernel
theorem t_or0 : ∀ m, m < 256 → nI m ||| (0 : Int32) = nI m := by decide +kernel
theorem t_all : ∀ l, l < 8 → ((nI 255 >>> (nI l &&& 31)) &&& (1 : Int32)) = 1 := by decide +kernel
theorem t_sub48 {c : Nat} (h : 48 ≤ c) : nI c - (48 : Int32) = nI (c - 48) := pk_sub h
theorem t_sub65 {c : Nat} (h : 65 ≤ c) : nI c - (65 : Int32) = nI (c - 65) := pk_sub h
/-- the end of a figure: an item more on both sides -/
theorem fig_ok {σ τ : St} {n met want : Nat} {k w : Int32} (h0 : RR0 σ τ n met want) (hn : n < 24) (hw : wfI k w) : StepOut σ τ (bd2 (fX0_add_r (si σ 43 (-1 : Int32)) k w) fun r s => (if r = 0 then (some ((0 : Int32), s)) else (some ((1 : Int32), s)))) (bd2 (fX6_takesFigure_b66 τ 1 w k) fun r s => ck (r = 0 ∨ r = 1) (some (r, s))) := by
  obtain ⟨h1, h2, h3, h4, h5, h6, h7, h8, h9, h10, h11⟩ := id h0
  have h2' : (si σ 43 (-1 : Int32)) 46 0 = nI n := by rw [si_ne (by decide)]; exact h2
  have hk : fX6_takesFigure_b66 τ 1 w k = some (1, keepS τ n k w) := by
    unfold fX6_takesFigure_b66; rw [keep_in h3 hn, bd1_s, ck_t (Or.inr rfl)]
  rw [add_in_r h2' hn, bd2_s, if_neg (by decide), hk, bd2_s, ck_t (Or.inr rfl)]
  have h0' : RR0 (si σ 43 (-1)) τ n met want := RR0_to h0 (si_ne (by decide)) (si_ne (by decide)) (si_ne (by decide)) (si_ne (by decide)) rfl rfl rfl h6 (by rw [si_ne (by decide)]; exact h7) h8 h9 (by rw [si_ne (by decide)]; exact h10) h11
  refine Or.inl ⟨_, _, n + 1, met, want, -1, rfl, rfl, ⟨RR0_add h0' hn hw, ?_, ?_, Or.inl rfl⟩, (frC_si (Or.inl rfl)).tr frC_add, frM_keep⟩
  · rw [addS_frame_r (by decide) (by decide) (by decide) (by decide), si_at]
  · unfold keepS; rw [si_at]
theorem fig_bad {σ τ : St} {y : Int32} : StepOut σ τ (some ((0 : Int32), si σ 43 (-1 : Int32))) (bd2 (fX6_takesFigure_b41 τ y 0) fun r s => ck (r = 0 ∨ r = 1) (some (r, s))) := by
  have hk : fX6_takesFigure_b41 τ y 0 = some (0, τ) := by unfold fX6_takesFigure_b41; rw [if_pos rfl, ck_t (Or.inl rfl)]
  rw [hk, bd2_s, ck_t (Or.inl rfl)]
  exact Or.inr (Or.inl ⟨_, _, rfl, rfl, frC_si (Or.inl rfl), frM_rf⟩)
theorem step_0 {σ τ : St} {n met want c : Nat} (h0 : RR0 σ τ n met want) (hn : n < 24) (ho : σ 43 0 = 0) (ho2 : τ 45 0 = 0) (hc : c < 127) : StepOut σ τ (fX3_ends σ (nI c)) (fX6_takes τ (nI c)) := by
  unfold fX3_ends fX6_takes
  rw [ho, ho2, if_pos rfl, if_neg d_0_m, if_neg d_0_2, if_neg d_0_3]
  unfold fX6_takesFigure
  rw [ho2, if_pos rfl]
  by_cases c1 : c < 49
  · rw [if_pos ((t_l49 c hc).mpr c1), within_lo ((t_48_1 c hc).mpr c1), bd1_s]; exact fig_bad
  rw [if_neg (fun z => c1 ((t_l49 c hc).mp z))]
  by_cases c2 : 57 < c
  · rw [if_pos ((t_g57 c hc).mpr c2), within_hi ((t_9_48 c hc).mpr c2), bd1_s]; exact fig_bad
  rw [if_neg (fun z => c2 ((t_g57 c hc).mp z)), within_in (fun z => c1 ((t_48_1 c hc).mp z)) (fun z => c2 ((t_9_48 c hc).mp z)), bd1_s]
  unfold fX6_takesFigure_b41
  rw [if_neg d_1_0, ho2, if_neg d_0_4, t_sub48 (by omega)]
  exact fig_ok h0 hn ⟨0, c - 48, rfl, rfl, by omega⟩
theorem step_1 {σ τ : St} {n met want c : Nat} (h0 : RR0 σ τ n met want) (hn : n < 24) (ho : σ 43 0 = 1) (ho2 : τ 45 0 = 1) (hc : c < 127) : StepOut σ τ (fX3_ends σ (nI c)) (fX6_takes τ (nI c)) := by
  unfold fX3_ends fX6_takes
  rw [ho, ho2, if_neg d_1_0, if_pos rfl, if_neg d_1_m, if_neg d_1_2, if_neg d_1_3]
  unfold fX6_takesFigure
  rw [ho2, if_neg d_1_0, if_pos rfl]
  by_cases c1 : c < 48
  · rw [if_pos ((t_l48 c hc).mpr c1), within_lo ((t_48_0 c hc).mpr c1), bd1_s]; exact fig_bad
  rw [if_neg (fun z => c1 ((t_l48 c hc).mp z))]
  by_cases c2 : 57 < c
  · rw [if_pos ((t_g57 c hc).mpr c2), within_hi ((t_9_48 c hc).mpr c2), bd1_s]; exact fig_bad
  rw [if_neg (fun z => c2 ((t_g57 c hc).mp z)), within_in (fun z => c1 ((t_48_0 c hc).mp z)) (fun z => c2 ((t_9_48 c hc).mp z)), bd1_s]
  unfold fX6_takesFigure_b41
  rw [if_neg d_1_0, ho2, if_neg d_1_4, t_sub48 (by omega)]
  exact fig_ok h0 hn ⟨1, c - 48, rfl, rfl, by omega⟩
theorem step_4 {σ τ : St} {n met want c : Nat} (h0 : RR0 σ τ n met want) (hn : n < 24) (ho : σ 43 0 = 4) (ho2 : τ 45 0 = 4) (hc : c < 127) : StepOut σ τ (fX3_ends σ (nI c)) (fX6_takes τ (nI c)) := by
  unfold fX3_ends fX6_takes
  rw [ho, ho2, if_neg d_4_0, if_neg d_4_1, if_pos rfl, if_neg d_4_m, if_neg d_4_2, if_neg d_4_3]
  unfold fX6_takesFigure
  rw [ho2, if_neg d_4_0, if_neg d_4_1]
  by_cases c1 : c < 49
  · rw [if_pos ((t_l49 c hc).mpr c1), within_lo ((t_48_1 c hc).mpr c1), bd1_s]; exact fig_bad
  rw [if_neg (fun z => c1 ((t_l49 c hc).mp z))]
  by_cases c2 : 51 < c
  · rw [if_pos ((t_g51 c hc).mpr c2), within_hi ((t_3_48 c hc).mpr c2), bd1_s]; exact fig_bad
  rw [if_neg (fun z => c2 ((t_g51 c hc).mp z)), within_in (fun z => c1 ((t_48_1 c hc).mp z)) (fun z => c2 ((t_3_48 c hc).mp z)), bd1_s]
  unfold fX6_takesFigure_b41
  rw [if_neg d_1_0, ho2, if_pos rfl]
  refine fig_ok h0 hn ?_
  rcases (show c = 49 ∨ c = 50 ∨ c = 51 by omega) with rfl | rfl | rfl
  · exact ⟨4, 2, rfl, by decide, by omega⟩
  · exact ⟨4, 4, rfl, by decide, by omega⟩
  · exact ⟨4, 8, rfl, by decide, by omega⟩
theorem lab_bad {σ τ : St} {n met want c : Nat} (hc : c < 127) (hx : c < 65 ∨ 73 ≤ c) (op : Int32) : StepOut σ τ (fX3_ends_b145 (si σ 43 (-1 : Int32)) (nI c) op) (fX6_takes_b30 τ (nI c)) := by
  unfold fX3_ends_b145 fX6_takes_b30 fX6_takesLetter
  rcases hx with h | h
  · rw [if_pos ((t_l65 c hc).mpr h), within_lo ((t_65_0 c hc).mpr h), bd1_s, if_pos rfl, bd2_s, ck_t (Or.inl rfl)]
    exact Or.inr (Or.inl ⟨_, _, rfl, rfl, frC_si (Or.inl rfl), frM_rf⟩)
  · rw [if_neg (fun z => by have := (t_l65 c hc).mp z; omega), if_pos ((t_g73 c hc).mpr h), within_hi ((t_7_65 c hc).mpr (by omega)), bd1_s, if_pos rfl, bd2_s, ck_t (Or.inl rfl)]
    exact Or.inr (Or.inl ⟨_, _, rfl, rfl, frC_si (Or.inl rfl), frM_rf⟩)
theorem step_2 {σ τ : St} {n met want c : Nat} (h0 : RR0 σ τ n met want) (hn : n < 24) (ho : σ 43 0 = 2) (ho2 : τ 45 0 = 2) (hc : c < 127) : StepOut σ τ (fX3_ends σ (nI c)) (fX6_takes τ (nI c)) := by
  unfold fX3_ends fX6_takes
  rw [ho, ho2, if_neg d_2_0, if_neg d_2_1, if_neg d_2_4, if_neg d_2_m, if_pos rfl]
  by_cases hx : c < 65 ∨ 73 ≤ c
  · exact lab_bad (n := n) (met := met) (want := want) hc hx 2
  obtain ⟨l, rfl⟩ : ∃ l, c = 65 + l := ⟨c - 65, by omega⟩
  have hl : l < 8 := by omega
  obtain ⟨h1, h2, h3, h4, h5, h6, h7, h8, h9, h10, h11⟩ := id h0
  unfold fX3_ends_b145 fX6_takes_b30 fX6_takesLetter
  rw [if_neg (fun z => by have := (t_l65 _ hc).mp z; omega), if_neg (fun z => by have := (t_g73 _ hc).mp z; omega), within_in (fun z => by have := (t_65_0 _ hc).mp z; omega) (fun z => by have := (t_7_65 _ hc).mp z; omega), bd1_s, if_neg d_1_0, ho2, if_neg d_2_3, t_sub65 (by omega), show 65 + l - 65 = l by omega]
  unfold fX3_endsWithLabel fX6_takesLetter_b37 fX6_takesLetter_b57 fX6_takesLetter_b81
  rw [if_pos rfl, ho2, if_neg d_2_3, if_pos rfl]
  have e1 : (si σ 43 (-1 : Int32)) 45 0 = nI want := by rw [si_ne (by decide)]; exact h10
  rw [e1, (t_or want h9 l hl).1, h8, t_or0 met h6]
  have e2 : (si (si σ 43 (-1 : Int32)) 45 (nI (want ||| 2 ^ l))) 46 0 = nI n := by rw [si_ne (by decide), si_ne (by decide)]; exact h2
  have e3 : (si (si τ 46 (nI met)) 47 (nI want ||| (1 : Int32) <<< (nI l &&& 31))) 44 0 = nI n := by rw [si_ne (by decide), si_ne (by decide)]; exact h3
  rw [h11]
  rw [add_in_r e2 hn, bd2_s, ck_t (Or.inr rfl), bd2_s, if_neg (by decide), keep_in e3 hn, bd1_s, bd2_s, ck_t (Or.inr rfl), (t_or want h9 l hl).1]
  have hk : (si τ 46 (nI met)) 45 0 = 2 := by rw [si_ne (by decide)]; exact ho2
  rw [hk]
  have h0' : RR0 (si (si σ 43 (-1 : Int32)) 45 (nI (want ||| 2 ^ l))) (si (si τ 46 (nI met)) 47 (nI (want ||| 2 ^ l))) n met (want ||| 2 ^ l) :=
    RR0_to h0 (by rw [si_ne (by decide), si_ne (by decide)]) (by rw [si_ne (by decide), si_ne (by decide)]) (by rw [si_ne (by decide), si_ne (by decide)]) (by rw [si_ne (by decide), si_ne (by decide)]) (by rw [si_ne (by decide), si_ne (by decide)]) (by rw [si_ne (by decide), si_ne (by decide)]) (by rw [si_ne (by decide), si_ne (by decide)]) h6 (by rw [si_ne (by decide), si_ne (by decide)]; exact h7) (by rw [si_ne (by decide), si_at]) (t_or want h9 l hl).2 (si_at _ _ _ _) (si_at _ _ _ _)
  refine Or.inl ⟨_, _, n + 1, met, want ||| 2 ^ l, -1, rfl, rfl, ⟨RR0_add h0' hn ⟨2, l, rfl, rfl, by omega⟩, ?_, ?_, Or.inl rfl⟩, ((frC_si (Or.inl rfl)).tr (frC_si (Or.inr (Or.inr rfl)))).tr frC_add, ((frM_si (Or.inr (Or.inl rfl))).tr (frM_si (Or.inr (Or.inr rfl)))).tr frM_keep⟩
  · rw [addS_frame_r (by decide) (by decide) (by decide) (by decide), si_ne (by decide), si_at]
  · unfold keepS; rw [si_at]
theorem step_3 {σ τ : St} {n met want c : Nat} (h0 : RR0 σ τ n met want) (hn : n < 24) (ho : σ 43 0 = 3) (ho2 : τ 45 0 = 3) (hc : c < 127) : StepOut σ τ (fX3_ends σ (nI c)) (fX6_takes τ (nI c)) := by
  unfold fX3_ends fX6_takes
  rw [ho, ho2, if_neg d_3_0, if_neg d_3_1, if_neg d_3_4, if_neg d_3_m, if_neg d_3_2, if_pos rfl]
  by_cases hx : c < 65 ∨ 73 ≤ c
  · exact lab_bad (n := n) (met := met) (want := want) hc hx 3
  obtain ⟨l, rfl⟩ : ∃ l, c = 65 + l := ⟨c - 65, by omega⟩
  have hl : l < 8 := by omega
  obtain ⟨h1, h2, h3, h4, h5, h6, h7, h8, h9, h10, h11⟩ := id h0
  unfold fX3_ends_b145 fX6_takes_b30 fX6_takesLetter
  rw [if_neg (fun z => by have := (t_l65 _ hc).mp z; omega), if_neg (fun z => by have := (t_g73 _ hc).mp z; omega), within_in (fun z => by have := (t_65_0 _ hc).mp z; omega) (fun z => by have := (t_7_65 _ hc).mp z; omega), bd1_s, if_neg d_1_0, ho2, if_pos rfl, t_sub65 (by omega), show 65 + l - 65 = l by omega, h8]
  unfold fX3_endsWithLabel
  have e1 : (si σ 43 (-1 : Int32)) 44 0 = nI met := by rw [si_ne (by decide)]; exact h7
  rw [if_neg d_3_2, e1]
  by_cases hb : ((nI met >>> (nI l &&& 31)) &&& (1 : Int32)) = 1
  · rw [if_pos hb, if_neg (fun z => (t_bit met h6 l hl).mp z hb), bd2_s, if_pos rfl, bd2_s, ck_t (Or.inl rfl)]
    exact Or.inr (Or.inl ⟨_, _, rfl, rfl, frC_si (Or.inl rfl), frM_rf⟩)
  rw [if_neg hb, if_pos ((t_bit met h6 l hl).mpr hb)]
  unfold fX6_takesLetter_b37 fX6_takesLetter_b57 fX6_takesLetter_b81
  rw [ho2, if_pos rfl, if_neg d_3_2, h8, (t_or met h6 l hl).1, h11, t_or0 want h9]
  have e2 : (si (si σ 43 (-1 : Int32)) 44 (nI (met ||| 2 ^ l))) 46 0 = nI n := by rw [si_ne (by decide), si_ne (by decide)]; exact h2
  have e3 : (si (si τ 46 (nI (met ||| 2 ^ l))) 47 (nI want)) 44 0 = nI n := by rw [si_ne (by decide), si_ne (by decide)]; exact h3
  rw [add_in_r e2 hn, bd2_s, ck_t (Or.inr rfl), bd2_s, if_neg (by decide), keep_in e3 hn, bd1_s, bd2_s, ck_t (Or.inr rfl)]
  have hk : (si τ 46 (nI (met ||| 2 ^ l))) 45 0 = 3 := by rw [si_ne (by decide)]; exact ho2
  rw [hk]
  have h0' : RR0 (si (si σ 43 (-1 : Int32)) 44 (nI (met ||| 2 ^ l))) (si (si τ 46 (nI (met ||| 2 ^ l))) 47 (nI want)) n (met ||| 2 ^ l) want :=
    RR0_to h0 (by rw [si_ne (by decide), si_ne (by decide)]) (by rw [si_ne (by decide), si_ne (by decide)]) (by rw [si_ne (by decide), si_ne (by decide)]) (by rw [si_ne (by decide), si_ne (by decide)]) (by rw [si_ne (by decide), si_ne (by decide)]) (by rw [si_ne (by decide), si_ne (by decide)]) (by rw [si_ne (by decide), si_ne (by decide)]) (t_or met h6 l hl).2 (si_at _ _ _ _) (by rw [si_ne (by decide), si_at]) h9 (by rw [si_ne (by decide), si_ne (by decide)]; exact h10) (si_at _ _ _ _)
  refine Or.inl ⟨_, _, n + 1, met ||| 2 ^ l, want, -1, rfl, rfl, ⟨RR0_add h0' hn ⟨3, l, rfl, rfl, by omega⟩, ?_, ?_, Or.inl rfl⟩, ((frC_si (Or.inl rfl)).tr (frC_si (Or.inr (Or.inl rfl)))).tr frC_add, ((frM_si (Or.inr (Or.inl rfl))).tr (frM_si (Or.inr (Or.inr rfl)))).tr frM_keep⟩
  · rw [addS_frame_r (by decide) (by decide) (by decide) (by decide), si_ne (by decide), si_at]
  · unfold keepS; rw [si_at]
/-- one letter -/
theorem step_any {σ τ : St} {n met want c : Nat} {op : Int32} (h : RR σ τ n met want op) (hc : c < 127) : StepOut σ τ (stepC σ (nI c)) (fX6_takes τ (nI c)) := by
  obtain ⟨h0, ho, ho2, hop⟩ := h
  unfold stepC
  rcases hop with e | ⟨e, hn⟩
  · rw [ho, if_pos e]
    unfold fX6_takes
    rw [ho2, if_pos e]
    have hs := step_first h0 (ho.trans e) (ho2.trans e) (nI c)
    rcases hs with ⟨s, t, n', met', want', op', a, b, r, f, g⟩ | ⟨s, t, a, b, f, g⟩ | ⟨s, t, a, b, f, g, u, v⟩
    · rw [b, bd2_s, ck_t (Or.inr rfl)]
      exact Or.inl ⟨s, t, n', met', want', op', a, rfl, r, f, g⟩
    · rw [b, bd2_s, ck_t (Or.inl rfl)]
      exact Or.inr (Or.inl ⟨s, t, a, rfl, f, g⟩)
    · rw [b, bd2_s, ck_t (Or.inr rfl)]
      exact Or.inr (Or.inr ⟨s, t, a, rfl, f, g, u, v⟩)
  · rcases e with rfl | rfl | rfl | rfl | rfl
    · rw [ho, if_neg (by decide)]; exact step_0 h0 hn ho ho2 hc
    · rw [ho, if_neg (by decide)]; exact step_1 h0 hn ho ho2 hc
    · rw [ho, if_neg (by decide)]; exact step_2 h0 hn ho ho2 hc
    · rw [ho, if_neg (by decide)]; exact step_3 h0 hn ho ho2 hc
    · rw [ho, if_neg (by decide)]; exact step_4 h0 hn ho ho2 hc
