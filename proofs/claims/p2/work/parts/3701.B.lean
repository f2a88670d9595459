/-! Reading: class and reference go along a page alike, but for a ninth ":" behind all eight labels. -/
def cnt5 (f : Nat → Int32) : Nat → Nat
  | 0 => 0
  | n + 1 => cnt5 f n + (if f n = 5 then 1 else 0)
theorem cnt5_congr {f g : Nat → Int32} : ∀ {n : Nat}, (∀ i, i < n → f i = g i) → cnt5 f n = cnt5 g n
  | 0, _ => rfl
  | n + 1, h => by
    unfold cnt5
    rw [cnt5_congr (fun i hi => h i (by omega)), h n (by omega)]
def wfI (k w : Int32) : Prop := ∃ a b : Nat, k = nI a ∧ w = nI b ∧ ((a = 0 ∧ 1 ≤ b ∧ b ≤ 40) ∨ (a = 1 ∧ b ≤ 9) ∨ (a = 2 ∧ b ≤ 7) ∨ (a = 3 ∧ b ≤ 7) ∨ (a = 4 ∧ (b = 2 ∨ b = 4 ∨ b = 8)) ∨ (a = 5 ∧ b = 0))
/-- the items read so far, and the labels met and wanted, are the same on both sides -/
def RR0 (σ τ : St) (n met want : Nat) : Prop :=
  n ≤ 24 ∧ σ 46 0 = nI n ∧ τ 44 0 = nI n ∧ (∀ i, i < n → σ 5 i = τ 5 i ∧ σ 6 i = τ 6 i ∧ wfI (σ 5 i) (σ 6 i)) ∧ σ 47 0 = nI (cnt5 (σ 5) n) ∧ met < 256 ∧ σ 44 0 = nI met ∧ τ 46 0 = nI met ∧ want < 256 ∧ σ 45 0 = nI want ∧ τ 47 0 = nI want
def keepS (τ : St) (n : Nat) (k w : Int32) : St := si (si (sa (sa τ 5 n k) 6 n w) 44 (nI (n + 1))) 45 (-1)
theorem keep_in {τ : St} {n : Nat} {k w : Int32} (hn : τ 44 0 = nI n) (h24 : n < 24) : fX6_keepItem τ k w = some (keepS τ n k w) := by
  unfold fX6_keepItem keepS
  rw [hn, ck_t (ckN h24 (by omega)), ck_t (ckN h24 (by omega)), nI_clamp (by omega), nI_1]
theorem RR0_add {σ τ : St} {n met want : Nat} {k w : Int32} (h : RR0 σ τ n met want) (h24 : n < 24) (hw : wfI k w) : RR0 (addS_r σ n k w) (keepS τ n k w) (n + 1) met want := by
  obtain ⟨h1, h2, h3, h4, h5, h6, h7, h8, h9, h10, h11⟩ := h
  have k5 : keepS τ n k w 5 = upd (τ 5) n k := by unfold keepS; rw [si_ne (by decide), si_ne (by decide), sa_ne (by decide), sa_at]
  have k6 : keepS τ n k w 6 = upd (τ 6) n w := by unfold keepS; rw [si_ne (by decide), si_ne (by decide), sa_at, sa_ne (by decide)]
  refine ⟨by omega, addS_size_r, ?_, fun i hi => ?_, ?_, h6, ?_, ?_, h9, ?_, ?_⟩
  · unfold keepS; rw [si_ne (by decide), si_at]
  · rw [addS_kinds_r, addS_told_r, k5, k6]
    by_cases e : i = n
    · subst e; rw [pk_us, pk_us, pk_us, pk_us]; exact ⟨rfl, rfl, hw⟩
    · rw [pk_un e, pk_un e, pk_un e, pk_un e]; exact h4 i (by omega)
  · rw [addS_gaps_r, addS_kinds_r]
    show _ = nI (cnt5 (upd (σ 5) n k) n + (if upd (σ 5) n k n = 5 then 1 else 0))
    rw [pk_us, cnt5_congr (f := upd (σ 5) n k) (g := σ 5) (fun i hi => pk_un (by omega))]
    by_cases e : k = 5
    · rw [if_pos e, if_pos e, h5, nI_1]
    · rw [if_neg e, if_neg e, h5]; rfl
  · rw [addS_frame_r (by decide) (by decide) (by decide) (by decide)]; exact h7
  · unfold keepS; rw [si_ne (by decide), si_ne (by decide), sa_ne (by decide), sa_ne (by decide)]; exact h8
  · rw [addS_frame_r (by decide) (by decide) (by decide) (by decide)]; exact h10
  · unfold keepS; rw [si_ne (by decide), si_ne (by decide), sa_ne (by decide), sa_ne (by decide)]; exact h11
/-- other numbers may change -/
theorem RR0_to {σ τ s t : St} {n met want met' want' : Nat} (h : RR0 σ τ n met want) (a5 : s 5 = σ 5) (a6 : s 6 = σ 6) (a46 : s 46 = σ 46) (a47 : s 47 = σ 47) (b5 : t 5 = τ 5) (b6 : t 6 = τ 6) (b44 : t 44 = τ 44)
    (m1 : met' < 256) (m2 : s 44 0 = nI met') (m3 : t 46 0 = nI met') (w1 : want' < 256) (w2 : s 45 0 = nI want') (w3 : t 47 0 = nI want') : RR0 s t n met' want' := by
  obtain ⟨h1, h2, h3, h4, h5, h6, h7, h8, h9, h10, h11⟩ := h
  exact ⟨h1, by rw [a46]; exact h2, by rw [b44]; exact h3, fun i hi => by rw [a5, a6, b5, b6]; exact h4 i hi, by rw [a47, a5]; exact h5, m1, m2, m3, w1, w2, w3⟩
def frC (σ s : St) : Prop := ∀ j, j ≠ 5 → j ≠ 6 → j ≠ 43 → j ≠ 44 → j ≠ 45 → j ≠ 46 → j ≠ 47 → s j = σ j
def frM (τ t : St) : Prop := ∀ j, j ≠ 5 → j ≠ 6 → j ≠ 44 → j ≠ 45 → j ≠ 46 → j ≠ 47 → t j = τ j
theorem frC_rf {σ : St} : frC σ σ := fun _ _ _ _ _ _ _ _ => rfl
theorem frM_rf {τ : St} : frM τ τ := fun _ _ _ _ _ _ _ => rfl
theorem frC.tr {σ s u : St} (h1 : frC σ s) (h2 : frC s u) : frC σ u := fun j a b c d e f g => (h2 j a b c d e f g).trans (h1 j a b c d e f g)
theorem frM.tr {σ s u : St} (h1 : frM σ s) (h2 : frM s u) : frM σ u := fun j a b d e f g => (h2 j a b d e f g).trans (h1 j a b d e f g)
theorem frC_add {σ : St} {n : Nat} {k w : Int32} : frC σ (addS_r σ n k w) := fun _ h5 h6 _ _ _ h46 h47 => addS_frame_r h5 h6 h46 h47
theorem frM_keep {τ : St} {n : Nat} {k w : Int32} : frM τ (keepS τ n k w) := fun j h5 h6 h44 h45 _ _ => by unfold keepS; rw [si_ne h45, si_ne h44, sa_ne h6, sa_ne h5]
theorem frC_si {σ : St} {k : Nat} {v : Int32} (h : k = 43 ∨ k = 44 ∨ k = 45) : frC σ (si σ k v) := fun j _ _ h3 h4 h5 _ _ => si_ne (by omega)
theorem frM_si {τ : St} {k : Nat} {v : Int32} (h : k = 45 ∨ k = 46 ∨ k = 47) : frM τ (si τ k v) := fun j _ _ _ h4 h5 h6 => si_ne (by omega)
def opOk (op : Int32) (n met : Nat) : Prop := op = -1 ∨ ((op = 0 ∨ op = 1 ∨ op = 2 ∨ op = 3 ∨ op = 4) ∧ n < 24)
def RR (σ τ : St) (n met want : Nat) (op : Int32) : Prop := RR0 σ τ n met want ∧ σ 43 0 = op ∧ τ 45 0 = op ∧ opOk op n met
def stepC (σ : St) (x : Int32) : Option (Int32 × St) := if σ 43 0 = (-1 : Int32) then fX3_begins σ x else fX3_ends σ x
/-- both take a letter; or both refuse it; or it is a ninth ":" -/
def StepOut (σ τ : St) (a b : Option (Int32 × St)) : Prop :=
  (∃ s t n met want op, a = some (1, s) ∧ b = some (1, t) ∧ RR s t n met want op ∧ frC σ s ∧ frM τ t) ∨
  (∃ s t, a = some (0, s) ∧ b = some (0, t) ∧ frC σ s ∧ frM τ t) ∨
  (∃ s t, a = some (0, s) ∧ b = some (1, t) ∧ frC σ s ∧ frM τ t ∧ t 45 0 = 3 ∧ t 46 0 = nI 255)
theorem kb_eq (σ τ : St) (x : Int32) : fX3_kindBegunBy σ x = fX6_kindBy τ x := rfl
theorem kb_val (σ : St) (x : Int32) : ∃ r, fX3_kindBegunBy σ x = some r ∧ (r = -1 ∨ r = 0 ∨ r = 1 ∨ r = 2 ∨ r = 3 ∨ r = 4 ∨ r = 5) := by
  unfold fX3_kindBegunBy
  by_cases h1 : x = 58
  · exact ⟨3, if_pos h1, by simp⟩
  rw [if_neg h1]
  by_cases h2 : x = 97
  · exact ⟨4, if_pos h2, by simp⟩
  rw [if_neg h2]
  by_cases h3 : x = 98
  · exact ⟨2, if_pos h3, by simp⟩
  rw [if_neg h3]
  by_cases h4 : x = 108
  · exact ⟨1, if_pos h4, by simp⟩
  rw [if_neg h4]
  by_cases h5 : x = 110
  · exact ⟨0, if_pos h5, by simp⟩
  rw [if_neg h5]
  by_cases h6 : x = 114
  · exact ⟨5, if_pos h6, by simp⟩
  rw [if_neg h6]
  exact ⟨-1, rfl, by simp⟩
theorem step_first {σ τ : St} {n met want : Nat} (h0 : RR0 σ τ n met want) (ho : σ 43 0 = -1) (ho2 : τ 45 0 = -1) (x : Int32) : StepOut σ τ (fX3_begins σ x) (fX6_takesFirst τ x) := by
  obtain ⟨r, hr, hv⟩ := kb_val σ x
  have hr2 : fX6_kindBy τ x = some r := by rw [← kb_eq σ τ x]; exact hr
  have h0' := h0
  obtain ⟨h1, h2, h3, h4, h5, h6, h7, h8, h9, h10, h11⟩ := h0
  unfold fX3_begins fX6_takesFirst
  rw [hr, hr2, bd1_s, bd1_s]
  by_cases e1 : r = -1
  · rw [if_pos e1, if_pos e1]
    exact Or.inr (Or.inl ⟨σ, τ, rfl, rfl, frC_rf, frM_rf⟩)
  rw [if_neg e1, if_neg e1, show fX0_size_r σ = some (nI n) from by unfold fX0_size_r; rw [h2], bd1_s, h3]
  by_cases hn : n < 24
  · rw [if_pos (show nI n < (24 : Int32) from nI_lt (a := n) (b := 24) hn (by omega)), if_neg (show ¬ nI n = (24 : Int32) from fun e => by have := (nI_eq (a := n) (b := 24) (by omega) (by omega)).mp e; omega)]
    by_cases e5 : r = 5
    · rw [if_pos e5, if_pos e5, add_in_r h2 hn, bd2_s, ck_t (Or.inr rfl), keep_in h3 hn, bd1_s]
      refine Or.inl ⟨_, _, n + 1, met, want, -1, rfl, rfl, ⟨RR0_add h0' hn ⟨5, 0, rfl, rfl, by omega⟩, ?_, ?_, Or.inl rfl⟩, frC_add, frM_keep⟩
      · rw [addS_frame_r (by decide) (by decide) (by decide) (by decide)]; exact ho
      · unfold keepS; rw [si_at]
    · rw [if_neg e5, if_neg e5]
      have go : StepOut σ τ (fX3_begins_b56 σ r) (some ((1 : Int32), si τ 45 r)) := by
        unfold fX3_begins_b56
        refine Or.inl ⟨si σ 43 r, si τ 45 r, n, met, want, r, rfl, rfl, ⟨?_, si_at _ _ _ _, si_at _ _ _ _, Or.inr ⟨?_, hn⟩⟩, frC_si (Or.inl rfl), frM_si (Or.inl rfl)⟩
        · exact RR0_to h0' (si_ne (by decide)) (si_ne (by decide)) (si_ne (by decide)) (si_ne (by decide)) (si_ne (by decide)) (si_ne (by decide)) (si_ne (by decide)) h6 (by rw [si_ne (by decide)]; exact h7) (by rw [si_ne (by decide)]; exact h8) h9 (by rw [si_ne (by decide)]; exact h10) (by rw [si_ne (by decide)]; exact h11)
        · rcases hv with h | h | h | h | h | h | h
          · exact absurd h e1
          · exact Or.inl h
          · exact Or.inr (Or.inl h)
          · exact Or.inr (Or.inr (Or.inl h))
          · exact Or.inr (Or.inr (Or.inr (Or.inl h)))
          · exact Or.inr (Or.inr (Or.inr (Or.inr h)))
          · exact absurd h e5
      by_cases e3 : r = 3
      · rw [if_pos e3, h7]
        by_cases e255 : nI met = (255 : Int32)
        · rw [if_pos e255]
          refine Or.inr (Or.inr ⟨σ, si τ 45 r, rfl, rfl, frC_rf, frM_si (Or.inl rfl), ?_, ?_⟩)
          · rw [si_at, e3]
          · rw [si_ne (by decide), h8, e255]; rfl
        · rw [if_neg e255]; exact go
      · rw [if_neg e3]; exact go
  · have hn24 : n = 24 := by omega
    subst hn24
    rw [if_neg (show ¬ nI 24 < (24 : Int32) from by decide), if_pos (show nI 24 = (24 : Int32) from by decide)]
    exact Or.inr (Or.inl ⟨σ, τ, rfl, rfl, frC_rf, frM_rf⟩)
