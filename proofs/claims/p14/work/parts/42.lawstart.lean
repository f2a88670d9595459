theorem KK_of {s : State} {args : Array Value} (hts : ∀ w ∈ lw_tbl, w.before args s = true) : ∃ (D : va_G) (cI cZ : ClassId), KK D cI cZ s := by
  obtain ⟨c0, iS0, hKn0⟩ := u_known (C := RX0) (T := TX0) (N := 4) (n := 4) hts inX0 (hts _ (List.mem_of_getElem? (i := 100) (by decide +kernel)))
  obtain ⟨c1, iS1, hKn1⟩ := u_known (C := RX1) (T := TX1) (N := 2) (n := 2) hts inX1 (hts _ (List.mem_of_getElem? (i := 80) (by decide +kernel)))
  obtain ⟨c2, iS2, hKn2⟩ := u_known (C := RX2) (T := TX2) (N := 16) (n := 16) hts inX2 (hts _ (List.mem_of_getElem? (i := 135) (by decide +kernel)))
  obtain ⟨c3, iS3, hKn3⟩ := u_known (C := RX3) (T := TX3) (N := 4) (n := 4) hts inX3 (hts _ (List.mem_of_getElem? (i := 94) (by decide +kernel)))
  obtain ⟨c4, iS4, hKn4⟩ := u_known (C := RX4) (T := TX4) (N := 6) (n := 6) hts inX4 (hts _ (List.mem_of_getElem? (i := 141) (by decide +kernel)))
  obtain ⟨c5, iS5, hKn5⟩ := u_known (C := RX5) (T := TX5) (N := 7) (n := 7) hts inX5 (hts _ (List.mem_of_getElem? (i := 72) (by decide +kernel)))
  obtain ⟨c6, iS6, hKn6⟩ := u_known (C := RX6) (T := TX6) (N := 34) (n := 34) hts inX6 (hts _ (List.mem_of_getElem? (i := 588) (by decide +kernel)))
  obtain ⟨cI, hI1, hI2⟩ := arr_of (hts (.arrayClass .int) (List.mem_of_getElem? (i := 92) (by decide +kernel)))
  obtain ⟨cZ, hZ1, hZ2⟩ := arr_of (hts (.arrayClass .boolean) (List.mem_of_getElem? (i := 225) (by decide +kernel)))
  refine ⟨(fun k => if k = 0 then c0 else if k = 1 then c1 else if k = 2 then c2 else if k = 3 then c3 else if k = 4 then c4 else if k = 5 then c5 else c6, fun k => if k = 0 then iS0 else if k = 1 then iS1 else if k = 2 then iS2 else if k = 3 then iS3 else if k = 4 then iS4 else if k = 5 then iS5 else iS6), cI, cZ, ⟨?_, ?_⟩, ⟨va_Nw.of rfl (hts _ (List.mem_of_getElem? (i := 81) (by decide +kernel))), va_Nw.of rfl (hts _ (List.mem_of_getElem? (i := 95) (by decide +kernel))), va_Nw.of rfl (hts _ (List.mem_of_getElem? (i := 101) (by decide +kernel))), va_Nw.of rfl (hts _ (List.mem_of_getElem? (i := 119) (by decide +kernel))), va_Nw.of rfl (hts _ (List.mem_of_getElem? (i := 133) (by decide +kernel))), va_Nw.of rfl (hts _ (List.mem_of_getElem? (i := 171) (by decide +kernel))), va_Nw.of rfl (hts _ (List.mem_of_getElem? (i := 173) (by decide +kernel))), va_Nw.of rfl (hts _ (List.mem_of_getElem? (i := 181) (by decide +kernel))), va_Nw.of rfl (hts _ (List.mem_of_getElem? (i := 183) (by decide +kernel))), va_Nw.of rfl (hts _ (List.mem_of_getElem? (i := 185) (by decide +kernel))), va_Nw.of rfl (hts _ (List.mem_of_getElem? (i := 187) (by decide +kernel))), va_Nw.of rfl (hts _ (List.mem_of_getElem? (i := 189) (by decide +kernel))), va_Nw.of rfl (hts _ (List.mem_of_getElem? (i := 191) (by decide +kernel))), va_Nw.of rfl (hts _ (List.mem_of_getElem? (i := 362) (by decide +kernel))), va_Nw.of rfl (hts _ (List.mem_of_getElem? (i := 428) (by decide +kernel)))⟩⟩
  · intro k q hq
    match k, hq with
    | 0, hq => cases hq; exact hKn0
    | 1, hq => cases hq; exact hKn1
    | 2, hq => cases hq; exact hKn2
    | 3, hq => cases hq; exact hKn3
    | 4, hq => cases hq; exact hKn4
    | 5, hq => cases hq; exact hKn5
    | 6, hq => cases hq; exact hKn6
    | k + 7, hq => simp [vwCl] at hq
  · intro k q hq
    match k, hq with
    | 0, hq => cases hq; exact ⟨hI1, hI2⟩
    | 1, hq => cases hq; exact ⟨hZ1, hZ2⟩
    | k + 2, hq => simp at hq
theorem tabs_of {s : State} {b : Nat} (hts : ∀ w ∈ lw_tbl, w.before #[Value.ref b] s = true) (hgv : (Jvm.Cond.and given_1 narrow_1).before #[Value.ref b] s = true) : ∃ q1 q2 : Nat, va_Z "FarReach" "LEAST_REACH" "[I" (.ref q1) (fun q => s.heap.size ≤ q) s s.heap ∧ va_T .int q1 3 (fun j => .int (lr j)) (fun q => s.heap.size ≤ q) s s.heap ∧ va_Z "FarReach" "MOST_REACH" "[I" (.ref q2) (fun q => s.heap.size ≤ q) s s.heap ∧ va_T .int q2 3 (fun j => .int (mr j)) (fun q => s.heap.size ≤ q) s s.heap := by
  have hg := flat_of_before _ hgv
  obtain ⟨q1, hq1, hTq1⟩ := va_Tof (tm := (.static "FarReach" "LEAST_REACH" "[I")) (ty := .int) (N := 3) (f := fun j => .int (lr j)) (A := fun q => s.heap.size ≤ q) (by decide) (hg (.arrayOf (.static "FarReach" "LEAST_REACH" "[I") .int) (by decide +kernel)) (va_eqt (z := Int32.ofNat 3) (hg (.eq (.length (.static "FarReach" "LEAST_REACH" "[I")) (.int 3)) (by decide +kernel))) (fun j hj => by
    match j, hj with
    | 0, _ => exact va_eqt (z := 2) (hg (.eq (.elem (.static "FarReach" "LEAST_REACH" "[I") (.int 0)) (.int 2)) (by decide +kernel))
    | 1, _ => exact va_eqt (z := 4) (hg (.eq (.elem (.static "FarReach" "LEAST_REACH" "[I") (.int 1)) (.int 4)) (by decide +kernel))
    | 2, _ => exact va_eqt (z := 4) (hg (.eq (.elem (.static "FarReach" "LEAST_REACH" "[I") (.int 2)) (.int 4)) (by decide +kernel))
    | j + 3, hj => exact absurd hj (by omega)) (fun a ha => Nat.not_le.mpr ha)
  obtain ⟨q2, hq2, hTq2⟩ := va_Tof (tm := (.static "FarReach" "MOST_REACH" "[I")) (ty := .int) (N := 3) (f := fun j => .int (mr j)) (A := fun q => s.heap.size ≤ q) (by decide) (hg (.arrayOf (.static "FarReach" "MOST_REACH" "[I") .int) (by decide +kernel)) (va_eqt (z := Int32.ofNat 3) (hg (.eq (.length (.static "FarReach" "MOST_REACH" "[I")) (.int 3)) (by decide +kernel))) (fun j hj => by
    match j, hj with
    | 0, _ => exact va_eqt (z := 60) (hg (.eq (.elem (.static "FarReach" "MOST_REACH" "[I") (.int 0)) (.int 60)) (by decide +kernel))
    | 1, _ => exact va_eqt (z := 120) (hg (.eq (.elem (.static "FarReach" "MOST_REACH" "[I") (.int 1)) (.int 120)) (by decide +kernel))
    | 2, _ => exact va_eqt (z := 120) (hg (.eq (.elem (.static "FarReach" "MOST_REACH" "[I") (.int 2)) (.int 120)) (by decide +kernel))
    | j + 3, hj => exact absurd hj (by omega)) (fun a ha => Nat.not_le.mpr ha)
  have hZq1 : va_Z "FarReach" "LEAST_REACH" "[I" (.ref q1) (fun q => s.heap.size ≤ q) s s.heap := va_Zref (hts _ (List.mem_of_getElem? (i := 497) (by decide +kernel))) (hts _ (List.mem_of_getElem? (i := 63) (by decide +kernel))) hq1 (fun a ha => Nat.not_le.mpr ha)
  have hZq2 : va_Z "FarReach" "MOST_REACH" "[I" (.ref q2) (fun q => s.heap.size ≤ q) s s.heap := va_Zref (hts _ (List.mem_of_getElem? (i := 499) (by decide +kernel))) (hts _ (List.mem_of_getElem? (i := 63) (by decide +kernel))) hq2 (fun a ha => Nat.not_le.mpr ha)
  exact ⟨q1, q2, hZq1, hTq1, hZq2, hTq2⟩
set_option maxHeartbeats 4000000 in
set_option maxRecDepth 100000 in
theorem law_start {p : Program} {e : Env} {s : State} {m : MethodId} {below : List Frame} {meth : Method} {c : Code} (l : Launch) {b L : Nat} {xs : Nat → Int32} (C0 : lw_At p s m meth c b L xs) (hF : fL_l18 L xs FU sg0 ta0 0 0 = some 1) : W p l e room_1 s m #[Value.ref b] below meth c s.heap [] 0 0 (lw_Z below #[Value.ref b] s) (entryFrame m ([Value.ref b] : List Value).toArray 4) := by
  obtain ⟨hx, hb, hr, hml, hown, hts0, hX, hbl, hlocks, hgv⟩ := id C0
  have hts : ∀ w ∈ wsL_law, w.before #[Value.ref b] s = true := fun w h => hts0 w (wsL_law_in w h)
  obtain ⟨⟨dC, dI⟩, cI, cZ, hKK⟩ := KK_of hts0
  obtain ⟨q1, q2, hTb⟩ := tabs_of hts0 hgv
  have hA : ∀ q : Nat, s.heap.size ≤ q → (fun q : Nat => s.heap.size ≤ q) q := fun _ h => h
  have CF : CallFix p m c cL_law 4 s #[Value.ref b] wsL_law RL := ⟨hx, hb, hml, hown, hts⟩
  have hS : va_S (fun q : Nat => s.heap.size ≤ q) s.heap s.heap [] := va_S.rf
  have hP : va_P (dC, dI) vwCl [] s.heap := fun k q h => by simp at h
  have hD : va_D (fun q : Nat => s.heap.size ≤ q) [] := ⟨fun i j p q h => by simp at h, fun k q h => by simp at h⟩
  have hl := lv_entry ([.ref b]) (n := 4) (Nat.le_of_ble_eq_true rfl)
  rw [lg_entry_eq]
  generalize (lg_sl ([.ref b]) ++ List.replicate (4 - (lg_sl ([.ref b])).length) Slot.unset).toArray = ls at hl ⊢
  have hl : lv_has ls 4 [(0, .ref b)] := hl
  refine va_new (ci := 5) (fs := [.null, .null, .null, .null, .null, .int 0, .int 0]) (C := RX5) (T := TX5) (N := 7) hx hb hts inlX5 tyX5 tyX5_ok hown (hts _ (List.mem_of_getElem? (i := 0) rfl)) (hts _ (List.mem_of_getElem? (i := 1) rfl)) (hts _ (List.mem_of_getElem? (i := 2) rfl)) hKK.1 hP hD hS hA rfl (fun j hj => by rcases (show j = 0 ∨ j = 1 ∨ j = 2 ∨ j = 3 ∨ j = 4 ∨ j = 5 ∨ j = 6 by omega) with rfl | rfl | rfl | rfl | rfl | rfl | rfl <;> rfl) (Nat.le_of_ble_eq_true rfl) (Nat.le_of_ble_eq_true rfl) dL_law_0 (fun h0 H hP hD hS => ?_)
  have hP : va_P (dC, dI) vwCl [(h0, .inr (5, [.null, .null, .null, .null, .null, .int 0, .int 0]))] H := hP
  have hD : va_D (fun q : Nat => s.heap.size ≤ q) [(h0, .inr (5, [.null, .null, .null, .null, .null, .int 0, .int 0]))] := hD
  refine W.widen (k := 1) (n := 7) (Nat.le_of_ble_eq_true rfl) (Nat.le_of_ble_eq_true rfl) ?_
  refine lv_dup hx hb dL_law_3 rfl ?_
  have hFc := va_free (wc := [(h0, .inr (5, [.null, .null, .null, .null, .null, .int 0, .int 0]))]) hD hS hA [0] rfl
  have hPc := hP
  refine va_callv (va_runI (As := []) (rest := [.ref h0]) CF (i_X5 (l := l) (dC := dC) (dI := dI) (cI := cI) (cZ := cZ) (h0 := h0) H.size) (cwI 0 hts gL_law_X5_init rfl rfl rfl (hts _ (List.mem_of_getElem? (i := 2) rfl)) (hts _ (List.mem_of_getElem? (i := 6) rfl)) (hts _ (List.mem_of_getElem? (i := 7) rfl)) rfl cdiX5_init ⟨Nat.le_of_ble_eq_true rfl, Nat.le_of_ble_eq_true rfl⟩) ⟨Pk_blind, fun U hU hW => ⟨rfl, by rw [hU], by rw [hU]; exact hPc, hKK.warm hW⟩⟩ rfl rfl hl.1 rfl (lv_room (Nat.le_of_ble_eq_true rfl)) dL_law_4 ⟨Nat.le_of_ble_eq_true rfl, Nat.le_of_ble_eq_true rfl⟩) hS (fun q _ h => hFc q h) hFc (fun u t H1 locs ht hvm hw hB hz1 hk1 hS => ?_)
  obtain ⟨hP1, hD1⟩ := hB
  rw [ht] at hP1
  obtain ⟨hP1, hD1⟩ := wX5_of hP1 hD1
  have hD1 := hD1.weaken (B := fun q : Nat => s.heap.size ≤ q) (fun k q _ h => hFc q.1 h)
  obtain ⟨a, ea⟩ : ∃ z, z = aC0 h0 u := ⟨_, rfl⟩
  have ea0 : h0 = a 0 := by rw [ea]; rfl
  rw [← ea] at hP1 hD1
  rw [ea0]
  refine W.widen (k := 30) (n := 494) (Nat.le_of_ble_eq_true rfl) (Nat.le_of_ble_eq_true rfl) ?_
  refine lv_astore_n (lv' := [(1, .ref (a 0)), (0, .ref b)]) hx hb dL_law_7 rfl hl (by decide) rfl (fun ls hl => ?_)
  clear hP hD hPc hFc
  have hP := hP1
  have hD := hD1
  clear hP1 hD1
  refine va_new (ci := 6) (fs := [.int 0, .null, .int 0, .null, .null, .int 0, .int 0, .null, .int 0, .null, .null, .int 0, .int 0, .int 0, .null, .int 0, .null, .null, .int 0, .null, .null, .null, .null, .null, .null, .null, .null, .int 0, .int 0, .int 0, .int 0, .int 0, .int 0, .long 0]) (C := RX6) (T := TX6) (N := 34) hx hb hts inlX6 tyX6 tyX6_ok hown (hts _ (List.mem_of_getElem? (i := 3) rfl)) (hts _ (List.mem_of_getElem? (i := 4) rfl)) (hts _ (List.mem_of_getElem? (i := 5) rfl)) hKK.1 hP hD hS hA rfl (fun j hj => by rcases (show j = 0 ∨ j = 1 ∨ j = 2 ∨ j = 3 ∨ j = 4 ∨ j = 5 ∨ j = 6 ∨ j = 7 ∨ j = 8 ∨ j = 9 ∨ j = 10 ∨ j = 11 ∨ j = 12 ∨ j = 13 ∨ j = 14 ∨ j = 15 ∨ j = 16 ∨ j = 17 ∨ j = 18 ∨ j = 19 ∨ j = 20 ∨ j = 21 ∨ j = 22 ∨ j = 23 ∨ j = 24 ∨ j = 25 ∨ j = 26 ∨ j = 27 ∨ j = 28 ∨ j = 29 ∨ j = 30 ∨ j = 31 ∨ j = 32 ∨ j = 33 by omega) with rfl | rfl | rfl | rfl | rfl | rfl | rfl | rfl | rfl | rfl | rfl | rfl | rfl | rfl | rfl | rfl | rfl | rfl | rfl | rfl | rfl | rfl | rfl | rfl | rfl | rfl | rfl | rfl | rfl | rfl | rfl | rfl | rfl | rfl <;> rfl) (Nat.le_of_ble_eq_true rfl) (Nat.le_of_ble_eq_true rfl) dL_law_8 (fun h6 H hP hD hS => ?_)
  refine W.widen (k := 31) (n := 528) (Nat.le_of_ble_eq_true rfl) (Nat.le_of_ble_eq_true rfl) ?_
  refine lv_dup hx hb dL_law_11 rfl ?_
  have hPc := hP.sub (ws' := [(h6, .inr (6, [.int 0, .null, .int 0, .null, .null, .int 0, .int 0, .null, .int 0, .null, .null, .int 0, .int 0, .int 0, .null, .int 0, .null, .null, .int 0, .null, .null, .null, .null, .null, .null, .null, .null, .int 0, .int 0, .int 0, .int 0, .int 0, .int 0, .long 0]))]) [30] rfl
  have hFc := va_free (wc := [(h6, .inr (6, [.int 0, .null, .int 0, .null, .null, .int 0, .int 0, .null, .int 0, .null, .null, .int 0, .int 0, .int 0, .null, .int 0, .null, .null, .int 0, .null, .null, .null, .null, .null, .null, .null, .null, .int 0, .int 0, .int 0, .int 0, .int 0, .int 0, .long 0]))]) hD hS hA [30] rfl
  refine va_callv (va_runI (As := []) (rest := [.ref h6]) CF (i_X6 (l := l) (dC := dC) (dI := dI) (cI := cI) (cZ := cZ) (h0 := h6) H.size) (cwI 0 hts gL_law_X6_init rfl rfl rfl (hts _ (List.mem_of_getElem? (i := 5) rfl)) (hts _ (List.mem_of_getElem? (i := 77) rfl)) (hts _ (List.mem_of_getElem? (i := 78) rfl)) rfl cdiX6_init ⟨Nat.le_of_ble_eq_true rfl, Nat.le_of_ble_eq_true rfl⟩) ⟨Pk_blind, fun U hU hW => ⟨rfl, by rw [hU], by rw [hU]; exact hPc, hKK.warm hW⟩⟩ rfl rfl hl.1 rfl (lv_room (Nat.le_of_ble_eq_true rfl)) dL_law_12 ⟨Nat.le_of_ble_eq_true rfl, Nat.le_of_ble_eq_true rfl⟩) hS (fun q _ h => hFc q h) hFc (fun u t H1 locs ht hvm hw hB hz1 hk1 hS => ?_)
  obtain ⟨hP1, hD1⟩ := hB
  rw [ht] at hP1
  obtain ⟨hP, hD⟩ := va_join (wr := wdC cI cZ a sg0) (w1 := wi_X6 cI cZ h6 u) hP hD [30] [0, 1, 2, 3, 4, 5, 6, 7, 8, 9, 10, 11, 12, 13, 14, 15, 16, 17, 18, 19, 20, 21, 22, 23, 24, 25, 26, 27, 28, 29] rfl rfl (by decide) (by decide) hk1 hFc hP1 hD1
  have hP2 := hP.sub (ws' := wdC cI cZ a sg0 ++ wdM cI cZ (aM0 h6 u) 0 ta0) [0, 1, 2, 3, 4, 5, 6, 7, 8, 9, 10, 11, 12, 13, 14, 15, 16, 17, 18, 19, 20, 21, 22, 23, 24, 25, 26, 27, 28, 29, 30, 31, 32, 33, 34, 35, 36, 37, 38, 39, 40, 41, 42, 43, 44, 45, 46, 47] rfl
  have hD2 := hD.sub (ws' := wdC cI cZ a sg0 ++ wdM cI cZ (aM0 h6 u) 0 ta0) [0, 1, 2, 3, 4, 5, 6, 7, 8, 9, 10, 11, 12, 13, 14, 15, 16, 17, 18, 19, 20, 21, 22, 23, 24, 25, 26, 27, 28, 29, 30, 31, 32, 33, 34, 35, 36, 37, 38, 39, 40, 41, 42, 43, 44, 45, 46, 47] (by decide) rfl
  obtain ⟨a2, ea2⟩ : ∃ z, z = aM0 h6 u := ⟨_, rfl⟩
  have ea20 : h6 = a2 0 := by rw [ea2]; rfl
  rw [← ea2] at hP2 hD2
  rw [ea20]
  have hPC := hP2.sub (ws' := wdC cI cZ a sg0) [0, 1, 2, 3, 4, 5, 6, 7, 8, 9, 10, 11, 12, 13, 14, 15, 16, 17, 18, 19, 20, 21, 22, 23, 24, 25, 26, 27, 28, 29] rfl
  have hPM := hP2.sub (ws' := wdM cI cZ a2 0 ta0) [30, 31, 32, 33, 34, 35, 36, 37, 38, 39, 40, 41, 42, 43, 44, 45, 46, 47] rfl
  have hd : dj 30 18 a a2 s.heap.size := dj_of wkC wkM rfl rfl hD2
  refine W.widen (k := 48) (n := 865) (Nat.le_of_ble_eq_true rfl) (Nat.le_of_ble_eq_true rfl) ?_
  refine lv_astore_n (lv' := [(2, .ref (a2 0)), (1, .ref (a 0)), (0, .ref b)]) hx hb dL_law_15 rfl hl (by decide) rfl (fun ls hl => ?_)
  refine lv_iconst (v := 0) hx hb dL_law_16 (by decide) ?_
  refine lv_istore_n (lv' := [(3, .int 0), (2, .ref (a2 0)), (1, .ref (a 0)), (0, .ref b)]) hx hb dL_law_17 rfl hl (by decide) rfl (fun ls hl => ?_)
  exact law_loop C0 hKK hd hTb FU sg0 ta0 0 0 _ _ _ hF ⟨hPC, hPM, hS⟩ (lv_sub hl [3, 2, 1, 0] rfl)
