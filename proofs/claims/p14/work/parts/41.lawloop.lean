def fL_s18 (L : Nat) (xs : Nat → Int32) (k18 : St → St → Int64 → Int32 → Option Int32) (σ τ : St) (hh : Int64) (y3 : Int32) : Option Int32 :=
  (if ((Int32.ofNat L) - (3 : Int32)) < y3 then (some (1 : Int32)) else ((ck (¬ (y3 < 0 ∨ L ≤ Int32.toNatClampNeg y3)) <| (if ((xs (Int32.toNatClampNeg y3)) &&& (15 : Int32)) = (0 : Int32) then ((ck (¬ ((y3 + (1 : Int32)) < 0 ∨ L ≤ Int32.toNatClampNeg (y3 + (1 : Int32)))) <| (bd2 (fX5_letter σ (xs (Int32.toNatClampNeg (y3 + (1 : Int32))))) fun r5 s6 => (ck (¬ ((y3 + (1 : Int32)) < 0 ∨ L ≤ Int32.toNatClampNeg (y3 + (1 : Int32)))) <| (bd2 (fX6_letter τ (xs (Int32.toNatClampNeg (y3 + (1 : Int32))))) fun r9 s10 => k18 s6 s10 hh (y3 + (3 : Int32))))))) else (if ((xs (Int32.toNatClampNeg y3)) &&& (15 : Int32)) = (1 : Int32) then ((bd2 (fX5_blank σ ) fun r13 s14 => (bd2 (fX6_blank τ ) fun r16 s17 => k18 s14 s17 hh (y3 + (3 : Int32))))) else (if ((xs (Int32.toNatClampNeg y3)) &&& (15 : Int32)) = (2 : Int32) then ((bd2 (fX5_fault σ ) fun r20 s21 => (bd2 (fX6_fault τ ) fun r23 s24 => k18 s21 s24 hh (y3 + (3 : Int32))))) else (if ((xs (Int32.toNatClampNeg y3)) &&& (15 : Int32)) = (3 : Int32) then ((bd2 (fX5_code σ ) fun r27 s28 => (bd2 (fX6_code τ ) fun r30 s31 => k18 s28 s31 hh (y3 + (3 : Int32))))) else (if ((xs (Int32.toNatClampNeg y3)) &&& (15 : Int32)) = (4 : Int32) then ((ck (¬ ((y3 + (1 : Int32)) < 0 ∨ L ≤ Int32.toNatClampNeg (y3 + (1 : Int32)))) <| (ck (¬ ((y3 + (2 : Int32)) < 0 ∨ L ≤ Int32.toNatClampNeg (y3 + (2 : Int32)))) <| (bd2 (fX5_reach σ (xs (Int32.toNatClampNeg (y3 + (1 : Int32)))) (xs (Int32.toNatClampNeg (y3 + (2 : Int32))))) fun r36 s37 => (ck (¬ ((y3 + (1 : Int32)) < 0 ∨ L ≤ Int32.toNatClampNeg (y3 + (1 : Int32)))) <| (ck (¬ ((y3 + (2 : Int32)) < 0 ∨ L ≤ Int32.toNatClampNeg (y3 + (2 : Int32)))) <| (bd2 (fX6_reach τ (xs (Int32.toNatClampNeg (y3 + (1 : Int32)))) (xs (Int32.toNatClampNeg (y3 + (2 : Int32))))) fun r41 s42 => k18 s37 s42 hh (y3 + (3 : Int32))))))))) else (if ((xs (Int32.toNatClampNeg y3)) &&& (15 : Int32)) = (5 : Int32) then ((ck (¬ ((y3 + (1 : Int32)) < 0 ∨ L ≤ Int32.toNatClampNeg (y3 + (1 : Int32)))) <| (ck (¬ ((y3 + (2 : Int32)) < 0 ∨ L ≤ Int32.toNatClampNeg (y3 + (2 : Int32)))) <| (bd2 (fX5_grow σ (xs (Int32.toNatClampNeg (y3 + (1 : Int32)))) (xs (Int32.toNatClampNeg (y3 + (2 : Int32))))) fun r47 s48 => (ck (¬ ((y3 + (1 : Int32)) < 0 ∨ L ≤ Int32.toNatClampNeg (y3 + (1 : Int32)))) <| (ck (¬ ((y3 + (2 : Int32)) < 0 ∨ L ≤ Int32.toNatClampNeg (y3 + (2 : Int32)))) <| (bd2 (fX6_grow τ (xs (Int32.toNatClampNeg (y3 + (1 : Int32)))) (xs (Int32.toNatClampNeg (y3 + (2 : Int32))))) fun r52 s53 => k18 s48 s53 hh (y3 + (3 : Int32))))))))) else (if ((xs (Int32.toNatClampNeg y3)) &&& (15 : Int32)) = (6 : Int32) then ((ck (¬ ((y3 + (1 : Int32)) < 0 ∨ L ≤ Int32.toNatClampNeg (y3 + (1 : Int32)))) <| (ck (¬ ((y3 + (2 : Int32)) < 0 ∨ L ≤ Int32.toNatClampNeg (y3 + (2 : Int32)))) <| (bd1 (fX5_item σ (xs (Int32.toNatClampNeg (y3 + (1 : Int32)))) (xs (Int32.toNatClampNeg (y3 + (2 : Int32))))) fun r58 => (ck (¬ ((y3 + (1 : Int32)) < 0 ∨ L ≤ Int32.toNatClampNeg (y3 + (1 : Int32)))) <| (ck (¬ ((y3 + (2 : Int32)) < 0 ∨ L ≤ Int32.toNatClampNeg (y3 + (2 : Int32)))) <| (bd1 (fX6_item τ (xs (Int32.toNatClampNeg (y3 + (1 : Int32)))) (xs (Int32.toNatClampNeg (y3 + (2 : Int32))))) fun r63 => k18 σ τ hh (y3 + (3 : Int32))))))))) else (if ((xs (Int32.toNatClampNeg y3)) &&& (15 : Int32)) = (7 : Int32) then ((ck (¬ ((y3 + (1 : Int32)) < 0 ∨ L ≤ Int32.toNatClampNeg (y3 + (1 : Int32)))) <| (ck (¬ ((y3 + (2 : Int32)) < 0 ∨ L ≤ Int32.toNatClampNeg (y3 + (2 : Int32)))) <| (bd1 (fX5_island σ (xs (Int32.toNatClampNeg (y3 + (1 : Int32)))) (xs (Int32.toNatClampNeg (y3 + (2 : Int32))))) fun r69 => (ck (¬ ((y3 + (1 : Int32)) < 0 ∨ L ≤ Int32.toNatClampNeg (y3 + (1 : Int32)))) <| (ck (¬ ((y3 + (2 : Int32)) < 0 ∨ L ≤ Int32.toNatClampNeg (y3 + (2 : Int32)))) <| (bd1 (fX6_island τ (xs (Int32.toNatClampNeg (y3 + (1 : Int32)))) (xs (Int32.toNatClampNeg (y3 + (2 : Int32))))) fun r74 => k18 σ τ hh (y3 + (3 : Int32))))))))) else (if ((xs (Int32.toNatClampNeg y3)) &&& (15 : Int32)) = (8 : Int32) then ((ck (¬ ((y3 + (1 : Int32)) < 0 ∨ L ≤ Int32.toNatClampNeg (y3 + (1 : Int32)))) <| (ck (¬ ((y3 + (2 : Int32)) < 0 ∨ L ≤ Int32.toNatClampNeg (y3 + (2 : Int32)))) <| (bd1 (fX5_constant σ (xs (Int32.toNatClampNeg (y3 + (1 : Int32)))) (xs (Int32.toNatClampNeg (y3 + (2 : Int32))))) fun r80 => (ck (¬ ((y3 + (1 : Int32)) < 0 ∨ L ≤ Int32.toNatClampNeg (y3 + (1 : Int32)))) <| (ck (¬ ((y3 + (2 : Int32)) < 0 ∨ L ≤ Int32.toNatClampNeg (y3 + (2 : Int32)))) <| (bd1 (fX6_constant τ (xs (Int32.toNatClampNeg (y3 + (1 : Int32)))) (xs (Int32.toNatClampNeg (y3 + (2 : Int32))))) fun r85 => k18 σ τ hh (y3 + (3 : Int32))))))))) else (if ((xs (Int32.toNatClampNeg y3)) &&& (15 : Int32)) = (9 : Int32) then ((ck (¬ ((y3 + (1 : Int32)) < 0 ∨ L ≤ Int32.toNatClampNeg (y3 + (1 : Int32)))) <| (bd1 (fX5_hops σ (xs (Int32.toNatClampNeg (y3 + (1 : Int32))))) fun r90 => (ck (¬ ((y3 + (1 : Int32)) < 0 ∨ L ≤ Int32.toNatClampNeg (y3 + (1 : Int32)))) <| (bd1 (fX6_hops τ (xs (Int32.toNatClampNeg (y3 + (1 : Int32))))) fun r94 => k18 σ τ hh (y3 + (3 : Int32))))))) else (if ((xs (Int32.toNatClampNeg y3)) &&& (15 : Int32)) = (10 : Int32) then ((ck (¬ ((y3 + (1 : Int32)) < 0 ∨ L ≤ Int32.toNatClampNeg (y3 + (1 : Int32)))) <| (bd1 (fX5_placed σ (xs (Int32.toNatClampNeg (y3 + (1 : Int32))))) fun r99 => (ck (¬ ((y3 + (1 : Int32)) < 0 ∨ L ≤ Int32.toNatClampNeg (y3 + (1 : Int32)))) <| (bd1 (fX6_placed τ (xs (Int32.toNatClampNeg (y3 + (1 : Int32))))) fun r103 => k18 σ τ hh (y3 + (3 : Int32))))))) else (if ((xs (Int32.toNatClampNeg y3)) &&& (15 : Int32)) = (11 : Int32) then ((ck (¬ ((y3 + (1 : Int32)) < 0 ∨ L ≤ Int32.toNatClampNeg (y3 + (1 : Int32)))) <| (bd1 (fX5_count σ (xs (Int32.toNatClampNeg (y3 + (1 : Int32))))) fun r108 => (ck (¬ ((y3 + (1 : Int32)) < 0 ∨ L ≤ Int32.toNatClampNeg (y3 + (1 : Int32)))) <| (bd1 (fX6_count τ (xs (Int32.toNatClampNeg (y3 + (1 : Int32))))) fun r112 => k18 σ τ hh (y3 + (3 : Int32))))))) else (if ((xs (Int32.toNatClampNeg y3)) &&& (15 : Int32)) = (12 : Int32) then ((bd1 (fX5_digest σ ) fun r116 => (bd2 (fX6_digest τ hh ) fun r119 s120 => (if (lg_cmp r116 r119) = 0 then (k18 σ τ s120 (y3 + (3 : Int32))) else (some (0 : Int32)))))) else k18 σ τ hh (y3 + (3 : Int32))))))))))))))))))
def fL_l18 (L : Nat) (xs : Nat → Int32) : Nat → St → St → Int64 → Int32 → Option Int32 := itr (fL_s18 L xs) (fun _ _ _ _ => none)
set_option maxHeartbeats 4000000 in
set_option maxRecDepth 100000 in
theorem law_step {p : Program} {l : Launch} {e : Env} {s : State} {m : MethodId} {below : List Frame} {meth : Method} {c : Code} {b L : Nat} {xs : Nat → Int32} {dC : Nat → ClassId} {dI : Nat → Nat → Nat} {cI cZ : ClassId} {a a2 : Nat → Nat} {q1 q2 : Nat} (C0 : lw_At p s m meth c b L xs) (hKK : KK (dC, dI) cI cZ s) (hd : dj 30 18 a a2 s.heap.size) (hTb : va_Z "FarReach" "LEAST_REACH" "[I" (.ref q1) (fun q => s.heap.size ≤ q) s s.heap ∧ va_T .int q1 3 (fun j => .int (lr j)) (fun q => s.heap.size ≤ q) s s.heap ∧ va_Z "FarReach" "MOST_REACH" "[I" (.ref q2) (fun q => s.heap.size ≤ q) s s.heap ∧ va_T .int q2 3 (fun j => .int (mr j)) (fun q => s.heap.size ≤ q) s s.heap) (k18 : St → St → Int64 → Int32 → Option Int32) (hk18 : ∀ (σ τ : St) (hh : Int64) (y3 : Int32) (H : Heap) (locs : List Loc) (ls : Array Slot), k18 σ τ hh y3 = some 1 → zL (dC, dI) (wdC cI cZ a σ) (wdM cI cZ a2 hh τ) s.heap H locs → lv_has ls 4 [(0, .ref b), (1, .ref (a 0)), (2, .ref (a2 0)), (3, .int y3)] → W p l e room_1 s m #[Value.ref b] below meth c H locs 48 865 (lw_Z below #[Value.ref b] s) (F0 m 18 ls [])) : ∀ (σ τ : St) (hh : Int64) (y3 : Int32) (H : Heap) (locs : List Loc) (ls : Array Slot), fL_s18 L xs k18 σ τ hh y3 = some 1 → zL (dC, dI) (wdC cI cZ a σ) (wdM cI cZ a2 hh τ) s.heap H locs → lv_has ls 4 [(0, .ref b), (1, .ref (a 0)), (2, .ref (a2 0)), (3, .int y3)] → W p l e room_1 s m #[Value.ref b] below meth c H locs 48 865 (lw_Z below #[Value.ref b] s) (F0 m 18 ls []) := by
  obtain ⟨hx, hb, hr, hml, hown, hts0, hX, hbl, hlocks, hgv⟩ := id C0
  have hts : ∀ w ∈ wsL_law, w.before #[Value.ref b] s = true := fun w h => hts0 w (wsL_law_in w h)
  have hbA : ¬ (fun q : Nat => s.heap.size ≤ q) b := Nat.not_le.mpr hbl
  have CF : CallFix p m c cL_law 4 s #[Value.ref b] wsL_law RL := ⟨hx, hb, hml, hown, hts⟩
  intro σ τ hh y3 H locs ls h hz hl
  unfold fL_s18 at h
  refine lv_iload_n hx hb dL_law_18 rfl (lv_at hl 3 rfl) ?_
  refine lv_aload_n hx hb dL_law_19 rfl (lv_at hl 0 rfl) ?_
  refine va_slen hx hb hX hbl hbA hz.2.2 dL_law_20 ?_
  refine lv_iconst (v := (3 : Int32)) hx hb dL_law_21 (by decide) ?_
  refine lv_isub hx hb dL_law_22 ?_
  refine lv_icmp_gt (tgt := 416) hx hb dL_law_23 (by decide) (fun c1 => ?_) (fun c1 => ?_)
  · replace h := ite_t c1 h
    refine lv_iconst (v := (1 : Int32)) hx hb dL_law_416 (by decide) ?_
    refine va_forget (fun q hq => hz.2.2.2.2 q hq) ?_
    refine W.widen (k := 600000) (n := 7302250) (Nat.le_of_ble_eq_true rfl) (Nat.le_of_ble_eq_true rfl) ?_
    exact lw_ret hx hb hr hlocks dL_law_417
  · replace h := ite_f c1 h
    refine lv_aload_n hx hb dL_law_26 rfl (lv_at hl 0 rfl) ?_
    refine lv_iload_n hx hb dL_law_27 rfl (lv_at hl 3 rfl) ?_
    obtain ⟨c2, h⟩ := ck_e h
    refine va_sld hx hb hX hbl hbA hz.2.2 c2 dL_law_28 ?_
    refine lv_bipush (v := (15 : Int32)) hx hb dL_law_29 (by decide) ?_
    refine lv_iand hx hb dL_law_31 ?_
    by_cases c3 : ((xs (Int32.toNatClampNeg y3)) &&& (15 : Int32)) = (0 : Int32)
    · replace h := ite_t c3 h
      refine lv_tableIn (tgt := 100) (off := 68) hx hb dL_law_32 (by rw [c3]; decide) (by rw [c3]; decide) (by rw [c3]; rfl) (by decide) ?_
      refine lv_aload_n hx hb dL_law_100 rfl (lv_at hl 1 rfl) ?_
      refine lv_aload_n hx hb dL_law_101 rfl (lv_at hl 0 rfl) ?_
      refine lv_iload_n hx hb dL_law_102 rfl (lv_at hl 3 rfl) ?_
      refine lv_iconst (v := (1 : Int32)) hx hb dL_law_103 (by decide) ?_
      refine lv_iadd hx hb dL_law_104 ?_
      obtain ⟨c4, h⟩ := ck_e h
      refine va_sld hx hb hX hbl hbA hz.2.2 c4 dL_law_105 ?_
      obtain ⟨r5, s6, e7, h⟩ := bd2_e h
      refine lcallCi (As := [.int (xs (Int32.toNatClampNeg (y3 + (1 : Int32))))]) (rest := []) CF hKK hd wkM (KX5_letter (dC := dC) (dI := dI) (cI := cI) (cZ := cZ) (a := a) hd.1 e7) (cwV 1 hts gL_law_X5_letter rfl rfl rfl cdX5_letter ⟨Nat.le_of_ble_eq_true rfl, Nat.le_of_ble_eq_true rfl⟩) 0 5 rfl rfl hz rfl hl.1 rfl (Nat.le_of_ble_eq_true rfl) dL_law_106 ⟨Nat.le_of_ble_eq_true rfl, Nat.le_of_ble_eq_true rfl⟩ (fun H locs hz => ?_)
      refine lv_pop hx hb dL_law_109 rfl ?_
      refine lv_aload_n hx hb dL_law_110 rfl (lv_at hl 2 rfl) ?_
      refine lv_aload_n hx hb dL_law_111 rfl (lv_at hl 0 rfl) ?_
      refine lv_iload_n hx hb dL_law_112 rfl (lv_at hl 3 rfl) ?_
      refine lv_iconst (v := (1 : Int32)) hx hb dL_law_113 (by decide) ?_
      refine lv_iadd hx hb dL_law_114 ?_
      obtain ⟨c8, h⟩ := ck_e h
      refine va_sld hx hb hX hbl hbA hz.2.2 c8 dL_law_115 ?_
      obtain ⟨r9, s10, e11, h⟩ := bd2_e h
      refine lcallMi (As := [.int (xs (Int32.toNatClampNeg (y3 + (1 : Int32))))]) (rest := []) CF hKK hd wkC (KX6_letter (dC := dC) (dI := dI) (cI := cI) (cZ := cZ) (a := a2) hd.2.1 e11) (cwV 1 hts gL_law_X6_letter rfl rfl rfl cdX6_letter ⟨Nat.le_of_ble_eq_true rfl, Nat.le_of_ble_eq_true rfl⟩) 0 6 rfl rfl hz rfl hl.1 rfl (Nat.le_of_ble_eq_true rfl) dL_law_116 ⟨Nat.le_of_ble_eq_true rfl, Nat.le_of_ble_eq_true rfl⟩ (fun H locs hz => ?_)
      refine lv_pop hx hb dL_law_119 rfl ?_
      refine lv_goto (tgt := 410) hx hb dL_law_120 (by decide) ?_
      refine lv_iinc (v := (y3 + (3 : Int32))) (lv' := [(3, .int (y3 + (3 : Int32))), (0, .ref b), (1, .ref (a 0)), (2, .ref (a2 0))]) hx hb dL_law_410 hl (k := 3) rfl rfl (by decide) rfl (fun ls hl => ?_)
      refine lv_goto (tgt := 18) hx hb dL_law_413 (by decide) ?_
      exact hk18 s6 s10 hh (y3 + (3 : Int32)) _ _ _ h hz (lv_sub hl [1, 2, 3, 0] rfl)
    replace h := ite_f c3 h
    by_cases c12 : ((xs (Int32.toNatClampNeg y3)) &&& (15 : Int32)) = (1 : Int32)
    · replace h := ite_t c12 h
      refine lv_tableIn (tgt := 123) (off := 91) hx hb dL_law_32 (by rw [c12]; decide) (by rw [c12]; decide) (by rw [c12]; rfl) (by decide) ?_
      refine lv_aload_n hx hb dL_law_123 rfl (lv_at hl 1 rfl) ?_
      obtain ⟨r13, s14, e15, h⟩ := bd2_e h
      refine lcallCi (As := []) (rest := []) CF hKK hd wkM (KX5_blank (dC := dC) (dI := dI) (cI := cI) (cZ := cZ) (a := a) hd.1 e15) (cwV 0 hts gL_law_X5_blank rfl rfl rfl cdX5_blank ⟨Nat.le_of_ble_eq_true rfl, Nat.le_of_ble_eq_true rfl⟩) 0 5 rfl rfl hz rfl hl.1 rfl (Nat.le_of_ble_eq_true rfl) dL_law_124 ⟨Nat.le_of_ble_eq_true rfl, Nat.le_of_ble_eq_true rfl⟩ (fun H locs hz => ?_)
      refine lv_pop hx hb dL_law_127 rfl ?_
      refine lv_aload_n hx hb dL_law_128 rfl (lv_at hl 2 rfl) ?_
      obtain ⟨r16, s17, e18, h⟩ := bd2_e h
      refine lcallMi (As := []) (rest := []) CF hKK hd wkC (KX6_blank (dC := dC) (dI := dI) (cI := cI) (cZ := cZ) (a := a2) hd.2.1 e18) (cwV 0 hts gL_law_X6_blank rfl rfl rfl cdX6_blank ⟨Nat.le_of_ble_eq_true rfl, Nat.le_of_ble_eq_true rfl⟩) 0 6 rfl rfl hz rfl hl.1 rfl (Nat.le_of_ble_eq_true rfl) dL_law_129 ⟨Nat.le_of_ble_eq_true rfl, Nat.le_of_ble_eq_true rfl⟩ (fun H locs hz => ?_)
      refine lv_pop hx hb dL_law_132 rfl ?_
      refine lv_goto (tgt := 410) hx hb dL_law_133 (by decide) ?_
      refine lv_iinc (v := (y3 + (3 : Int32))) (lv' := [(3, .int (y3 + (3 : Int32))), (0, .ref b), (1, .ref (a 0)), (2, .ref (a2 0))]) hx hb dL_law_410 hl (k := 3) rfl rfl (by decide) rfl (fun ls hl => ?_)
      refine lv_goto (tgt := 18) hx hb dL_law_413 (by decide) ?_
      exact hk18 s14 s17 hh (y3 + (3 : Int32)) _ _ _ h hz (lv_sub hl [1, 2, 3, 0] rfl)
    replace h := ite_f c12 h
    by_cases c19 : ((xs (Int32.toNatClampNeg y3)) &&& (15 : Int32)) = (2 : Int32)
    · replace h := ite_t c19 h
      refine lv_tableIn (tgt := 136) (off := 104) hx hb dL_law_32 (by rw [c19]; decide) (by rw [c19]; decide) (by rw [c19]; rfl) (by decide) ?_
      refine lv_aload_n hx hb dL_law_136 rfl (lv_at hl 1 rfl) ?_
      obtain ⟨r20, s21, e22, h⟩ := bd2_e h
      refine lcallCi (As := []) (rest := []) CF hKK hd wkM (KX5_fault (dC := dC) (dI := dI) (cI := cI) (cZ := cZ) (a := a) hd.1 e22) (cwV 0 hts gL_law_X5_fault rfl rfl rfl cdX5_fault ⟨Nat.le_of_ble_eq_true rfl, Nat.le_of_ble_eq_true rfl⟩) 0 5 rfl rfl hz rfl hl.1 rfl (Nat.le_of_ble_eq_true rfl) dL_law_137 ⟨Nat.le_of_ble_eq_true rfl, Nat.le_of_ble_eq_true rfl⟩ (fun H locs hz => ?_)
      refine lv_pop hx hb dL_law_140 rfl ?_
      refine lv_aload_n hx hb dL_law_141 rfl (lv_at hl 2 rfl) ?_
      obtain ⟨r23, s24, e25, h⟩ := bd2_e h
      refine lcallMi (As := []) (rest := []) CF hKK hd wkC (KX6_fault (dC := dC) (dI := dI) (cI := cI) (cZ := cZ) (a := a2) hd.2.1 e25) (cwV 0 hts gL_law_X6_fault rfl rfl rfl cdX6_fault ⟨Nat.le_of_ble_eq_true rfl, Nat.le_of_ble_eq_true rfl⟩) 0 6 rfl rfl hz rfl hl.1 rfl (Nat.le_of_ble_eq_true rfl) dL_law_142 ⟨Nat.le_of_ble_eq_true rfl, Nat.le_of_ble_eq_true rfl⟩ (fun H locs hz => ?_)
      refine lv_pop hx hb dL_law_145 rfl ?_
      refine lv_goto (tgt := 410) hx hb dL_law_146 (by decide) ?_
      refine lv_iinc (v := (y3 + (3 : Int32))) (lv' := [(3, .int (y3 + (3 : Int32))), (0, .ref b), (1, .ref (a 0)), (2, .ref (a2 0))]) hx hb dL_law_410 hl (k := 3) rfl rfl (by decide) rfl (fun ls hl => ?_)
      refine lv_goto (tgt := 18) hx hb dL_law_413 (by decide) ?_
      exact hk18 s21 s24 hh (y3 + (3 : Int32)) _ _ _ h hz (lv_sub hl [1, 2, 3, 0] rfl)
    replace h := ite_f c19 h
    by_cases c26 : ((xs (Int32.toNatClampNeg y3)) &&& (15 : Int32)) = (3 : Int32)
    · replace h := ite_t c26 h
      refine lv_tableIn (tgt := 149) (off := 117) hx hb dL_law_32 (by rw [c26]; decide) (by rw [c26]; decide) (by rw [c26]; rfl) (by decide) ?_
      refine lv_aload_n hx hb dL_law_149 rfl (lv_at hl 1 rfl) ?_
      obtain ⟨r27, s28, e29, h⟩ := bd2_e h
      refine lcallCi (As := []) (rest := []) CF hKK hd wkM (KX5_code (dC := dC) (dI := dI) (cI := cI) (cZ := cZ) (a := a) hd.1 e29) (cwV 0 hts gL_law_X5_code rfl rfl rfl cdX5_code ⟨Nat.le_of_ble_eq_true rfl, Nat.le_of_ble_eq_true rfl⟩) 0 5 rfl rfl hz rfl hl.1 rfl (Nat.le_of_ble_eq_true rfl) dL_law_150 ⟨Nat.le_of_ble_eq_true rfl, Nat.le_of_ble_eq_true rfl⟩ (fun H locs hz => ?_)
      refine lv_pop hx hb dL_law_153 rfl ?_
      refine lv_aload_n hx hb dL_law_154 rfl (lv_at hl 2 rfl) ?_
      obtain ⟨r30, s31, e32, h⟩ := bd2_e h
      refine lcallMi (As := []) (rest := []) CF hKK hd wkC (KX6_code (dC := dC) (dI := dI) (cI := cI) (cZ := cZ) (a := a2) hd.2.1 e32) (cwV 0 hts gL_law_X6_code rfl rfl rfl cdX6_code ⟨Nat.le_of_ble_eq_true rfl, Nat.le_of_ble_eq_true rfl⟩) 0 6 rfl rfl hz rfl hl.1 rfl (Nat.le_of_ble_eq_true rfl) dL_law_155 ⟨Nat.le_of_ble_eq_true rfl, Nat.le_of_ble_eq_true rfl⟩ (fun H locs hz => ?_)
      refine lv_pop hx hb dL_law_158 rfl ?_
      refine lv_goto (tgt := 410) hx hb dL_law_159 (by decide) ?_
      refine lv_iinc (v := (y3 + (3 : Int32))) (lv' := [(3, .int (y3 + (3 : Int32))), (0, .ref b), (1, .ref (a 0)), (2, .ref (a2 0))]) hx hb dL_law_410 hl (k := 3) rfl rfl (by decide) rfl (fun ls hl => ?_)
      refine lv_goto (tgt := 18) hx hb dL_law_413 (by decide) ?_
      exact hk18 s28 s31 hh (y3 + (3 : Int32)) _ _ _ h hz (lv_sub hl [1, 2, 3, 0] rfl)
    replace h := ite_f c26 h
    by_cases c33 : ((xs (Int32.toNatClampNeg y3)) &&& (15 : Int32)) = (4 : Int32)
    · replace h := ite_t c33 h
      refine lv_tableIn (tgt := 162) (off := 130) hx hb dL_law_32 (by rw [c33]; decide) (by rw [c33]; decide) (by rw [c33]; rfl) (by decide) ?_
      refine lv_aload_n hx hb dL_law_162 rfl (lv_at hl 1 rfl) ?_
      refine lv_aload_n hx hb dL_law_163 rfl (lv_at hl 0 rfl) ?_
      refine lv_iload_n hx hb dL_law_164 rfl (lv_at hl 3 rfl) ?_
      refine lv_iconst (v := (1 : Int32)) hx hb dL_law_165 (by decide) ?_
      refine lv_iadd hx hb dL_law_166 ?_
      obtain ⟨c34, h⟩ := ck_e h
      refine va_sld hx hb hX hbl hbA hz.2.2 c34 dL_law_167 ?_
      refine lv_aload_n hx hb dL_law_168 rfl (lv_at hl 0 rfl) ?_
      refine lv_iload_n hx hb dL_law_169 rfl (lv_at hl 3 rfl) ?_
      refine lv_iconst (v := (2 : Int32)) hx hb dL_law_170 (by decide) ?_
      refine lv_iadd hx hb dL_law_171 ?_
      obtain ⟨c35, h⟩ := ck_e h
      refine va_sld hx hb hX hbl hbA hz.2.2 c35 dL_law_172 ?_
      obtain ⟨r36, s37, e38, h⟩ := bd2_e h
      refine lcallCRi (As := [.int (xs (Int32.toNatClampNeg (y3 + (1 : Int32)))), .int (xs (Int32.toNatClampNeg (y3 + (2 : Int32))))]) (rest := []) CF hKK hd wkM (KX5_reach (dC := dC) (dI := dI) (cI := cI) (cZ := cZ) (a := a) (q1 := q1) (q2 := q2) hd.1 e38) (fun U hU hvm => RTb_at hd.2.2.2.1 hTb hz.2.2 hU hvm) (cwV 2 hts gL_law_X5_reach rfl rfl rfl cdX5_reach ⟨Nat.le_of_ble_eq_true rfl, Nat.le_of_ble_eq_true rfl⟩) 0 5 rfl rfl hz rfl hl.1 rfl (Nat.le_of_ble_eq_true rfl) dL_law_173 ⟨Nat.le_of_ble_eq_true rfl, Nat.le_of_ble_eq_true rfl⟩ (fun H locs hz => ?_)
      refine lv_pop hx hb dL_law_176 rfl ?_
      refine lv_aload_n hx hb dL_law_177 rfl (lv_at hl 2 rfl) ?_
      refine lv_aload_n hx hb dL_law_178 rfl (lv_at hl 0 rfl) ?_
      refine lv_iload_n hx hb dL_law_179 rfl (lv_at hl 3 rfl) ?_
      refine lv_iconst (v := (1 : Int32)) hx hb dL_law_180 (by decide) ?_
      refine lv_iadd hx hb dL_law_181 ?_
      obtain ⟨c39, h⟩ := ck_e h
      refine va_sld hx hb hX hbl hbA hz.2.2 c39 dL_law_182 ?_
      refine lv_aload_n hx hb dL_law_183 rfl (lv_at hl 0 rfl) ?_
      refine lv_iload_n hx hb dL_law_184 rfl (lv_at hl 3 rfl) ?_
      refine lv_iconst (v := (2 : Int32)) hx hb dL_law_185 (by decide) ?_
      refine lv_iadd hx hb dL_law_186 ?_
      obtain ⟨c40, h⟩ := ck_e h
      refine va_sld hx hb hX hbl hbA hz.2.2 c40 dL_law_187 ?_
      obtain ⟨r41, s42, e43, h⟩ := bd2_e h
      refine lcallMi (As := [.int (xs (Int32.toNatClampNeg (y3 + (1 : Int32)))), .int (xs (Int32.toNatClampNeg (y3 + (2 : Int32))))]) (rest := []) CF hKK hd wkC (KX6_reach (dC := dC) (dI := dI) (cI := cI) (cZ := cZ) (a := a2) hd.2.1 e43) (cwV 2 hts gL_law_X6_reach rfl rfl rfl cdX6_reach ⟨Nat.le_of_ble_eq_true rfl, Nat.le_of_ble_eq_true rfl⟩) 0 6 rfl rfl hz rfl hl.1 rfl (Nat.le_of_ble_eq_true rfl) dL_law_188 ⟨Nat.le_of_ble_eq_true rfl, Nat.le_of_ble_eq_true rfl⟩ (fun H locs hz => ?_)
      refine lv_pop hx hb dL_law_191 rfl ?_
      refine lv_goto (tgt := 410) hx hb dL_law_192 (by decide) ?_
      refine lv_iinc (v := (y3 + (3 : Int32))) (lv' := [(3, .int (y3 + (3 : Int32))), (0, .ref b), (1, .ref (a 0)), (2, .ref (a2 0))]) hx hb dL_law_410 hl (k := 3) rfl rfl (by decide) rfl (fun ls hl => ?_)
      refine lv_goto (tgt := 18) hx hb dL_law_413 (by decide) ?_
      exact hk18 s37 s42 hh (y3 + (3 : Int32)) _ _ _ h hz (lv_sub hl [1, 2, 3, 0] rfl)
    replace h := ite_f c33 h
    by_cases c44 : ((xs (Int32.toNatClampNeg y3)) &&& (15 : Int32)) = (5 : Int32)
    · replace h := ite_t c44 h
      refine lv_tableIn (tgt := 195) (off := 163) hx hb dL_law_32 (by rw [c44]; decide) (by rw [c44]; decide) (by rw [c44]; rfl) (by decide) ?_
      refine lv_aload_n hx hb dL_law_195 rfl (lv_at hl 1 rfl) ?_
      refine lv_aload_n hx hb dL_law_196 rfl (lv_at hl 0 rfl) ?_
      refine lv_iload_n hx hb dL_law_197 rfl (lv_at hl 3 rfl) ?_
      refine lv_iconst (v := (1 : Int32)) hx hb dL_law_198 (by decide) ?_
      refine lv_iadd hx hb dL_law_199 ?_
      obtain ⟨c45, h⟩ := ck_e h
      refine va_sld hx hb hX hbl hbA hz.2.2 c45 dL_law_200 ?_
      refine lv_aload_n hx hb dL_law_201 rfl (lv_at hl 0 rfl) ?_
      refine lv_iload_n hx hb dL_law_202 rfl (lv_at hl 3 rfl) ?_
      refine lv_iconst (v := (2 : Int32)) hx hb dL_law_203 (by decide) ?_
      refine lv_iadd hx hb dL_law_204 ?_
      obtain ⟨c46, h⟩ := ck_e h
      refine va_sld hx hb hX hbl hbA hz.2.2 c46 dL_law_205 ?_
      obtain ⟨r47, s48, e49, h⟩ := bd2_e h
      refine lcallCi (As := [.int (xs (Int32.toNatClampNeg (y3 + (1 : Int32)))), .int (xs (Int32.toNatClampNeg (y3 + (2 : Int32))))]) (rest := []) CF hKK hd wkM (KX5_grow (dC := dC) (dI := dI) (cI := cI) (cZ := cZ) (a := a) hd.1 e49) (cwV 2 hts gL_law_X5_grow rfl rfl rfl cdX5_grow ⟨Nat.le_of_ble_eq_true rfl, Nat.le_of_ble_eq_true rfl⟩) 0 5 rfl rfl hz rfl hl.1 rfl (Nat.le_of_ble_eq_true rfl) dL_law_206 ⟨Nat.le_of_ble_eq_true rfl, Nat.le_of_ble_eq_true rfl⟩ (fun H locs hz => ?_)
      refine lv_pop hx hb dL_law_209 rfl ?_
      refine lv_aload_n hx hb dL_law_210 rfl (lv_at hl 2 rfl) ?_
      refine lv_aload_n hx hb dL_law_211 rfl (lv_at hl 0 rfl) ?_
      refine lv_iload_n hx hb dL_law_212 rfl (lv_at hl 3 rfl) ?_
      refine lv_iconst (v := (1 : Int32)) hx hb dL_law_213 (by decide) ?_
      refine lv_iadd hx hb dL_law_214 ?_
      obtain ⟨c50, h⟩ := ck_e h
      refine va_sld hx hb hX hbl hbA hz.2.2 c50 dL_law_215 ?_
      refine lv_aload_n hx hb dL_law_216 rfl (lv_at hl 0 rfl) ?_
      refine lv_iload_n hx hb dL_law_217 rfl (lv_at hl 3 rfl) ?_
      refine lv_iconst (v := (2 : Int32)) hx hb dL_law_218 (by decide) ?_
      refine lv_iadd hx hb dL_law_219 ?_
      obtain ⟨c51, h⟩ := ck_e h
      refine va_sld hx hb hX hbl hbA hz.2.2 c51 dL_law_220 ?_
      obtain ⟨r52, s53, e54, h⟩ := bd2_e h
      refine lcallMi (As := [.int (xs (Int32.toNatClampNeg (y3 + (1 : Int32)))), .int (xs (Int32.toNatClampNeg (y3 + (2 : Int32))))]) (rest := []) CF hKK hd wkC (KX6_grow (dC := dC) (dI := dI) (cI := cI) (cZ := cZ) (a := a2) hd.2.1 e54) (cwV 2 hts gL_law_X6_grow rfl rfl rfl cdX6_grow ⟨Nat.le_of_ble_eq_true rfl, Nat.le_of_ble_eq_true rfl⟩) 0 6 rfl rfl hz rfl hl.1 rfl (Nat.le_of_ble_eq_true rfl) dL_law_221 ⟨Nat.le_of_ble_eq_true rfl, Nat.le_of_ble_eq_true rfl⟩ (fun H locs hz => ?_)
      refine lv_pop hx hb dL_law_224 rfl ?_
      refine lv_goto (tgt := 410) hx hb dL_law_225 (by decide) ?_
      refine lv_iinc (v := (y3 + (3 : Int32))) (lv' := [(3, .int (y3 + (3 : Int32))), (0, .ref b), (1, .ref (a 0)), (2, .ref (a2 0))]) hx hb dL_law_410 hl (k := 3) rfl rfl (by decide) rfl (fun ls hl => ?_)
      refine lv_goto (tgt := 18) hx hb dL_law_413 (by decide) ?_
      exact hk18 s48 s53 hh (y3 + (3 : Int32)) _ _ _ h hz (lv_sub hl [1, 2, 3, 0] rfl)
    replace h := ite_f c44 h
    by_cases c55 : ((xs (Int32.toNatClampNeg y3)) &&& (15 : Int32)) = (6 : Int32)
    · replace h := ite_t c55 h
      refine lv_tableIn (tgt := 228) (off := 196) hx hb dL_law_32 (by rw [c55]; decide) (by rw [c55]; decide) (by rw [c55]; rfl) (by decide) ?_
      refine lv_aload_n hx hb dL_law_228 rfl (lv_at hl 1 rfl) ?_
      refine lv_aload_n hx hb dL_law_229 rfl (lv_at hl 0 rfl) ?_
      refine lv_iload_n hx hb dL_law_230 rfl (lv_at hl 3 rfl) ?_
      refine lv_iconst (v := (1 : Int32)) hx hb dL_law_231 (by decide) ?_
      refine lv_iadd hx hb dL_law_232 ?_
      obtain ⟨c56, h⟩ := ck_e h
      refine va_sld hx hb hX hbl hbA hz.2.2 c56 dL_law_233 ?_
      refine lv_aload_n hx hb dL_law_234 rfl (lv_at hl 0 rfl) ?_
      refine lv_iload_n hx hb dL_law_235 rfl (lv_at hl 3 rfl) ?_
      refine lv_iconst (v := (2 : Int32)) hx hb dL_law_236 (by decide) ?_
      refine lv_iadd hx hb dL_law_237 ?_
      obtain ⟨c57, h⟩ := ck_e h
      refine va_sld hx hb hX hbl hbA hz.2.2 c57 dL_law_238 ?_
      obtain ⟨r58, e60, h⟩ := bd1_e h
      refine lcallCi (As := [.int (xs (Int32.toNatClampNeg (y3 + (1 : Int32)))), .int (xs (Int32.toNatClampNeg (y3 + (2 : Int32))))]) (rest := []) CF hKK hd wkM (KX5_item (dC := dC) (dI := dI) (cI := cI) (cZ := cZ) (a := a) hd.1 e60) (cwV 2 hts gL_law_X5_item rfl rfl rfl cdX5_item ⟨Nat.le_of_ble_eq_true rfl, Nat.le_of_ble_eq_true rfl⟩) 0 5 rfl rfl hz rfl hl.1 rfl (Nat.le_of_ble_eq_true rfl) dL_law_239 ⟨Nat.le_of_ble_eq_true rfl, Nat.le_of_ble_eq_true rfl⟩ (fun H locs hz => ?_)
      refine lv_pop hx hb dL_law_242 rfl ?_
      refine lv_aload_n hx hb dL_law_243 rfl (lv_at hl 2 rfl) ?_
      refine lv_aload_n hx hb dL_law_244 rfl (lv_at hl 0 rfl) ?_
      refine lv_iload_n hx hb dL_law_245 rfl (lv_at hl 3 rfl) ?_
      refine lv_iconst (v := (1 : Int32)) hx hb dL_law_246 (by decide) ?_
      refine lv_iadd hx hb dL_law_247 ?_
      obtain ⟨c61, h⟩ := ck_e h
      refine va_sld hx hb hX hbl hbA hz.2.2 c61 dL_law_248 ?_
      refine lv_aload_n hx hb dL_law_249 rfl (lv_at hl 0 rfl) ?_
      refine lv_iload_n hx hb dL_law_250 rfl (lv_at hl 3 rfl) ?_
      refine lv_iconst (v := (2 : Int32)) hx hb dL_law_251 (by decide) ?_
      refine lv_iadd hx hb dL_law_252 ?_
      obtain ⟨c62, h⟩ := ck_e h
      refine va_sld hx hb hX hbl hbA hz.2.2 c62 dL_law_253 ?_
      obtain ⟨r63, e65, h⟩ := bd1_e h
      refine lcallMi (As := [.int (xs (Int32.toNatClampNeg (y3 + (1 : Int32)))), .int (xs (Int32.toNatClampNeg (y3 + (2 : Int32))))]) (rest := []) CF hKK hd wkC (KX6_item (dC := dC) (dI := dI) (cI := cI) (cZ := cZ) (a := a2) hd.2.1 e65) (cwV 2 hts gL_law_X6_item rfl rfl rfl cdX6_item ⟨Nat.le_of_ble_eq_true rfl, Nat.le_of_ble_eq_true rfl⟩) 0 6 rfl rfl hz rfl hl.1 rfl (Nat.le_of_ble_eq_true rfl) dL_law_254 ⟨Nat.le_of_ble_eq_true rfl, Nat.le_of_ble_eq_true rfl⟩ (fun H locs hz => ?_)
      refine lv_pop hx hb dL_law_257 rfl ?_
      refine lv_goto (tgt := 410) hx hb dL_law_258 (by decide) ?_
      refine lv_iinc (v := (y3 + (3 : Int32))) (lv' := [(3, .int (y3 + (3 : Int32))), (0, .ref b), (1, .ref (a 0)), (2, .ref (a2 0))]) hx hb dL_law_410 hl (k := 3) rfl rfl (by decide) rfl (fun ls hl => ?_)
      refine lv_goto (tgt := 18) hx hb dL_law_413 (by decide) ?_
      exact hk18 σ τ hh (y3 + (3 : Int32)) _ _ _ h hz (lv_sub hl [1, 2, 3, 0] rfl)
    replace h := ite_f c55 h
    by_cases c66 : ((xs (Int32.toNatClampNeg y3)) &&& (15 : Int32)) = (7 : Int32)
    · replace h := ite_t c66 h
      refine lv_tableIn (tgt := 261) (off := 229) hx hb dL_law_32 (by rw [c66]; decide) (by rw [c66]; decide) (by rw [c66]; rfl) (by decide) ?_
      refine lv_aload_n hx hb dL_law_261 rfl (lv_at hl 1 rfl) ?_
      refine lv_aload_n hx hb dL_law_262 rfl (lv_at hl 0 rfl) ?_
      refine lv_iload_n hx hb dL_law_263 rfl (lv_at hl 3 rfl) ?_
      refine lv_iconst (v := (1 : Int32)) hx hb dL_law_264 (by decide) ?_
      refine lv_iadd hx hb dL_law_265 ?_
      obtain ⟨c67, h⟩ := ck_e h
      refine va_sld hx hb hX hbl hbA hz.2.2 c67 dL_law_266 ?_
      refine lv_aload_n hx hb dL_law_267 rfl (lv_at hl 0 rfl) ?_
      refine lv_iload_n hx hb dL_law_268 rfl (lv_at hl 3 rfl) ?_
      refine lv_iconst (v := (2 : Int32)) hx hb dL_law_269 (by decide) ?_
      refine lv_iadd hx hb dL_law_270 ?_
      obtain ⟨c68, h⟩ := ck_e h
      refine va_sld hx hb hX hbl hbA hz.2.2 c68 dL_law_271 ?_
      obtain ⟨r69, e71, h⟩ := bd1_e h
      refine lcallCi (As := [.int (xs (Int32.toNatClampNeg (y3 + (1 : Int32)))), .int (xs (Int32.toNatClampNeg (y3 + (2 : Int32))))]) (rest := []) CF hKK hd wkM (KX5_island (dC := dC) (dI := dI) (cI := cI) (cZ := cZ) (a := a) hd.1 e71) (cwV 2 hts gL_law_X5_island rfl rfl rfl cdX5_island ⟨Nat.le_of_ble_eq_true rfl, Nat.le_of_ble_eq_true rfl⟩) 0 5 rfl rfl hz rfl hl.1 rfl (Nat.le_of_ble_eq_true rfl) dL_law_272 ⟨Nat.le_of_ble_eq_true rfl, Nat.le_of_ble_eq_true rfl⟩ (fun H locs hz => ?_)
      refine lv_pop hx hb dL_law_275 rfl ?_
      refine lv_aload_n hx hb dL_law_276 rfl (lv_at hl 2 rfl) ?_
      refine lv_aload_n hx hb dL_law_277 rfl (lv_at hl 0 rfl) ?_
      refine lv_iload_n hx hb dL_law_278 rfl (lv_at hl 3 rfl) ?_
      refine lv_iconst (v := (1 : Int32)) hx hb dL_law_279 (by decide) ?_
      refine lv_iadd hx hb dL_law_280 ?_
      obtain ⟨c72, h⟩ := ck_e h
      refine va_sld hx hb hX hbl hbA hz.2.2 c72 dL_law_281 ?_
      refine lv_aload_n hx hb dL_law_282 rfl (lv_at hl 0 rfl) ?_
      refine lv_iload_n hx hb dL_law_283 rfl (lv_at hl 3 rfl) ?_
      refine lv_iconst (v := (2 : Int32)) hx hb dL_law_284 (by decide) ?_
      refine lv_iadd hx hb dL_law_285 ?_
      obtain ⟨c73, h⟩ := ck_e h
      refine va_sld hx hb hX hbl hbA hz.2.2 c73 dL_law_286 ?_
      obtain ⟨r74, e76, h⟩ := bd1_e h
      refine lcallMi (As := [.int (xs (Int32.toNatClampNeg (y3 + (1 : Int32)))), .int (xs (Int32.toNatClampNeg (y3 + (2 : Int32))))]) (rest := []) CF hKK hd wkC (KX6_island (dC := dC) (dI := dI) (cI := cI) (cZ := cZ) (a := a2) hd.2.1 e76) (cwV 2 hts gL_law_X6_island rfl rfl rfl cdX6_island ⟨Nat.le_of_ble_eq_true rfl, Nat.le_of_ble_eq_true rfl⟩) 0 6 rfl rfl hz rfl hl.1 rfl (Nat.le_of_ble_eq_true rfl) dL_law_287 ⟨Nat.le_of_ble_eq_true rfl, Nat.le_of_ble_eq_true rfl⟩ (fun H locs hz => ?_)
      refine lv_pop hx hb dL_law_290 rfl ?_
      refine lv_goto (tgt := 410) hx hb dL_law_291 (by decide) ?_
      refine lv_iinc (v := (y3 + (3 : Int32))) (lv' := [(3, .int (y3 + (3 : Int32))), (0, .ref b), (1, .ref (a 0)), (2, .ref (a2 0))]) hx hb dL_law_410 hl (k := 3) rfl rfl (by decide) rfl (fun ls hl => ?_)
      refine lv_goto (tgt := 18) hx hb dL_law_413 (by decide) ?_
      exact hk18 σ τ hh (y3 + (3 : Int32)) _ _ _ h hz (lv_sub hl [1, 2, 3, 0] rfl)
    replace h := ite_f c66 h
    by_cases c77 : ((xs (Int32.toNatClampNeg y3)) &&& (15 : Int32)) = (8 : Int32)
    · replace h := ite_t c77 h
      refine lv_tableIn (tgt := 294) (off := 262) hx hb dL_law_32 (by rw [c77]; decide) (by rw [c77]; decide) (by rw [c77]; rfl) (by decide) ?_
      refine lv_aload_n hx hb dL_law_294 rfl (lv_at hl 1 rfl) ?_
      refine lv_aload_n hx hb dL_law_295 rfl (lv_at hl 0 rfl) ?_
      refine lv_iload_n hx hb dL_law_296 rfl (lv_at hl 3 rfl) ?_
      refine lv_iconst (v := (1 : Int32)) hx hb dL_law_297 (by decide) ?_
      refine lv_iadd hx hb dL_law_298 ?_
      obtain ⟨c78, h⟩ := ck_e h
      refine va_sld hx hb hX hbl hbA hz.2.2 c78 dL_law_299 ?_
      refine lv_aload_n hx hb dL_law_300 rfl (lv_at hl 0 rfl) ?_
      refine lv_iload_n hx hb dL_law_301 rfl (lv_at hl 3 rfl) ?_
      refine lv_iconst (v := (2 : Int32)) hx hb dL_law_302 (by decide) ?_
      refine lv_iadd hx hb dL_law_303 ?_
      obtain ⟨c79, h⟩ := ck_e h
      refine va_sld hx hb hX hbl hbA hz.2.2 c79 dL_law_304 ?_
      obtain ⟨r80, e82, h⟩ := bd1_e h
      refine lcallCi (As := [.int (xs (Int32.toNatClampNeg (y3 + (1 : Int32)))), .int (xs (Int32.toNatClampNeg (y3 + (2 : Int32))))]) (rest := []) CF hKK hd wkM (KX5_constant (dC := dC) (dI := dI) (cI := cI) (cZ := cZ) (a := a) hd.1 e82) (cwV 2 hts gL_law_X5_constant rfl rfl rfl cdX5_constant ⟨Nat.le_of_ble_eq_true rfl, Nat.le_of_ble_eq_true rfl⟩) 0 5 rfl rfl hz rfl hl.1 rfl (Nat.le_of_ble_eq_true rfl) dL_law_305 ⟨Nat.le_of_ble_eq_true rfl, Nat.le_of_ble_eq_true rfl⟩ (fun H locs hz => ?_)
      refine lv_pop hx hb dL_law_308 rfl ?_
      refine lv_aload_n hx hb dL_law_309 rfl (lv_at hl 2 rfl) ?_
      refine lv_aload_n hx hb dL_law_310 rfl (lv_at hl 0 rfl) ?_
      refine lv_iload_n hx hb dL_law_311 rfl (lv_at hl 3 rfl) ?_
      refine lv_iconst (v := (1 : Int32)) hx hb dL_law_312 (by decide) ?_
      refine lv_iadd hx hb dL_law_313 ?_
      obtain ⟨c83, h⟩ := ck_e h
      refine va_sld hx hb hX hbl hbA hz.2.2 c83 dL_law_314 ?_
      refine lv_aload_n hx hb dL_law_315 rfl (lv_at hl 0 rfl) ?_
      refine lv_iload_n hx hb dL_law_316 rfl (lv_at hl 3 rfl) ?_
      refine lv_iconst (v := (2 : Int32)) hx hb dL_law_317 (by decide) ?_
      refine lv_iadd hx hb dL_law_318 ?_
      obtain ⟨c84, h⟩ := ck_e h
      refine va_sld hx hb hX hbl hbA hz.2.2 c84 dL_law_319 ?_
      obtain ⟨r85, e87, h⟩ := bd1_e h
      refine lcallMi (As := [.int (xs (Int32.toNatClampNeg (y3 + (1 : Int32)))), .int (xs (Int32.toNatClampNeg (y3 + (2 : Int32))))]) (rest := []) CF hKK hd wkC (KX6_constant (dC := dC) (dI := dI) (cI := cI) (cZ := cZ) (a := a2) hd.2.1 e87) (cwV 2 hts gL_law_X6_constant rfl rfl rfl cdX6_constant ⟨Nat.le_of_ble_eq_true rfl, Nat.le_of_ble_eq_true rfl⟩) 0 6 rfl rfl hz rfl hl.1 rfl (Nat.le_of_ble_eq_true rfl) dL_law_320 ⟨Nat.le_of_ble_eq_true rfl, Nat.le_of_ble_eq_true rfl⟩ (fun H locs hz => ?_)
      refine lv_pop hx hb dL_law_323 rfl ?_
      refine lv_goto (tgt := 410) hx hb dL_law_324 (by decide) ?_
      refine lv_iinc (v := (y3 + (3 : Int32))) (lv' := [(3, .int (y3 + (3 : Int32))), (0, .ref b), (1, .ref (a 0)), (2, .ref (a2 0))]) hx hb dL_law_410 hl (k := 3) rfl rfl (by decide) rfl (fun ls hl => ?_)
      refine lv_goto (tgt := 18) hx hb dL_law_413 (by decide) ?_
      exact hk18 σ τ hh (y3 + (3 : Int32)) _ _ _ h hz (lv_sub hl [1, 2, 3, 0] rfl)
    replace h := ite_f c77 h
    by_cases c88 : ((xs (Int32.toNatClampNeg y3)) &&& (15 : Int32)) = (9 : Int32)
    · replace h := ite_t c88 h
      refine lv_tableIn (tgt := 327) (off := 295) hx hb dL_law_32 (by rw [c88]; decide) (by rw [c88]; decide) (by rw [c88]; rfl) (by decide) ?_
      refine lv_aload_n hx hb dL_law_327 rfl (lv_at hl 1 rfl) ?_
      refine lv_aload_n hx hb dL_law_328 rfl (lv_at hl 0 rfl) ?_
      refine lv_iload_n hx hb dL_law_329 rfl (lv_at hl 3 rfl) ?_
      refine lv_iconst (v := (1 : Int32)) hx hb dL_law_330 (by decide) ?_
      refine lv_iadd hx hb dL_law_331 ?_
      obtain ⟨c89, h⟩ := ck_e h
      refine va_sld hx hb hX hbl hbA hz.2.2 c89 dL_law_332 ?_
      obtain ⟨r90, e92, h⟩ := bd1_e h
      refine lcallCi (As := [.int (xs (Int32.toNatClampNeg (y3 + (1 : Int32))))]) (rest := []) CF hKK hd wkM (KX5_hops (dC := dC) (dI := dI) (cI := cI) (cZ := cZ) (a := a) hd.1 e92) (cwV 1 hts gL_law_X5_hops rfl rfl rfl cdX5_hops ⟨Nat.le_of_ble_eq_true rfl, Nat.le_of_ble_eq_true rfl⟩) 0 5 rfl rfl hz rfl hl.1 rfl (Nat.le_of_ble_eq_true rfl) dL_law_333 ⟨Nat.le_of_ble_eq_true rfl, Nat.le_of_ble_eq_true rfl⟩ (fun H locs hz => ?_)
      refine lv_pop hx hb dL_law_336 rfl ?_
      refine lv_aload_n hx hb dL_law_337 rfl (lv_at hl 2 rfl) ?_
      refine lv_aload_n hx hb dL_law_338 rfl (lv_at hl 0 rfl) ?_
      refine lv_iload_n hx hb dL_law_339 rfl (lv_at hl 3 rfl) ?_
      refine lv_iconst (v := (1 : Int32)) hx hb dL_law_340 (by decide) ?_
      refine lv_iadd hx hb dL_law_341 ?_
      obtain ⟨c93, h⟩ := ck_e h
      refine va_sld hx hb hX hbl hbA hz.2.2 c93 dL_law_342 ?_
      obtain ⟨r94, e96, h⟩ := bd1_e h
      refine lcallMi (As := [.int (xs (Int32.toNatClampNeg (y3 + (1 : Int32))))]) (rest := []) CF hKK hd wkC (KX6_hops (dC := dC) (dI := dI) (cI := cI) (cZ := cZ) (a := a2) hd.2.1 e96) (cwV 1 hts gL_law_X6_hops rfl rfl rfl cdX6_hops ⟨Nat.le_of_ble_eq_true rfl, Nat.le_of_ble_eq_true rfl⟩) 0 6 rfl rfl hz rfl hl.1 rfl (Nat.le_of_ble_eq_true rfl) dL_law_343 ⟨Nat.le_of_ble_eq_true rfl, Nat.le_of_ble_eq_true rfl⟩ (fun H locs hz => ?_)
      refine lv_pop hx hb dL_law_346 rfl ?_
      refine lv_goto (tgt := 410) hx hb dL_law_347 (by decide) ?_
      refine lv_iinc (v := (y3 + (3 : Int32))) (lv' := [(3, .int (y3 + (3 : Int32))), (0, .ref b), (1, .ref (a 0)), (2, .ref (a2 0))]) hx hb dL_law_410 hl (k := 3) rfl rfl (by decide) rfl (fun ls hl => ?_)
      refine lv_goto (tgt := 18) hx hb dL_law_413 (by decide) ?_
      exact hk18 σ τ hh (y3 + (3 : Int32)) _ _ _ h hz (lv_sub hl [1, 2, 3, 0] rfl)
    replace h := ite_f c88 h
    by_cases c97 : ((xs (Int32.toNatClampNeg y3)) &&& (15 : Int32)) = (10 : Int32)
    · replace h := ite_t c97 h
      refine lv_tableIn (tgt := 350) (off := 318) hx hb dL_law_32 (by rw [c97]; decide) (by rw [c97]; decide) (by rw [c97]; rfl) (by decide) ?_
      refine lv_aload_n hx hb dL_law_350 rfl (lv_at hl 1 rfl) ?_
      refine lv_aload_n hx hb dL_law_351 rfl (lv_at hl 0 rfl) ?_
      refine lv_iload_n hx hb dL_law_352 rfl (lv_at hl 3 rfl) ?_
      refine lv_iconst (v := (1 : Int32)) hx hb dL_law_353 (by decide) ?_
      refine lv_iadd hx hb dL_law_354 ?_
      obtain ⟨c98, h⟩ := ck_e h
      refine va_sld hx hb hX hbl hbA hz.2.2 c98 dL_law_355 ?_
      obtain ⟨r99, e101, h⟩ := bd1_e h
      refine lcallCi (As := [.int (xs (Int32.toNatClampNeg (y3 + (1 : Int32))))]) (rest := []) CF hKK hd wkM (KX5_placed (dC := dC) (dI := dI) (cI := cI) (cZ := cZ) (a := a) hd.1 e101) (cwV 1 hts gL_law_X5_placed rfl rfl rfl cdX5_placed ⟨Nat.le_of_ble_eq_true rfl, Nat.le_of_ble_eq_true rfl⟩) 0 5 rfl rfl hz rfl hl.1 rfl (Nat.le_of_ble_eq_true rfl) dL_law_356 ⟨Nat.le_of_ble_eq_true rfl, Nat.le_of_ble_eq_true rfl⟩ (fun H locs hz => ?_)
      refine lv_pop hx hb dL_law_359 rfl ?_
      refine lv_aload_n hx hb dL_law_360 rfl (lv_at hl 2 rfl) ?_
      refine lv_aload_n hx hb dL_law_361 rfl (lv_at hl 0 rfl) ?_
      refine lv_iload_n hx hb dL_law_362 rfl (lv_at hl 3 rfl) ?_
      refine lv_iconst (v := (1 : Int32)) hx hb dL_law_363 (by decide) ?_
      refine lv_iadd hx hb dL_law_364 ?_
      obtain ⟨c102, h⟩ := ck_e h
      refine va_sld hx hb hX hbl hbA hz.2.2 c102 dL_law_365 ?_
      obtain ⟨r103, e105, h⟩ := bd1_e h
      refine lcallMi (As := [.int (xs (Int32.toNatClampNeg (y3 + (1 : Int32))))]) (rest := []) CF hKK hd wkC (KX6_placed (dC := dC) (dI := dI) (cI := cI) (cZ := cZ) (a := a2) hd.2.1 e105) (cwV 1 hts gL_law_X6_placed rfl rfl rfl cdX6_placed ⟨Nat.le_of_ble_eq_true rfl, Nat.le_of_ble_eq_true rfl⟩) 0 6 rfl rfl hz rfl hl.1 rfl (Nat.le_of_ble_eq_true rfl) dL_law_366 ⟨Nat.le_of_ble_eq_true rfl, Nat.le_of_ble_eq_true rfl⟩ (fun H locs hz => ?_)
      refine lv_pop hx hb dL_law_369 rfl ?_
      refine lv_goto (tgt := 410) hx hb dL_law_370 (by decide) ?_
      refine lv_iinc (v := (y3 + (3 : Int32))) (lv' := [(3, .int (y3 + (3 : Int32))), (0, .ref b), (1, .ref (a 0)), (2, .ref (a2 0))]) hx hb dL_law_410 hl (k := 3) rfl rfl (by decide) rfl (fun ls hl => ?_)
      refine lv_goto (tgt := 18) hx hb dL_law_413 (by decide) ?_
      exact hk18 σ τ hh (y3 + (3 : Int32)) _ _ _ h hz (lv_sub hl [1, 2, 3, 0] rfl)
    replace h := ite_f c97 h
    by_cases c106 : ((xs (Int32.toNatClampNeg y3)) &&& (15 : Int32)) = (11 : Int32)
    · replace h := ite_t c106 h
      refine lv_tableIn (tgt := 373) (off := 341) hx hb dL_law_32 (by rw [c106]; decide) (by rw [c106]; decide) (by rw [c106]; rfl) (by decide) ?_
      refine lv_aload_n hx hb dL_law_373 rfl (lv_at hl 1 rfl) ?_
      refine lv_aload_n hx hb dL_law_374 rfl (lv_at hl 0 rfl) ?_
      refine lv_iload_n hx hb dL_law_375 rfl (lv_at hl 3 rfl) ?_
      refine lv_iconst (v := (1 : Int32)) hx hb dL_law_376 (by decide) ?_
      refine lv_iadd hx hb dL_law_377 ?_
      obtain ⟨c107, h⟩ := ck_e h
      refine va_sld hx hb hX hbl hbA hz.2.2 c107 dL_law_378 ?_
      obtain ⟨r108, e110, h⟩ := bd1_e h
      refine lcallCi (As := [.int (xs (Int32.toNatClampNeg (y3 + (1 : Int32))))]) (rest := []) CF hKK hd wkM (KX5_count (dC := dC) (dI := dI) (cI := cI) (cZ := cZ) (a := a) hd.1 e110) (cwV 1 hts gL_law_X5_count rfl rfl rfl cdX5_count ⟨Nat.le_of_ble_eq_true rfl, Nat.le_of_ble_eq_true rfl⟩) 0 5 rfl rfl hz rfl hl.1 rfl (Nat.le_of_ble_eq_true rfl) dL_law_379 ⟨Nat.le_of_ble_eq_true rfl, Nat.le_of_ble_eq_true rfl⟩ (fun H locs hz => ?_)
      refine lv_pop hx hb dL_law_382 rfl ?_
      refine lv_aload_n hx hb dL_law_383 rfl (lv_at hl 2 rfl) ?_
      refine lv_aload_n hx hb dL_law_384 rfl (lv_at hl 0 rfl) ?_
      refine lv_iload_n hx hb dL_law_385 rfl (lv_at hl 3 rfl) ?_
      refine lv_iconst (v := (1 : Int32)) hx hb dL_law_386 (by decide) ?_
      refine lv_iadd hx hb dL_law_387 ?_
      obtain ⟨c111, h⟩ := ck_e h
      refine va_sld hx hb hX hbl hbA hz.2.2 c111 dL_law_388 ?_
      obtain ⟨r112, e114, h⟩ := bd1_e h
      refine lcallMi (As := [.int (xs (Int32.toNatClampNeg (y3 + (1 : Int32))))]) (rest := []) CF hKK hd wkC (KX6_count (dC := dC) (dI := dI) (cI := cI) (cZ := cZ) (a := a2) hd.2.1 e114) (cwV 1 hts gL_law_X6_count rfl rfl rfl cdX6_count ⟨Nat.le_of_ble_eq_true rfl, Nat.le_of_ble_eq_true rfl⟩) 0 6 rfl rfl hz rfl hl.1 rfl (Nat.le_of_ble_eq_true rfl) dL_law_389 ⟨Nat.le_of_ble_eq_true rfl, Nat.le_of_ble_eq_true rfl⟩ (fun H locs hz => ?_)
      refine lv_pop hx hb dL_law_392 rfl ?_
      refine lv_goto (tgt := 410) hx hb dL_law_393 (by decide) ?_
      refine lv_iinc (v := (y3 + (3 : Int32))) (lv' := [(3, .int (y3 + (3 : Int32))), (0, .ref b), (1, .ref (a 0)), (2, .ref (a2 0))]) hx hb dL_law_410 hl (k := 3) rfl rfl (by decide) rfl (fun ls hl => ?_)
      refine lv_goto (tgt := 18) hx hb dL_law_413 (by decide) ?_
      exact hk18 σ τ hh (y3 + (3 : Int32)) _ _ _ h hz (lv_sub hl [1, 2, 3, 0] rfl)
    replace h := ite_f c106 h
    by_cases c115 : ((xs (Int32.toNatClampNeg y3)) &&& (15 : Int32)) = (12 : Int32)
    · replace h := ite_t c115 h
      refine lv_tableIn (tgt := 396) (off := 364) hx hb dL_law_32 (by rw [c115]; decide) (by rw [c115]; decide) (by rw [c115]; rfl) (by decide) ?_
      refine lv_aload_n hx hb dL_law_396 rfl (lv_at hl 1 rfl) ?_
      obtain ⟨r116, e118, h⟩ := bd1_e h
      refine lcallCl (As := []) (rest := []) CF hKK hd wkM (KX5_digest (dC := dC) (dI := dI) (cI := cI) (cZ := cZ) (a := a) hd.1 e118) (cwV 0 hts gL_law_X5_digest rfl rfl rfl cdX5_digest ⟨Nat.le_of_ble_eq_true rfl, Nat.le_of_ble_eq_true rfl⟩) 0 5 rfl rfl hz rfl hl.1 rfl (Nat.le_of_ble_eq_true rfl) dL_law_397 ⟨Nat.le_of_ble_eq_true rfl, Nat.le_of_ble_eq_true rfl⟩ (fun H locs hz => ?_)
      refine lv_aload_n hx hb dL_law_400 rfl (lv_at hl 2 rfl) ?_
      obtain ⟨r119, s120, e121, h⟩ := bd2_e h
      refine lcallMl (As := []) (rest := [.long r116]) CF hKK hd wkC (KX6_digest (dC := dC) (dI := dI) (cI := cI) (cZ := cZ) (a := a2) hd.2.1 e121) (cwV 0 hts gL_law_X6_digest rfl rfl rfl cdX6_digest ⟨Nat.le_of_ble_eq_true rfl, Nat.le_of_ble_eq_true rfl⟩) 0 6 rfl rfl hz rfl hl.1 rfl (Nat.le_of_ble_eq_true rfl) dL_law_401 ⟨Nat.le_of_ble_eq_true rfl, Nat.le_of_ble_eq_true rfl⟩ (fun H locs hz => ?_)
      refine W.lcmp hx hb dL_law_404 ?_
      refine lv_if_eq (tgt := 410) hx hb dL_law_405 (by decide) (fun c122 => ?_) (fun c122 => ?_)
      · replace h := ite_t c122 h
        refine lv_iinc (v := (y3 + (3 : Int32))) (lv' := [(3, .int (y3 + (3 : Int32))), (0, .ref b), (1, .ref (a 0)), (2, .ref (a2 0))]) hx hb dL_law_410 hl (k := 3) rfl rfl (by decide) rfl (fun ls hl => ?_)
        refine lv_goto (tgt := 18) hx hb dL_law_413 (by decide) ?_
        exact hk18 σ τ s120 (y3 + (3 : Int32)) _ _ _ h hz (lv_sub hl [1, 2, 3, 0] rfl)
      · replace h := ite_f c122 h
        refine lv_iconst (v := (0 : Int32)) hx hb dL_law_408 (by decide) ?_
        exact absurd (Option.some.inj h) (by decide)
    replace h := ite_f c115 h
    refine lv_tableOut (tgt := 410) hx hb dL_law_32 (by have := lv_neT c3 (a := 0) rfl; have := lv_neT c12 (a := 1) rfl; have := lv_neT c19 (a := 2) rfl; have := lv_neT c26 (a := 3) rfl; have := lv_neT c33 (a := 4) rfl; have := lv_neT c44 (a := 5) rfl; have := lv_neT c55 (a := 6) rfl; have := lv_neT c66 (a := 7) rfl; have := lv_neT c77 (a := 8) rfl; have := lv_neT c88 (a := 9) rfl; have := lv_neT c97 (a := 10) rfl; have := lv_neT c106 (a := 11) rfl; have := lv_neT c115 (a := 12) rfl; omega) (by decide) ?_
    refine lv_iinc (v := (y3 + (3 : Int32))) (lv' := [(3, .int (y3 + (3 : Int32))), (0, .ref b), (1, .ref (a 0)), (2, .ref (a2 0))]) hx hb dL_law_410 hl (k := 3) rfl rfl (by decide) rfl (fun ls hl => ?_)
    refine lv_goto (tgt := 18) hx hb dL_law_413 (by decide) ?_
    exact hk18 σ τ hh (y3 + (3 : Int32)) _ _ _ h hz (lv_sub hl [1, 2, 3, 0] rfl)
theorem law_loop {p : Program} {l : Launch} {e : Env} {s : State} {m : MethodId} {below : List Frame} {meth : Method} {c : Code} {b L : Nat} {xs : Nat → Int32} {dC : Nat → ClassId} {dI : Nat → Nat → Nat} {cI cZ : ClassId} {a a2 : Nat → Nat} {q1 q2 : Nat} (C0 : lw_At p s m meth c b L xs) (hKK : KK (dC, dI) cI cZ s) (hd : dj 30 18 a a2 s.heap.size) (hTb : va_Z "FarReach" "LEAST_REACH" "[I" (.ref q1) (fun q => s.heap.size ≤ q) s s.heap ∧ va_T .int q1 3 (fun j => .int (lr j)) (fun q => s.heap.size ≤ q) s s.heap ∧ va_Z "FarReach" "MOST_REACH" "[I" (.ref q2) (fun q => s.heap.size ≤ q) s s.heap ∧ va_T .int q2 3 (fun j => .int (mr j)) (fun q => s.heap.size ≤ q) s s.heap) (n : Nat) : ∀ (σ τ : St) (hh : Int64) (y3 : Int32) (H : Heap) (locs : List Loc) (ls : Array Slot), fL_l18 L xs n σ τ hh y3 = some 1 → zL (dC, dI) (wdC cI cZ a σ) (wdM cI cZ a2 hh τ) s.heap H locs → lv_has ls 4 [(0, .ref b), (1, .ref (a 0)), (2, .ref (a2 0)), (3, .int y3)] → W p l e room_1 s m #[Value.ref b] below meth c H locs 48 865 (lw_Z below #[Value.ref b] s) (F0 m 18 ls []) := by
  induction n with
  | zero => intro σ τ hh y3 H locs ls h; exact nomatch h
  | succ n ih => exact law_step C0 hKK hd hTb (fL_l18 L xs n) ih
